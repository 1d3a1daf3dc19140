/-! ===== fx: the parts of a LAKE, whole ===== -/
section F4825_walk
variable {g : Nat → Int32} {tp bt : Int64} {a0 a : Nat → Nat → Int32} {b : Nat → Nat → Int64}
set_option maxHeartbeats 8000000 in
theorem fr_aWalker {S E F NC NW : Nat} (hxp : fm_xp g S E F) (hfl : fm_flt g) (hN : fm_N a0 a NC NW) (hW : fm_NW a) : ∃ (v : Option Value) (mem' : fx_M), (fm_GL a0 g tp bt b S E) (v, mem') ∧ fr_T 8 243 [.ref 0] (fm g tp bt a b) v mem' := by
  have hNC := hN.2.2.1.2.1
  have hNW := hN.2.2.1.2.2.2
  refine fe_meth (F := fm_GL a0 g tp bt b S E) (M := gk_m243) (by rfl) (by rfl) ?_
  refine fe_s 5 (pc' := 11) (lc' := [(0, .ref 0)]) (stk' := [.int 3369, .ref 1, .int 5, .int 3646]) (mem' := fm g tp bt a b) (fun _ _ _ => rfl) ?_
  refine fe_ldI (by rfl) (by rfl) (fx_inN (i := 3369) (by omega) (by omega)) ?_
  rw [show Int32.toNatClampNeg (3369) = 3369 from rfl]
  rw [hN.2.2.1.2.2.1]
  refine fe_s 7 (pc' := 21) (lc' := [(1, .int (3646 + (5 * (nI NW)))), (0, .ref 0)]) (stk' := [.int 10, .int 8, .int 1, .ref 0]) (mem' := fm g tp bt a b) (fun _ _ _ => rfl) ?_
  rw [show (3646 + (5 * (nI NW)) : Int32) = nI (3646 + (5 * NW)) from by simp only [show (3646 : Int32) = nI 3646 from rfl, show (5 : Int32) = nI 5 from rfl, nI_add, fm_mul]]
  obtain ⟨vn1, memn1, ⟨xn1, gn1, En1, Fn1, bn1, hon1, hvn1, hRn1⟩, hfrn1⟩ := fr_newOne1 (g := g) (tp := tp) (bt := bt) (a := a) (b := b) (fm_gx_rf hxp hfl).2.1 (fm_gx_rf hxp hfl).2.2.1 hN.2.2.1
  cases hRn1
  have gon1 := fm_gx_tr (fm_gx_rf hxp hfl) hon1
  refine fe_ivV hfrn1 (by omega) (by rfl) (by rfl) (by rfl) (by rfl) (by rfl) (by rfl) ?_
  rcases hvn1 with ⟨rfl, hzn1, hbn1⟩ | ⟨rfl, hen1, hpn1, hin1, nmn1, hbn1⟩
  · have bNn1 : ∀ t, t ≠ 2 → bn1 t = b t := fun t ht => (congrFun hbn1 t).trans ((fun _ _ => rfl) t ht)
    refine fe_s 1 (pc' := cond (fx_cb .eq 0 0) 60 27) (lc' := [(1, .int (nI (3646 + (5 * NW)))), (0, .ref 0)]) (stk' := []) (mem' := fm gn1 tp bt a bn1) (fun _ _ _ => rfl) ?_
    rw [show (fx_cb .eq 0 0) = true from by decide]
    dsimp only [cond]
    refine fe_s 1 (pc' := 61) (lc' := [(1, .int (nI (3646 + (5 * NW)))), (0, .ref 0)]) (stk' := [.int 0]) (mem' := fm gn1 tp bt a bn1) (fun _ _ _ => rfl) ?_
    exact fe_ret ⟨_, _, _, _, _, _, _, _, gon1, bNn1, hN, Or.inl ⟨rfl, hzn1⟩, rfl⟩ (by rfl) (by rfl) (by rfl)
  · have e18n1 : gn1 18 = g 18 := hen1.trans rfl
    have prn1 : gn1 12 = 0 ∨ E < En1 := hpn1.imp id (fun z => by have := (fm_gx_rf hxp hfl).2.2.2; omega)
    have bNn1 : ∀ t, t ≠ 2 → bn1 t = b t := fun t ht => (congrFun hbn1 t).trans ((fm_uL_t ht).trans ((fun _ _ => rfl) t ht))
    have hcn1 : NW < 8 := by have := hN.2.2.1.2.1; have := hN.2.2.1.2.2.2; omega
    refine fe_s 1 (pc' := cond (fx_cb .eq 1 0) 60 27) (lc' := [(1, .int (nI (3646 + (5 * NW)))), (0, .ref 0)]) (stk' := []) (mem' := fm gn1 tp bt a bn1) (fun _ _ _ => rfl) ?_
    rw [show (fx_cb .eq 1 0) = false from by decide]
    dsimp only [cond]
    refine fe_s 3 (pc' := 32) (lc' := [(1, .int (nI (3646 + (5 * NW)))), (0, .ref 0)]) (stk' := [.int 9, .ref 22, .ref 0]) (mem' := fm gn1 tp bt a bn1) (fun _ _ _ => rfl) ?_
    obtain ⟨xc2, gc2, Ec2, Fc2, hfrc2, hoc2, hvc2⟩ := fr_wantWordq (k := 9) (g := gn1) (tp := tp) (bt := bt) (a := a) (b := bn1) gon1.2.1 gon1.2.2.1
    have goc2 := fm_gx_tr gon1 hoc2
    refine fe_ivV hfrc2 (by omega) (by rfl) (by rfl) (by rfl) (by rfl) (by rfl) (by rfl) ?_
    rcases hvc2 with ⟨rfl, hzc2⟩ | ⟨rfl, hec2, hpc2⟩
    · refine fe_s 1 (pc' := cond (fx_cb .eq 0 0) 60 38) (lc' := [(1, .int (nI (3646 + (5 * NW)))), (0, .ref 0)]) (stk' := []) (mem' := fm gc2 tp bt a bn1) (fun _ _ _ => rfl) ?_
      rw [show (fx_cb .eq 0 0) = true from by decide]
      dsimp only [cond]
      refine fe_s 1 (pc' := 61) (lc' := [(1, .int (nI (3646 + (5 * NW)))), (0, .ref 0)]) (stk' := [.int 0]) (mem' := fm gc2 tp bt a bn1) (fun _ _ _ => rfl) ?_
      exact fe_ret ⟨_, _, _, _, _, _, _, _, goc2, bNn1, hN, Or.inl ⟨rfl, hzc2⟩, rfl⟩ (by rfl) (by rfl) (by rfl)
    · have e18c2 : gc2 18 = g 18 := hec2.trans e18n1
      have prc2 : gc2 12 = 0 ∨ E < Ec2 := hpc2.imp id (fun z => by have := gon1.2.2.2; omega)
      refine fe_s 1 (pc' := cond (fx_cb .eq 1 0) 60 38) (lc' := [(1, .int (nI (3646 + (5 * NW)))), (0, .ref 0)]) (stk' := []) (mem' := fm gc2 tp bt a bn1) (fun _ _ _ => rfl) ?_
      rw [show (fx_cb .eq 1 0) = false from by decide]
      dsimp only [cond]
      refine fe_s 4 (pc' := 43) (lc' := [(1, .int (nI (3646 + (5 * NW)))), (0, .ref 0)]) (stk' := [.int 99, .int 1, .int (nI (3646 + (5 * NW))), .ref 0]) (mem' := fm gc2 tp bt a bn1) (fun _ _ _ => rfl) ?_
      obtain ⟨xm3, gm3, Em3, Fm3, am3, hfrm3, hom3, hvm3⟩ := fr_numberq (T := 3646 + (5 * NW)) (lo := 1) (hi := 99) (g := gc2) (tp := tp) (bt := bt) (a := a) (b := bn1) (by omega) goc2.2.1 goc2.2.2.1
      have gom3 := fm_gx_tr goc2 hom3
      refine fe_ivV hfrm3 (by omega) (by rfl) (by rfl) (by rfl) (by rfl) (by rfl) (by rfl) ?_
      rcases hvm3 with ⟨rfl, hzm3, ham3⟩ | ⟨rfl, hem3, hpm3, ym3, hlm3, hum3, ham3⟩
      · have hNm3 : fm_N a0 am3 NC NW := by rw [ham3]; exact hN
        refine fe_s 1 (pc' := cond (fx_cb .eq 0 0) 60 49) (lc' := [(1, .int (nI (3646 + (5 * NW)))), (0, .ref 0)]) (stk' := []) (mem' := fm gm3 tp bt am3 bn1) (fun _ _ _ => rfl) ?_
        rw [show (fx_cb .eq 0 0) = true from by decide]
        dsimp only [cond]
        refine fe_s 1 (pc' := 61) (lc' := [(1, .int (nI (3646 + (5 * NW)))), (0, .ref 0)]) (stk' := [.int 0]) (mem' := fm gm3 tp bt am3 bn1) (fun _ _ _ => rfl) ?_
        exact fe_ret ⟨_, _, _, _, _, _, _, _, gom3, bNn1, hNm3, Or.inl ⟨rfl, hzm3⟩, rfl⟩ (by rfl) (by rfl) (by rfl)
      · have e18m3 : gm3 18 = g 18 := hem3.trans e18c2
        have prm3 : gm3 12 = 0 ∨ E < Em3 := hpm3.imp id (fun z => by have := goc2.2.2.2; omega)
        have hNm3 : fm_N a0 am3 NC NW := by rw [ham3]; exact fm_N_u hN (by omega) (by omega) (fun c hc => by omega) (fm_full (show gm_at (3646 + (5 * NW)) = (-2147483648, 2147483647) from by rw [show 3646 + (5 * NW) = 3646 + 5 * NW by omega]; exact gm_at_w0 NW (by omega)))
        have hWm3 : fm_NW am3 := by rw [ham3]; exact fm_NW_u hW (Or.inr (fun w hw => by omega))
        refine fe_s 1 (pc' := cond (fx_cb .eq 1 0) 60 49) (lc' := [(1, .int (nI (3646 + (5 * NW)))), (0, .ref 0)]) (stk' := []) (mem' := fm gm3 tp bt am3 bn1) (fun _ _ _ => rfl) ?_
        rw [show (fx_cb .eq 1 0) = false from by decide]
        dsimp only [cond]
        refine fe_s 3 (pc' := 54) (lc' := [(1, .int (nI (3646 + (5 * NW)))), (0, .ref 0)]) (stk' := [.int 10, .ref 22, .ref 0]) (mem' := fm gm3 tp bt am3 bn1) (fun _ _ _ => rfl) ?_
        obtain ⟨xc4, gc4, Ec4, Fc4, hfrc4, hoc4, hvc4⟩ := fr_wantWordq (k := 10) (g := gm3) (tp := tp) (bt := bt) (a := am3) (b := bn1) gom3.2.1 gom3.2.2.1
        have goc4 := fm_gx_tr gom3 hoc4
        refine fe_ivV hfrc4 (by omega) (by rfl) (by rfl) (by rfl) (by rfl) (by rfl) (by rfl) ?_
        rcases hvc4 with ⟨rfl, hzc4⟩ | ⟨rfl, hec4, hpc4⟩
        · refine fe_s 1 (pc' := cond (fx_cb .ne 0 0) 62 60) (lc' := [(1, .int (nI (3646 + (5 * NW)))), (0, .ref 0)]) (stk' := []) (mem' := fm gc4 tp bt am3 bn1) (fun _ _ _ => rfl) ?_
          rw [show (fx_cb .ne 0 0) = false from by decide]
          dsimp only [cond]
          refine fe_s 1 (pc' := 61) (lc' := [(1, .int (nI (3646 + (5 * NW)))), (0, .ref 0)]) (stk' := [.int 0]) (mem' := fm gc4 tp bt am3 bn1) (fun _ _ _ => rfl) ?_
          exact fe_ret ⟨_, _, _, _, _, _, _, _, goc4, bNn1, hNm3, Or.inl ⟨rfl, hzc4⟩, rfl⟩ (by rfl) (by rfl) (by rfl)
        · have e18c4 : gc4 18 = g 18 := hec4.trans e18m3
          have prc4 : gc4 12 = 0 ∨ E < Ec4 := hpc4.imp id (fun z => by have := gom3.2.2.2; omega)
          refine fe_s 1 (pc' := cond (fx_cb .ne 1 0) 62 60) (lc' := [(1, .int (nI (3646 + (5 * NW)))), (0, .ref 0)]) (stk' := []) (mem' := fm gc4 tp bt am3 bn1) (fun _ _ _ => rfl) ?_
          rw [show (fx_cb .ne 1 0) = true from by decide]
          dsimp only [cond]
          refine fe_s 1 (pc' := 63) (lc' := [(1, .int (nI (3646 + (5 * NW)))), (0, .ref 0)]) (stk' := [.ref 0]) (mem' := fm gc4 tp bt am3 bn1) (fun _ _ _ => rfl) ?_
          obtain ⟨vh5, memh5, ⟨qh5, xh5, hqh5, hvh5, hRh5⟩, hfrh5⟩ := fr_cellHere (g := gc4) (tp := tp) (bt := bt) (a := am3) (b := bn1) goc4.2.1 hNm3.2.2.1
          cases hRh5
          refine fe_ivV hfrh5 (by omega) (by rfl) (by rfl) (by rfl) (by rfl) (by rfl) (by rfl) ?_
          rcases fm_ch hvh5 with ⟨rfl, hmh5⟩ | ⟨kh5, hkh5, rfl⟩
          · refine fe_s 3 (pc' := 69) (lc' := [(2, .int (-1)), (1, .int (nI (3646 + (5 * NW)))), (0, .ref 0)]) (stk' := [.int (-1), .int (-1)]) (mem' := fm gc4 tp bt am3 bn1) (fun _ _ _ => rfl) ?_
            refine fe_s 1 (pc' := cond (fx_cb .eq (-1) (-1)) 86 72) (lc' := [(2, .int (-1)), (1, .int (nI (3646 + (5 * NW)))), (0, .ref 0)]) (stk' := []) (mem' := fm gc4 tp bt am3 bn1) (fun _ _ _ => rfl) ?_
            rw [show (fx_cb .eq (-1) (-1)) = true from by decide]
            dsimp only [cond]
            refine fe_s 5 (pc' := 96) (lc' := [(2, .int (-1)), (1, .int (nI (3646 + (5 * NW)))), (0, .ref 0)]) (stk' := [.int 3368, .ref 1, .int 72, .ref 0]) (mem' := fm gc4 tp bt am3 bn1) (fun _ _ _ => rfl) ?_
            refine fe_ldI (by rfl) (by rfl) (fx_inN (i := 3368) (by omega) (by omega)) ?_
            rw [show Int32.toNatClampNeg (3368) = 3368 from rfl]
            rw [hNm3.2.2.1.1]
            refine fe_s 3 (pc' := 100) (lc' := [(2, .int (-1)), (1, .int (nI (3646 + (5 * NW)))), (0, .ref 0)]) (stk' := [.int ((nI (3646 + (5 * NW))) + 1), .int (nI NC), .int 72, .ref 0]) (mem' := fm gc4 tp bt am3 bn1) (fun _ _ _ => rfl) ?_
            rw [show ((nI (3646 + (5 * NW))) + 1 : Int32) = nI ((3646 + (5 * NW)) + 1) from by simp only [show (1 : Int32) = nI 1 from rfl, nI_add, fm_mul]]
            obtain ⟨xo6, go6, Eo6, Fo6, ao6, hfro6, hoo6, hvo6⟩ := fr_oldOneq (T := (3646 + (5 * NW)) + 1) (base := 72) (many := NC) (g := gc4) (tp := tp) (bt := bt) (a := am3) (b := bn1) (by omega) (by have := hNm3.2.2.1.2.1; omega) goc4.2.1 goc4.2.2.1
            have goo6 := fm_gx_tr goc4 hoo6
            refine fe_ivV hfro6 (by omega) (by rfl) (by rfl) (by rfl) (by rfl) (by rfl) (by rfl) ?_
            rcases hvo6 with ⟨rfl, hzo6, hao6⟩ | ⟨rfl, heo6, hpo6, hso6, ko6, hko6, hio6, hao6⟩
            · have hNo6 : fm_N a0 ao6 NC NW := by
                rcases hao6 with e | ⟨y, hy, e⟩
                · rw [e]; exact hNm3
                · rw [e, hy]; exact fm_N_u hNm3 (by omega) (by omega) (fun c hc => by omega) (fm_bdI (show gm_at ((3646 + (5 * NW)) + 1) = (-1, 9) from by rw [show (3646 + (5 * NW)) + 1 = 3647 + 5 * NW by omega]; exact gm_at_w1 NW (by omega)) (by decide) (by decide))
              refine fe_s 1 (pc' := cond (fx_cb .ne 0 0) 108 106) (lc' := [(2, .int (-1)), (1, .int (nI (3646 + (5 * NW)))), (0, .ref 0)]) (stk' := []) (mem' := fm go6 tp bt ao6 bn1) (fun _ _ _ => rfl) ?_
              rw [show (fx_cb .ne 0 0) = false from by decide]
              dsimp only [cond]
              refine fe_s 1 (pc' := 107) (lc' := [(2, .int (-1)), (1, .int (nI (3646 + (5 * NW)))), (0, .ref 0)]) (stk' := [.int 0]) (mem' := fm go6 tp bt ao6 bn1) (fun _ _ _ => rfl) ?_
              exact fe_ret ⟨_, _, _, _, _, _, _, _, goo6, bNn1, hNo6, Or.inl ⟨rfl, hzo6⟩, rfl⟩ (by rfl) (by rfl) (by rfl)
            · exact absurd (fm_chx hmh5 (fr_det hqh5 hso6).1 (by have := hNm3.2.2.1.2.1; omega) hio6) id
          · have hk9h5 : kh5 < 10 := by have := hNm3.2.2.1.2.1; omega
            refine fe_s 3 (pc' := 69) (lc' := [(2, .int (nI kh5)), (1, .int (nI (3646 + (5 * NW)))), (0, .ref 0)]) (stk' := [.int (-1), .int (nI kh5)]) (mem' := fm gc4 tp bt am3 bn1) (fun _ _ _ => rfl) ?_
            refine fe_s 1 (pc' := cond (fx_cb .eq (nI kh5) (-1)) 86 72) (lc' := [(2, .int (nI kh5)), (1, .int (nI (3646 + (5 * NW)))), (0, .ref 0)]) (stk' := []) (mem' := fm gc4 tp bt am3 bn1) (fun _ _ _ => rfl) ?_
            rw [show (fx_cb .eq (nI kh5) (-1)) = false from cb_n_eq (by omega) (by decide)]
            dsimp only [cond]
            refine fe_s 2 (pc' := 74) (lc' := [(2, .int (nI kh5)), (1, .int (nI (3646 + (5 * NW)))), (0, .ref 0)]) (stk' := [.int (nI kh5), .ref 0]) (mem' := fm gc4 tp bt am3 bn1) (fun _ _ _ => rfl) ?_
            obtain ⟨vs7, mems7, ⟨xs7, hxs7, hRs7⟩, hfrs7⟩ := fr_isNewShore (C := kh5) (g := gc4) (tp := tp) (bt := bt) (a := am3) (b := bn1) (by omega)
            cases hRs7
            refine fe_ivV hfrs7 (by omega) (by rfl) (by rfl) (by rfl) (by rfl) (by rfl) (by rfl) ?_
            rcases hxs7 with rfl | rfl
            · refine fe_s 1 (pc' := cond (fx_cb .ne 0 0) 86 80) (lc' := [(2, .int (nI kh5)), (1, .int (nI (3646 + (5 * NW)))), (0, .ref 0)]) (stk' := []) (mem' := fm gc4 tp bt am3 bn1) (fun _ _ _ => rfl) ?_
              rw [show (fx_cb .ne 0 0) = false from by decide]
              dsimp only [cond]
              refine fe_s 2 (pc' := 82) (lc' := [(2, .int (nI kh5)), (1, .int (nI (3646 + (5 * NW)))), (0, .ref 0)]) (stk' := [.int 5, .ref 0]) (mem' := fm gc4 tp bt am3 bn1) (fun _ _ _ => rfl) ?_
              obtain ⟨gf8, hfrf8, hof8, hzf8⟩ := fr_failsq (x := 5) (g := gc4) (tp := tp) (bt := bt) (a := am3) (b := bn1) (by omega) (by omega) goc4.2.1 goc4.2.2.1
              have gof8 := fm_gx_tr goc4 hof8
              refine fe_ivV hfrf8 (by omega) (by rfl) (by rfl) (by rfl) (by rfl) (by rfl) (by rfl) ?_
              exact fe_ret ⟨_, _, _, _, _, _, _, _, gof8, bNn1, hNm3, Or.inl ⟨rfl, hzf8⟩, rfl⟩ (by rfl) (by rfl) (by rfl)
            · refine fe_s 1 (pc' := cond (fx_cb .ne 1 0) 86 80) (lc' := [(2, .int (nI kh5)), (1, .int (nI (3646 + (5 * NW)))), (0, .ref 0)]) (stk' := []) (mem' := fm gc4 tp bt am3 bn1) (fun _ _ _ => rfl) ?_
              rw [show (fx_cb .ne 1 0) = true from by decide]
              dsimp only [cond]
              refine fe_s 5 (pc' := 96) (lc' := [(2, .int (nI kh5)), (1, .int (nI (3646 + (5 * NW)))), (0, .ref 0)]) (stk' := [.int 3368, .ref 1, .int 72, .ref 0]) (mem' := fm gc4 tp bt am3 bn1) (fun _ _ _ => rfl) ?_
              refine fe_ldI (by rfl) (by rfl) (fx_inN (i := 3368) (by omega) (by omega)) ?_
              rw [show Int32.toNatClampNeg (3368) = 3368 from rfl]
              rw [hNm3.2.2.1.1]
              refine fe_s 3 (pc' := 100) (lc' := [(2, .int (nI kh5)), (1, .int (nI (3646 + (5 * NW)))), (0, .ref 0)]) (stk' := [.int ((nI (3646 + (5 * NW))) + 1), .int (nI NC), .int 72, .ref 0]) (mem' := fm gc4 tp bt am3 bn1) (fun _ _ _ => rfl) ?_
              rw [show ((nI (3646 + (5 * NW))) + 1 : Int32) = nI ((3646 + (5 * NW)) + 1) from by simp only [show (1 : Int32) = nI 1 from rfl, nI_add, fm_mul]]
              obtain ⟨xo9, go9, Eo9, Fo9, ao9, hfro9, hoo9, hvo9⟩ := fr_oldOneq (T := (3646 + (5 * NW)) + 1) (base := 72) (many := NC) (g := gc4) (tp := tp) (bt := bt) (a := am3) (b := bn1) (by omega) (by have := hNm3.2.2.1.2.1; omega) goc4.2.1 goc4.2.2.1
              have goo9 := fm_gx_tr goc4 hoo9
              refine fe_ivV hfro9 (by omega) (by rfl) (by rfl) (by rfl) (by rfl) (by rfl) (by rfl) ?_
              rcases hvo9 with ⟨rfl, hzo9, hao9⟩ | ⟨rfl, heo9, hpo9, hso9, ko9, hko9, hio9, hao9⟩
              · have hNo9 : fm_N a0 ao9 NC NW := by
                  rcases hao9 with e | ⟨y, hy, e⟩
                  · rw [e]; exact hNm3
                  · rw [e, hy]; exact fm_N_u hNm3 (by omega) (by omega) (fun c hc => by omega) (fm_bdI (show gm_at ((3646 + (5 * NW)) + 1) = (-1, 9) from by rw [show (3646 + (5 * NW)) + 1 = 3647 + 5 * NW by omega]; exact gm_at_w1 NW (by omega)) (by decide) (by decide))
                refine fe_s 1 (pc' := cond (fx_cb .ne 0 0) 108 106) (lc' := [(2, .int (nI kh5)), (1, .int (nI (3646 + (5 * NW)))), (0, .ref 0)]) (stk' := []) (mem' := fm go9 tp bt ao9 bn1) (fun _ _ _ => rfl) ?_
                rw [show (fx_cb .ne 0 0) = false from by decide]
                dsimp only [cond]
                refine fe_s 1 (pc' := 107) (lc' := [(2, .int (nI kh5)), (1, .int (nI (3646 + (5 * NW)))), (0, .ref 0)]) (stk' := [.int 0]) (mem' := fm go9 tp bt ao9 bn1) (fun _ _ _ => rfl) ?_
                exact fe_ret ⟨_, _, _, _, _, _, _, _, goo9, bNn1, hNo9, Or.inl ⟨rfl, hzo9⟩, rfl⟩ (by rfl) (by rfl) (by rfl)
              · have e18o9 : go9 18 = g 18 := heo9.trans e18c4
                have pro9 : go9 12 = 0 ∨ E < Eo9 := hpo9.imp id (fun z => by have := goc4.2.2.2; omega)
                have hk9o9 : ko9 < 10 := by have := hNm3.2.2.1.2.1; omega
                have hNo9 : fm_N a0 ao9 NC NW := by rw [hao9]; exact fm_N_u hNm3 (by omega) (by omega) (fun c hc => by omega) (fm_bdI (show gm_at ((3646 + (5 * NW)) + 1) = (-1, 9) from by rw [show (3646 + (5 * NW)) + 1 = 3647 + 5 * NW by omega]; exact gm_at_w1 NW (by omega)) (by rw [nI_i32 (by omega)]; omega) (by rw [nI_i32 (by omega)]; omega))
                have hWo9 : fm_NW ao9 := by rw [hao9]; exact fm_NW_u hWm3 (Or.inl (by rw [nI_i32 (by omega)]; omega))
                refine fe_s 1 (pc' := cond (fx_cb .ne 1 0) 108 106) (lc' := [(2, .int (nI kh5)), (1, .int (nI (3646 + (5 * NW)))), (0, .ref 0)]) (stk' := []) (mem' := fm go9 tp bt ao9 bn1) (fun _ _ _ => rfl) ?_
                rw [show (fx_cb .ne 1 0) = true from by decide]
                dsimp only [cond]
                refine fe_s 4 (pc' := 116) (lc' := [(2, .int (nI kh5)), (1, .int (nI (3646 + (5 * NW)))), (0, .ref 0)]) (stk' := [.int 3369, .ref 1, .int 3369, .ref 1]) (mem' := fm go9 tp bt ao9 bn1) (fun _ _ _ => rfl) ?_
                refine fe_ldI (by rfl) (by rfl) (fx_inN (i := 3369) (by omega) (by omega)) ?_
                rw [show Int32.toNatClampNeg (3369) = 3369 from rfl]
                rw [hNo9.2.2.1.2.2.1]
                refine fe_s 2 (pc' := 119) (lc' := [(2, .int (nI kh5)), (1, .int (nI (3646 + (5 * NW)))), (0, .ref 0)]) (stk' := [.int ((nI NW) + 1), .int 3369, .ref 1]) (mem' := fm go9 tp bt ao9 bn1) (fun _ _ _ => rfl) ?_
                rw [show ((nI NW) + 1 : Int32) = nI (NW + 1) from by simp only [show (1 : Int32) = nI 1 from rfl, nI_add, fm_mul]]
                refine fe_stI (mem' := fm go9 tp bt (fm_u ao9 1 (3369 : Int32).toNatClampNeg (nI (NW + 1))) bn1) (by rfl) (by rfl) (fx_inN (i := 3369) (by omega) (by omega)) (by rfl) ?_
                rw [show Int32.toNatClampNeg (3369) = 3369 from rfl]
                obtain ⟨at10, hat10⟩ : ∃ z, z = fm_u ao9 1 (3369) (nI (NW + 1)) := ⟨_, rfl⟩
                rw [← hat10]
                have hNt10 : fm_N a0 at10 NC (NW + 1) := by rw [hat10]; exact fm_N_nw hNo9 (by omega)
                have hWt10 : fm_NW at10 := by rw [hat10]; exact fm_NW_u hWo9 (Or.inr (fun w hw => by omega))
                refine fe_s 1 (pc' := 121) (lc' := [(2, .int (nI kh5)), (1, .int (nI (3646 + (5 * NW)))), (0, .ref 0)]) (stk' := [.int 1]) (mem' := fm go9 tp bt at10 bn1) (fun _ _ _ => rfl) ?_
                exact fe_ret ⟨_, _, _, _, _, _, _, _, goo9, bNn1, hNt10, Or.inr ⟨rfl, e18o9, pro9, hWt10⟩, rfl⟩ (by rfl) (by rfl) (by rfl)
set_option maxHeartbeats 4000000 in
theorem fr_once5 {S E F NC NW : Nat} (hxp : fm_xp g S E F) (hfl : fm_flt g) (hN : fm_N a0 a NC NW) (hW : fm_NW a) : ∃ (v : Option Value) (mem' : fx_M), (fm_GL a0 g tp bt b S E) (v, mem') ∧ fr_T 8 244 [.ref 0, .int 5] (fm g tp bt a b) v mem' := by
  have hNC := hN.2.2.1.2.1
  have hNW := hN.2.2.1.2.2.2
  refine fe_meth (F := fm_GL a0 g tp bt b S E) (M := gk_m244) (by rfl) (by rfl) ?_
  refine fe_s 7 (pc' := 9) (lc' := [(0, .ref 0), (1, .int 5)]) (stk' := [.int 1, .int (((g 20) >>> (5 &&& 31)) &&& 1)]) (mem' := fm g tp bt a b) (fun _ _ _ => rfl) ?_
  refine fe_s 1 (pc' := cond (fx_cb .ne (((g 20) >>> (5 &&& 31)) &&& 1) 1) 18 12) (lc' := [(0, .ref 0), (1, .int 5)]) (stk' := []) (mem' := fm g tp bt a b) (fun _ _ _ => rfl) ?_
  cases h1 : fx_cb .ne (((g 20) >>> (5 &&& 31)) &&& 1) 1
  · refine fe_s 2 (pc' := 14) (lc' := [(0, .ref 0), (1, .int 5)]) (stk' := [.int 5, .ref 0]) (mem' := fm g tp bt a b) (fun _ _ _ => rfl) ?_
    obtain ⟨gf2, hfrf2, hof2, hzf2⟩ := fr_failsq (x := 5) (g := g) (tp := tp) (bt := bt) (a := a) (b := b) (by omega) (by omega) (fm_gx_rf hxp hfl).2.1 (fm_gx_rf hxp hfl).2.2.1
    have gof2 := fm_gx_tr (fm_gx_rf hxp hfl) hof2
    refine fe_ivV hfrf2 (by omega) (by rfl) (by rfl) (by rfl) (by rfl) (by rfl) (by rfl) ?_
    exact fe_ret ⟨_, _, _, _, _, _, _, _, gof2, (fun _ _ => rfl), hN, Or.inl ⟨rfl, hzf2⟩, rfl⟩ (by rfl) (by rfl) (by rfl)
  · refine fe_s 9 (pc' := 31) (lc' := [(0, .ref 0), (1, .int 5)]) (stk' := [.ref 0]) (mem' := fm (upd g 20 ((g 20) ||| ((1 : Int32) <<< (5 &&& 31)))) tp bt a b) (fun _ _ _ => rfl) ?_
    obtain ⟨gk3, Ek3, Fk3, hfrk3, hok3, hek3, hpk3⟩ := fr_aheadq (g := (upd g 20 ((g 20) ||| ((1 : Int32) <<< (5 &&& 31))))) (tp := tp) (bt := bt) (a := a) (b := b) (fm_gx_up (fm_gx_rf hxp hfl) (by decide)).2.1 (fm_gx_up (fm_gx_rf hxp hfl) (by decide)).2.2.1
    have gok3 := fm_gx_tr (fm_gx_up (fm_gx_rf hxp hfl) (by decide)) hok3
    have e18k3 : gk3 18 = g 18 := hek3.trans ((pk_un (by decide)).trans rfl)
    have prk3 : gk3 12 = 0 ∨ E < Ek3 := hpk3.imp id (fun z => by have := (fm_gx_rf hxp hfl).2.2.2; omega)
    refine fe_ivV hfrk3 (by omega) (by rfl) (by rfl) (by rfl) (by rfl) (by rfl) (by rfl) ?_
    refine fe_s 8 (pc' := 45) (lc' := [(0, .ref 0), (1, .int 5)]) (stk' := [.int 6, .int 5, .int ((3370 + 5) - 5), .ref 0]) (mem' := fm gk3 tp bt a b) (fun _ _ _ => rfl) ?_
    rw [show ((3370 + 5) - 5 : Int32) = 3370 from rfl]
    refine fe_s 1 (pc' := cond (fx_cb .ne 5 6) 52 48) (lc' := [(0, .ref 0), (1, .int 5)]) (stk' := [.int 3370, .ref 0]) (mem' := fm gk3 tp bt a b) (fun _ _ _ => rfl) ?_
    rw [show (fx_cb .ne 5 6) = true from by decide]
    dsimp only [cond]
    refine fe_s 2 (pc' := 55) (lc' := [(0, .ref 0), (1, .int 5)]) (stk' := [.int 20, .int 0, .int 3370, .ref 0]) (mem' := fm gk3 tp bt a b) (fun _ _ _ => rfl) ?_
    obtain ⟨xm4, gm4, Em4, Fm4, am4, hfrm4, hom4, hvm4⟩ := fr_numberq (T := 3370) (lo := 0) (hi := 20) (g := gk3) (tp := tp) (bt := bt) (a := a) (b := b) (by omega) gok3.2.1 gok3.2.2.1
    have gom4 := fm_gx_tr gok3 hom4
    refine fe_ivV hfrm4 (by omega) (by rfl) (by rfl) (by rfl) (by rfl) (by rfl) (by rfl) ?_
    rcases hvm4 with ⟨rfl, hzm4, ham4⟩ | ⟨rfl, hem4, hpm4, ym4, hlm4, hum4, ham4⟩
    · have hNm4 : fm_N a0 am4 NC NW := by rw [ham4]; exact hN
      exact fe_ret ⟨_, _, _, _, _, _, _, _, gom4, (fun _ _ => rfl), hNm4, Or.inl ⟨rfl, hzm4⟩, rfl⟩ (by rfl) (by rfl) (by rfl)
    · have e18m4 : gm4 18 = g 18 := hem4.trans e18k3
      have prm4 : gm4 12 = 0 ∨ E < Em4 := hpm4.imp id (fun z => by have := gok3.2.2.2; omega)
      have hNm4 : fm_N a0 am4 NC NW := by rw [ham4]; exact fm_N_u hN (by omega) (by omega) (fun c hc => by omega) (fm_bdI (show gm_at 3370 = (0, 20) from rfl) (by have z := Int32.le_iff_toInt_le.mp hlm4; rw [show ((0 : Int32).toInt) = 0 from rfl] at z; omega) (by have z := Int32.le_iff_toInt_le.mp hum4; rw [show ((20 : Int32).toInt) = 20 from rfl] at z; omega))
      have hWm4 : fm_NW am4 := by rw [ham4]; exact fm_NW_u hW (Or.inr (fun w hw => by omega))
      exact fe_ret ⟨_, _, _, _, _, _, _, _, gom4, (fun _ _ => rfl), hNm4, Or.inr ⟨rfl, e18m4, prm4, hWm4⟩, rfl⟩ (by rfl) (by rfl) (by rfl)
set_option maxHeartbeats 4000000 in
theorem fr_once6 {S E F NC NW : Nat} (hxp : fm_xp g S E F) (hfl : fm_flt g) (hN : fm_N a0 a NC NW) (hW : fm_NW a) : ∃ (v : Option Value) (mem' : fx_M), (fm_GL a0 g tp bt b S E) (v, mem') ∧ fr_T 8 244 [.ref 0, .int 6] (fm g tp bt a b) v mem' := by
  have hNC := hN.2.2.1.2.1
  have hNW := hN.2.2.1.2.2.2
  refine fe_meth (F := fm_GL a0 g tp bt b S E) (M := gk_m244) (by rfl) (by rfl) ?_
  refine fe_s 7 (pc' := 9) (lc' := [(0, .ref 0), (1, .int 6)]) (stk' := [.int 1, .int (((g 20) >>> (6 &&& 31)) &&& 1)]) (mem' := fm g tp bt a b) (fun _ _ _ => rfl) ?_
  refine fe_s 1 (pc' := cond (fx_cb .ne (((g 20) >>> (6 &&& 31)) &&& 1) 1) 18 12) (lc' := [(0, .ref 0), (1, .int 6)]) (stk' := []) (mem' := fm g tp bt a b) (fun _ _ _ => rfl) ?_
  cases h1 : fx_cb .ne (((g 20) >>> (6 &&& 31)) &&& 1) 1
  · refine fe_s 2 (pc' := 14) (lc' := [(0, .ref 0), (1, .int 6)]) (stk' := [.int 5, .ref 0]) (mem' := fm g tp bt a b) (fun _ _ _ => rfl) ?_
    obtain ⟨gf2, hfrf2, hof2, hzf2⟩ := fr_failsq (x := 5) (g := g) (tp := tp) (bt := bt) (a := a) (b := b) (by omega) (by omega) (fm_gx_rf hxp hfl).2.1 (fm_gx_rf hxp hfl).2.2.1
    have gof2 := fm_gx_tr (fm_gx_rf hxp hfl) hof2
    refine fe_ivV hfrf2 (by omega) (by rfl) (by rfl) (by rfl) (by rfl) (by rfl) (by rfl) ?_
    exact fe_ret ⟨_, _, _, _, _, _, _, _, gof2, (fun _ _ => rfl), hN, Or.inl ⟨rfl, hzf2⟩, rfl⟩ (by rfl) (by rfl) (by rfl)
  · refine fe_s 9 (pc' := 31) (lc' := [(0, .ref 0), (1, .int 6)]) (stk' := [.ref 0]) (mem' := fm (upd g 20 ((g 20) ||| ((1 : Int32) <<< (6 &&& 31)))) tp bt a b) (fun _ _ _ => rfl) ?_
    obtain ⟨gk3, Ek3, Fk3, hfrk3, hok3, hek3, hpk3⟩ := fr_aheadq (g := (upd g 20 ((g 20) ||| ((1 : Int32) <<< (6 &&& 31))))) (tp := tp) (bt := bt) (a := a) (b := b) (fm_gx_up (fm_gx_rf hxp hfl) (by decide)).2.1 (fm_gx_up (fm_gx_rf hxp hfl) (by decide)).2.2.1
    have gok3 := fm_gx_tr (fm_gx_up (fm_gx_rf hxp hfl) (by decide)) hok3
    have e18k3 : gk3 18 = g 18 := hek3.trans ((pk_un (by decide)).trans rfl)
    have prk3 : gk3 12 = 0 ∨ E < Ek3 := hpk3.imp id (fun z => by have := (fm_gx_rf hxp hfl).2.2.2; omega)
    refine fe_ivV hfrk3 (by omega) (by rfl) (by rfl) (by rfl) (by rfl) (by rfl) (by rfl) ?_
    refine fe_s 8 (pc' := 45) (lc' := [(0, .ref 0), (1, .int 6)]) (stk' := [.int 6, .int 6, .int ((3370 + 6) - 5), .ref 0]) (mem' := fm gk3 tp bt a b) (fun _ _ _ => rfl) ?_
    rw [show ((3370 + 6) - 5 : Int32) = 3371 from rfl]
    refine fe_s 1 (pc' := cond (fx_cb .ne 6 6) 52 48) (lc' := [(0, .ref 0), (1, .int 6)]) (stk' := [.int 3371, .ref 0]) (mem' := fm gk3 tp bt a b) (fun _ _ _ => rfl) ?_
    rw [show (fx_cb .ne 6 6) = false from by decide]
    dsimp only [cond]
    refine fe_s 3 (pc' := 55) (lc' := [(0, .ref 0), (1, .int 6)]) (stk' := [.int 20, .int 1, .int 3371, .ref 0]) (mem' := fm gk3 tp bt a b) (fun _ _ _ => rfl) ?_
    obtain ⟨xm4, gm4, Em4, Fm4, am4, hfrm4, hom4, hvm4⟩ := fr_numberq (T := 3371) (lo := 1) (hi := 20) (g := gk3) (tp := tp) (bt := bt) (a := a) (b := b) (by omega) gok3.2.1 gok3.2.2.1
    have gom4 := fm_gx_tr gok3 hom4
    refine fe_ivV hfrm4 (by omega) (by rfl) (by rfl) (by rfl) (by rfl) (by rfl) (by rfl) ?_
    rcases hvm4 with ⟨rfl, hzm4, ham4⟩ | ⟨rfl, hem4, hpm4, ym4, hlm4, hum4, ham4⟩
    · have hNm4 : fm_N a0 am4 NC NW := by rw [ham4]; exact hN
      exact fe_ret ⟨_, _, _, _, _, _, _, _, gom4, (fun _ _ => rfl), hNm4, Or.inl ⟨rfl, hzm4⟩, rfl⟩ (by rfl) (by rfl) (by rfl)
    · have e18m4 : gm4 18 = g 18 := hem4.trans e18k3
      have prm4 : gm4 12 = 0 ∨ E < Em4 := hpm4.imp id (fun z => by have := gok3.2.2.2; omega)
      have hNm4 : fm_N a0 am4 NC NW := by rw [ham4]; exact fm_N_u hN (by omega) (by omega) (fun c hc => by omega) (fm_bdI (show gm_at 3371 = (0, 20) from rfl) (by have z := Int32.le_iff_toInt_le.mp hlm4; rw [show ((1 : Int32).toInt) = 1 from rfl] at z; omega) (by have z := Int32.le_iff_toInt_le.mp hum4; rw [show ((20 : Int32).toInt) = 20 from rfl] at z; omega))
      have hWm4 : fm_NW am4 := by rw [ham4]; exact fm_NW_u hW (Or.inr (fun w hw => by omega))
      exact fe_ret ⟨_, _, _, _, _, _, _, _, gom4, (fun _ _ => rfl), hNm4, Or.inr ⟨rfl, e18m4, prm4, hWm4⟩, rfl⟩ (by rfl) (by rfl) (by rfl)
set_option maxHeartbeats 4000000 in
theorem fr_once7 {S E F NC NW : Nat} (hxp : fm_xp g S E F) (hfl : fm_flt g) (hN : fm_N a0 a NC NW) (hW : fm_NW a) : ∃ (v : Option Value) (mem' : fx_M), (fm_GL a0 g tp bt b S E) (v, mem') ∧ fr_T 8 244 [.ref 0, .int 7] (fm g tp bt a b) v mem' := by
  have hNC := hN.2.2.1.2.1
  have hNW := hN.2.2.1.2.2.2
  refine fe_meth (F := fm_GL a0 g tp bt b S E) (M := gk_m244) (by rfl) (by rfl) ?_
  refine fe_s 7 (pc' := 9) (lc' := [(0, .ref 0), (1, .int 7)]) (stk' := [.int 1, .int (((g 20) >>> (7 &&& 31)) &&& 1)]) (mem' := fm g tp bt a b) (fun _ _ _ => rfl) ?_
  refine fe_s 1 (pc' := cond (fx_cb .ne (((g 20) >>> (7 &&& 31)) &&& 1) 1) 18 12) (lc' := [(0, .ref 0), (1, .int 7)]) (stk' := []) (mem' := fm g tp bt a b) (fun _ _ _ => rfl) ?_
  cases h1 : fx_cb .ne (((g 20) >>> (7 &&& 31)) &&& 1) 1
  · refine fe_s 2 (pc' := 14) (lc' := [(0, .ref 0), (1, .int 7)]) (stk' := [.int 5, .ref 0]) (mem' := fm g tp bt a b) (fun _ _ _ => rfl) ?_
    obtain ⟨gf2, hfrf2, hof2, hzf2⟩ := fr_failsq (x := 5) (g := g) (tp := tp) (bt := bt) (a := a) (b := b) (by omega) (by omega) (fm_gx_rf hxp hfl).2.1 (fm_gx_rf hxp hfl).2.2.1
    have gof2 := fm_gx_tr (fm_gx_rf hxp hfl) hof2
    refine fe_ivV hfrf2 (by omega) (by rfl) (by rfl) (by rfl) (by rfl) (by rfl) (by rfl) ?_
    exact fe_ret ⟨_, _, _, _, _, _, _, _, gof2, (fun _ _ => rfl), hN, Or.inl ⟨rfl, hzf2⟩, rfl⟩ (by rfl) (by rfl) (by rfl)
  · refine fe_s 9 (pc' := 31) (lc' := [(0, .ref 0), (1, .int 7)]) (stk' := [.ref 0]) (mem' := fm (upd g 20 ((g 20) ||| ((1 : Int32) <<< (7 &&& 31)))) tp bt a b) (fun _ _ _ => rfl) ?_
    obtain ⟨gk3, Ek3, Fk3, hfrk3, hok3, hek3, hpk3⟩ := fr_aheadq (g := (upd g 20 ((g 20) ||| ((1 : Int32) <<< (7 &&& 31))))) (tp := tp) (bt := bt) (a := a) (b := b) (fm_gx_up (fm_gx_rf hxp hfl) (by decide)).2.1 (fm_gx_up (fm_gx_rf hxp hfl) (by decide)).2.2.1
    have gok3 := fm_gx_tr (fm_gx_up (fm_gx_rf hxp hfl) (by decide)) hok3
    have e18k3 : gk3 18 = g 18 := hek3.trans ((pk_un (by decide)).trans rfl)
    have prk3 : gk3 12 = 0 ∨ E < Ek3 := hpk3.imp id (fun z => by have := (fm_gx_rf hxp hfl).2.2.2; omega)
    refine fe_ivV hfrk3 (by omega) (by rfl) (by rfl) (by rfl) (by rfl) (by rfl) (by rfl) ?_
    refine fe_s 8 (pc' := 45) (lc' := [(0, .ref 0), (1, .int 7)]) (stk' := [.int 6, .int 7, .int ((3370 + 7) - 5), .ref 0]) (mem' := fm gk3 tp bt a b) (fun _ _ _ => rfl) ?_
    rw [show ((3370 + 7) - 5 : Int32) = 3372 from rfl]
    refine fe_s 1 (pc' := cond (fx_cb .ne 7 6) 52 48) (lc' := [(0, .ref 0), (1, .int 7)]) (stk' := [.int 3372, .ref 0]) (mem' := fm gk3 tp bt a b) (fun _ _ _ => rfl) ?_
    rw [show (fx_cb .ne 7 6) = true from by decide]
    dsimp only [cond]
    refine fe_s 2 (pc' := 55) (lc' := [(0, .ref 0), (1, .int 7)]) (stk' := [.int 20, .int 0, .int 3372, .ref 0]) (mem' := fm gk3 tp bt a b) (fun _ _ _ => rfl) ?_
    obtain ⟨xm4, gm4, Em4, Fm4, am4, hfrm4, hom4, hvm4⟩ := fr_numberq (T := 3372) (lo := 0) (hi := 20) (g := gk3) (tp := tp) (bt := bt) (a := a) (b := b) (by omega) gok3.2.1 gok3.2.2.1
    have gom4 := fm_gx_tr gok3 hom4
    refine fe_ivV hfrm4 (by omega) (by rfl) (by rfl) (by rfl) (by rfl) (by rfl) (by rfl) ?_
    rcases hvm4 with ⟨rfl, hzm4, ham4⟩ | ⟨rfl, hem4, hpm4, ym4, hlm4, hum4, ham4⟩
    · have hNm4 : fm_N a0 am4 NC NW := by rw [ham4]; exact hN
      exact fe_ret ⟨_, _, _, _, _, _, _, _, gom4, (fun _ _ => rfl), hNm4, Or.inl ⟨rfl, hzm4⟩, rfl⟩ (by rfl) (by rfl) (by rfl)
    · have e18m4 : gm4 18 = g 18 := hem4.trans e18k3
      have prm4 : gm4 12 = 0 ∨ E < Em4 := hpm4.imp id (fun z => by have := gok3.2.2.2; omega)
      have hNm4 : fm_N a0 am4 NC NW := by rw [ham4]; exact fm_N_u hN (by omega) (by omega) (fun c hc => by omega) (fm_bdI (show gm_at 3372 = (0, 20) from rfl) (by have z := Int32.le_iff_toInt_le.mp hlm4; rw [show ((0 : Int32).toInt) = 0 from rfl] at z; omega) (by have z := Int32.le_iff_toInt_le.mp hum4; rw [show ((20 : Int32).toInt) = 20 from rfl] at z; omega))
      have hWm4 : fm_NW am4 := by rw [ham4]; exact fm_NW_u hW (Or.inr (fun w hw => by omega))
      exact fe_ret ⟨_, _, _, _, _, _, _, _, gom4, (fun _ _ => rfl), hNm4, Or.inr ⟨rfl, e18m4, prm4, hWm4⟩, rfl⟩ (by rfl) (by rfl) (by rfl)
end F4825_walk
