section MH18_0
/-! ===== fx: the parts of a LAKE, whole ===== -/
section F4825_walk
variable {g : Nat → Int32} {tp bt : Int64} {a0 a : Nat → Nat → Int32} {b : Nat → Nat → Int64}
set_option maxHeartbeats 8000000 in
theorem fr_aWalker {S E F NC NW : Nat} (hxp : fm_xp g S E F) (hfl : fm_flt g) (hN : fm_N a0 a NC NW) (hW : fm_NW a) : ∃ (v : Option Value) (mem' : fx_M), (fm_GL a0 g tp bt b S E) (v, mem') ∧ fr_T 8 243 [.ref 0] (fm g tp bt a b) v mem' := by
  have hNC := hN.2.2.1.2.1
  have hNW := hN.2.2.1.2.2.2
  refine fe_meth (F := fm_GL a0 g tp bt b S E) (M := gk_m243) (by rfl) (by rfl) ?_
  refine fe_s 5 (pc' := 11) (lc' := [(0, .ref 0)]) (stk' := [.int 3369, .ref 1, .int 5, .int 3646]) (mem' := fm g tp bt a b) (fun _ _ _ => rfl) ?_
  refine fe_ldI (by rfl) (by rfl) (fx_inN (i := 3369) (by omega) (by omega)) ?_
  rw [show Int32.toNatClampNeg (3369) = 3369 from rfl]
  rw [hN.2.2.1.2.2.1]
  refine fe_s 7 (pc' := 21) (lc' := [(1, .int (3646 + (5 * (nI NW)))), (0, .ref 0)]) (stk' := [.int 10, .int 8, .int 1, .ref 0]) (mem' := fm g tp bt a b) (fun _ _ _ => rfl) ?_
  rw [show (3646 + (5 * (nI NW)) : Int32) = nI (3646 + (5 * NW)) from by simp only [show (3646 : Int32) = nI 3646 from rfl, show (5 : Int32) = nI 5 from rfl, nI_add, fm_mul]]
  obtain ⟨vn1, memn1, ⟨xn1, gn1, En1, Fn1, bn1, hon1, hvn1, hRn1⟩, hfrn1⟩ := fr_newOne1 (g := g) (tp := tp) (bt := bt) (a := a) (b := b) (fm_gx_rf hxp hfl).2.1 (fm_gx_rf hxp hfl).2.2.1 hN.2.2.1
  cases hRn1
  have gon1 := fm_gx_tr (fm_gx_rf hxp hfl) hon1
  refine fe_ivV hfrn1 (by omega) (by rfl) (by rfl) (by rfl) (by rfl) (by rfl) (by rfl) ?_
  rcases hvn1 with ⟨rfl, hzn1, hbn1⟩ | ⟨rfl, hen1, hpn1, hin1, nmn1, hbn1⟩
  · have bNn1 : ∀ t, t ≠ 2 → bn1 t = b t := fun t ht => (congrFun hbn1 t).trans ((fun _ _ => rfl) t ht)
    refine fe_s 1 (pc' := cond (fx_cb .eq 0 0) 60 27) (lc' := [(1, .int (nI (3646 + (5 * NW)))), (0, .ref 0)]) (stk' := []) (mem' := fm gn1 tp bt a bn1) (fun _ _ _ => rfl) ?_
    rw [show (fx_cb .eq 0 0) = true from by decide]
    dsimp only [cond]
    refine fe_s 1 (pc' := 61) (lc' := [(1, .int (nI (3646 + (5 * NW)))), (0, .ref 0)]) (stk' := [.int 0]) (mem' := fm gn1 tp bt a bn1) (fun _ _ _ => rfl) ?_
    exact fe_ret ⟨_, _, _, _, _, _, _, _, gon1, bNn1, hN, Or.inl ⟨rfl, hzn1⟩, rfl⟩ (by rfl) (by rfl) (by rfl)
  · have e18n1 : gn1 18 = g 18 := hen1.trans rfl
    have prn1 : gn1 12 = 0 ∨ E < En1 := hpn1.imp id (fun z => by have := (fm_gx_rf hxp hfl).2.2.2; omega)
    have bNn1 : ∀ t, t ≠ 2 → bn1 t = b t := fun t ht => (congrFun hbn1 t).trans ((fm_uL_t ht).trans ((fun _ _ => rfl) t ht))
    have hcn1 : NW < 8 := by have := hN.2.2.1.2.1; have := hN.2.2.1.2.2.2; omega
    refine fe_s 1 (pc' := cond (fx_cb .eq 1 0) 60 27) (lc' := [(1, .int (nI (3646 + (5 * NW)))), (0, .ref 0)]) (stk' := []) (mem' := fm gn1 tp bt a bn1) (fun _ _ _ => rfl) ?_
    rw [show (fx_cb .eq 1 0) = false from by decide]
    dsimp only [cond]
    refine fe_s 3 (pc' := 32) (lc' := [(1, .int (nI (3646 + (5 * NW)))), (0, .ref 0)]) (stk' := [.int 9, .ref 22, .ref 0]) (mem' := fm gn1 tp bt a bn1) (fun _ _ _ => rfl) ?_
    obtain ⟨xc2, gc2, Ec2, Fc2, hfrc2, hoc2, hvc2⟩ := fr_wantWordq (k := 9) (g := gn1) (tp := tp) (bt := bt) (a := a) (b := bn1) gon1.2.1 gon1.2.2.1
    have goc2 := fm_gx_tr gon1 hoc2
    refine fe_ivV hfrc2 (by omega) (by rfl) (by rfl) (by rfl) (by rfl) (by rfl) (by rfl) ?_
    rcases hvc2 with ⟨rfl, hzc2⟩ | ⟨rfl, hec2, hpc2⟩
    · refine fe_s 1 (pc' := cond (fx_cb .eq 0 0) 60 38) (lc' := [(1, .int (nI (3646 + (5 * NW)))), (0, .ref 0)]) (stk' := []) (mem' := fm gc2 tp bt a bn1) (fun _ _ _ => rfl) ?_
      rw [show (fx_cb .eq 0 0) = true from by decide]
      dsimp only [cond]
      refine fe_s 1 (pc' := 61) (lc' := [(1, .int (nI (3646 + (5 * NW)))), (0, .ref 0)]) (stk' := [.int 0]) (mem' := fm gc2 tp bt a bn1) (fun _ _ _ => rfl) ?_
      exact fe_ret ⟨_, _, _, _, _, _, _, _, goc2, bNn1, hN, Or.inl ⟨rfl, hzc2⟩, rfl⟩ (by rfl) (by rfl) (by rfl)
    · have e18c2 : gc2 18 = g 18 := hec2.trans e18n1
      have prc2 : gc2 12 = 0 ∨ E < Ec2 := hpc2.imp id (fun z => by have := gon1.2.2.2; omega)
      refine fe_s 1 (pc' := cond (fx_cb .eq 1 0) 60 38) (lc' := [(1, .int (nI (3646 + (5 * NW)))), (0, .ref 0)]) (stk' := []) (mem' := fm gc2 tp bt a bn1) (fun _ _ _ => rfl) ?_
      rw [show (fx_cb .eq 1 0) = false from by decide]
      dsimp only [cond]
      refine fe_s 4 (pc' := 43) (lc' := [(1, .int (nI (3646 + (5 * NW)))), (0, .ref 0)]) (stk' := [.int 99, .int 1, .int (nI (3646 + (5 * NW))), .ref 0]) (mem' := fm gc2 tp bt a bn1) (fun _ _ _ => rfl) ?_
      obtain ⟨xm3, gm3, Em3, Fm3, am3, hfrm3, hom3, hvm3⟩ := fr_numberq (T := 3646 + (5 * NW)) (lo := 1) (hi := 99) (g := gc2) (tp := tp) (bt := bt) (a := a) (b := bn1) (by omega) goc2.2.1 goc2.2.2.1
      have gom3 := fm_gx_tr goc2 hom3
      refine fe_ivV hfrm3 (by omega) (by rfl) (by rfl) (by rfl) (by rfl) (by rfl) (by rfl) ?_
      rcases hvm3 with ⟨rfl, hzm3, ham3⟩ | ⟨rfl, hem3, hpm3, ym3, hlm3, hum3, ham3⟩
      · have hNm3 : fm_N a0 am3 NC NW := by rw [ham3]; exact hN
        refine fe_s 1 (pc' := cond (fx_cb .eq 0 0) 60 49) (lc' := [(1, .int (nI (3646 + (5 * NW)))), (0, .ref 0)]) (stk' := []) (mem' := fm gm3 tp bt am3 bn1) (fun _ _ _ => rfl) ?_
        rw [show (fx_cb .eq 0 0) = true from by decide]
        dsimp only [cond]
        refine fe_s 1 (pc' := 61) (lc' := [(1, .int (nI (3646 + (5 * NW)))), (0, .ref 0)]) (stk' := [.int 0]) (mem' := fm gm3 tp bt am3 bn1) (fun _ _ _ => rfl) ?_
        exact fe_ret ⟨_, _, _, _, _, _, _, _, gom3, bNn1, hNm3, Or.inl ⟨rfl, hzm3⟩, rfl⟩ (by rfl) (by rfl) (by rfl)
      · have e18m3 : gm3 18 = g 18 := hem3.trans e18c2
        have prm3 : gm3 12 = 0 ∨ E < Em3 := hpm3.imp id (fun z => by have := goc2.2.2.2; omega)
        have hNm3 : fm_N a0 am3 NC NW := by rw [ham3]; exact fm_N_u hN (by omega) (by omega) (fun c hc => by omega) (fm_full (show gm_at (3646 + (5 * NW)) = (-2147483648, 2147483647) from by rw [show 3646 + (5 * NW) = 3646 + 5 * NW by omega]; exact gm_at_w0 NW (by omega)))
        have hWm3 : fm_NW am3 := by rw [ham3]; exact fm_NW_u hW (Or.inr (fun w hw => by omega))
        refine fe_s 1 (pc' := cond (fx_cb .eq 1 0) 60 49) (lc' := [(1, .int (nI (3646 + (5 * NW)))), (0, .ref 0)]) (stk' := []) (mem' := fm gm3 tp bt am3 bn1) (fun _ _ _ => rfl) ?_
        rw [show (fx_cb .eq 1 0) = false from by decide]
        dsimp only [cond]
        refine fe_s 3 (pc' := 54) (lc' := [(1, .int (nI (3646 + (5 * NW)))), (0, .ref 0)]) (stk' := [.int 10, .ref 22, .ref 0]) (mem' := fm gm3 tp bt am3 bn1) (fun _ _ _ => rfl) ?_
        obtain ⟨xc4, gc4, Ec4, Fc4, hfrc4, hoc4, hvc4⟩ := fr_wantWordq (k := 10) (g := gm3) (tp := tp) (bt := bt) (a := am3) (b := bn1) gom3.2.1 gom3.2.2.1
        have goc4 := fm_gx_tr gom3 hoc4
        refine fe_ivV hfrc4 (by omega) (by rfl) (by rfl) (by rfl) (by rfl) (by rfl) (by rfl) ?_
        rcases hvc4 with ⟨rfl, hzc4⟩ | ⟨rfl, hec4, hpc4⟩
        · refine fe_s 1 (pc' := cond (fx_cb .ne 0 0) 62 60) (lc' := [(1, .int (nI (3646 + (5 * NW)))), (0, .ref 0)]) (stk' := []) (mem' := fm gc4 tp bt am3 bn1) (fun _ _ _ => rfl) ?_
          rw [show (fx_cb .ne 0 0) = false from by decide]
          dsimp only [cond]
          refine fe_s 1 (pc' := 61) (lc' := [(1, .int (nI (3646 + (5 * NW)))), (0, .ref 0)]) (stk' := [.int 0]) (mem' := fm gc4 tp bt am3 bn1) (fun _ _ _ => rfl) ?_
          exact fe_ret ⟨_, _, _, _, _, _, _, _, goc4, bNn1, hNm3, Or.inl ⟨rfl, hzc4⟩, rfl⟩ (by rfl) (by rfl) (by rfl)
        · have e18c4 : gc4 18 = g 18 := hec4.trans e18m3
          have prc4 : gc4 12 = 0 ∨ E < Ec4 := hpc4.imp id (fun z => by have := gom3.2.2.2; omega)
          refine fe_s 1 (pc' := cond (fx_cb .ne 1 0) 62 60) (lc' := [(1, .int (nI (3646 + (5 * NW)))), (0, .ref 0)]) (stk' := []) (mem' := fm gc4 tp bt am3 bn1) (fun _ _ _ => rfl) ?_
          rw [show (fx_cb .ne 1 0) = true from by decide]
          dsimp only [cond]
          refine fe_s 1 (pc' := 63) (lc' := [(1, .int (nI (3646 + (5 * NW)))), (0, .ref 0)]) (stk' := [.ref 0]) (mem' := fm gc4 tp bt am3 bn1) (fun _ _ _ => rfl) ?_
          obtain ⟨vh5, memh5, ⟨qh5, xh5, hqh5, hvh5, hRh5⟩, hfrh5⟩ := fr_cellHere (g := gc4) (tp := tp) (bt := bt) (a := am3) (b := bn1) goc4.2.1 hNm3.2.2.1
          cases hRh5
          refine fe_ivV hfrh5 (by omega) (by rfl) (by rfl) (by rfl) (by rfl) (by rfl) (by rfl) ?_
          rcases fm_ch hvh5 with ⟨rfl, hmh5⟩ | ⟨kh5, hkh5, rfl⟩
          · refine fe_s 3 (pc' := 69) (lc' := [(2, .int (-1)), (1, .int (nI (3646 + (5 * NW)))), (0, .ref 0)]) (stk' := [.int (-1), .int (-1)]) (mem' := fm gc4 tp bt am3 bn1) (fun _ _ _ => rfl) ?_
            refine fe_s 1 (pc' := cond (fx_cb .eq (-1) (-1)) 86 72) (lc' := [(2, .int (-1)), (1, .int (nI (3646 + (5 * NW)))), (0, .ref 0)]) (stk' := []) (mem' := fm gc4 tp bt am3 bn1) (fun _ _ _ => rfl) ?_
            rw [show (fx_cb .eq (-1) (-1)) = true from by decide]
            dsimp only [cond]
            refine fe_s 5 (pc' := 96) (lc' := [(2, .int (-1)), (1, .int (nI (3646 + (5 * NW)))), (0, .ref 0)]) (stk' := [.int 3368, .ref 1, .int 72, .ref 0]) (mem' := fm gc4 tp bt am3 bn1) (fun _ _ _ => rfl) ?_
            refine fe_ldI (by rfl) (by rfl) (fx_inN (i := 3368) (by omega) (by omega)) ?_
            rw [show Int32.toNatClampNeg (3368) = 3368 from rfl]
            rw [hNm3.2.2.1.1]
            refine fe_s 3 (pc' := 100) (lc' := [(2, .int (-1)), (1, .int (nI (3646 + (5 * NW)))), (0, .ref 0)]) (stk' := [.int ((nI (3646 + (5 * NW))) + 1), .int (nI NC), .int 72, .ref 0]) (mem' := fm gc4 tp bt am3 bn1) (fun _ _ _ => rfl) ?_
            rw [show ((nI (3646 + (5 * NW))) + 1 : Int32) = nI ((3646 + (5 * NW)) + 1) from by simp only [show (1 : Int32) = nI 1 from rfl, nI_add, fm_mul]]
            obtain ⟨xo6, go6, Eo6, Fo6, ao6, hfro6, hoo6, hvo6⟩ := fr_oldOneq (T := (3646 + (5 * NW)) + 1) (base := 72) (many := NC) (g := gc4) (tp := tp) (bt := bt) (a := am3) (b := bn1) (by omega) (by have := hNm3.2.2.1.2.1; omega) goc4.2.1 goc4.2.2.1
            have goo6 := fm_gx_tr goc4 hoo6
            refine fe_ivV hfro6 (by omega) (by rfl) (by rfl) (by rfl) (by rfl) (by rfl) (by rfl) ?_
            rcases hvo6 with ⟨rfl, hzo6, hao6⟩ | ⟨rfl, heo6, hpo6, hso6, ko6, hko6, hio6, hao6⟩
            · have hNo6 : fm_N a0 ao6 NC NW := by
                rcases hao6 with e | ⟨y, hy, e⟩
                · rw [e]; exact hNm3
                · rw [e, hy]; exact fm_N_u hNm3 (by omega) (by omega) (fun c hc => by omega) (fm_bdI (show gm_at ((3646 + (5 * NW)) + 1) = (-1, 9) from by rw [show (3646 + (5 * NW)) + 1 = 3647 + 5 * NW by omega]; exact gm_at_w1 NW (by omega)) (by decide) (by decide))
              refine fe_s 1 (pc' := cond (fx_cb .ne 0 0) 108 106) (lc' := [(2, .int (-1)), (1, .int (nI (3646 + (5 * NW)))), (0, .ref 0)]) (stk' := []) (mem' := fm go6 tp bt ao6 bn1) (fun _ _ _ => rfl) ?_
              rw [show (fx_cb .ne 0 0) = false from by decide]
              dsimp only [cond]
              refine fe_s 1 (pc' := 107) (lc' := [(2, .int (-1)), (1, .int (nI (3646 + (5 * NW)))), (0, .ref 0)]) (stk' := [.int 0]) (mem' := fm go6 tp bt ao6 bn1) (fun _ _ _ => rfl) ?_
              exact fe_ret ⟨_, _, _, _, _, _, _, _, goo6, bNn1, hNo6, Or.inl ⟨rfl, hzo6⟩, rfl⟩ (by rfl) (by rfl) (by rfl)
            · exact absurd (fm_chx hmh5 (fr_det hqh5 hso6).1 (by have := hNm3.2.2.1.2.1; omega) hio6) id
          · have hk9h5 : kh5 < 10 := by have := hNm3.2.2.1.2.1; omega
            refine fe_s 3 (pc' := 69) (lc' := [(2, .int (nI kh5)), (1, .int (nI (3646 + (5 * NW)))), (0, .ref 0)]) (stk' := [.int (-1), .int (nI kh5)]) (mem' := fm gc4 tp bt am3 bn1) (fun _ _ _ => rfl) ?_
            refine fe_s 1 (pc' := cond (fx_cb .eq (nI kh5) (-1)) 86 72) (lc' := [(2, .int (nI kh5)), (1, .int (nI (3646 + (5 * NW)))), (0, .ref 0)]) (stk' := []) (mem' := fm gc4 tp bt am3 bn1) (fun _ _ _ => rfl) ?_
            rw [show (fx_cb .eq (nI kh5) (-1)) = false from cb_n_eq (by omega) (by decide)]
            dsimp only [cond]
            refine fe_s 2 (pc' := 74) (lc' := [(2, .int (nI kh5)), (1, .int (nI (3646 + (5 * NW)))), (0, .ref 0)]) (stk' := [.int (nI kh5), .ref 0]) (mem' := fm gc4 tp bt am3 bn1) (fun _ _ _ => rfl) ?_
            obtain ⟨vs7, mems7, ⟨xs7, hxs7, hRs7⟩, hfrs7⟩ := fr_isNewShore (C := kh5) (g := gc4) (tp := tp) (bt := bt) (a := am3) (b := bn1) (by omega)
            cases hRs7
            refine fe_ivV hfrs7 (by omega) (by rfl) (by rfl) (by rfl) (by rfl) (by rfl) (by rfl) ?_
            rcases hxs7 with rfl | rfl
            · refine fe_s 1 (pc' := cond (fx_cb .ne 0 0) 86 80) (lc' := [(2, .int (nI kh5)), (1, .int (nI (3646 + (5 * NW)))), (0, .ref 0)]) (stk' := []) (mem' := fm gc4 tp bt am3 bn1) (fun _ _ _ => rfl) ?_
              rw [show (fx_cb .ne 0 0) = false from by decide]
              dsimp only [cond]
              refine fe_s 2 (pc' := 82) (lc' := [(2, .int (nI kh5)), (1, .int (nI (3646 + (5 * NW)))), (0, .ref 0)]) (stk' := [.int 5, .ref 0]) (mem' := fm gc4 tp bt am3 bn1) (fun _ _ _ => rfl) ?_
              obtain ⟨gf8, hfrf8, hof8, hzf8⟩ := fr_failsq (x := 5) (g := gc4) (tp := tp) (bt := bt) (a := am3) (b := bn1) (by omega) (by omega) goc4.2.1 goc4.2.2.1
              have gof8 := fm_gx_tr goc4 hof8
              refine fe_ivV hfrf8 (by omega) (by rfl) (by rfl) (by rfl) (by rfl) (by rfl) (by rfl) ?_
              exact fe_ret ⟨_, _, _, _, _, _, _, _, gof8, bNn1, hNm3, Or.inl ⟨rfl, hzf8⟩, rfl⟩ (by rfl) (by rfl) (by rfl)
            · refine fe_s 1 (pc' := cond (fx_cb .ne 1 0) 86 80) (lc' := [(2, .int (nI kh5)), (1, .int (nI (3646 + (5 * NW)))), (0, .ref 0)]) (stk' := []) (mem' := fm gc4 tp bt am3 bn1) (fun _ _ _ => rfl) ?_
              rw [show (fx_cb .ne 1 0) = true from by decide]
              dsimp only [cond]
              refine fe_s 5 (pc' := 96) (lc' := [(2, .int (nI kh5)), (1, .int (nI (3646 + (5 * NW)))), (0, .ref 0)]) (stk' := [.int 3368, .ref 1, .int 72, .ref 0]) (mem' := fm gc4 tp bt am3 bn1) (fun _ _ _ => rfl) ?_
              refine fe_ldI (by rfl) (by rfl) (fx_inN (i := 3368) (by omega) (by omega)) ?_
              rw [show Int32.toNatClampNeg (3368) = 3368 from rfl]
              rw [hNm3.2.2.1.1]
              refine fe_s 3 (pc' := 100) (lc' := [(2, .int (nI kh5)), (1, .int (nI (3646 + (5 * NW)))), (0, .ref 0)]) (stk' := [.int ((nI (3646 + (5 * NW))) + 1), .int (nI NC), .int 72, .ref 0]) (mem' := fm gc4 tp bt am3 bn1) (fun _ _ _ => rfl) ?_
              rw [show ((nI (3646 + (5 * NW))) + 1 : Int32) = nI ((3646 + (5 * NW)) + 1) from by simp only [show (1 : Int32) = nI 1 from rfl, nI_add, fm_mul]]
              obtain ⟨xo9, go9, Eo9, Fo9, ao9, hfro9, hoo9, hvo9⟩ := fr_oldOneq (T := (3646 + (5 * NW)) + 1) (base := 72) (many := NC) (g := gc4) (tp := tp) (bt := bt) (a := am3) (b := bn1) (by omega) (by have := hNm3.2.2.1.2.1; omega) goc4.2.1 goc4.2.2.1
              have goo9 := fm_gx_tr goc4 hoo9
              refine fe_ivV hfro9 (by omega) (by rfl) (by rfl) (by rfl) (by rfl) (by rfl) (by rfl) ?_
              rcases hvo9 with ⟨rfl, hzo9, hao9⟩ | ⟨rfl, heo9, hpo9, hso9, ko9, hko9, hio9, hao9⟩
              · have hNo9 : fm_N a0 ao9 NC NW := by
                  rcases hao9 with e | ⟨y, hy, e⟩
                  · rw [e]; exact hNm3
                  · rw [e, hy]; exact fm_N_u hNm3 (by omega) (by omega) (fun c hc => by omega) (fm_bdI (show gm_at ((3646 + (5 * NW)) + 1) = (-1, 9) from by rw [show (3646 + (5 * NW)) + 1 = 3647 + 5 * NW by omega]; exact gm_at_w1 NW (by omega)) (by decide) (by decide))
                refine fe_s 1 (pc' := cond (fx_cb .ne 0 0) 108 106) (lc' := [(2, .int (nI kh5)), (1, .int (nI (3646 + (5 * NW)))), (0, .ref 0)]) (stk' := []) (mem' := fm go9 tp bt ao9 bn1) (fun _ _ _ => rfl) ?_
                rw [show (fx_cb .ne 0 0) = false from by decide]
                dsimp only [cond]
                refine fe_s 1 (pc' := 107) (lc' := [(2, .int (nI kh5)), (1, .int (nI (3646 + (5 * NW)))), (0, .ref 0)]) (stk' := [.int 0]) (mem' := fm go9 tp bt ao9 bn1) (fun _ _ _ => rfl) ?_
                exact fe_ret ⟨_, _, _, _, _, _, _, _, goo9, bNn1, hNo9, Or.inl ⟨rfl, hzo9⟩, rfl⟩ (by rfl) (by rfl) (by rfl)
              · have e18o9 : go9 18 = g 18 := heo9.trans e18c4
                have pro9 : go9 12 = 0 ∨ E < Eo9 := hpo9.imp id (fun z => by have := goc4.2.2.2; omega)
                have hk9o9 : ko9 < 10 := by have := hNm3.2.2.1.2.1; omega
                have hNo9 : fm_N a0 ao9 NC NW := by rw [hao9]; exact fm_N_u hNm3 (by omega) (by omega) (fun c hc => by omega) (fm_bdI (show gm_at ((3646 + (5 * NW)) + 1) = (-1, 9) from by rw [show (3646 + (5 * NW)) + 1 = 3647 + 5 * NW by omega]; exact gm_at_w1 NW (by omega)) (by rw [nI_i32 (by omega)]; omega) (by rw [nI_i32 (by omega)]; omega))
                have hWo9 : fm_NW ao9 := by rw [hao9]; exact fm_NW_u hWm3 (Or.inl (by rw [nI_i32 (by omega)]; omega))
                refine fe_s 1 (pc' := cond (fx_cb .ne 1 0) 108 106) (lc' := [(2, .int (nI kh5)), (1, .int (nI (3646 + (5 * NW)))), (0, .ref 0)]) (stk' := []) (mem' := fm go9 tp bt ao9 bn1) (fun _ _ _ => rfl) ?_
                rw [show (fx_cb .ne 1 0) = true from by decide]
                dsimp only [cond]
                refine fe_s 4 (pc' := 116) (lc' := [(2, .int (nI kh5)), (1, .int (nI (3646 + (5 * NW)))), (0, .ref 0)]) (stk' := [.int 3369, .ref 1, .int 3369, .ref 1]) (mem' := fm go9 tp bt ao9 bn1) (fun _ _ _ => rfl) ?_
                refine fe_ldI (by rfl) (by rfl) (fx_inN (i := 3369) (by omega) (by omega)) ?_
                rw [show Int32.toNatClampNeg (3369) = 3369 from rfl]
                rw [hNo9.2.2.1.2.2.1]
                refine fe_s 2 (pc' := 119) (lc' := [(2, .int (nI kh5)), (1, .int (nI (3646 + (5 * NW)))), (0, .ref 0)]) (stk' := [.int ((nI NW) + 1), .int 3369, .ref 1]) (mem' := fm go9 tp bt ao9 bn1) (fun _ _ _ => rfl) ?_
                rw [show ((nI NW) + 1 : Int32) = nI (NW + 1) from by simp only [show (1 : Int32) = nI 1 from rfl, nI_add, fm_mul]]
                refine fe_stI (mem' := fm go9 tp bt (fm_u ao9 1 (3369 : Int32).toNatClampNeg (nI (NW + 1))) bn1) (by rfl) (by rfl) (fx_inN (i := 3369) (by omega) (by omega)) fm_si1 ?_
                rw [show Int32.toNatClampNeg (3369) = 3369 from rfl]
                obtain ⟨at10, hat10⟩ : ∃ z, z = fm_u ao9 1 (3369) (nI (NW + 1)) := ⟨_, rfl⟩
                rw [← hat10]
                have hNt10 : fm_N a0 at10 NC (NW + 1) := by rw [hat10]; exact fm_N_nw hNo9 (by omega)
                have hWt10 : fm_NW at10 := by rw [hat10]; exact fm_NW_u hWo9 (Or.inr (fun w hw => by omega))
                refine fe_s 1 (pc' := 121) (lc' := [(2, .int (nI kh5)), (1, .int (nI (3646 + (5 * NW)))), (0, .ref 0)]) (stk' := [.int 1]) (mem' := fm go9 tp bt at10 bn1) (fun _ _ _ => rfl) ?_
                exact fe_ret ⟨_, _, _, _, _, _, _, _, goo9, bNn1, hNt10, Or.inr ⟨rfl, e18o9, pro9, hWt10⟩, rfl⟩ (by rfl) (by rfl) (by rfl)
set_option maxHeartbeats 4000000 in
theorem fr_once5 {S E F NC NW : Nat} (hxp : fm_xp g S E F) (hfl : fm_flt g) (hN : fm_N a0 a NC NW) (hW : fm_NW a) : ∃ (v : Option Value) (mem' : fx_M), (fm_GL a0 g tp bt b S E) (v, mem') ∧ fr_T 8 244 [.ref 0, .int 5] (fm g tp bt a b) v mem' := by
  have hNC := hN.2.2.1.2.1
  have hNW := hN.2.2.1.2.2.2
  refine fe_meth (F := fm_GL a0 g tp bt b S E) (M := gk_m244) (by rfl) (by rfl) ?_
  refine fe_s 7 (pc' := 9) (lc' := [(0, .ref 0), (1, .int 5)]) (stk' := [.int 1, .int (((g 20) >>> (5 &&& 31)) &&& 1)]) (mem' := fm g tp bt a b) (fun _ _ _ => rfl) ?_
  refine fe_s 1 (pc' := cond (fx_cb .ne (((g 20) >>> (5 &&& 31)) &&& 1) 1) 18 12) (lc' := [(0, .ref 0), (1, .int 5)]) (stk' := []) (mem' := fm g tp bt a b) (fun _ _ _ => rfl) ?_
  cases h1 : fx_cb .ne (((g 20) >>> (5 &&& 31)) &&& 1) 1
  · refine fe_s 2 (pc' := 14) (lc' := [(0, .ref 0), (1, .int 5)]) (stk' := [.int 5, .ref 0]) (mem' := fm g tp bt a b) (fun _ _ _ => rfl) ?_
    obtain ⟨gf2, hfrf2, hof2, hzf2⟩ := fr_failsq (x := 5) (g := g) (tp := tp) (bt := bt) (a := a) (b := b) (by omega) (by omega) (fm_gx_rf hxp hfl).2.1 (fm_gx_rf hxp hfl).2.2.1
    have gof2 := fm_gx_tr (fm_gx_rf hxp hfl) hof2
    refine fe_ivV hfrf2 (by omega) (by rfl) (by rfl) (by rfl) (by rfl) (by rfl) (by rfl) ?_
    exact fe_ret ⟨_, _, _, _, _, _, _, _, gof2, (fun _ _ => rfl), hN, Or.inl ⟨rfl, hzf2⟩, rfl⟩ (by rfl) (by rfl) (by rfl)
  · refine fe_s 9 (pc' := 31) (lc' := [(0, .ref 0), (1, .int 5)]) (stk' := [.ref 0]) (mem' := fm (upd g 20 ((g 20) ||| ((1 : Int32) <<< (5 &&& 31)))) tp bt a b) (fun _ _ _ => rfl) ?_
    obtain ⟨gk3, Ek3, Fk3, hfrk3, hok3, hek3, hpk3⟩ := fr_aheadq (g := (upd g 20 ((g 20) ||| ((1 : Int32) <<< (5 &&& 31))))) (tp := tp) (bt := bt) (a := a) (b := b) (fm_gx_up (fm_gx_rf hxp hfl) (by decide)).2.1 (fm_gx_up (fm_gx_rf hxp hfl) (by decide)).2.2.1
    have gok3 := fm_gx_tr (fm_gx_up (fm_gx_rf hxp hfl) (by decide)) hok3
    have e18k3 : gk3 18 = g 18 := hek3.trans ((pk_un (by decide)).trans rfl)
    have prk3 : gk3 12 = 0 ∨ E < Ek3 := hpk3.imp id (fun z => by have := (fm_gx_rf hxp hfl).2.2.2; omega)
    refine fe_ivV hfrk3 (by omega) (by rfl) (by rfl) (by rfl) (by rfl) (by rfl) (by rfl) ?_
    refine fe_s 8 (pc' := 45) (lc' := [(0, .ref 0), (1, .int 5)]) (stk' := [.int 6, .int 5, .int ((3370 + 5) - 5), .ref 0]) (mem' := fm gk3 tp bt a b) (fun _ _ _ => rfl) ?_
    rw [show ((3370 + 5) - 5 : Int32) = 3370 from rfl]
    refine fe_s 1 (pc' := cond (fx_cb .ne 5 6) 52 48) (lc' := [(0, .ref 0), (1, .int 5)]) (stk' := [.int 3370, .ref 0]) (mem' := fm gk3 tp bt a b) (fun _ _ _ => rfl) ?_
    rw [show (fx_cb .ne 5 6) = true from by decide]
    dsimp only [cond]
    refine fe_s 2 (pc' := 55) (lc' := [(0, .ref 0), (1, .int 5)]) (stk' := [.int 20, .int 0, .int 3370, .ref 0]) (mem' := fm gk3 tp bt a b) (fun _ _ _ => rfl) ?_
    obtain ⟨xm4, gm4, Em4, Fm4, am4, hfrm4, hom4, hvm4⟩ := fr_numberq (T := 3370) (lo := 0) (hi := 20) (g := gk3) (tp := tp) (bt := bt) (a := a) (b := b) (by omega) gok3.2.1 gok3.2.2.1
    have gom4 := fm_gx_tr gok3 hom4
    refine fe_ivV hfrm4 (by omega) (by rfl) (by rfl) (by rfl) (by rfl) (by rfl) (by rfl) ?_
    rcases hvm4 with ⟨rfl, hzm4, ham4⟩ | ⟨rfl, hem4, hpm4, ym4, hlm4, hum4, ham4⟩
    · have hNm4 : fm_N a0 am4 NC NW := by rw [ham4]; exact hN
      exact fe_ret ⟨_, _, _, _, _, _, _, _, gom4, (fun _ _ => rfl), hNm4, Or.inl ⟨rfl, hzm4⟩, rfl⟩ (by rfl) (by rfl) (by rfl)
    · have e18m4 : gm4 18 = g 18 := hem4.trans e18k3
      have prm4 : gm4 12 = 0 ∨ E < Em4 := hpm4.imp id (fun z => by have := gok3.2.2.2; omega)
      have hNm4 : fm_N a0 am4 NC NW := by rw [ham4]; exact fm_N_u hN (by omega) (by omega) (fun c hc => by omega) (fm_bdI (show gm_at 3370 = (0, 20) from rfl) (by have z := Int32.le_iff_toInt_le.mp hlm4; rw [show ((0 : Int32).toInt) = 0 from rfl] at z; omega) (by have z := Int32.le_iff_toInt_le.mp hum4; rw [show ((20 : Int32).toInt) = 20 from rfl] at z; omega))
      have hWm4 : fm_NW am4 := by rw [ham4]; exact fm_NW_u hW (Or.inr (fun w hw => by omega))
      exact fe_ret ⟨_, _, _, _, _, _, _, _, gom4, (fun _ _ => rfl), hNm4, Or.inr ⟨rfl, e18m4, prm4, hWm4⟩, rfl⟩ (by rfl) (by rfl) (by rfl)
set_option maxHeartbeats 4000000 in
theorem fr_once6 {S E F NC NW : Nat} (hxp : fm_xp g S E F) (hfl : fm_flt g) (hN : fm_N a0 a NC NW) (hW : fm_NW a) : ∃ (v : Option Value) (mem' : fx_M), (fm_GL a0 g tp bt b S E) (v, mem') ∧ fr_T 8 244 [.ref 0, .int 6] (fm g tp bt a b) v mem' := by
  have hNC := hN.2.2.1.2.1
  have hNW := hN.2.2.1.2.2.2
  refine fe_meth (F := fm_GL a0 g tp bt b S E) (M := gk_m244) (by rfl) (by rfl) ?_
  refine fe_s 7 (pc' := 9) (lc' := [(0, .ref 0), (1, .int 6)]) (stk' := [.int 1, .int (((g 20) >>> (6 &&& 31)) &&& 1)]) (mem' := fm g tp bt a b) (fun _ _ _ => rfl) ?_
  refine fe_s 1 (pc' := cond (fx_cb .ne (((g 20) >>> (6 &&& 31)) &&& 1) 1) 18 12) (lc' := [(0, .ref 0), (1, .int 6)]) (stk' := []) (mem' := fm g tp bt a b) (fun _ _ _ => rfl) ?_
  cases h1 : fx_cb .ne (((g 20) >>> (6 &&& 31)) &&& 1) 1
  · refine fe_s 2 (pc' := 14) (lc' := [(0, .ref 0), (1, .int 6)]) (stk' := [.int 5, .ref 0]) (mem' := fm g tp bt a b) (fun _ _ _ => rfl) ?_
    obtain ⟨gf2, hfrf2, hof2, hzf2⟩ := fr_failsq (x := 5) (g := g) (tp := tp) (bt := bt) (a := a) (b := b) (by omega) (by omega) (fm_gx_rf hxp hfl).2.1 (fm_gx_rf hxp hfl).2.2.1
    have gof2 := fm_gx_tr (fm_gx_rf hxp hfl) hof2
    refine fe_ivV hfrf2 (by omega) (by rfl) (by rfl) (by rfl) (by rfl) (by rfl) (by rfl) ?_
    exact fe_ret ⟨_, _, _, _, _, _, _, _, gof2, (fun _ _ => rfl), hN, Or.inl ⟨rfl, hzf2⟩, rfl⟩ (by rfl) (by rfl) (by rfl)
  · refine fe_s 9 (pc' := 31) (lc' := [(0, .ref 0), (1, .int 6)]) (stk' := [.ref 0]) (mem' := fm (upd g 20 ((g 20) ||| ((1 : Int32) <<< (6 &&& 31)))) tp bt a b) (fun _ _ _ => rfl) ?_
    obtain ⟨gk3, Ek3, Fk3, hfrk3, hok3, hek3, hpk3⟩ := fr_aheadq (g := (upd g 20 ((g 20) ||| ((1 : Int32) <<< (6 &&& 31))))) (tp := tp) (bt := bt) (a := a) (b := b) (fm_gx_up (fm_gx_rf hxp hfl) (by decide)).2.1 (fm_gx_up (fm_gx_rf hxp hfl) (by decide)).2.2.1
    have gok3 := fm_gx_tr (fm_gx_up (fm_gx_rf hxp hfl) (by decide)) hok3
    have e18k3 : gk3 18 = g 18 := hek3.trans ((pk_un (by decide)).trans rfl)
    have prk3 : gk3 12 = 0 ∨ E < Ek3 := hpk3.imp id (fun z => by have := (fm_gx_rf hxp hfl).2.2.2; omega)
    refine fe_ivV hfrk3 (by omega) (by rfl) (by rfl) (by rfl) (by rfl) (by rfl) (by rfl) ?_
    refine fe_s 8 (pc' := 45) (lc' := [(0, .ref 0), (1, .int 6)]) (stk' := [.int 6, .int 6, .int ((3370 + 6) - 5), .ref 0]) (mem' := fm gk3 tp bt a b) (fun _ _ _ => rfl) ?_
    rw [show ((3370 + 6) - 5 : Int32) = 3371 from rfl]
    refine fe_s 1 (pc' := cond (fx_cb .ne 6 6) 52 48) (lc' := [(0, .ref 0), (1, .int 6)]) (stk' := [.int 3371, .ref 0]) (mem' := fm gk3 tp bt a b) (fun _ _ _ => rfl) ?_
    rw [show (fx_cb .ne 6 6) = false from by decide]
    dsimp only [cond]
    refine fe_s 3 (pc' := 55) (lc' := [(0, .ref 0), (1, .int 6)]) (stk' := [.int 20, .int 1, .int 3371, .ref 0]) (mem' := fm gk3 tp bt a b) (fun _ _ _ => rfl) ?_
    obtain ⟨xm4, gm4, Em4, Fm4, am4, hfrm4, hom4, hvm4⟩ := fr_numberq (T := 3371) (lo := 1) (hi := 20) (g := gk3) (tp := tp) (bt := bt) (a := a) (b := b) (by omega) gok3.2.1 gok3.2.2.1
    have gom4 := fm_gx_tr gok3 hom4
    refine fe_ivV hfrm4 (by omega) (by rfl) (by rfl) (by rfl) (by rfl) (by rfl) (by rfl) ?_
    rcases hvm4 with ⟨rfl, hzm4, ham4⟩ | ⟨rfl, hem4, hpm4, ym4, hlm4, hum4, ham4⟩
    · have hNm4 : fm_N a0 am4 NC NW := by rw [ham4]; exact hN
      exact fe_ret ⟨_, _, _, _, _, _, _, _, gom4, (fun _ _ => rfl), hNm4, Or.inl ⟨rfl, hzm4⟩, rfl⟩ (by rfl) (by rfl) (by rfl)
    · have e18m4 : gm4 18 = g 18 := hem4.trans e18k3
      have prm4 : gm4 12 = 0 ∨ E < Em4 := hpm4.imp id (fun z => by have := gok3.2.2.2; omega)
      have hNm4 : fm_N a0 am4 NC NW := by rw [ham4]; exact fm_N_u hN (by omega) (by omega) (fun c hc => by omega) (fm_bdI (show gm_at 3371 = (0, 20) from rfl) (by have z := Int32.le_iff_toInt_le.mp hlm4; rw [show ((1 : Int32).toInt) = 1 from rfl] at z; omega) (by have z := Int32.le_iff_toInt_le.mp hum4; rw [show ((20 : Int32).toInt) = 20 from rfl] at z; omega))
      have hWm4 : fm_NW am4 := by rw [ham4]; exact fm_NW_u hW (Or.inr (fun w hw => by omega))
      exact fe_ret ⟨_, _, _, _, _, _, _, _, gom4, (fun _ _ => rfl), hNm4, Or.inr ⟨rfl, e18m4, prm4, hWm4⟩, rfl⟩ (by rfl) (by rfl) (by rfl)
set_option maxHeartbeats 4000000 in
theorem fr_once7 {S E F NC NW : Nat} (hxp : fm_xp g S E F) (hfl : fm_flt g) (hN : fm_N a0 a NC NW) (hW : fm_NW a) : ∃ (v : Option Value) (mem' : fx_M), (fm_GL a0 g tp bt b S E) (v, mem') ∧ fr_T 8 244 [.ref 0, .int 7] (fm g tp bt a b) v mem' := by
  have hNC := hN.2.2.1.2.1
  have hNW := hN.2.2.1.2.2.2
  refine fe_meth (F := fm_GL a0 g tp bt b S E) (M := gk_m244) (by rfl) (by rfl) ?_
  refine fe_s 7 (pc' := 9) (lc' := [(0, .ref 0), (1, .int 7)]) (stk' := [.int 1, .int (((g 20) >>> (7 &&& 31)) &&& 1)]) (mem' := fm g tp bt a b) (fun _ _ _ => rfl) ?_
  refine fe_s 1 (pc' := cond (fx_cb .ne (((g 20) >>> (7 &&& 31)) &&& 1) 1) 18 12) (lc' := [(0, .ref 0), (1, .int 7)]) (stk' := []) (mem' := fm g tp bt a b) (fun _ _ _ => rfl) ?_
  cases h1 : fx_cb .ne (((g 20) >>> (7 &&& 31)) &&& 1) 1
  · refine fe_s 2 (pc' := 14) (lc' := [(0, .ref 0), (1, .int 7)]) (stk' := [.int 5, .ref 0]) (mem' := fm g tp bt a b) (fun _ _ _ => rfl) ?_
    obtain ⟨gf2, hfrf2, hof2, hzf2⟩ := fr_failsq (x := 5) (g := g) (tp := tp) (bt := bt) (a := a) (b := b) (by omega) (by omega) (fm_gx_rf hxp hfl).2.1 (fm_gx_rf hxp hfl).2.2.1
    have gof2 := fm_gx_tr (fm_gx_rf hxp hfl) hof2
    refine fe_ivV hfrf2 (by omega) (by rfl) (by rfl) (by rfl) (by rfl) (by rfl) (by rfl) ?_
    exact fe_ret ⟨_, _, _, _, _, _, _, _, gof2, (fun _ _ => rfl), hN, Or.inl ⟨rfl, hzf2⟩, rfl⟩ (by rfl) (by rfl) (by rfl)
  · refine fe_s 9 (pc' := 31) (lc' := [(0, .ref 0), (1, .int 7)]) (stk' := [.ref 0]) (mem' := fm (upd g 20 ((g 20) ||| ((1 : Int32) <<< (7 &&& 31)))) tp bt a b) (fun _ _ _ => rfl) ?_
    obtain ⟨gk3, Ek3, Fk3, hfrk3, hok3, hek3, hpk3⟩ := fr_aheadq (g := (upd g 20 ((g 20) ||| ((1 : Int32) <<< (7 &&& 31))))) (tp := tp) (bt := bt) (a := a) (b := b) (fm_gx_up (fm_gx_rf hxp hfl) (by decide)).2.1 (fm_gx_up (fm_gx_rf hxp hfl) (by decide)).2.2.1
    have gok3 := fm_gx_tr (fm_gx_up (fm_gx_rf hxp hfl) (by decide)) hok3
    have e18k3 : gk3 18 = g 18 := hek3.trans ((pk_un (by decide)).trans rfl)
    have prk3 : gk3 12 = 0 ∨ E < Ek3 := hpk3.imp id (fun z => by have := (fm_gx_rf hxp hfl).2.2.2; omega)
    refine fe_ivV hfrk3 (by omega) (by rfl) (by rfl) (by rfl) (by rfl) (by rfl) (by rfl) ?_
    refine fe_s 8 (pc' := 45) (lc' := [(0, .ref 0), (1, .int 7)]) (stk' := [.int 6, .int 7, .int ((3370 + 7) - 5), .ref 0]) (mem' := fm gk3 tp bt a b) (fun _ _ _ => rfl) ?_
    rw [show ((3370 + 7) - 5 : Int32) = 3372 from rfl]
    refine fe_s 1 (pc' := cond (fx_cb .ne 7 6) 52 48) (lc' := [(0, .ref 0), (1, .int 7)]) (stk' := [.int 3372, .ref 0]) (mem' := fm gk3 tp bt a b) (fun _ _ _ => rfl) ?_
    rw [show (fx_cb .ne 7 6) = true from by decide]
    dsimp only [cond]
    refine fe_s 2 (pc' := 55) (lc' := [(0, .ref 0), (1, .int 7)]) (stk' := [.int 20, .int 0, .int 3372, .ref 0]) (mem' := fm gk3 tp bt a b) (fun _ _ _ => rfl) ?_
    obtain ⟨xm4, gm4, Em4, Fm4, am4, hfrm4, hom4, hvm4⟩ := fr_numberq (T := 3372) (lo := 0) (hi := 20) (g := gk3) (tp := tp) (bt := bt) (a := a) (b := b) (by omega) gok3.2.1 gok3.2.2.1
    have gom4 := fm_gx_tr gok3 hom4
    refine fe_ivV hfrm4 (by omega) (by rfl) (by rfl) (by rfl) (by rfl) (by rfl) (by rfl) ?_
    rcases hvm4 with ⟨rfl, hzm4, ham4⟩ | ⟨rfl, hem4, hpm4, ym4, hlm4, hum4, ham4⟩
    · have hNm4 : fm_N a0 am4 NC NW := by rw [ham4]; exact hN
      exact fe_ret ⟨_, _, _, _, _, _, _, _, gom4, (fun _ _ => rfl), hNm4, Or.inl ⟨rfl, hzm4⟩, rfl⟩ (by rfl) (by rfl) (by rfl)
    · have e18m4 : gm4 18 = g 18 := hem4.trans e18k3
      have prm4 : gm4 12 = 0 ∨ E < Em4 := hpm4.imp id (fun z => by have := gok3.2.2.2; omega)
      have hNm4 : fm_N a0 am4 NC NW := by rw [ham4]; exact fm_N_u hN (by omega) (by omega) (fun c hc => by omega) (fm_bdI (show gm_at 3372 = (0, 20) from rfl) (by have z := Int32.le_iff_toInt_le.mp hlm4; rw [show ((0 : Int32).toInt) = 0 from rfl] at z; omega) (by have z := Int32.le_iff_toInt_le.mp hum4; rw [show ((20 : Int32).toInt) = 20 from rfl] at z; omega))
      have hWm4 : fm_NW am4 := by rw [ham4]; exact fm_NW_u hW (Or.inr (fun w hw => by omega))
      exact fe_ret ⟨_, _, _, _, _, _, _, _, gom4, (fun _ _ => rfl), hNm4, Or.inr ⟨rfl, e18m4, prm4, hWm4⟩, rfl⟩ (by rfl) (by rfl) (by rfl)
end F4825_walk
end MH18_0
section MH18_1
/-! ===== fx: the parts of a LAKE, whole ===== -/
section F483_part
variable {g : Nat → Int32} {tp bt : Int64} {a0 a : Nat → Nat → Int32} {b : Nat → Nat → Int64}
set_option maxHeartbeats 16000000 in
theorem fr_lakePart {S E F NC NW : Nat} (hxp : fm_xp g S E F) (hfl : fm_flt g) (hN : fm_N a0 a NC NW) (hW : fm_NW a) : ∃ (v : Option Value) (mem' : fx_M), (fm_GL a0 g tp bt b S E) (v, mem') ∧ fr_T 9 245 [.ref 0] (fm g tp bt a b) v mem' := by
  have hNC := hN.2.2.1.2.1
  have hNW := hN.2.2.1.2.2.2
  refine fe_meth (F := fm_GL a0 g tp bt b S E) (M := gk_m245) (by rfl) (by rfl) ?_
  refine fe_s 2 (pc' := 3) (lc' := [(0, .ref 0)]) (stk' := [.ref 22, .ref 0]) (mem' := fm g tp bt a b) (fun _ _ _ => rfl) ?_
  obtain ⟨vw1, memw1, ⟨xw1, hxw1, hRw1⟩, hfrw1⟩ := fr_inWords (g := g) (tp := tp) (bt := bt) (a := a) (b := b) (fm_gx_rf hxp hfl).2.1
  cases hRw1
  refine fe_ivV hfrw1 (by omega) (by rfl) (by rfl) (by rfl) (by rfl) (by rfl) (by rfl) ?_
  rcases fm_24 hxw1 with rfl | rfl | rfl | rfl | rfl | rfl | rfl | rfl | rfl | rfl | rfl | rfl | rfl | rfl | rfl | rfl | rfl | rfl | rfl | rfl | rfl | rfl | rfl | rfl | rfl
  · refine fe_s 1 (pc' := 125) (lc' := [(0, .ref 0)]) (stk' := []) (mem' := fm g tp bt a b) (fun _ _ _ => rfl) ?_
    refine fe_s 2 (pc' := 127) (lc' := [(0, .ref 0)]) (stk' := [.int 2, .ref 0]) (mem' := fm g tp bt a b) (fun _ _ _ => rfl) ?_
    obtain ⟨gf2, hfrf2, hof2, hzf2⟩ := fr_failsq (x := 2) (g := g) (tp := tp) (bt := bt) (a := a) (b := b) (by omega) (by omega) (fm_gx_rf hxp hfl).2.1 (fm_gx_rf hxp hfl).2.2.1
    have gof2 := fm_gx_tr (fm_gx_rf hxp hfl) hof2
    refine fe_ivV hfrf2 (by omega) (by rfl) (by rfl) (by rfl) (by rfl) (by rfl) (by rfl) ?_
    exact fe_ret ⟨_, _, _, _, _, _, _, _, gof2, (fun _ _ => rfl), hN, Or.inl ⟨rfl, hzf2⟩, rfl⟩ (by rfl) (by rfl) (by rfl)
  · refine fe_s 1 (pc' := 52) (lc' := [(0, .ref 0)]) (stk' := []) (mem' := fm g tp bt a b) (fun _ _ _ => rfl) ?_
    refine fe_s 2 (pc' := 54) (lc' := [(0, .ref 0)]) (stk' := [.int 0, .ref 0]) (mem' := fm g tp bt a b) (fun _ _ _ => rfl) ?_
    obtain ⟨vp3, memp3, ⟨xp3, gp3, Ep3, Fp3, ap3, bp3, NCp3, NWp3, hop3, hbp3, hNp3, hvp3, hRp3⟩, hfrp3⟩ := fr_aCell0 (g := g) (tp := tp) (bt := bt) (a := a) (b := b) (a0 := a0) (fm_gx_rf hxp hfl).2.1 (fm_gx_rf hxp hfl).2.2.1 hN hW
    cases hRp3
    have gop3 := fm_gx_tx (fm_gx_rf hxp hfl) hop3
    have bNp3 : ∀ t, t ≠ 2 → bp3 t = b t := fun t ht => (hbp3 t ht).trans ((fun _ _ => rfl) t ht)
    refine fe_ivV hfrp3 (by omega) (by rfl) (by rfl) (by rfl) (by rfl) (by rfl) (by rfl) ?_
    rcases hvp3 with ⟨rfl, hzp3⟩ | ⟨rfl, hep3, hpp3, hWp3⟩
    · refine fe_s 3 (pc' := 132) (lc' := [(1, .int 0), (0, .ref 0)]) (stk' := [.int 0]) (mem' := fm gp3 tp bt ap3 bp3) (fun _ _ _ => rfl) ?_
      refine fe_s 1 (pc' := cond (fx_cb .eq 0 0) 148 135) (lc' := [(1, .int 0), (0, .ref 0)]) (stk' := []) (mem' := fm gp3 tp bt ap3 bp3) (fun _ _ _ => rfl) ?_
      rw [show (fx_cb .eq 0 0) = true from by decide]
      dsimp only [cond]
      refine fe_s 1 (pc' := 149) (lc' := [(1, .int 0), (0, .ref 0)]) (stk' := [.int 0]) (mem' := fm gp3 tp bt ap3 bp3) (fun _ _ _ => rfl) ?_
      exact fe_ret ⟨_, _, _, _, _, _, _, _, gop3, bNp3, hNp3, Or.inl ⟨rfl, hzp3⟩, rfl⟩ (by rfl) (by rfl) (by rfl)
    · have e18p3 : gp3 18 = g 18 := hep3.trans rfl
      have prp3 : gp3 12 = 0 ∨ E < Ep3 := hpp3.imp id (fun z => by have := (fm_gx_rf hxp hfl).2.2.2; omega)
      refine fe_s 3 (pc' := 132) (lc' := [(1, .int 1), (0, .ref 0)]) (stk' := [.int 1]) (mem' := fm gp3 tp bt ap3 bp3) (fun _ _ _ => rfl) ?_
      refine fe_s 1 (pc' := cond (fx_cb .eq 1 0) 148 135) (lc' := [(1, .int 1), (0, .ref 0)]) (stk' := []) (mem' := fm gp3 tp bt ap3 bp3) (fun _ _ _ => rfl) ?_
      rw [show (fx_cb .eq 1 0) = false from by decide]
      dsimp only [cond]
      refine fe_s 2 (pc' := 138) (lc' := [(1, .int 1), (0, .ref 0)]) (stk' := [.int 59, .ref 0]) (mem' := fm gp3 tp bt ap3 bp3) (fun _ _ _ => rfl) ?_
      obtain ⟨xc4, gc4, Ec4, Fc4, hfrc4, hoc4, hvc4⟩ := fr_wantSignq (c := 59) (g := gp3) (tp := tp) (bt := bt) (a := ap3) (b := bp3) gop3.2.1 gop3.2.2.1
      have goc4 := fm_gx_tr gop3 hoc4
      refine fe_ivV hfrc4 (by omega) (by rfl) (by rfl) (by rfl) (by rfl) (by rfl) (by rfl) ?_
      rcases hvc4 with ⟨rfl, hzc4⟩ | ⟨rfl, hec4, hpc4⟩
      · refine fe_s 1 (pc' := cond (fx_cb .eq 0 0) 148 144) (lc' := [(1, .int 1), (0, .ref 0)]) (stk' := []) (mem' := fm gc4 tp bt ap3 bp3) (fun _ _ _ => rfl) ?_
        rw [show (fx_cb .eq 0 0) = true from by decide]
        dsimp only [cond]
        refine fe_s 1 (pc' := 149) (lc' := [(1, .int 1), (0, .ref 0)]) (stk' := [.int 0]) (mem' := fm gc4 tp bt ap3 bp3) (fun _ _ _ => rfl) ?_
        exact fe_ret ⟨_, _, _, _, _, _, _, _, goc4, bNp3, hNp3, Or.inl ⟨rfl, hzc4⟩, rfl⟩ (by rfl) (by rfl) (by rfl)
      · have e18c4 : gc4 18 = g 18 := hec4.trans e18p3
        have prc4 : gc4 12 = 0 ∨ E < Ec4 := hpc4.imp id (fun z => by have := gop3.2.2.2; omega)
        refine fe_s 1 (pc' := cond (fx_cb .eq 1 0) 148 144) (lc' := [(1, .int 1), (0, .ref 0)]) (stk' := []) (mem' := fm gc4 tp bt ap3 bp3) (fun _ _ _ => rfl) ?_
        rw [show (fx_cb .eq 1 0) = false from by decide]
        dsimp only [cond]
        refine fe_s 2 (pc' := 149) (lc' := [(1, .int 1), (0, .ref 0)]) (stk' := [.int 1]) (mem' := fm gc4 tp bt ap3 bp3) (fun _ _ _ => rfl) ?_
        exact fe_ret ⟨_, _, _, _, _, _, _, _, goc4, bNp3, hNp3, Or.inr ⟨rfl, e18c4, prc4, hWp3⟩, rfl⟩ (by rfl) (by rfl) (by rfl)
  · refine fe_s 1 (pc' := 61) (lc' := [(0, .ref 0)]) (stk' := []) (mem' := fm g tp bt a b) (fun _ _ _ => rfl) ?_
    refine fe_s 2 (pc' := 63) (lc' := [(0, .ref 0)]) (stk' := [.int 1, .ref 0]) (mem' := fm g tp bt a b) (fun _ _ _ => rfl) ?_
    obtain ⟨vp5, memp5, ⟨xp5, gp5, Ep5, Fp5, ap5, bp5, NCp5, NWp5, hop5, hbp5, hNp5, hvp5, hRp5⟩, hfrp5⟩ := fr_aCell1 (g := g) (tp := tp) (bt := bt) (a := a) (b := b) (a0 := a0) (fm_gx_rf hxp hfl).2.1 (fm_gx_rf hxp hfl).2.2.1 hN hW
    cases hRp5
    have gop5 := fm_gx_tx (fm_gx_rf hxp hfl) hop5
    have bNp5 : ∀ t, t ≠ 2 → bp5 t = b t := fun t ht => (hbp5 t ht).trans ((fun _ _ => rfl) t ht)
    refine fe_ivV hfrp5 (by omega) (by rfl) (by rfl) (by rfl) (by rfl) (by rfl) (by rfl) ?_
    rcases hvp5 with ⟨rfl, hzp5⟩ | ⟨rfl, hep5, hpp5, hWp5⟩
    · refine fe_s 3 (pc' := 132) (lc' := [(1, .int 0), (0, .ref 0)]) (stk' := [.int 0]) (mem' := fm gp5 tp bt ap5 bp5) (fun _ _ _ => rfl) ?_
      refine fe_s 1 (pc' := cond (fx_cb .eq 0 0) 148 135) (lc' := [(1, .int 0), (0, .ref 0)]) (stk' := []) (mem' := fm gp5 tp bt ap5 bp5) (fun _ _ _ => rfl) ?_
      rw [show (fx_cb .eq 0 0) = true from by decide]
      dsimp only [cond]
      refine fe_s 1 (pc' := 149) (lc' := [(1, .int 0), (0, .ref 0)]) (stk' := [.int 0]) (mem' := fm gp5 tp bt ap5 bp5) (fun _ _ _ => rfl) ?_
      exact fe_ret ⟨_, _, _, _, _, _, _, _, gop5, bNp5, hNp5, Or.inl ⟨rfl, hzp5⟩, rfl⟩ (by rfl) (by rfl) (by rfl)
    · have e18p5 : gp5 18 = g 18 := hep5.trans rfl
      have prp5 : gp5 12 = 0 ∨ E < Ep5 := hpp5.imp id (fun z => by have := (fm_gx_rf hxp hfl).2.2.2; omega)
      refine fe_s 3 (pc' := 132) (lc' := [(1, .int 1), (0, .ref 0)]) (stk' := [.int 1]) (mem' := fm gp5 tp bt ap5 bp5) (fun _ _ _ => rfl) ?_
      refine fe_s 1 (pc' := cond (fx_cb .eq 1 0) 148 135) (lc' := [(1, .int 1), (0, .ref 0)]) (stk' := []) (mem' := fm gp5 tp bt ap5 bp5) (fun _ _ _ => rfl) ?_
      rw [show (fx_cb .eq 1 0) = false from by decide]
      dsimp only [cond]
      refine fe_s 2 (pc' := 138) (lc' := [(1, .int 1), (0, .ref 0)]) (stk' := [.int 59, .ref 0]) (mem' := fm gp5 tp bt ap5 bp5) (fun _ _ _ => rfl) ?_
      obtain ⟨xc6, gc6, Ec6, Fc6, hfrc6, hoc6, hvc6⟩ := fr_wantSignq (c := 59) (g := gp5) (tp := tp) (bt := bt) (a := ap5) (b := bp5) gop5.2.1 gop5.2.2.1
      have goc6 := fm_gx_tr gop5 hoc6
      refine fe_ivV hfrc6 (by omega) (by rfl) (by rfl) (by rfl) (by rfl) (by rfl) (by rfl) ?_
      rcases hvc6 with ⟨rfl, hzc6⟩ | ⟨rfl, hec6, hpc6⟩
      · refine fe_s 1 (pc' := cond (fx_cb .eq 0 0) 148 144) (lc' := [(1, .int 1), (0, .ref 0)]) (stk' := []) (mem' := fm gc6 tp bt ap5 bp5) (fun _ _ _ => rfl) ?_
        rw [show (fx_cb .eq 0 0) = true from by decide]
        dsimp only [cond]
        refine fe_s 1 (pc' := 149) (lc' := [(1, .int 1), (0, .ref 0)]) (stk' := [.int 0]) (mem' := fm gc6 tp bt ap5 bp5) (fun _ _ _ => rfl) ?_
        exact fe_ret ⟨_, _, _, _, _, _, _, _, goc6, bNp5, hNp5, Or.inl ⟨rfl, hzc6⟩, rfl⟩ (by rfl) (by rfl) (by rfl)
      · have e18c6 : gc6 18 = g 18 := hec6.trans e18p5
        have prc6 : gc6 12 = 0 ∨ E < Ec6 := hpc6.imp id (fun z => by have := gop5.2.2.2; omega)
        refine fe_s 1 (pc' := cond (fx_cb .eq 1 0) 148 144) (lc' := [(1, .int 1), (0, .ref 0)]) (stk' := []) (mem' := fm gc6 tp bt ap5 bp5) (fun _ _ _ => rfl) ?_
        rw [show (fx_cb .eq 1 0) = false from by decide]
        dsimp only [cond]
        refine fe_s 2 (pc' := 149) (lc' := [(1, .int 1), (0, .ref 0)]) (stk' := [.int 1]) (mem' := fm gc6 tp bt ap5 bp5) (fun _ _ _ => rfl) ?_
        exact fe_ret ⟨_, _, _, _, _, _, _, _, goc6, bNp5, hNp5, Or.inr ⟨rfl, e18c6, prc6, hWp5⟩, rfl⟩ (by rfl) (by rfl) (by rfl)
  · refine fe_s 1 (pc' := 70) (lc' := [(0, .ref 0)]) (stk' := []) (mem' := fm g tp bt a b) (fun _ _ _ => rfl) ?_
    refine fe_s 2 (pc' := 72) (lc' := [(0, .ref 0)]) (stk' := [.int 2, .ref 0]) (mem' := fm g tp bt a b) (fun _ _ _ => rfl) ?_
    obtain ⟨vp7, memp7, ⟨xp7, gp7, Ep7, Fp7, ap7, bp7, NCp7, NWp7, hop7, hbp7, hNp7, hvp7, hRp7⟩, hfrp7⟩ := fr_aCouple2 (g := g) (tp := tp) (bt := bt) (a := a) (b := b) (a0 := a0) (fm_gx_rf hxp hfl).2.1 (fm_gx_rf hxp hfl).2.2.1 hN hW
    cases hRp7
    have gop7 := fm_gx_tx (fm_gx_rf hxp hfl) hop7
    have bNp7 : ∀ t, t ≠ 2 → bp7 t = b t := fun t ht => (hbp7 t ht).trans ((fun _ _ => rfl) t ht)
    refine fe_ivV hfrp7 (by omega) (by rfl) (by rfl) (by rfl) (by rfl) (by rfl) (by rfl) ?_
    rcases hvp7 with ⟨rfl, hzp7⟩ | ⟨rfl, hep7, hpp7, hWp7⟩
    · refine fe_s 3 (pc' := 132) (lc' := [(1, .int 0), (0, .ref 0)]) (stk' := [.int 0]) (mem' := fm gp7 tp bt ap7 bp7) (fun _ _ _ => rfl) ?_
      refine fe_s 1 (pc' := cond (fx_cb .eq 0 0) 148 135) (lc' := [(1, .int 0), (0, .ref 0)]) (stk' := []) (mem' := fm gp7 tp bt ap7 bp7) (fun _ _ _ => rfl) ?_
      rw [show (fx_cb .eq 0 0) = true from by decide]
      dsimp only [cond]
      refine fe_s 1 (pc' := 149) (lc' := [(1, .int 0), (0, .ref 0)]) (stk' := [.int 0]) (mem' := fm gp7 tp bt ap7 bp7) (fun _ _ _ => rfl) ?_
      exact fe_ret ⟨_, _, _, _, _, _, _, _, gop7, bNp7, hNp7, Or.inl ⟨rfl, hzp7⟩, rfl⟩ (by rfl) (by rfl) (by rfl)
    · have e18p7 : gp7 18 = g 18 := hep7.trans rfl
      have prp7 : gp7 12 = 0 ∨ E < Ep7 := hpp7.imp id (fun z => by have := (fm_gx_rf hxp hfl).2.2.2; omega)
      refine fe_s 3 (pc' := 132) (lc' := [(1, .int 1), (0, .ref 0)]) (stk' := [.int 1]) (mem' := fm gp7 tp bt ap7 bp7) (fun _ _ _ => rfl) ?_
      refine fe_s 1 (pc' := cond (fx_cb .eq 1 0) 148 135) (lc' := [(1, .int 1), (0, .ref 0)]) (stk' := []) (mem' := fm gp7 tp bt ap7 bp7) (fun _ _ _ => rfl) ?_
      rw [show (fx_cb .eq 1 0) = false from by decide]
      dsimp only [cond]
      refine fe_s 2 (pc' := 138) (lc' := [(1, .int 1), (0, .ref 0)]) (stk' := [.int 59, .ref 0]) (mem' := fm gp7 tp bt ap7 bp7) (fun _ _ _ => rfl) ?_
      obtain ⟨xc8, gc8, Ec8, Fc8, hfrc8, hoc8, hvc8⟩ := fr_wantSignq (c := 59) (g := gp7) (tp := tp) (bt := bt) (a := ap7) (b := bp7) gop7.2.1 gop7.2.2.1
      have goc8 := fm_gx_tr gop7 hoc8
      refine fe_ivV hfrc8 (by omega) (by rfl) (by rfl) (by rfl) (by rfl) (by rfl) (by rfl) ?_
      rcases hvc8 with ⟨rfl, hzc8⟩ | ⟨rfl, hec8, hpc8⟩
      · refine fe_s 1 (pc' := cond (fx_cb .eq 0 0) 148 144) (lc' := [(1, .int 1), (0, .ref 0)]) (stk' := []) (mem' := fm gc8 tp bt ap7 bp7) (fun _ _ _ => rfl) ?_
        rw [show (fx_cb .eq 0 0) = true from by decide]
        dsimp only [cond]
        refine fe_s 1 (pc' := 149) (lc' := [(1, .int 1), (0, .ref 0)]) (stk' := [.int 0]) (mem' := fm gc8 tp bt ap7 bp7) (fun _ _ _ => rfl) ?_
        exact fe_ret ⟨_, _, _, _, _, _, _, _, goc8, bNp7, hNp7, Or.inl ⟨rfl, hzc8⟩, rfl⟩ (by rfl) (by rfl) (by rfl)
      · have e18c8 : gc8 18 = g 18 := hec8.trans e18p7
        have prc8 : gc8 12 = 0 ∨ E < Ec8 := hpc8.imp id (fun z => by have := gop7.2.2.2; omega)
        refine fe_s 1 (pc' := cond (fx_cb .eq 1 0) 148 144) (lc' := [(1, .int 1), (0, .ref 0)]) (stk' := []) (mem' := fm gc8 tp bt ap7 bp7) (fun _ _ _ => rfl) ?_
        rw [show (fx_cb .eq 1 0) = false from by decide]
        dsimp only [cond]
        refine fe_s 2 (pc' := 149) (lc' := [(1, .int 1), (0, .ref 0)]) (stk' := [.int 1]) (mem' := fm gc8 tp bt ap7 bp7) (fun _ _ _ => rfl) ?_
        exact fe_ret ⟨_, _, _, _, _, _, _, _, goc8, bNp7, hNp7, Or.inr ⟨rfl, e18c8, prc8, hWp7⟩, rfl⟩ (by rfl) (by rfl) (by rfl)
  · refine fe_s 1 (pc' := 79) (lc' := [(0, .ref 0)]) (stk' := []) (mem' := fm g tp bt a b) (fun _ _ _ => rfl) ?_
    refine fe_s 2 (pc' := 81) (lc' := [(0, .ref 0)]) (stk' := [.int 3, .ref 0]) (mem' := fm g tp bt a b) (fun _ _ _ => rfl) ?_
    obtain ⟨vp9, memp9, ⟨xp9, gp9, Ep9, Fp9, ap9, bp9, NCp9, NWp9, hop9, hbp9, hNp9, hvp9, hRp9⟩, hfrp9⟩ := fr_aCouple3 (g := g) (tp := tp) (bt := bt) (a := a) (b := b) (a0 := a0) (fm_gx_rf hxp hfl).2.1 (fm_gx_rf hxp hfl).2.2.1 hN hW
    cases hRp9
    have gop9 := fm_gx_tx (fm_gx_rf hxp hfl) hop9
    have bNp9 : ∀ t, t ≠ 2 → bp9 t = b t := fun t ht => (hbp9 t ht).trans ((fun _ _ => rfl) t ht)
    refine fe_ivV hfrp9 (by omega) (by rfl) (by rfl) (by rfl) (by rfl) (by rfl) (by rfl) ?_
    rcases hvp9 with ⟨rfl, hzp9⟩ | ⟨rfl, hep9, hpp9, hWp9⟩
    · refine fe_s 3 (pc' := 132) (lc' := [(1, .int 0), (0, .ref 0)]) (stk' := [.int 0]) (mem' := fm gp9 tp bt ap9 bp9) (fun _ _ _ => rfl) ?_
      refine fe_s 1 (pc' := cond (fx_cb .eq 0 0) 148 135) (lc' := [(1, .int 0), (0, .ref 0)]) (stk' := []) (mem' := fm gp9 tp bt ap9 bp9) (fun _ _ _ => rfl) ?_
      rw [show (fx_cb .eq 0 0) = true from by decide]
      dsimp only [cond]
      refine fe_s 1 (pc' := 149) (lc' := [(1, .int 0), (0, .ref 0)]) (stk' := [.int 0]) (mem' := fm gp9 tp bt ap9 bp9) (fun _ _ _ => rfl) ?_
      exact fe_ret ⟨_, _, _, _, _, _, _, _, gop9, bNp9, hNp9, Or.inl ⟨rfl, hzp9⟩, rfl⟩ (by rfl) (by rfl) (by rfl)
    · have e18p9 : gp9 18 = g 18 := hep9.trans rfl
      have prp9 : gp9 12 = 0 ∨ E < Ep9 := hpp9.imp id (fun z => by have := (fm_gx_rf hxp hfl).2.2.2; omega)
      refine fe_s 3 (pc' := 132) (lc' := [(1, .int 1), (0, .ref 0)]) (stk' := [.int 1]) (mem' := fm gp9 tp bt ap9 bp9) (fun _ _ _ => rfl) ?_
      refine fe_s 1 (pc' := cond (fx_cb .eq 1 0) 148 135) (lc' := [(1, .int 1), (0, .ref 0)]) (stk' := []) (mem' := fm gp9 tp bt ap9 bp9) (fun _ _ _ => rfl) ?_
      rw [show (fx_cb .eq 1 0) = false from by decide]
      dsimp only [cond]
      refine fe_s 2 (pc' := 138) (lc' := [(1, .int 1), (0, .ref 0)]) (stk' := [.int 59, .ref 0]) (mem' := fm gp9 tp bt ap9 bp9) (fun _ _ _ => rfl) ?_
      obtain ⟨xc10, gc10, Ec10, Fc10, hfrc10, hoc10, hvc10⟩ := fr_wantSignq (c := 59) (g := gp9) (tp := tp) (bt := bt) (a := ap9) (b := bp9) gop9.2.1 gop9.2.2.1
      have goc10 := fm_gx_tr gop9 hoc10
      refine fe_ivV hfrc10 (by omega) (by rfl) (by rfl) (by rfl) (by rfl) (by rfl) (by rfl) ?_
      rcases hvc10 with ⟨rfl, hzc10⟩ | ⟨rfl, hec10, hpc10⟩
      · refine fe_s 1 (pc' := cond (fx_cb .eq 0 0) 148 144) (lc' := [(1, .int 1), (0, .ref 0)]) (stk' := []) (mem' := fm gc10 tp bt ap9 bp9) (fun _ _ _ => rfl) ?_
        rw [show (fx_cb .eq 0 0) = true from by decide]
        dsimp only [cond]
        refine fe_s 1 (pc' := 149) (lc' := [(1, .int 1), (0, .ref 0)]) (stk' := [.int 0]) (mem' := fm gc10 tp bt ap9 bp9) (fun _ _ _ => rfl) ?_
        exact fe_ret ⟨_, _, _, _, _, _, _, _, goc10, bNp9, hNp9, Or.inl ⟨rfl, hzc10⟩, rfl⟩ (by rfl) (by rfl) (by rfl)
      · have e18c10 : gc10 18 = g 18 := hec10.trans e18p9
        have prc10 : gc10 12 = 0 ∨ E < Ec10 := hpc10.imp id (fun z => by have := gop9.2.2.2; omega)
        refine fe_s 1 (pc' := cond (fx_cb .eq 1 0) 148 144) (lc' := [(1, .int 1), (0, .ref 0)]) (stk' := []) (mem' := fm gc10 tp bt ap9 bp9) (fun _ _ _ => rfl) ?_
        rw [show (fx_cb .eq 1 0) = false from by decide]
        dsimp only [cond]
        refine fe_s 2 (pc' := 149) (lc' := [(1, .int 1), (0, .ref 0)]) (stk' := [.int 1]) (mem' := fm gc10 tp bt ap9 bp9) (fun _ _ _ => rfl) ?_
        exact fe_ret ⟨_, _, _, _, _, _, _, _, goc10, bNp9, hNp9, Or.inr ⟨rfl, e18c10, prc10, hWp9⟩, rfl⟩ (by rfl) (by rfl) (by rfl)
  · refine fe_s 1 (pc' := 88) (lc' := [(0, .ref 0)]) (stk' := []) (mem' := fm g tp bt a b) (fun _ _ _ => rfl) ?_
    refine fe_s 1 (pc' := 89) (lc' := [(0, .ref 0)]) (stk' := [.ref 0]) (mem' := fm g tp bt a b) (fun _ _ _ => rfl) ?_
    obtain ⟨vp11, memp11, ⟨xp11, gp11, Ep11, Fp11, ap11, bp11, NCp11, NWp11, hop11, hbp11, hNp11, hvp11, hRp11⟩, hfrp11⟩ := fr_aWalker (g := g) (tp := tp) (bt := bt) (a := a) (b := b) (a0 := a0) (fm_gx_rf hxp hfl).2.1 (fm_gx_rf hxp hfl).2.2.1 hN hW
    cases hRp11
    have gop11 := fm_gx_tx (fm_gx_rf hxp hfl) hop11
    have bNp11 : ∀ t, t ≠ 2 → bp11 t = b t := fun t ht => (hbp11 t ht).trans ((fun _ _ => rfl) t ht)
    refine fe_ivV hfrp11 (by omega) (by rfl) (by rfl) (by rfl) (by rfl) (by rfl) (by rfl) ?_
    rcases hvp11 with ⟨rfl, hzp11⟩ | ⟨rfl, hep11, hpp11, hWp11⟩
    · refine fe_s 3 (pc' := 132) (lc' := [(1, .int 0), (0, .ref 0)]) (stk' := [.int 0]) (mem' := fm gp11 tp bt ap11 bp11) (fun _ _ _ => rfl) ?_
      refine fe_s 1 (pc' := cond (fx_cb .eq 0 0) 148 135) (lc' := [(1, .int 0), (0, .ref 0)]) (stk' := []) (mem' := fm gp11 tp bt ap11 bp11) (fun _ _ _ => rfl) ?_
      rw [show (fx_cb .eq 0 0) = true from by decide]
      dsimp only [cond]
      refine fe_s 1 (pc' := 149) (lc' := [(1, .int 0), (0, .ref 0)]) (stk' := [.int 0]) (mem' := fm gp11 tp bt ap11 bp11) (fun _ _ _ => rfl) ?_
      exact fe_ret ⟨_, _, _, _, _, _, _, _, gop11, bNp11, hNp11, Or.inl ⟨rfl, hzp11⟩, rfl⟩ (by rfl) (by rfl) (by rfl)
    · have e18p11 : gp11 18 = g 18 := hep11.trans rfl
      have prp11 : gp11 12 = 0 ∨ E < Ep11 := hpp11.imp id (fun z => by have := (fm_gx_rf hxp hfl).2.2.2; omega)
      refine fe_s 3 (pc' := 132) (lc' := [(1, .int 1), (0, .ref 0)]) (stk' := [.int 1]) (mem' := fm gp11 tp bt ap11 bp11) (fun _ _ _ => rfl) ?_
      refine fe_s 1 (pc' := cond (fx_cb .eq 1 0) 148 135) (lc' := [(1, .int 1), (0, .ref 0)]) (stk' := []) (mem' := fm gp11 tp bt ap11 bp11) (fun _ _ _ => rfl) ?_
      rw [show (fx_cb .eq 1 0) = false from by decide]
      dsimp only [cond]
      refine fe_s 2 (pc' := 138) (lc' := [(1, .int 1), (0, .ref 0)]) (stk' := [.int 59, .ref 0]) (mem' := fm gp11 tp bt ap11 bp11) (fun _ _ _ => rfl) ?_
      obtain ⟨xc12, gc12, Ec12, Fc12, hfrc12, hoc12, hvc12⟩ := fr_wantSignq (c := 59) (g := gp11) (tp := tp) (bt := bt) (a := ap11) (b := bp11) gop11.2.1 gop11.2.2.1
      have goc12 := fm_gx_tr gop11 hoc12
      refine fe_ivV hfrc12 (by omega) (by rfl) (by rfl) (by rfl) (by rfl) (by rfl) (by rfl) ?_
      rcases hvc12 with ⟨rfl, hzc12⟩ | ⟨rfl, hec12, hpc12⟩
      · refine fe_s 1 (pc' := cond (fx_cb .eq 0 0) 148 144) (lc' := [(1, .int 1), (0, .ref 0)]) (stk' := []) (mem' := fm gc12 tp bt ap11 bp11) (fun _ _ _ => rfl) ?_
        rw [show (fx_cb .eq 0 0) = true from by decide]
        dsimp only [cond]
        refine fe_s 1 (pc' := 149) (lc' := [(1, .int 1), (0, .ref 0)]) (stk' := [.int 0]) (mem' := fm gc12 tp bt ap11 bp11) (fun _ _ _ => rfl) ?_
        exact fe_ret ⟨_, _, _, _, _, _, _, _, goc12, bNp11, hNp11, Or.inl ⟨rfl, hzc12⟩, rfl⟩ (by rfl) (by rfl) (by rfl)
      · have e18c12 : gc12 18 = g 18 := hec12.trans e18p11
        have prc12 : gc12 12 = 0 ∨ E < Ec12 := hpc12.imp id (fun z => by have := gop11.2.2.2; omega)
        refine fe_s 1 (pc' := cond (fx_cb .eq 1 0) 148 144) (lc' := [(1, .int 1), (0, .ref 0)]) (stk' := []) (mem' := fm gc12 tp bt ap11 bp11) (fun _ _ _ => rfl) ?_
        rw [show (fx_cb .eq 1 0) = false from by decide]
        dsimp only [cond]
        refine fe_s 2 (pc' := 149) (lc' := [(1, .int 1), (0, .ref 0)]) (stk' := [.int 1]) (mem' := fm gc12 tp bt ap11 bp11) (fun _ _ _ => rfl) ?_
        exact fe_ret ⟨_, _, _, _, _, _, _, _, goc12, bNp11, hNp11, Or.inr ⟨rfl, e18c12, prc12, hWp11⟩, rfl⟩ (by rfl) (by rfl) (by rfl)
  · refine fe_s 1 (pc' := 96) (lc' := [(0, .ref 0)]) (stk' := []) (mem' := fm g tp bt a b) (fun _ _ _ => rfl) ?_
    refine fe_s 2 (pc' := 98) (lc' := [(0, .ref 0)]) (stk' := [.int 5, .ref 0]) (mem' := fm g tp bt a b) (fun _ _ _ => rfl) ?_
    obtain ⟨vp13, memp13, ⟨xp13, gp13, Ep13, Fp13, ap13, bp13, NCp13, NWp13, hop13, hbp13, hNp13, hvp13, hRp13⟩, hfrp13⟩ := fr_once5 (g := g) (tp := tp) (bt := bt) (a := a) (b := b) (a0 := a0) (fm_gx_rf hxp hfl).2.1 (fm_gx_rf hxp hfl).2.2.1 hN hW
    cases hRp13
    have gop13 := fm_gx_tx (fm_gx_rf hxp hfl) hop13
    have bNp13 : ∀ t, t ≠ 2 → bp13 t = b t := fun t ht => (hbp13 t ht).trans ((fun _ _ => rfl) t ht)
    refine fe_ivV hfrp13 (by omega) (by rfl) (by rfl) (by rfl) (by rfl) (by rfl) (by rfl) ?_
    rcases hvp13 with ⟨rfl, hzp13⟩ | ⟨rfl, hep13, hpp13, hWp13⟩
    · refine fe_s 3 (pc' := 132) (lc' := [(1, .int 0), (0, .ref 0)]) (stk' := [.int 0]) (mem' := fm gp13 tp bt ap13 bp13) (fun _ _ _ => rfl) ?_
      refine fe_s 1 (pc' := cond (fx_cb .eq 0 0) 148 135) (lc' := [(1, .int 0), (0, .ref 0)]) (stk' := []) (mem' := fm gp13 tp bt ap13 bp13) (fun _ _ _ => rfl) ?_
      rw [show (fx_cb .eq 0 0) = true from by decide]
      dsimp only [cond]
      refine fe_s 1 (pc' := 149) (lc' := [(1, .int 0), (0, .ref 0)]) (stk' := [.int 0]) (mem' := fm gp13 tp bt ap13 bp13) (fun _ _ _ => rfl) ?_
      exact fe_ret ⟨_, _, _, _, _, _, _, _, gop13, bNp13, hNp13, Or.inl ⟨rfl, hzp13⟩, rfl⟩ (by rfl) (by rfl) (by rfl)
    · have e18p13 : gp13 18 = g 18 := hep13.trans rfl
      have prp13 : gp13 12 = 0 ∨ E < Ep13 := hpp13.imp id (fun z => by have := (fm_gx_rf hxp hfl).2.2.2; omega)
      refine fe_s 3 (pc' := 132) (lc' := [(1, .int 1), (0, .ref 0)]) (stk' := [.int 1]) (mem' := fm gp13 tp bt ap13 bp13) (fun _ _ _ => rfl) ?_
      refine fe_s 1 (pc' := cond (fx_cb .eq 1 0) 148 135) (lc' := [(1, .int 1), (0, .ref 0)]) (stk' := []) (mem' := fm gp13 tp bt ap13 bp13) (fun _ _ _ => rfl) ?_
      rw [show (fx_cb .eq 1 0) = false from by decide]
      dsimp only [cond]
      refine fe_s 2 (pc' := 138) (lc' := [(1, .int 1), (0, .ref 0)]) (stk' := [.int 59, .ref 0]) (mem' := fm gp13 tp bt ap13 bp13) (fun _ _ _ => rfl) ?_
      obtain ⟨xc14, gc14, Ec14, Fc14, hfrc14, hoc14, hvc14⟩ := fr_wantSignq (c := 59) (g := gp13) (tp := tp) (bt := bt) (a := ap13) (b := bp13) gop13.2.1 gop13.2.2.1
      have goc14 := fm_gx_tr gop13 hoc14
      refine fe_ivV hfrc14 (by omega) (by rfl) (by rfl) (by rfl) (by rfl) (by rfl) (by rfl) ?_
      rcases hvc14 with ⟨rfl, hzc14⟩ | ⟨rfl, hec14, hpc14⟩
      · refine fe_s 1 (pc' := cond (fx_cb .eq 0 0) 148 144) (lc' := [(1, .int 1), (0, .ref 0)]) (stk' := []) (mem' := fm gc14 tp bt ap13 bp13) (fun _ _ _ => rfl) ?_
        rw [show (fx_cb .eq 0 0) = true from by decide]
        dsimp only [cond]
        refine fe_s 1 (pc' := 149) (lc' := [(1, .int 1), (0, .ref 0)]) (stk' := [.int 0]) (mem' := fm gc14 tp bt ap13 bp13) (fun _ _ _ => rfl) ?_
        exact fe_ret ⟨_, _, _, _, _, _, _, _, goc14, bNp13, hNp13, Or.inl ⟨rfl, hzc14⟩, rfl⟩ (by rfl) (by rfl) (by rfl)
      · have e18c14 : gc14 18 = g 18 := hec14.trans e18p13
        have prc14 : gc14 12 = 0 ∨ E < Ec14 := hpc14.imp id (fun z => by have := gop13.2.2.2; omega)
        refine fe_s 1 (pc' := cond (fx_cb .eq 1 0) 148 144) (lc' := [(1, .int 1), (0, .ref 0)]) (stk' := []) (mem' := fm gc14 tp bt ap13 bp13) (fun _ _ _ => rfl) ?_
        rw [show (fx_cb .eq 1 0) = false from by decide]
        dsimp only [cond]
        refine fe_s 2 (pc' := 149) (lc' := [(1, .int 1), (0, .ref 0)]) (stk' := [.int 1]) (mem' := fm gc14 tp bt ap13 bp13) (fun _ _ _ => rfl) ?_
        exact fe_ret ⟨_, _, _, _, _, _, _, _, goc14, bNp13, hNp13, Or.inr ⟨rfl, e18c14, prc14, hWp13⟩, rfl⟩ (by rfl) (by rfl) (by rfl)
  · refine fe_s 1 (pc' := 105) (lc' := [(0, .ref 0)]) (stk' := []) (mem' := fm g tp bt a b) (fun _ _ _ => rfl) ?_
    refine fe_s 2 (pc' := 108) (lc' := [(0, .ref 0)]) (stk' := [.int 6, .ref 0]) (mem' := fm g tp bt a b) (fun _ _ _ => rfl) ?_
    obtain ⟨vp15, memp15, ⟨xp15, gp15, Ep15, Fp15, ap15, bp15, NCp15, NWp15, hop15, hbp15, hNp15, hvp15, hRp15⟩, hfrp15⟩ := fr_once6 (g := g) (tp := tp) (bt := bt) (a := a) (b := b) (a0 := a0) (fm_gx_rf hxp hfl).2.1 (fm_gx_rf hxp hfl).2.2.1 hN hW
    cases hRp15
    have gop15 := fm_gx_tx (fm_gx_rf hxp hfl) hop15
    have bNp15 : ∀ t, t ≠ 2 → bp15 t = b t := fun t ht => (hbp15 t ht).trans ((fun _ _ => rfl) t ht)
    refine fe_ivV hfrp15 (by omega) (by rfl) (by rfl) (by rfl) (by rfl) (by rfl) (by rfl) ?_
    rcases hvp15 with ⟨rfl, hzp15⟩ | ⟨rfl, hep15, hpp15, hWp15⟩
    · refine fe_s 3 (pc' := 132) (lc' := [(1, .int 0), (0, .ref 0)]) (stk' := [.int 0]) (mem' := fm gp15 tp bt ap15 bp15) (fun _ _ _ => rfl) ?_
      refine fe_s 1 (pc' := cond (fx_cb .eq 0 0) 148 135) (lc' := [(1, .int 0), (0, .ref 0)]) (stk' := []) (mem' := fm gp15 tp bt ap15 bp15) (fun _ _ _ => rfl) ?_
      rw [show (fx_cb .eq 0 0) = true from by decide]
      dsimp only [cond]
      refine fe_s 1 (pc' := 149) (lc' := [(1, .int 0), (0, .ref 0)]) (stk' := [.int 0]) (mem' := fm gp15 tp bt ap15 bp15) (fun _ _ _ => rfl) ?_
      exact fe_ret ⟨_, _, _, _, _, _, _, _, gop15, bNp15, hNp15, Or.inl ⟨rfl, hzp15⟩, rfl⟩ (by rfl) (by rfl) (by rfl)
    · have e18p15 : gp15 18 = g 18 := hep15.trans rfl
      have prp15 : gp15 12 = 0 ∨ E < Ep15 := hpp15.imp id (fun z => by have := (fm_gx_rf hxp hfl).2.2.2; omega)
      refine fe_s 3 (pc' := 132) (lc' := [(1, .int 1), (0, .ref 0)]) (stk' := [.int 1]) (mem' := fm gp15 tp bt ap15 bp15) (fun _ _ _ => rfl) ?_
      refine fe_s 1 (pc' := cond (fx_cb .eq 1 0) 148 135) (lc' := [(1, .int 1), (0, .ref 0)]) (stk' := []) (mem' := fm gp15 tp bt ap15 bp15) (fun _ _ _ => rfl) ?_
      rw [show (fx_cb .eq 1 0) = false from by decide]
      dsimp only [cond]
      refine fe_s 2 (pc' := 138) (lc' := [(1, .int 1), (0, .ref 0)]) (stk' := [.int 59, .ref 0]) (mem' := fm gp15 tp bt ap15 bp15) (fun _ _ _ => rfl) ?_
      obtain ⟨xc16, gc16, Ec16, Fc16, hfrc16, hoc16, hvc16⟩ := fr_wantSignq (c := 59) (g := gp15) (tp := tp) (bt := bt) (a := ap15) (b := bp15) gop15.2.1 gop15.2.2.1
      have goc16 := fm_gx_tr gop15 hoc16
      refine fe_ivV hfrc16 (by omega) (by rfl) (by rfl) (by rfl) (by rfl) (by rfl) (by rfl) ?_
      rcases hvc16 with ⟨rfl, hzc16⟩ | ⟨rfl, hec16, hpc16⟩
      · refine fe_s 1 (pc' := cond (fx_cb .eq 0 0) 148 144) (lc' := [(1, .int 1), (0, .ref 0)]) (stk' := []) (mem' := fm gc16 tp bt ap15 bp15) (fun _ _ _ => rfl) ?_
        rw [show (fx_cb .eq 0 0) = true from by decide]
        dsimp only [cond]
        refine fe_s 1 (pc' := 149) (lc' := [(1, .int 1), (0, .ref 0)]) (stk' := [.int 0]) (mem' := fm gc16 tp bt ap15 bp15) (fun _ _ _ => rfl) ?_
        exact fe_ret ⟨_, _, _, _, _, _, _, _, goc16, bNp15, hNp15, Or.inl ⟨rfl, hzc16⟩, rfl⟩ (by rfl) (by rfl) (by rfl)
      · have e18c16 : gc16 18 = g 18 := hec16.trans e18p15
        have prc16 : gc16 12 = 0 ∨ E < Ec16 := hpc16.imp id (fun z => by have := gop15.2.2.2; omega)
        refine fe_s 1 (pc' := cond (fx_cb .eq 1 0) 148 144) (lc' := [(1, .int 1), (0, .ref 0)]) (stk' := []) (mem' := fm gc16 tp bt ap15 bp15) (fun _ _ _ => rfl) ?_
        rw [show (fx_cb .eq 1 0) = false from by decide]
        dsimp only [cond]
        refine fe_s 2 (pc' := 149) (lc' := [(1, .int 1), (0, .ref 0)]) (stk' := [.int 1]) (mem' := fm gc16 tp bt ap15 bp15) (fun _ _ _ => rfl) ?_
        exact fe_ret ⟨_, _, _, _, _, _, _, _, goc16, bNp15, hNp15, Or.inr ⟨rfl, e18c16, prc16, hWp15⟩, rfl⟩ (by rfl) (by rfl) (by rfl)
  · refine fe_s 1 (pc' := 115) (lc' := [(0, .ref 0)]) (stk' := []) (mem' := fm g tp bt a b) (fun _ _ _ => rfl) ?_
    refine fe_s 2 (pc' := 118) (lc' := [(0, .ref 0)]) (stk' := [.int 7, .ref 0]) (mem' := fm g tp bt a b) (fun _ _ _ => rfl) ?_
    obtain ⟨vp17, memp17, ⟨xp17, gp17, Ep17, Fp17, ap17, bp17, NCp17, NWp17, hop17, hbp17, hNp17, hvp17, hRp17⟩, hfrp17⟩ := fr_once7 (g := g) (tp := tp) (bt := bt) (a := a) (b := b) (a0 := a0) (fm_gx_rf hxp hfl).2.1 (fm_gx_rf hxp hfl).2.2.1 hN hW
    cases hRp17
    have gop17 := fm_gx_tx (fm_gx_rf hxp hfl) hop17
    have bNp17 : ∀ t, t ≠ 2 → bp17 t = b t := fun t ht => (hbp17 t ht).trans ((fun _ _ => rfl) t ht)
    refine fe_ivV hfrp17 (by omega) (by rfl) (by rfl) (by rfl) (by rfl) (by rfl) (by rfl) ?_
    rcases hvp17 with ⟨rfl, hzp17⟩ | ⟨rfl, hep17, hpp17, hWp17⟩
    · refine fe_s 3 (pc' := 132) (lc' := [(1, .int 0), (0, .ref 0)]) (stk' := [.int 0]) (mem' := fm gp17 tp bt ap17 bp17) (fun _ _ _ => rfl) ?_
      refine fe_s 1 (pc' := cond (fx_cb .eq 0 0) 148 135) (lc' := [(1, .int 0), (0, .ref 0)]) (stk' := []) (mem' := fm gp17 tp bt ap17 bp17) (fun _ _ _ => rfl) ?_
      rw [show (fx_cb .eq 0 0) = true from by decide]
      dsimp only [cond]
      refine fe_s 1 (pc' := 149) (lc' := [(1, .int 0), (0, .ref 0)]) (stk' := [.int 0]) (mem' := fm gp17 tp bt ap17 bp17) (fun _ _ _ => rfl) ?_
      exact fe_ret ⟨_, _, _, _, _, _, _, _, gop17, bNp17, hNp17, Or.inl ⟨rfl, hzp17⟩, rfl⟩ (by rfl) (by rfl) (by rfl)
    · have e18p17 : gp17 18 = g 18 := hep17.trans rfl
      have prp17 : gp17 12 = 0 ∨ E < Ep17 := hpp17.imp id (fun z => by have := (fm_gx_rf hxp hfl).2.2.2; omega)
      refine fe_s 3 (pc' := 132) (lc' := [(1, .int 1), (0, .ref 0)]) (stk' := [.int 1]) (mem' := fm gp17 tp bt ap17 bp17) (fun _ _ _ => rfl) ?_
      refine fe_s 1 (pc' := cond (fx_cb .eq 1 0) 148 135) (lc' := [(1, .int 1), (0, .ref 0)]) (stk' := []) (mem' := fm gp17 tp bt ap17 bp17) (fun _ _ _ => rfl) ?_
      rw [show (fx_cb .eq 1 0) = false from by decide]
      dsimp only [cond]
      refine fe_s 2 (pc' := 138) (lc' := [(1, .int 1), (0, .ref 0)]) (stk' := [.int 59, .ref 0]) (mem' := fm gp17 tp bt ap17 bp17) (fun _ _ _ => rfl) ?_
      obtain ⟨xc18, gc18, Ec18, Fc18, hfrc18, hoc18, hvc18⟩ := fr_wantSignq (c := 59) (g := gp17) (tp := tp) (bt := bt) (a := ap17) (b := bp17) gop17.2.1 gop17.2.2.1
      have goc18 := fm_gx_tr gop17 hoc18
      refine fe_ivV hfrc18 (by omega) (by rfl) (by rfl) (by rfl) (by rfl) (by rfl) (by rfl) ?_
      rcases hvc18 with ⟨rfl, hzc18⟩ | ⟨rfl, hec18, hpc18⟩
      · refine fe_s 1 (pc' := cond (fx_cb .eq 0 0) 148 144) (lc' := [(1, .int 1), (0, .ref 0)]) (stk' := []) (mem' := fm gc18 tp bt ap17 bp17) (fun _ _ _ => rfl) ?_
        rw [show (fx_cb .eq 0 0) = true from by decide]
        dsimp only [cond]
        refine fe_s 1 (pc' := 149) (lc' := [(1, .int 1), (0, .ref 0)]) (stk' := [.int 0]) (mem' := fm gc18 tp bt ap17 bp17) (fun _ _ _ => rfl) ?_
        exact fe_ret ⟨_, _, _, _, _, _, _, _, goc18, bNp17, hNp17, Or.inl ⟨rfl, hzc18⟩, rfl⟩ (by rfl) (by rfl) (by rfl)
      · have e18c18 : gc18 18 = g 18 := hec18.trans e18p17
        have prc18 : gc18 12 = 0 ∨ E < Ec18 := hpc18.imp id (fun z => by have := gop17.2.2.2; omega)
        refine fe_s 1 (pc' := cond (fx_cb .eq 1 0) 148 144) (lc' := [(1, .int 1), (0, .ref 0)]) (stk' := []) (mem' := fm gc18 tp bt ap17 bp17) (fun _ _ _ => rfl) ?_
        rw [show (fx_cb .eq 1 0) = false from by decide]
        dsimp only [cond]
        refine fe_s 2 (pc' := 149) (lc' := [(1, .int 1), (0, .ref 0)]) (stk' := [.int 1]) (mem' := fm gc18 tp bt ap17 bp17) (fun _ _ _ => rfl) ?_
        exact fe_ret ⟨_, _, _, _, _, _, _, _, goc18, bNp17, hNp17, Or.inr ⟨rfl, e18c18, prc18, hWp17⟩, rfl⟩ (by rfl) (by rfl) (by rfl)
  · refine fe_s 1 (pc' := 125) (lc' := [(0, .ref 0)]) (stk' := []) (mem' := fm g tp bt a b) (fun _ _ _ => rfl) ?_
    refine fe_s 2 (pc' := 127) (lc' := [(0, .ref 0)]) (stk' := [.int 2, .ref 0]) (mem' := fm g tp bt a b) (fun _ _ _ => rfl) ?_
    obtain ⟨gf19, hfrf19, hof19, hzf19⟩ := fr_failsq (x := 2) (g := g) (tp := tp) (bt := bt) (a := a) (b := b) (by omega) (by omega) (fm_gx_rf hxp hfl).2.1 (fm_gx_rf hxp hfl).2.2.1
    have gof19 := fm_gx_tr (fm_gx_rf hxp hfl) hof19
    refine fe_ivV hfrf19 (by omega) (by rfl) (by rfl) (by rfl) (by rfl) (by rfl) (by rfl) ?_
    exact fe_ret ⟨_, _, _, _, _, _, _, _, gof19, (fun _ _ => rfl), hN, Or.inl ⟨rfl, hzf19⟩, rfl⟩ (by rfl) (by rfl) (by rfl)
  · refine fe_s 1 (pc' := 125) (lc' := [(0, .ref 0)]) (stk' := []) (mem' := fm g tp bt a b) (fun _ _ _ => rfl) ?_
    refine fe_s 2 (pc' := 127) (lc' := [(0, .ref 0)]) (stk' := [.int 2, .ref 0]) (mem' := fm g tp bt a b) (fun _ _ _ => rfl) ?_
    obtain ⟨gf20, hfrf20, hof20, hzf20⟩ := fr_failsq (x := 2) (g := g) (tp := tp) (bt := bt) (a := a) (b := b) (by omega) (by omega) (fm_gx_rf hxp hfl).2.1 (fm_gx_rf hxp hfl).2.2.1
    have gof20 := fm_gx_tr (fm_gx_rf hxp hfl) hof20
    refine fe_ivV hfrf20 (by omega) (by rfl) (by rfl) (by rfl) (by rfl) (by rfl) (by rfl) ?_
    exact fe_ret ⟨_, _, _, _, _, _, _, _, gof20, (fun _ _ => rfl), hN, Or.inl ⟨rfl, hzf20⟩, rfl⟩ (by rfl) (by rfl) (by rfl)
  · refine fe_s 1 (pc' := 125) (lc' := [(0, .ref 0)]) (stk' := []) (mem' := fm g tp bt a b) (fun _ _ _ => rfl) ?_
    refine fe_s 2 (pc' := 127) (lc' := [(0, .ref 0)]) (stk' := [.int 2, .ref 0]) (mem' := fm g tp bt a b) (fun _ _ _ => rfl) ?_
    obtain ⟨gf21, hfrf21, hof21, hzf21⟩ := fr_failsq (x := 2) (g := g) (tp := tp) (bt := bt) (a := a) (b := b) (by omega) (by omega) (fm_gx_rf hxp hfl).2.1 (fm_gx_rf hxp hfl).2.2.1
    have gof21 := fm_gx_tr (fm_gx_rf hxp hfl) hof21
    refine fe_ivV hfrf21 (by omega) (by rfl) (by rfl) (by rfl) (by rfl) (by rfl) (by rfl) ?_
    exact fe_ret ⟨_, _, _, _, _, _, _, _, gof21, (fun _ _ => rfl), hN, Or.inl ⟨rfl, hzf21⟩, rfl⟩ (by rfl) (by rfl) (by rfl)
  · refine fe_s 1 (pc' := 125) (lc' := [(0, .ref 0)]) (stk' := []) (mem' := fm g tp bt a b) (fun _ _ _ => rfl) ?_
    refine fe_s 2 (pc' := 127) (lc' := [(0, .ref 0)]) (stk' := [.int 2, .ref 0]) (mem' := fm g tp bt a b) (fun _ _ _ => rfl) ?_
    obtain ⟨gf22, hfrf22, hof22, hzf22⟩ := fr_failsq (x := 2) (g := g) (tp := tp) (bt := bt) (a := a) (b := b) (by omega) (by omega) (fm_gx_rf hxp hfl).2.1 (fm_gx_rf hxp hfl).2.2.1
    have gof22 := fm_gx_tr (fm_gx_rf hxp hfl) hof22
    refine fe_ivV hfrf22 (by omega) (by rfl) (by rfl) (by rfl) (by rfl) (by rfl) (by rfl) ?_
    exact fe_ret ⟨_, _, _, _, _, _, _, _, gof22, (fun _ _ => rfl), hN, Or.inl ⟨rfl, hzf22⟩, rfl⟩ (by rfl) (by rfl) (by rfl)
  · refine fe_s 1 (pc' := 125) (lc' := [(0, .ref 0)]) (stk' := []) (mem' := fm g tp bt a b) (fun _ _ _ => rfl) ?_
    refine fe_s 2 (pc' := 127) (lc' := [(0, .ref 0)]) (stk' := [.int 2, .ref 0]) (mem' := fm g tp bt a b) (fun _ _ _ => rfl) ?_
    obtain ⟨gf23, hfrf23, hof23, hzf23⟩ := fr_failsq (x := 2) (g := g) (tp := tp) (bt := bt) (a := a) (b := b) (by omega) (by omega) (fm_gx_rf hxp hfl).2.1 (fm_gx_rf hxp hfl).2.2.1
    have gof23 := fm_gx_tr (fm_gx_rf hxp hfl) hof23
    refine fe_ivV hfrf23 (by omega) (by rfl) (by rfl) (by rfl) (by rfl) (by rfl) (by rfl) ?_
    exact fe_ret ⟨_, _, _, _, _, _, _, _, gof23, (fun _ _ => rfl), hN, Or.inl ⟨rfl, hzf23⟩, rfl⟩ (by rfl) (by rfl) (by rfl)
  · refine fe_s 1 (pc' := 125) (lc' := [(0, .ref 0)]) (stk' := []) (mem' := fm g tp bt a b) (fun _ _ _ => rfl) ?_
    refine fe_s 2 (pc' := 127) (lc' := [(0, .ref 0)]) (stk' := [.int 2, .ref 0]) (mem' := fm g tp bt a b) (fun _ _ _ => rfl) ?_
    obtain ⟨gf24, hfrf24, hof24, hzf24⟩ := fr_failsq (x := 2) (g := g) (tp := tp) (bt := bt) (a := a) (b := b) (by omega) (by omega) (fm_gx_rf hxp hfl).2.1 (fm_gx_rf hxp hfl).2.2.1
    have gof24 := fm_gx_tr (fm_gx_rf hxp hfl) hof24
    refine fe_ivV hfrf24 (by omega) (by rfl) (by rfl) (by rfl) (by rfl) (by rfl) (by rfl) ?_
    exact fe_ret ⟨_, _, _, _, _, _, _, _, gof24, (fun _ _ => rfl), hN, Or.inl ⟨rfl, hzf24⟩, rfl⟩ (by rfl) (by rfl) (by rfl)
  · refine fe_s 1 (pc' := 125) (lc' := [(0, .ref 0)]) (stk' := []) (mem' := fm g tp bt a b) (fun _ _ _ => rfl) ?_
    refine fe_s 2 (pc' := 127) (lc' := [(0, .ref 0)]) (stk' := [.int 2, .ref 0]) (mem' := fm g tp bt a b) (fun _ _ _ => rfl) ?_
    obtain ⟨gf25, hfrf25, hof25, hzf25⟩ := fr_failsq (x := 2) (g := g) (tp := tp) (bt := bt) (a := a) (b := b) (by omega) (by omega) (fm_gx_rf hxp hfl).2.1 (fm_gx_rf hxp hfl).2.2.1
    have gof25 := fm_gx_tr (fm_gx_rf hxp hfl) hof25
    refine fe_ivV hfrf25 (by omega) (by rfl) (by rfl) (by rfl) (by rfl) (by rfl) (by rfl) ?_
    exact fe_ret ⟨_, _, _, _, _, _, _, _, gof25, (fun _ _ => rfl), hN, Or.inl ⟨rfl, hzf25⟩, rfl⟩ (by rfl) (by rfl) (by rfl)
  · refine fe_s 1 (pc' := 125) (lc' := [(0, .ref 0)]) (stk' := []) (mem' := fm g tp bt a b) (fun _ _ _ => rfl) ?_
    refine fe_s 2 (pc' := 127) (lc' := [(0, .ref 0)]) (stk' := [.int 2, .ref 0]) (mem' := fm g tp bt a b) (fun _ _ _ => rfl) ?_
    obtain ⟨gf26, hfrf26, hof26, hzf26⟩ := fr_failsq (x := 2) (g := g) (tp := tp) (bt := bt) (a := a) (b := b) (by omega) (by omega) (fm_gx_rf hxp hfl).2.1 (fm_gx_rf hxp hfl).2.2.1
    have gof26 := fm_gx_tr (fm_gx_rf hxp hfl) hof26
    refine fe_ivV hfrf26 (by omega) (by rfl) (by rfl) (by rfl) (by rfl) (by rfl) (by rfl) ?_
    exact fe_ret ⟨_, _, _, _, _, _, _, _, gof26, (fun _ _ => rfl), hN, Or.inl ⟨rfl, hzf26⟩, rfl⟩ (by rfl) (by rfl) (by rfl)
  · refine fe_s 1 (pc' := 125) (lc' := [(0, .ref 0)]) (stk' := []) (mem' := fm g tp bt a b) (fun _ _ _ => rfl) ?_
    refine fe_s 2 (pc' := 127) (lc' := [(0, .ref 0)]) (stk' := [.int 2, .ref 0]) (mem' := fm g tp bt a b) (fun _ _ _ => rfl) ?_
    obtain ⟨gf27, hfrf27, hof27, hzf27⟩ := fr_failsq (x := 2) (g := g) (tp := tp) (bt := bt) (a := a) (b := b) (by omega) (by omega) (fm_gx_rf hxp hfl).2.1 (fm_gx_rf hxp hfl).2.2.1
    have gof27 := fm_gx_tr (fm_gx_rf hxp hfl) hof27
    refine fe_ivV hfrf27 (by omega) (by rfl) (by rfl) (by rfl) (by rfl) (by rfl) (by rfl) ?_
    exact fe_ret ⟨_, _, _, _, _, _, _, _, gof27, (fun _ _ => rfl), hN, Or.inl ⟨rfl, hzf27⟩, rfl⟩ (by rfl) (by rfl) (by rfl)
  · refine fe_s 1 (pc' := 125) (lc' := [(0, .ref 0)]) (stk' := []) (mem' := fm g tp bt a b) (fun _ _ _ => rfl) ?_
    refine fe_s 2 (pc' := 127) (lc' := [(0, .ref 0)]) (stk' := [.int 2, .ref 0]) (mem' := fm g tp bt a b) (fun _ _ _ => rfl) ?_
    obtain ⟨gf28, hfrf28, hof28, hzf28⟩ := fr_failsq (x := 2) (g := g) (tp := tp) (bt := bt) (a := a) (b := b) (by omega) (by omega) (fm_gx_rf hxp hfl).2.1 (fm_gx_rf hxp hfl).2.2.1
    have gof28 := fm_gx_tr (fm_gx_rf hxp hfl) hof28
    refine fe_ivV hfrf28 (by omega) (by rfl) (by rfl) (by rfl) (by rfl) (by rfl) (by rfl) ?_
    exact fe_ret ⟨_, _, _, _, _, _, _, _, gof28, (fun _ _ => rfl), hN, Or.inl ⟨rfl, hzf28⟩, rfl⟩ (by rfl) (by rfl) (by rfl)
  · refine fe_s 1 (pc' := 125) (lc' := [(0, .ref 0)]) (stk' := []) (mem' := fm g tp bt a b) (fun _ _ _ => rfl) ?_
    refine fe_s 2 (pc' := 127) (lc' := [(0, .ref 0)]) (stk' := [.int 2, .ref 0]) (mem' := fm g tp bt a b) (fun _ _ _ => rfl) ?_
    obtain ⟨gf29, hfrf29, hof29, hzf29⟩ := fr_failsq (x := 2) (g := g) (tp := tp) (bt := bt) (a := a) (b := b) (by omega) (by omega) (fm_gx_rf hxp hfl).2.1 (fm_gx_rf hxp hfl).2.2.1
    have gof29 := fm_gx_tr (fm_gx_rf hxp hfl) hof29
    refine fe_ivV hfrf29 (by omega) (by rfl) (by rfl) (by rfl) (by rfl) (by rfl) (by rfl) ?_
    exact fe_ret ⟨_, _, _, _, _, _, _, _, gof29, (fun _ _ => rfl), hN, Or.inl ⟨rfl, hzf29⟩, rfl⟩ (by rfl) (by rfl) (by rfl)
  · refine fe_s 1 (pc' := 125) (lc' := [(0, .ref 0)]) (stk' := []) (mem' := fm g tp bt a b) (fun _ _ _ => rfl) ?_
    refine fe_s 2 (pc' := 127) (lc' := [(0, .ref 0)]) (stk' := [.int 2, .ref 0]) (mem' := fm g tp bt a b) (fun _ _ _ => rfl) ?_
    obtain ⟨gf30, hfrf30, hof30, hzf30⟩ := fr_failsq (x := 2) (g := g) (tp := tp) (bt := bt) (a := a) (b := b) (by omega) (by omega) (fm_gx_rf hxp hfl).2.1 (fm_gx_rf hxp hfl).2.2.1
    have gof30 := fm_gx_tr (fm_gx_rf hxp hfl) hof30
    refine fe_ivV hfrf30 (by omega) (by rfl) (by rfl) (by rfl) (by rfl) (by rfl) (by rfl) ?_
    exact fe_ret ⟨_, _, _, _, _, _, _, _, gof30, (fun _ _ => rfl), hN, Or.inl ⟨rfl, hzf30⟩, rfl⟩ (by rfl) (by rfl) (by rfl)
  · refine fe_s 1 (pc' := 125) (lc' := [(0, .ref 0)]) (stk' := []) (mem' := fm g tp bt a b) (fun _ _ _ => rfl) ?_
    refine fe_s 2 (pc' := 127) (lc' := [(0, .ref 0)]) (stk' := [.int 2, .ref 0]) (mem' := fm g tp bt a b) (fun _ _ _ => rfl) ?_
    obtain ⟨gf31, hfrf31, hof31, hzf31⟩ := fr_failsq (x := 2) (g := g) (tp := tp) (bt := bt) (a := a) (b := b) (by omega) (by omega) (fm_gx_rf hxp hfl).2.1 (fm_gx_rf hxp hfl).2.2.1
    have gof31 := fm_gx_tr (fm_gx_rf hxp hfl) hof31
    refine fe_ivV hfrf31 (by omega) (by rfl) (by rfl) (by rfl) (by rfl) (by rfl) (by rfl) ?_
    exact fe_ret ⟨_, _, _, _, _, _, _, _, gof31, (fun _ _ => rfl), hN, Or.inl ⟨rfl, hzf31⟩, rfl⟩ (by rfl) (by rfl) (by rfl)
  · refine fe_s 1 (pc' := 125) (lc' := [(0, .ref 0)]) (stk' := []) (mem' := fm g tp bt a b) (fun _ _ _ => rfl) ?_
    refine fe_s 2 (pc' := 127) (lc' := [(0, .ref 0)]) (stk' := [.int 2, .ref 0]) (mem' := fm g tp bt a b) (fun _ _ _ => rfl) ?_
    obtain ⟨gf32, hfrf32, hof32, hzf32⟩ := fr_failsq (x := 2) (g := g) (tp := tp) (bt := bt) (a := a) (b := b) (by omega) (by omega) (fm_gx_rf hxp hfl).2.1 (fm_gx_rf hxp hfl).2.2.1
    have gof32 := fm_gx_tr (fm_gx_rf hxp hfl) hof32
    refine fe_ivV hfrf32 (by omega) (by rfl) (by rfl) (by rfl) (by rfl) (by rfl) (by rfl) ?_
    exact fe_ret ⟨_, _, _, _, _, _, _, _, gof32, (fun _ _ => rfl), hN, Or.inl ⟨rfl, hzf32⟩, rfl⟩ (by rfl) (by rfl) (by rfl)
  · refine fe_s 1 (pc' := 125) (lc' := [(0, .ref 0)]) (stk' := []) (mem' := fm g tp bt a b) (fun _ _ _ => rfl) ?_
    refine fe_s 2 (pc' := 127) (lc' := [(0, .ref 0)]) (stk' := [.int 2, .ref 0]) (mem' := fm g tp bt a b) (fun _ _ _ => rfl) ?_
    obtain ⟨gf33, hfrf33, hof33, hzf33⟩ := fr_failsq (x := 2) (g := g) (tp := tp) (bt := bt) (a := a) (b := b) (by omega) (by omega) (fm_gx_rf hxp hfl).2.1 (fm_gx_rf hxp hfl).2.2.1
    have gof33 := fm_gx_tr (fm_gx_rf hxp hfl) hof33
    refine fe_ivV hfrf33 (by omega) (by rfl) (by rfl) (by rfl) (by rfl) (by rfl) (by rfl) ?_
    exact fe_ret ⟨_, _, _, _, _, _, _, _, gof33, (fun _ _ => rfl), hN, Or.inl ⟨rfl, hzf33⟩, rfl⟩ (by rfl) (by rfl) (by rfl)
  · refine fe_s 1 (pc' := 125) (lc' := [(0, .ref 0)]) (stk' := []) (mem' := fm g tp bt a b) (fun _ _ _ => rfl) ?_
    refine fe_s 2 (pc' := 127) (lc' := [(0, .ref 0)]) (stk' := [.int 2, .ref 0]) (mem' := fm g tp bt a b) (fun _ _ _ => rfl) ?_
    obtain ⟨gf34, hfrf34, hof34, hzf34⟩ := fr_failsq (x := 2) (g := g) (tp := tp) (bt := bt) (a := a) (b := b) (by omega) (by omega) (fm_gx_rf hxp hfl).2.1 (fm_gx_rf hxp hfl).2.2.1
    have gof34 := fm_gx_tr (fm_gx_rf hxp hfl) hof34
    refine fe_ivV hfrf34 (by omega) (by rfl) (by rfl) (by rfl) (by rfl) (by rfl) (by rfl) ?_
    exact fe_ret ⟨_, _, _, _, _, _, _, _, gof34, (fun _ _ => rfl), hN, Or.inl ⟨rfl, hzf34⟩, rfl⟩ (by rfl) (by rfl) (by rfl)
end F483_part
end MH18_1
