section MH42_0
/-! ===== fx: what one looks up of the LAKE, and its loops ===== -/
section FQ2
variable {g : Nat → Int32} {tp bt : Int64} {a : Nat → Nat → Int32} {b : Nat → Nat → Int64}
theorem fq_cameLately {C : Nat} (ht : fm_t a) (hC : C < 10) : fm_P 4 270 [.ref 0, .int (nI C)] (fm g tp bt a b) := by
  have ht0 := ht
  obtain ⟨-, -, ⟨NG, hNG, eNG⟩, -, -⟩ := ht
  have ht := ht0
  refine fm_P_of (by rfl) (by rfl) ?_
  refine fe_s 4 (pc' := 4) (lc' := [(3, .int 0), (2, .int 0), (0, .ref 0), (1, .int (nI C))]) (stk' := []) (mem' := fm g tp bt a b) (by intro _ _ _; eq_refl) ?_
  have loop : ∀ (r i : Nat), i + r = NG → ∀ (x2 : Int32), fe_R 3 gk_m270 4 [(3, .int (nI i)), (2, .int x2), (0, .ref 0), (1, .int (nI C))] [] (fm g tp bt a b) (fm_FP (fm g tp bt a b)) := by
    intro r
    induction r with
    | zero =>
      intro i hir x2
      obtain rfl : NG = i := by omega
      refine fe_s 4 (pc' := 10) (lc' := [(3, .int (nI NG)), (2, .int x2), (0, .ref 0), (1, .int (nI C))]) (stk' := [.int 3, .ref 1, .int (nI NG)]) (mem' := fm g tp bt a b) (by intro _ _ _; eq_refl) ?_
      refine fe_ldI (by rfl) (by rfl) (fx_inN (i := 3) (by omega) (by omega)) ?_
      rw [show Int32.toNatClampNeg (3) = 3 from rfl]
      rw [eNG]
      refine fe_s 1 (pc' := cond (fx_cb .ge (nI NG) (nI NG)) 29 14) (lc' := [(3, .int (nI NG)), (2, .int x2), (0, .ref 0), (1, .int (nI C))]) (stk' := []) (mem' := fm g tp bt a b) (by intro _ _ _; eq_refl) ?_
      rw [show (fx_cb .ge (nI NG) (nI NG)) = true from cb_geT (a := NG) (b := NG) (by omega) (by omega) (by omega)]
      dsimp only [cond]
      refine fe_s 1 (pc' := 30) (lc' := [(3, .int (nI NG)), (2, .int x2), (0, .ref 0), (1, .int (nI C))]) (stk' := [.int x2]) (mem' := fm g tp bt a b) (by intro _ _ _; eq_refl) ?_
      exact fe_ret ⟨_, rfl⟩ (by rfl) (by rfl) (by rfl)
    | succ r ih =>
      intro i hir x2
      refine fe_s 4 (pc' := 10) (lc' := [(3, .int (nI i)), (2, .int x2), (0, .ref 0), (1, .int (nI C))]) (stk' := [.int 3, .ref 1, .int (nI i)]) (mem' := fm g tp bt a b) (by intro _ _ _; eq_refl) ?_
      refine fe_ldI (by rfl) (by rfl) (fx_inN (i := 3) (by omega) (by omega)) ?_
      rw [show Int32.toNatClampNeg (3) = 3 from rfl]
      rw [eNG]
      refine fe_s 1 (pc' := cond (fx_cb .ge (nI i) (nI NG)) 29 14) (lc' := [(3, .int (nI i)), (2, .int x2), (0, .ref 0), (1, .int (nI C))]) (stk' := []) (mem' := fm g tp bt a b) (by intro _ _ _; eq_refl) ?_
      rw [show (fx_cb .ge (nI i) (nI NG)) = false from cb_geF (a := i) (b := NG) (by omega) (by omega) (by omega)]
      dsimp only [cond]
      refine fe_s 4 (pc' := 18) (lc' := [(3, .int (nI i)), (2, .int x2), (0, .ref 0), (1, .int (nI C))]) (stk' := [.int (nI i), .int (nI C), .ref 0, .int x2]) (mem' := fm g tp bt a b) (by intro _ _ _; eq_refl) ?_
      obtain ⟨v1, hv1⟩ := fq_cameAgo (C := C) (S := i) (g := g) (tp := tp) (bt := bt) (a := a) (b := b) ht (by omega) (by omega)
      refine fe_ivV hv1 (by omega) (by rfl) (by rfl) (by rfl) (by rfl) (by rfl) (by rfl) ?_
      refine fe_s 4 (pc' := 4) (lc' := [(3, .int ((nI i) + 1)), (2, .int (x2 + v1)), (0, .ref 0), (1, .int (nI C))]) (stk' := []) (mem' := fm g tp bt a b) (by intro _ _ _; eq_refl) ?_
      rw [show ((nI i) + 1 : Int32) = nI (i + 1) from by simp only [show (1 : Int32) = nI 1 from rfl, nI_add, fm_mul]]
      exact ih (i + 1) (by omega) _
  exact loop NG 0 (by omega) _
theorem fq_loadBut {C : Nat} {w : Int32} (ht : fm_t a) (hC : C < 10) : fm_P 4 272 [.ref 0, .int (nI C), .int w] (fm g tp bt a b) := by
  have ht0 := ht
  obtain ⟨-, ⟨NW, hNW, eNW⟩, -, -, -⟩ := ht
  have ht := ht0
  refine fm_P_of (by rfl) (by rfl) ?_
  refine fe_s 4 (pc' := 5) (lc' := [(4, .int 0), (3, .int 0), (0, .ref 0), (1, .int (nI C)), (2, .int w)]) (stk' := []) (mem' := fm g tp bt a b) (by intro _ _ _; eq_refl) ?_
  have loop : ∀ (r i : Nat), i + r = NW → ∀ (x3 : Int32), fe_R 3 gk_m272 5 [(4, .int (nI i)), (3, .int x3), (0, .ref 0), (1, .int (nI C)), (2, .int w)] [] (fm g tp bt a b) (fm_FP (fm g tp bt a b)) := by
    intro r
    induction r with
    | zero =>
      intro i hir x3
      obtain rfl : NW = i := by omega
      refine fe_s 4 (pc' := 12) (lc' := [(4, .int (nI NW)), (3, .int x3), (0, .ref 0), (1, .int (nI C)), (2, .int w)]) (stk' := [.int 1, .ref 1, .int (nI NW)]) (mem' := fm g tp bt a b) (by intro _ _ _; eq_refl) ?_
      refine fe_ldI (by rfl) (by rfl) (fx_inN (i := 1) (by omega) (by omega)) ?_
      rw [show Int32.toNatClampNeg (1) = 1 from rfl]
      rw [eNW]
      refine fe_s 1 (pc' := cond (fx_cb .ge (nI NW) (nI NW)) 84 16) (lc' := [(4, .int (nI NW)), (3, .int x3), (0, .ref 0), (1, .int (nI C)), (2, .int w)]) (stk' := []) (mem' := fm g tp bt a b) (by intro _ _ _; eq_refl) ?_
      rw [show (fx_cb .ge (nI NW) (nI NW)) = true from cb_geT (a := NW) (b := NW) (by omega) (by omega) (by omega)]
      dsimp only [cond]
      refine fe_s 1 (pc' := 85) (lc' := [(4, .int (nI NW)), (3, .int x3), (0, .ref 0), (1, .int (nI C)), (2, .int w)]) (stk' := [.int x3]) (mem' := fm g tp bt a b) (by intro _ _ _; eq_refl) ?_
      exact fe_ret ⟨_, rfl⟩ (by rfl) (by rfl) (by rfl)
    | succ r ih =>
      intro i hir x3
      refine fe_s 4 (pc' := 12) (lc' := [(4, .int (nI i)), (3, .int x3), (0, .ref 0), (1, .int (nI C)), (2, .int w)]) (stk' := [.int 1, .ref 1, .int (nI i)]) (mem' := fm g tp bt a b) (by intro _ _ _; eq_refl) ?_
      refine fe_ldI (by rfl) (by rfl) (fx_inN (i := 1) (by omega) (by omega)) ?_
      rw [show Int32.toNatClampNeg (1) = 1 from rfl]
      rw [eNW]
      refine fe_s 1 (pc' := cond (fx_cb .ge (nI i) (nI NW)) 84 16) (lc' := [(4, .int (nI i)), (3, .int x3), (0, .ref 0), (1, .int (nI C)), (2, .int w)]) (stk' := []) (mem' := fm g tp bt a b) (by intro _ _ _; eq_refl) ?_
      rw [show (fx_cb .ge (nI i) (nI NW)) = false from cb_geF (a := i) (b := NW) (by omega) (by omega) (by omega)]
      dsimp only [cond]
      refine fe_s 3 (pc' := 20) (lc' := [(4, .int (nI i)), (3, .int x3), (0, .ref 0), (1, .int (nI C)), (2, .int w)]) (stk' := [.int w, .int (nI i), .int x3]) (mem' := fm g tp bt a b) (by intro _ _ _; eq_refl) ?_
      refine fe_s 1 (pc' := cond (fx_cb .eq (nI i) w) 75 23) (lc' := [(4, .int (nI i)), (3, .int x3), (0, .ref 0), (1, .int (nI C)), (2, .int w)]) (stk' := [.int x3]) (mem' := fm g tp bt a b) (by intro _ _ _; eq_refl) ?_
      cases h1 : fx_cb .eq (nI i) w
      · refine fe_s 2 (pc' := 26) (lc' := [(4, .int (nI i)), (3, .int x3), (0, .ref 0), (1, .int (nI C)), (2, .int w)]) (stk' := [.int (nI i), .ref 0, .int x3]) (mem' := fm g tp bt a b) (by intro _ _ _; eq_refl) ?_
        obtain ⟨v2, z3, hv2⟩ := fq_isWet (V := i) (g := g) (tp := tp) (bt := bt) (a := a) (b := b) (by omega)
        refine fe_ivV hv2 (by omega) (by rfl) (by rfl) (by rfl) (by rfl) (by rfl) (by rfl) ?_
        rcases z3 with rfl | rfl
        · refine fe_s 1 (pc' := cond (fx_cb .ne 0 0) 75 32) (lc' := [(4, .int (nI i)), (3, .int x3), (0, .ref 0), (1, .int (nI C)), (2, .int w)]) (stk' := [.int x3]) (mem' := fm g tp bt a b) (by intro _ _ _; eq_refl) ?_
          rw [show (fx_cb .ne 0 0) = false from by decide]
          dsimp only [cond]
          refine fe_s 2 (pc' := 35) (lc' := [(4, .int (nI i)), (3, .int x3), (0, .ref 0), (1, .int (nI C)), (2, .int w)]) (stk' := [.int (nI i), .ref 0, .int x3]) (mem' := fm g tp bt a b) (by intro _ _ _; eq_refl) ?_
          refine fe_ivV (fr_whereOf (W := i) (by omega)) (by omega) (by rfl) (by rfl) (by rfl) (by rfl) (by rfl) (by rfl) ?_
          refine fe_s 1 (pc' := 39) (lc' := [(4, .int (nI i)), (3, .int x3), (0, .ref 0), (1, .int (nI C)), (2, .int w)]) (stk' := [.int (nI C), .int (a 1 (279 + 5 * i)), .int x3]) (mem' := fm g tp bt a b) (by intro _ _ _; eq_refl) ?_
          refine fe_s 1 (pc' := cond (fx_cb .eq (a 1 (279 + 5 * i)) (nI C)) 66 42) (lc' := [(4, .int (nI i)), (3, .int x3), (0, .ref 0), (1, .int (nI C)), (2, .int w)]) (stk' := [.int x3]) (mem' := fm g tp bt a b) (by intro _ _ _; eq_refl) ?_
          cases h4 : fx_cb .eq (a 1 (279 + 5 * i)) (nI C)
          · refine fe_s 4 (pc' := 48) (lc' := [(4, .int (nI i)), (3, .int x3), (0, .ref 0), (1, .int (nI C)), (2, .int w)]) (stk' := [.int (nI C), .ref 1, .ref 0, .int x3]) (mem' := fm g tp bt a b) (by intro _ _ _; eq_refl) ?_
            refine fe_ivS fr_cellRow (by omega) (by rfl) (by rfl) (by rfl) (by rfl) (by rfl) ?_
            rw [show (8 + 6 * (nI C) : Int32) = nI (8 + (6 * C)) from by simp only [show (8 : Int32) = nI 8 from rfl, show (6 : Int32) = nI 6 from rfl, nI_add, fm_mul]]
            refine fe_s 2 (pc' := 53) (lc' := [(4, .int (nI i)), (3, .int x3), (0, .ref 0), (1, .int (nI C)), (2, .int w)]) (stk' := [.int ((nI (8 + (6 * C))) + 3), .ref 1, .ref 0, .int x3]) (mem' := fm g tp bt a b) (by intro _ _ _; eq_refl) ?_
            rw [show ((nI (8 + (6 * C))) + 3 : Int32) = nI ((8 + (6 * C)) + 3) from by simp only [show (3 : Int32) = nI 3 from rfl, nI_add, fm_mul]]
            refine fe_ldI (by rfl) (by rfl) (fx_inN (i := (8 + (6 * C)) + 3) (by omega) (by omega)) ?_
            rw [show Int32.toNatClampNeg (nI ((8 + (6 * C)) + 3)) = (8 + (6 * C)) + 3 from nI_clamp (by omega)]
            refine fe_s 2 (pc' := 57) (lc' := [(4, .int (nI i)), (3, .int x3), (0, .ref 0), (1, .int (nI C)), (2, .int w)]) (stk' := [.int (nI i), .ref 0, .int (a 1 ((8 + (6 * C)) + 3)), .ref 0, .int x3]) (mem' := fm g tp bt a b) (by intro _ _ _; eq_refl) ?_
            refine fe_ivV (fr_whereOf (W := i) (by omega)) (by omega) (by rfl) (by rfl) (by rfl) (by rfl) (by rfl) (by rfl) ?_
            refine fe_ivV fr_isIn (by omega) (by rfl) (by rfl) (by rfl) (by rfl) (by rfl) (by rfl) ?_
            rcases fm_b_01 (a 1 ((8 + (6 * C)) + 3)) (a 1 (279 + 5 * i)) with q1 | q1
            · rw [q1]
              refine fe_s 1 (pc' := cond (fx_cb .eq 0 0) 75 66) (lc' := [(4, .int (nI i)), (3, .int x3), (0, .ref 0), (1, .int (nI C)), (2, .int w)]) (stk' := [.int x3]) (mem' := fm g tp bt a b) (by intro _ _ _; eq_refl) ?_
              rw [show (fx_cb .eq 0 0) = true from by decide]
              dsimp only [cond]
              refine fe_s 5 (pc' := 5) (lc' := [(4, .int ((nI i) + 1)), (3, .int (x3 + 0)), (0, .ref 0), (1, .int (nI C)), (2, .int w)]) (stk' := []) (mem' := fm g tp bt a b) (by intro _ _ _; eq_refl) ?_
              rw [show ((nI i) + 1 : Int32) = nI (i + 1) from by simp only [show (1 : Int32) = nI 1 from rfl, nI_add, fm_mul]]
              exact ih (i + 1) (by omega) _
            · rw [q1]
              refine fe_s 1 (pc' := cond (fx_cb .eq 1 0) 75 66) (lc' := [(4, .int (nI i)), (3, .int x3), (0, .ref 0), (1, .int (nI C)), (2, .int w)]) (stk' := [.int x3]) (mem' := fm g tp bt a b) (by intro _ _ _; eq_refl) ?_
              rw [show (fx_cb .eq 1 0) = false from by decide]
              dsimp only [cond]
              refine fe_s 2 (pc' := 69) (lc' := [(4, .int (nI i)), (3, .int x3), (0, .ref 0), (1, .int (nI C)), (2, .int w)]) (stk' := [.int (nI i), .ref 0, .int x3]) (mem' := fm g tp bt a b) (by intro _ _ _; eq_refl) ?_
              obtain ⟨v5, hv5⟩ := fq_weightOf (V := i) (g := g) (tp := tp) (bt := bt) (a := a) (b := b) (by omega)
              refine fe_ivV hv5 (by omega) (by rfl) (by rfl) (by rfl) (by rfl) (by rfl) (by rfl) ?_
              refine fe_s 5 (pc' := 5) (lc' := [(4, .int ((nI i) + 1)), (3, .int (x3 + v5)), (0, .ref 0), (1, .int (nI C)), (2, .int w)]) (stk' := []) (mem' := fm g tp bt a b) (by intro _ _ _; eq_refl) ?_
              rw [show ((nI i) + 1 : Int32) = nI (i + 1) from by simp only [show (1 : Int32) = nI 1 from rfl, nI_add, fm_mul]]
              exact ih (i + 1) (by omega) _
          · refine fe_s 2 (pc' := 69) (lc' := [(4, .int (nI i)), (3, .int x3), (0, .ref 0), (1, .int (nI C)), (2, .int w)]) (stk' := [.int (nI i), .ref 0, .int x3]) (mem' := fm g tp bt a b) (by intro _ _ _; eq_refl) ?_
            obtain ⟨v6, hv6⟩ := fq_weightOf (V := i) (g := g) (tp := tp) (bt := bt) (a := a) (b := b) (by omega)
            refine fe_ivV hv6 (by omega) (by rfl) (by rfl) (by rfl) (by rfl) (by rfl) (by rfl) ?_
            refine fe_s 5 (pc' := 5) (lc' := [(4, .int ((nI i) + 1)), (3, .int (x3 + v6)), (0, .ref 0), (1, .int (nI C)), (2, .int w)]) (stk' := []) (mem' := fm g tp bt a b) (by intro _ _ _; eq_refl) ?_
            rw [show ((nI i) + 1 : Int32) = nI (i + 1) from by simp only [show (1 : Int32) = nI 1 from rfl, nI_add, fm_mul]]
            exact ih (i + 1) (by omega) _
        · refine fe_s 1 (pc' := cond (fx_cb .ne 1 0) 75 32) (lc' := [(4, .int (nI i)), (3, .int x3), (0, .ref 0), (1, .int (nI C)), (2, .int w)]) (stk' := [.int x3]) (mem' := fm g tp bt a b) (by intro _ _ _; eq_refl) ?_
          rw [show (fx_cb .ne 1 0) = true from by decide]
          dsimp only [cond]
          refine fe_s 5 (pc' := 5) (lc' := [(4, .int ((nI i) + 1)), (3, .int (x3 + 0)), (0, .ref 0), (1, .int (nI C)), (2, .int w)]) (stk' := []) (mem' := fm g tp bt a b) (by intro _ _ _; eq_refl) ?_
          rw [show ((nI i) + 1 : Int32) = nI (i + 1) from by simp only [show (1 : Int32) = nI 1 from rfl, nI_add, fm_mul]]
          exact ih (i + 1) (by omega) _
      · refine fe_s 5 (pc' := 5) (lc' := [(4, .int ((nI i) + 1)), (3, .int (x3 + 0)), (0, .ref 0), (1, .int (nI C)), (2, .int w)]) (stk' := []) (mem' := fm g tp bt a b) (by intro _ _ _; eq_refl) ?_
        rw [show ((nI i) + 1 : Int32) = nI (i + 1) from by simp only [show (1 : Int32) = nI 1 from rfl, nI_add, fm_mul]]
        exact ih (i + 1) (by omega) _
  exact loop NW 0 (by omega) _
theorem fq_marginOf {W C : Nat} (ht : fm_t a) (hW : W < 8) (hC : C < 10) : fm_P 5 302 [.ref 0, .int (nI W), .int (nI C)] (fm g tp bt a b) := by
  refine fm_P_of (by rfl) (by rfl) ?_
  refine fe_s 2 (pc' := 2) (lc' := [(0, .ref 0), (1, .int (nI W)), (2, .int (nI C))]) (stk' := [.int (nI C), .ref 0]) (mem' := fm g tp bt a b) (by intro _ _ _; eq_refl) ?_
  obtain ⟨v1, z2, hv1⟩ := fq_isShore (C := C) (g := g) (tp := tp) (bt := bt) (a := a) (b := b) (by omega)
  refine fe_ivV hv1 (by omega) (by rfl) (by rfl) (by rfl) (by rfl) (by rfl) (by rfl) ?_
  rcases z2 with rfl | rfl
  · refine fe_s 1 (pc' := cond (fx_cb .eq 0 0) 12 8) (lc' := [(0, .ref 0), (1, .int (nI W)), (2, .int (nI C))]) (stk' := []) (mem' := fm g tp bt a b) (by intro _ _ _; eq_refl) ?_
    rw [show (fx_cb .eq 0 0) = true from by decide]
    dsimp only [cond]
    refine fe_s 2 (pc' := 14) (lc' := [(0, .ref 0), (1, .int (nI W)), (2, .int (nI C))]) (stk' := [.int (nI C), .ref 0]) (mem' := fm g tp bt a b) (by intro _ _ _; eq_refl) ?_
    obtain ⟨v3, z4, hv3⟩ := fq_isBroken (C := C) (g := g) (tp := tp) (bt := bt) (a := a) (b := b) (by omega)
    refine fe_ivV hv3 (by omega) (by rfl) (by rfl) (by rfl) (by rfl) (by rfl) (by rfl) ?_
    rcases z4 with rfl | rfl
    · refine fe_s 1 (pc' := cond (fx_cb .eq 0 0) 24 20) (lc' := [(0, .ref 0), (1, .int (nI W)), (2, .int (nI C))]) (stk' := []) (mem' := fm g tp bt a b) (by intro _ _ _; eq_refl) ?_
      rw [show (fx_cb .eq 0 0) = true from by decide]
      dsimp only [cond]
      refine fe_s 4 (pc' := 30) (lc' := [(0, .ref 0), (1, .int (nI W)), (2, .int (nI C))]) (stk' := [.int (nI C), .ref 1, .int 0]) (mem' := fm g tp bt a b) (by intro _ _ _; eq_refl) ?_
      refine fe_ivS fr_cellRow (by omega) (by rfl) (by rfl) (by rfl) (by rfl) (by rfl) ?_
      rw [show (8 + 6 * (nI C) : Int32) = nI (8 + (6 * C)) from by simp only [show (8 : Int32) = nI 8 from rfl, show (6 : Int32) = nI 6 from rfl, nI_add, fm_mul]]
      refine fe_s 2 (pc' := 35) (lc' := [(0, .ref 0), (1, .int (nI W)), (2, .int (nI C))]) (stk' := [.int ((nI (8 + (6 * C))) + 1), .ref 1, .int 0]) (mem' := fm g tp bt a b) (by intro _ _ _; eq_refl) ?_
      rw [show ((nI (8 + (6 * C))) + 1 : Int32) = nI ((8 + (6 * C)) + 1) from by simp only [show (1 : Int32) = nI 1 from rfl, nI_add, fm_mul]]
      refine fe_ldI (by rfl) (by rfl) (fx_inN (i := (8 + (6 * C)) + 1) (by omega) (by omega)) ?_
      rw [show Int32.toNatClampNeg (nI ((8 + (6 * C)) + 1)) = (8 + (6 * C)) + 1 from nI_clamp (by omega)]
      refine fe_s 3 (pc' := 41) (lc' := [(0, .ref 0), (1, .int (nI W)), (2, .int (nI C))]) (stk' := [.int 2, .ref 1, .int (a 1 ((8 + (6 * C)) + 1)), .int 0]) (mem' := fm g tp bt a b) (by intro _ _ _; eq_refl) ?_
      refine fe_ldI (by rfl) (by rfl) (fx_inN (i := 2) (by omega) (by omega)) ?_
      rw [show Int32.toNatClampNeg (2) = 2 from rfl]
      refine fe_s 2 (pc' := 44) (lc' := [(0, .ref 0), (1, .int (nI W)), (2, .int (nI C))]) (stk' := [.int (nI C), .ref 0, .int (a 1 2), .int (a 1 ((8 + (6 * C)) + 1)), .int 0]) (mem' := fm g tp bt a b) (by intro _ _ _; eq_refl) ?_
      obtain ⟨v5, hv5⟩ := fq_cameLately (C := C) (g := g) (tp := tp) (bt := bt) (a := a) (b := b) ht (by omega)
      refine fe_ivV hv5 (by omega) (by rfl) (by rfl) (by rfl) (by rfl) (by rfl) (by rfl) ?_
      refine fe_s 4 (pc' := 51) (lc' := [(0, .ref 0), (1, .int (nI W)), (2, .int (nI C))]) (stk' := [.int ((a 1 ((8 + (6 * C)) + 1)) - ((a 1 2) * (v5 + 1))), .int 0]) (mem' := fm g tp bt a b) (by intro _ _ _; eq_refl) ?_
      refine fe_s 1 (pc' := 54) (lc' := [(0, .ref 0), (1, .int (nI W)), (2, .int (nI C))]) (stk' := [.int (if 0 < ((a 1 ((8 + (6 * C)) + 1)) - ((a 1 2) * (v5 + 1))) then ((a 1 ((8 + (6 * C)) + 1)) - ((a 1 2) * (v5 + 1))) else 0)]) (mem' := fm g tp bt a b) (by intro _ _ _; eq_refl) ?_
      refine fe_s 5 (pc' := 59) (lc' := [(3, .int (if 0 < ((a 1 ((8 + (6 * C)) + 1)) - ((a 1 2) * (v5 + 1))) then ((a 1 ((8 + (6 * C)) + 1)) - ((a 1 2) * (v5 + 1))) else 0)), (0, .ref 0), (1, .int (nI W)), (2, .int (nI C))]) (stk' := [.int (nI W), .int (nI C), .ref 0, .int (if 0 < ((a 1 ((8 + (6 * C)) + 1)) - ((a 1 2) * (v5 + 1))) then ((a 1 ((8 + (6 * C)) + 1)) - ((a 1 2) * (v5 + 1))) else 0)]) (mem' := fm g tp bt a b) (by intro _ _ _; eq_refl) ?_
      obtain ⟨v6, hv6⟩ := fq_loadBut (C := C) (w := nI W) (g := g) (tp := tp) (bt := bt) (a := a) (b := b) ht (by omega)
      refine fe_ivV hv6 (by omega) (by rfl) (by rfl) (by rfl) (by rfl) (by rfl) (by rfl) ?_
      refine fe_s 3 (pc' := 65) (lc' := [(3, .int (if 0 < ((a 1 ((8 + (6 * C)) + 1)) - ((a 1 2) * (v5 + 1))) then ((a 1 ((8 + (6 * C)) + 1)) - ((a 1 2) * (v5 + 1))) else 0)), (0, .ref 0), (1, .int (nI W)), (2, .int (nI C))]) (stk' := [.int (nI W), .ref 0, .int ((if 0 < ((a 1 ((8 + (6 * C)) + 1)) - ((a 1 2) * (v5 + 1))) then ((a 1 ((8 + (6 * C)) + 1)) - ((a 1 2) * (v5 + 1))) else 0) - v6)]) (mem' := fm g tp bt a b) (by intro _ _ _; eq_refl) ?_
      obtain ⟨v7, hv7⟩ := fq_weightOf (V := W) (g := g) (tp := tp) (bt := bt) (a := a) (b := b) (by omega)
      refine fe_ivV hv7 (by omega) (by rfl) (by rfl) (by rfl) (by rfl) (by rfl) (by rfl) ?_
      refine fe_s 1 (pc' := 69) (lc' := [(3, .int (if 0 < ((a 1 ((8 + (6 * C)) + 1)) - ((a 1 2) * (v5 + 1))) then ((a 1 ((8 + (6 * C)) + 1)) - ((a 1 2) * (v5 + 1))) else 0)), (0, .ref 0), (1, .int (nI W)), (2, .int (nI C))]) (stk' := [.int (((if 0 < ((a 1 ((8 + (6 * C)) + 1)) - ((a 1 2) * (v5 + 1))) then ((a 1 ((8 + (6 * C)) + 1)) - ((a 1 2) * (v5 + 1))) else 0) - v6) - v7)]) (mem' := fm g tp bt a b) (by intro _ _ _; eq_refl) ?_
      exact fe_ret ⟨_, rfl⟩ (by rfl) (by rfl) (by rfl)
    · refine fe_s 1 (pc' := cond (fx_cb .eq 1 0) 24 20) (lc' := [(0, .ref 0), (1, .int (nI W)), (2, .int (nI C))]) (stk' := []) (mem' := fm g tp bt a b) (by intro _ _ _; eq_refl) ?_
      rw [show (fx_cb .eq 1 0) = false from by decide]
      dsimp only [cond]
      refine fe_s 7 (pc' := 59) (lc' := [(3, .int 0), (0, .ref 0), (1, .int (nI W)), (2, .int (nI C))]) (stk' := [.int (nI W), .int (nI C), .ref 0, .int 0]) (mem' := fm g tp bt a b) (by intro _ _ _; eq_refl) ?_
      obtain ⟨v8, hv8⟩ := fq_loadBut (C := C) (w := nI W) (g := g) (tp := tp) (bt := bt) (a := a) (b := b) ht (by omega)
      refine fe_ivV hv8 (by omega) (by rfl) (by rfl) (by rfl) (by rfl) (by rfl) (by rfl) ?_
      refine fe_s 3 (pc' := 65) (lc' := [(3, .int 0), (0, .ref 0), (1, .int (nI W)), (2, .int (nI C))]) (stk' := [.int (nI W), .ref 0, .int (0 - v8)]) (mem' := fm g tp bt a b) (by intro _ _ _; eq_refl) ?_
      obtain ⟨v9, hv9⟩ := fq_weightOf (V := W) (g := g) (tp := tp) (bt := bt) (a := a) (b := b) (by omega)
      refine fe_ivV hv9 (by omega) (by rfl) (by rfl) (by rfl) (by rfl) (by rfl) (by rfl) ?_
      refine fe_s 1 (pc' := 69) (lc' := [(3, .int 0), (0, .ref 0), (1, .int (nI W)), (2, .int (nI C))]) (stk' := [.int ((0 - v8) - v9)]) (mem' := fm g tp bt a b) (by intro _ _ _; eq_refl) ?_
      exact fe_ret ⟨_, rfl⟩ (by rfl) (by rfl) (by rfl)
  · refine fe_s 1 (pc' := cond (fx_cb .eq 1 0) 12 8) (lc' := [(0, .ref 0), (1, .int (nI W)), (2, .int (nI C))]) (stk' := []) (mem' := fm g tp bt a b) (by intro _ _ _; eq_refl) ?_
    rw [show (fx_cb .eq 1 0) = false from by decide]
    dsimp only [cond]
    refine fe_s 1 (pc' := 11) (lc' := [(0, .ref 0), (1, .int (nI W)), (2, .int (nI C))]) (stk' := [.int 999]) (mem' := fm g tp bt a b) (by intro _ _ _; eq_refl) ?_
    exact fe_ret ⟨_, rfl⟩ (by rfl) (by rfl) (by rfl)
theorem fq_doesBear {W C : Nat} (ht : fm_t a) (hW : W < 8) (hC : C < 10) : fm_Pz 6 303 [.ref 0, .int (nI W), .int (nI C)] (fm g tp bt a b) := by
  refine fm_Pz_of (by rfl) (by rfl) ?_
  refine fe_s 2 (pc' := 2) (lc' := [(0, .ref 0), (1, .int (nI W)), (2, .int (nI C))]) (stk' := [.int (nI C), .ref 0]) (mem' := fm g tp bt a b) (by intro _ _ _; eq_refl) ?_
  obtain ⟨v1, z2, hv1⟩ := fq_isShore (C := C) (g := g) (tp := tp) (bt := bt) (a := a) (b := b) (by omega)
  refine fe_ivV hv1 (by omega) (by rfl) (by rfl) (by rfl) (by rfl) (by rfl) (by rfl) ?_
  rcases z2 with rfl | rfl
  · refine fe_s 1 (pc' := cond (fx_cb .ne 0 0) 25 8) (lc' := [(0, .ref 0), (1, .int (nI W)), (2, .int (nI C))]) (stk' := []) (mem' := fm g tp bt a b) (by intro _ _ _; eq_refl) ?_
    rw [show (fx_cb .ne 0 0) = false from by decide]
    dsimp only [cond]
    refine fe_s 2 (pc' := 10) (lc' := [(0, .ref 0), (1, .int (nI W)), (2, .int (nI C))]) (stk' := [.int (nI C), .ref 0]) (mem' := fm g tp bt a b) (by intro _ _ _; eq_refl) ?_
    obtain ⟨v3, z4, hv3⟩ := fq_isBroken (C := C) (g := g) (tp := tp) (bt := bt) (a := a) (b := b) (by omega)
    refine fe_ivV hv3 (by omega) (by rfl) (by rfl) (by rfl) (by rfl) (by rfl) (by rfl) ?_
    rcases z4 with rfl | rfl
    · refine fe_s 1 (pc' := cond (fx_cb .ne 0 0) 29 16) (lc' := [(0, .ref 0), (1, .int (nI W)), (2, .int (nI C))]) (stk' := []) (mem' := fm g tp bt a b) (by intro _ _ _; eq_refl) ?_
      rw [show (fx_cb .ne 0 0) = false from by decide]
      dsimp only [cond]
      refine fe_s 3 (pc' := 19) (lc' := [(0, .ref 0), (1, .int (nI W)), (2, .int (nI C))]) (stk' := [.int (nI C), .int (nI W), .ref 0]) (mem' := fm g tp bt a b) (by intro _ _ _; eq_refl) ?_
      obtain ⟨v5, hv5⟩ := fq_marginOf (W := W) (C := C) (g := g) (tp := tp) (bt := bt) (a := a) (b := b) ht (by omega) (by omega)
      refine fe_ivV hv5 (by omega) (by rfl) (by rfl) (by rfl) (by rfl) (by rfl) (by rfl) ?_
      refine fe_s 1 (pc' := cond (fx_cb .lt v5 0) 29 25) (lc' := [(0, .ref 0), (1, .int (nI W)), (2, .int (nI C))]) (stk' := []) (mem' := fm g tp bt a b) (by intro _ _ _; eq_refl) ?_
      cases h6 : fx_cb .lt v5 0
      · refine fe_s 2 (pc' := 30) (lc' := [(0, .ref 0), (1, .int (nI W)), (2, .int (nI C))]) (stk' := [.int 1]) (mem' := fm g tp bt a b) (by intro _ _ _; eq_refl) ?_
        exact fe_ret ⟨_, Or.inr rfl, rfl⟩ (by rfl) (by rfl) (by rfl)
      · refine fe_s 1 (pc' := 30) (lc' := [(0, .ref 0), (1, .int (nI W)), (2, .int (nI C))]) (stk' := [.int 0]) (mem' := fm g tp bt a b) (by intro _ _ _; eq_refl) ?_
        exact fe_ret ⟨_, Or.inl rfl, rfl⟩ (by rfl) (by rfl) (by rfl)
    · refine fe_s 1 (pc' := cond (fx_cb .ne 1 0) 29 16) (lc' := [(0, .ref 0), (1, .int (nI W)), (2, .int (nI C))]) (stk' := []) (mem' := fm g tp bt a b) (by intro _ _ _; eq_refl) ?_
      rw [show (fx_cb .ne 1 0) = true from by decide]
      dsimp only [cond]
      refine fe_s 1 (pc' := 30) (lc' := [(0, .ref 0), (1, .int (nI W)), (2, .int (nI C))]) (stk' := [.int 0]) (mem' := fm g tp bt a b) (by intro _ _ _; eq_refl) ?_
      exact fe_ret ⟨_, Or.inl rfl, rfl⟩ (by rfl) (by rfl) (by rfl)
  · refine fe_s 1 (pc' := cond (fx_cb .ne 1 0) 25 8) (lc' := [(0, .ref 0), (1, .int (nI W)), (2, .int (nI C))]) (stk' := []) (mem' := fm g tp bt a b) (by intro _ _ _; eq_refl) ?_
    rw [show (fx_cb .ne 1 0) = true from by decide]
    dsimp only [cond]
    refine fe_s 2 (pc' := 30) (lc' := [(0, .ref 0), (1, .int (nI W)), (2, .int (nI C))]) (stk' := [.int 1]) (mem' := fm g tp bt a b) (by intro _ _ _; eq_refl) ?_
    exact fe_ret ⟨_, Or.inr rfl, rfl⟩ (by rfl) (by rfl) (by rfl)
theorem fq_bearers {W : Nat} (ht : fm_t a) (hW : W < 8) : fm_P 7 304 [.ref 0, .int (nI W)] (fm g tp bt a b) := by
  have ht0 := ht
  obtain ⟨⟨NC, hNC, eNC⟩, -, -, -, -⟩ := ht
  have ht := ht0
  refine fm_P_of (by rfl) (by rfl) ?_
  refine fe_s 4 (pc' := 4) (lc' := [(3, .int 0), (2, .int 0), (0, .ref 0), (1, .int (nI W))]) (stk' := []) (mem' := fm g tp bt a b) (by intro _ _ _; eq_refl) ?_
  have loop : ∀ (r i : Nat), i + r = NC → ∀ (x2 : Int32), fe_R 6 gk_m304 4 [(3, .int (nI i)), (2, .int x2), (0, .ref 0), (1, .int (nI W))] [] (fm g tp bt a b) (fm_FP (fm g tp bt a b)) := by
    intro r
    induction r with
    | zero =>
      intro i hir x2
      obtain rfl : NC = i := by omega
      refine fe_s 4 (pc' := 10) (lc' := [(3, .int (nI NC)), (2, .int x2), (0, .ref 0), (1, .int (nI W))]) (stk' := [.int 0, .ref 1, .int (nI NC)]) (mem' := fm g tp bt a b) (by intro _ _ _; eq_refl) ?_
      refine fe_ldI (by rfl) (by rfl) (fx_inN (i := 0) (by omega) (by omega)) ?_
      rw [show Int32.toNatClampNeg (0) = 0 from rfl]
      rw [eNC]
      refine fe_s 1 (pc' := cond (fx_cb .ge (nI NC) (nI NC)) 39 14) (lc' := [(3, .int (nI NC)), (2, .int x2), (0, .ref 0), (1, .int (nI W))]) (stk' := []) (mem' := fm g tp bt a b) (by intro _ _ _; eq_refl) ?_
      rw [show (fx_cb .ge (nI NC) (nI NC)) = true from cb_geT (a := NC) (b := NC) (by omega) (by omega) (by omega)]
      dsimp only [cond]
      refine fe_s 1 (pc' := 40) (lc' := [(3, .int (nI NC)), (2, .int x2), (0, .ref 0), (1, .int (nI W))]) (stk' := [.int x2]) (mem' := fm g tp bt a b) (by intro _ _ _; eq_refl) ?_
      exact fe_ret ⟨_, rfl⟩ (by rfl) (by rfl) (by rfl)
    | succ r ih =>
      intro i hir x2
      refine fe_s 4 (pc' := 10) (lc' := [(3, .int (nI i)), (2, .int x2), (0, .ref 0), (1, .int (nI W))]) (stk' := [.int 0, .ref 1, .int (nI i)]) (mem' := fm g tp bt a b) (by intro _ _ _; eq_refl) ?_
      refine fe_ldI (by rfl) (by rfl) (fx_inN (i := 0) (by omega) (by omega)) ?_
      rw [show Int32.toNatClampNeg (0) = 0 from rfl]
      rw [eNC]
      refine fe_s 1 (pc' := cond (fx_cb .ge (nI i) (nI NC)) 39 14) (lc' := [(3, .int (nI i)), (2, .int x2), (0, .ref 0), (1, .int (nI W))]) (stk' := []) (mem' := fm g tp bt a b) (by intro _ _ _; eq_refl) ?_
      rw [show (fx_cb .ge (nI i) (nI NC)) = false from cb_geF (a := i) (b := NC) (by omega) (by omega) (by omega)]
      dsimp only [cond]
      refine fe_s 4 (pc' := 18) (lc' := [(3, .int (nI i)), (2, .int x2), (0, .ref 0), (1, .int (nI W))]) (stk' := [.int (nI i), .int (nI W), .ref 0, .int x2]) (mem' := fm g tp bt a b) (by intro _ _ _; eq_refl) ?_
      obtain ⟨v1, z2, hv1⟩ := fq_doesBear (W := W) (C := i) (g := g) (tp := tp) (bt := bt) (a := a) (b := b) ht (by omega) (by omega)
      refine fe_ivV hv1 (by omega) (by rfl) (by rfl) (by rfl) (by rfl) (by rfl) (by rfl) ?_
      rcases z2 with rfl | rfl
      · refine fe_s 1 (pc' := cond (fx_cb .eq 0 0) 30 24) (lc' := [(3, .int (nI i)), (2, .int x2), (0, .ref 0), (1, .int (nI W))]) (stk' := [.int x2]) (mem' := fm g tp bt a b) (by intro _ _ _; eq_refl) ?_
        rw [show (fx_cb .eq 0 0) = true from by decide]
        dsimp only [cond]
        refine fe_s 5 (pc' := 4) (lc' := [(3, .int ((nI i) + 1)), (2, .int (x2 ||| 0)), (0, .ref 0), (1, .int (nI W))]) (stk' := []) (mem' := fm g tp bt a b) (by intro _ _ _; eq_refl) ?_
        rw [show ((nI i) + 1 : Int32) = nI (i + 1) from by simp only [show (1 : Int32) = nI 1 from rfl, nI_add, fm_mul]]
        exact ih (i + 1) (by omega) _
      · refine fe_s 1 (pc' := cond (fx_cb .eq 1 0) 30 24) (lc' := [(3, .int (nI i)), (2, .int x2), (0, .ref 0), (1, .int (nI W))]) (stk' := [.int x2]) (mem' := fm g tp bt a b) (by intro _ _ _; eq_refl) ?_
        rw [show (fx_cb .eq 1 0) = false from by decide]
        dsimp only [cond]
        refine fe_s 8 (pc' := 4) (lc' := [(3, .int ((nI i) + 1)), (2, .int (x2 ||| (1 <<< ((nI i) &&& 31)))), (0, .ref 0), (1, .int (nI W))]) (stk' := []) (mem' := fm g tp bt a b) (by intro _ _ _; eq_refl) ?_
        rw [show ((nI i) + 1 : Int32) = nI (i + 1) from by simp only [show (1 : Int32) = nI 1 from rfl, nI_add, fm_mul]]
        exact ih (i + 1) (by omega) _
  exact loop NC 0 (by omega) _
theorem fq_above {W : Nat} {m : Int32} (ht : fm_t a) (hW : W < 8) : fm_P 7 313 [.ref 0, .int (nI W), .int m] (fm g tp bt a b) := by
  have ht0 := ht
  obtain ⟨⟨NC, hNC, eNC⟩, -, -, -, -⟩ := ht
  have ht := ht0
  refine fm_P_of (by rfl) (by rfl) ?_
  refine fe_s 4 (pc' := 5) (lc' := [(4, .int 0), (3, .int 0), (0, .ref 0), (1, .int (nI W)), (2, .int m)]) (stk' := []) (mem' := fm g tp bt a b) (by intro _ _ _; eq_refl) ?_
  have loop : ∀ (r i : Nat), i + r = NC → ∀ (x3 : Int32), fe_R 6 gk_m313 5 [(4, .int (nI i)), (3, .int x3), (0, .ref 0), (1, .int (nI W)), (2, .int m)] [] (fm g tp bt a b) (fm_FP (fm g tp bt a b)) := by
    intro r
    induction r with
    | zero =>
      intro i hir x3
      obtain rfl : NC = i := by omega
      refine fe_s 4 (pc' := 12) (lc' := [(4, .int (nI NC)), (3, .int x3), (0, .ref 0), (1, .int (nI W)), (2, .int m)]) (stk' := [.int 0, .ref 1, .int (nI NC)]) (mem' := fm g tp bt a b) (by intro _ _ _; eq_refl) ?_
      refine fe_ldI (by rfl) (by rfl) (fx_inN (i := 0) (by omega) (by omega)) ?_
      rw [show Int32.toNatClampNeg (0) = 0 from rfl]
      rw [eNC]
      refine fe_s 1 (pc' := cond (fx_cb .ge (nI NC) (nI NC)) 44 16) (lc' := [(4, .int (nI NC)), (3, .int x3), (0, .ref 0), (1, .int (nI W)), (2, .int m)]) (stk' := []) (mem' := fm g tp bt a b) (by intro _ _ _; eq_refl) ?_
      rw [show (fx_cb .ge (nI NC) (nI NC)) = true from cb_geT (a := NC) (b := NC) (by omega) (by omega) (by omega)]
      dsimp only [cond]
      refine fe_s 1 (pc' := 45) (lc' := [(4, .int (nI NC)), (3, .int x3), (0, .ref 0), (1, .int (nI W)), (2, .int m)]) (stk' := [.int x3]) (mem' := fm g tp bt a b) (by intro _ _ _; eq_refl) ?_
      exact fe_ret ⟨_, rfl⟩ (by rfl) (by rfl) (by rfl)
    | succ r ih =>
      intro i hir x3
      refine fe_s 4 (pc' := 12) (lc' := [(4, .int (nI i)), (3, .int x3), (0, .ref 0), (1, .int (nI W)), (2, .int m)]) (stk' := [.int 0, .ref 1, .int (nI i)]) (mem' := fm g tp bt a b) (by intro _ _ _; eq_refl) ?_
      refine fe_ldI (by rfl) (by rfl) (fx_inN (i := 0) (by omega) (by omega)) ?_
      rw [show Int32.toNatClampNeg (0) = 0 from rfl]
      rw [eNC]
      refine fe_s 1 (pc' := cond (fx_cb .ge (nI i) (nI NC)) 44 16) (lc' := [(4, .int (nI i)), (3, .int x3), (0, .ref 0), (1, .int (nI W)), (2, .int m)]) (stk' := []) (mem' := fm g tp bt a b) (by intro _ _ _; eq_refl) ?_
      rw [show (fx_cb .ge (nI i) (nI NC)) = false from cb_geF (a := i) (b := NC) (by omega) (by omega) (by omega)]
      dsimp only [cond]
      refine fe_s 4 (pc' := 21) (lc' := [(4, .int (nI i)), (3, .int x3), (0, .ref 0), (1, .int (nI W)), (2, .int m)]) (stk' := [.int (nI i), .int (nI W), .ref 0, .int x3]) (mem' := fm g tp bt a b) (by intro _ _ _; eq_refl) ?_
      obtain ⟨v1, hv1⟩ := fq_marginOf (W := W) (C := i) (g := g) (tp := tp) (bt := bt) (a := a) (b := b) ht (by omega) (by omega)
      refine fe_ivV hv1 (by omega) (by rfl) (by rfl) (by rfl) (by rfl) (by rfl) (by rfl) ?_
      refine fe_s 1 (pc' := 25) (lc' := [(4, .int (nI i)), (3, .int x3), (0, .ref 0), (1, .int (nI W)), (2, .int m)]) (stk' := [.int m, .int v1, .int x3]) (mem' := fm g tp bt a b) (by intro _ _ _; eq_refl) ?_
      refine fe_s 1 (pc' := cond (fx_cb .lt v1 m) 35 28) (lc' := [(4, .int (nI i)), (3, .int x3), (0, .ref 0), (1, .int (nI W)), (2, .int m)]) (stk' := [.int x3]) (mem' := fm g tp bt a b) (by intro _ _ _; eq_refl) ?_
      cases h2 : fx_cb .lt v1 m
      · refine fe_s 8 (pc' := 5) (lc' := [(4, .int ((nI i) + 1)), (3, .int (x3 ||| (1 <<< ((nI i) &&& 31)))), (0, .ref 0), (1, .int (nI W)), (2, .int m)]) (stk' := []) (mem' := fm g tp bt a b) (by intro _ _ _; eq_refl) ?_
        rw [show ((nI i) + 1 : Int32) = nI (i + 1) from by simp only [show (1 : Int32) = nI 1 from rfl, nI_add, fm_mul]]
        exact ih (i + 1) (by omega) _
      · refine fe_s 5 (pc' := 5) (lc' := [(4, .int ((nI i) + 1)), (3, .int (x3 ||| 0)), (0, .ref 0), (1, .int (nI W)), (2, .int m)]) (stk' := []) (mem' := fm g tp bt a b) (by intro _ _ _; eq_refl) ?_
        rw [show ((nI i) + 1 : Int32) = nI (i + 1) from by simp only [show (1 : Int32) = nI 1 from rfl, nI_add, fm_mul]]
        exact ih (i + 1) (by omega) _
  exact loop NC 0 (by omega) _
end FQ2
end MH42_0
section MH42_1
/-! ===== fx and tk: what the types say of the model's memory ===== -/
section FMT
variable {U : State} {tw ads : List Nat} {ws : va_W} {h0 : Nat} {ps : fx_P} {σ : List Nat} {TY : tk_TT} {ro : Nat → Nat → Int → Prop} {g : Nat → Int32} {tp bt : Int64} {a : Nat → Nat → Int32} {b : Nat → Nat → Int64} {mem : fx_M}
theorem fm_cl (h5 : rk_A2 (fun t (q : Nat × va_E) => tk_cl TY ro ads tw U t q.2) tw ws) (hat : fm_at U tw ws h0 ps σ mem) {t : Nat} (ht : t < 22) {e : fx_E} (he : mem[t]? = some e) : ∃ q, ps[t]? = some q ∧ tk_cl TY ro ads tw U t (fx_c ps q.2 e) := by
  obtain ⟨a1, a2, a3, a4, a5⟩ := hat
  have hs : σ[t]? = some σ[t] := List.getElem?_eq_getElem (by omega)
  obtain ⟨b1, q, e1, b2, b3, b4⟩ := a5 t _ hs
  obtain rfl : e = e1 := Option.some.inj (he.symm.trans b3)
  obtain ⟨q2, c1, c2⟩ := h5.get b1
  rw [b4] at c1
  obtain rfl := Option.some.inj c1
  exact ⟨q, b2, c2⟩
/-- an int array's elements, by its type -/
theorem fm_tyI (h5 : rk_A2 (fun t (q : Nat × va_E) => tk_cl TY ro ads tw U t q.2) tw ws) (hat : fm_at U tw ws h0 ps σ mem) {t n : Nat} {f : Nat → Int32} {fl : tk_F} (ht : t < 22) (he : mem[t]? = some (.inr (.int, n, .inl f))) (hk : TY.1[t]? = some (.inr (.int, n, fl))) : ∀ i, i < n → tk_fv ro TY.2.1 ads tw t i fl (.int (f i)) := by
  obtain ⟨q, -, h⟩ := fm_cl h5 hat ht he
  unfold tk_cl at h
  rw [hk] at h
  obtain ⟨cA, -, -, h⟩ := h
  obtain ⟨f2, e2, h⟩ : ∃ f2 : Nat → Int32, fx_c ps q.2 (.inr (.int, n, .inl f)) = .inl (cA, n, .inl f2) ∧ ∀ i, i < n → tk_fv ro TY.2.1 ads tw t i fl (.int (f2 i)) := h
  have e3 : f = f2 := by
    have : (Sum.inl (q.2, n, Sum.inl f) : va_E) = .inl (cA, n, .inl f2) := e2
    cases this
    rfl
  subst e3
  exact h
theorem fm_tyA (hT : fm_Ty TY) (h5 : rk_A2 (fun t (q : Nat × va_E) => tk_cl TY ro ads tw U t q.2) tw ws) (hat : fm_at U tw ws h0 ps σ (fm g tp bt a b)) {i : Nat} (hi : i < 5894) : (gm_at i).1 ≤ (a 1 i).toInt ∧ (a 1 i).toInt ≤ (gm_at i).2 := by
  have h := fm_tyI h5 hat (t := 1) (by decide) rfl (by rw [hT.1]; rfl) i hi
  obtain ⟨x, hx, h1, h2⟩ : ∃ x : Int32, Value.int (a 1 i) = .int x ∧ (TY.2.1 1 i).1 ≤ x.toInt ∧ x.toInt ≤ (TY.2.1 1 i).2 := h
  cases hx
  rw [hT.2.1] at h1 h2
  exact ⟨h1, h2⟩
theorem nI_bd {x : Int32} {n : Nat} (h0 : 0 ≤ x.toInt) (h1 : x.toInt ≤ (n : Int)) : ∃ m, m ≤ n ∧ x = nI m := by
  obtain ⟨j, hj, rfl⟩ := nI_of (x := x) (fun z => by have := Int32.lt_iff_toInt_lt.mp z; have e : (0 : Int32).toInt = 0 := rfl; omega)
  rw [nI_toInt hj] at h1
  exact ⟨j, by omega, rfl⟩
theorem fm_tyP (hT : fm_Ty TY) (h5 : rk_A2 (fun t (q : Nat × va_E) => tk_cl TY ro ads tw U t q.2) tw ws) (hat : fm_at U tw ws h0 ps σ (fm g tp bt a b)) {i n : Nat} (hi : i < 5894) (hn : gm_at i = (0, (n : Int))) : ∃ m, m ≤ n ∧ a 1 i = nI m := by
  obtain ⟨h1, h2⟩ := fm_tyA hT h5 hat hi
  rw [hn] at h1 h2
  exact nI_bd h1 h2
/-- the heads of the LAKE are within their bounds -/
theorem fm_tyt (hT : fm_Ty TY) (h5 : rk_A2 (fun t (q : Nat × va_E) => tk_cl TY ro ads tw U t q.2) tw ws) (hat : fm_at U tw ws h0 ps σ (fm g tp bt a b)) : fm_t a := by
  refine ⟨fm_tyP hT h5 hat (by decide) rfl, fm_tyP hT h5 hat (by decide) rfl, fm_tyP hT h5 hat (by decide) rfl, ?_, fun w hw => ?_⟩
  · obtain ⟨m, h1, h2⟩ := fm_tyP (n := 9999) hT h5 hat (i := 5) (by decide) rfl
    exact ⟨m, by omega, h2⟩
  have h9 : ∀ w, w < 8 → gm_at (279 + 5 * w) = (0, ((9 : Nat) : Int)) := by decide
  obtain ⟨m, h1, h2⟩ := fm_tyP (n := 9) hT h5 hat (i := 279 + 5 * w) (by omega) (h9 w hw)
  exact ⟨m, by omega, h2⟩
end FMT
/-- an argument that is a symbol of its own -/
theorem fm_arg {env : List tk_I} {vals : List Int} {rads : List Nat} {k : Nat} {v : Value} {lo hi : Int} (hE : tk_E env vals) (h : tk_g vals rads (0, k + 1, 1, 0) v) (hk : env[k]? = some (lo, hi)) : ∃ x : Int32, v = .int x ∧ lo ≤ x.toInt ∧ x.toInt ≤ hi ∧ vals[k]? = some x.toInt := by
  obtain ⟨x, rfl, hx⟩ := tk_g0 h rfl
  obtain ⟨z, hz, h1⟩ := hE.get hk
  unfold tk_num at hx
  dsimp only at hx
  rw [hz] at hx
  dsimp only at hx h1
  have : z = x.toInt := by
    have := Option.some.inj hx
    omega
  subst this
  exact ⟨x, rfl, h1.1, h1.2, hz⟩
end MH42_1
section MH42_2
/-! ===== the model: laysFar's contract, by fx ===== -/
theorem fm_chg9 {TY : tk_TT} {ro : Nat → Nat → Int → Prop} {ads tw : List Nat} {ps : fx_P} {g : Nat → Int32} {tp bt : Int64} {a p : Nat → Nat → Int32} {b : Nat → Nat → Int64} {mods : List (Nat × Nat)} (hT : fm_Ty TY) (hm : (9, 0) ∈ mods) (hp : ∀ t, t ≠ 9 → p t = a t) (hb : ∀ i, i < 10 → 0 ≤ (p 9 i).toInt ∧ (p 9 i).toInt ≤ 1000000) : ∀ (t : Nat) (e e' : fx_E), (fm g tp bt a b)[t]? = some e → (fm g tp bt p b)[t]? = some e' → fm_chg TY ro ads tw mods ps t e e' := by
  have hp2 : p = fun t => if t = 9 then p 9 else a t := funext (fun t => by
    split
    · next h => rw [h]
    · next h => exact hp t h)
  generalize hq : p 9 = q at hp2 hb
  rw [hp2]
  intro t e e' h h'
  match t, h, h' with
  | 9, h, h' =>
    cases h
    cases h'
    refine Or.inr (Or.inl ⟨10, a 9, q, (3, 9, 0), rfl, rfl, by rw [hT.1]; rfl, fun i hi => ?_, fun i hi => absurd ?_ hi, 0, ?_⟩)
    · show ∃ x : Int32, Value.int (q i) = .int x ∧ (TY.2.1 9 i).1 ≤ x.toInt ∧ x.toInt ≤ (TY.2.1 9 i).2
      refine ⟨q i, rfl, ?_⟩
      rw [hT.2.1]
      exact hb i hi
    · unfold tk_rg; rw [hT.2.2]; exact hm
    · unfold tk_rg; rw [hT.2.2]; exact hm
  | 0, h, h' => cases h; cases h'; exact Or.inl rfl
  | 1, h, h' => cases h; cases h'; exact Or.inl rfl
  | 2, h, h' => cases h; cases h'; exact Or.inl rfl
  | 3, h, h' => cases h; cases h'; exact Or.inl rfl
  | 4, h, h' => cases h; cases h'; exact Or.inl rfl
  | 5, h, h' => cases h; cases h'; exact Or.inl rfl
  | 6, h, h' => cases h; cases h'; exact Or.inl rfl
  | 7, h, h' => cases h; cases h'; exact Or.inl rfl
  | 8, h, h' => cases h; cases h'; exact Or.inl rfl
  | 10, h, h' => cases h; cases h'; exact Or.inl rfl
  | 11, h, h' => cases h; cases h'; exact Or.inl rfl
  | 12, h, h' => cases h; cases h'; exact Or.inl rfl
  | 13, h, h' => cases h; cases h'; exact Or.inl rfl
  | 14, h, h' => cases h; cases h'; exact Or.inl rfl
  | 15, h, h' => cases h; cases h'; exact Or.inl rfl
  | 16, h, h' => cases h; cases h'; exact Or.inl rfl
  | 17, h, h' => cases h; cases h'; exact Or.inl rfl
  | 18, h, h' => cases h; cases h'; exact Or.inl rfl
  | 19, h, h' => cases h; cases h'; exact Or.inl rfl
  | 20, h, h' => cases h; cases h'; exact Or.inl rfl
  | 21, h, h' => cases h; cases h'; exact Or.inl rfl
  | n + 22, h, h' => cases h
theorem nI_i32 {n : Nat} (h : n < 2147483648) : (nI n).toInt = (n : Int) := nI_toInt (by omega)
theorem fm_bfs_bd {p : Nat → Nat → Int32} (h : fm_bfs p) : ∀ i, i < 10 → 0 ≤ (p 9 i).toInt ∧ (p 9 i).toInt ≤ 1000000 := fun i hi => by
  rcases h i hi with e | ⟨v, hv, e, -⟩
  · rw [e]; decide
  · rw [e, nI_i32 (by omega)]; omega
def gq_w : tk_W := ([(0, 7), (-2147483648, 2147483647), (-2147483648, 2147483647)], [])
def gq_w1 : tk_W := ([(0, 7), (-2147483648, 2147483647), (-2147483648, 2147483647), (0, 10)], [])
/-- laysFar -/
def gq_305 : tk_K := (305, [(2, 0, 0, 0), (0, 1, 1, 0), (0, 2, 1, 0), (0, 3, 1, 0)], gq_w, [0], [], [(some (0, 0, 0, 1000000), gq_w, [0], []), (some (0, 4, 1, 0), gq_w1, [0], [])], [(9, 0)])
theorem gk_305 {l : Launch} {D : va_G} {xt : tk_XT} {ro : Nat → Nat → Int → Prop} {ads tw : List Nat} (hst : ∀ (Ad : Nat → Prop) (U : State) (H : Heap), xt Ad U H → ∃ pl v tx, sk_X pl v Ad U H ∧ vk_R "GooseIceModel" 189 tx pl U) {TY : tk_TT} (hT : fm_Ty TY) : tk_KS l D gk_cl gk_tbl gk_xw xt gk_MN gk_P TY ro (fun _ => True) ads tw 9 gq_305 := by
  refine tk_KS2_1 (fm_KS2 (k := 5) hst hT rfl (fun U vals rest ws h0 ps σ g tp bt a b hH hrest hty hfst hD hfa hat _ => ?_))
  obtain ⟨vw, r1, rfl, gW, hr1⟩ := hrest.cons
  obtain ⟨vt, r2, rfl, gt, hr2⟩ := hr1.cons
  obtain ⟨vb, r3, rfl, gb, hr3⟩ := hr2.cons
  have := hr3.nil
  subst this
  obtain ⟨xw, rfl, w1, w2, -⟩ := fm_arg hH.1 gW rfl
  obtain ⟨to, rfl, -, -, -⟩ := fm_arg hH.1 gt rfl
  obtain ⟨bby, rfl, -, -, -⟩ := fm_arg hH.1 gb rfl
  obtain ⟨W, hW, rfl⟩ := nI_bd (n := 7) w1 w2
  obtain ⟨⟨NC, hNC, eNC⟩, -, -, -, hw⟩ := fm_tyt hT hty hat
  obtain ⟨X, hX, eX⟩ := hw W (by omega)
  obtain ⟨v, mem', ⟨p, hp, hR⟩, hfr⟩ := fr_laysFar (g := g) (tp := tp) (bt := bt) (b := b) (to := to) (bby := bby) (W := W) (by omega) eX hX eNC hNC
  cases hR
  refine ⟨_, _, hfr, fm_chg9 hT (List.mem_singleton.mpr rfl) hp.1 (fm_bfs_bd hp.2), trivial, ?_⟩
  rcases hp.2 X hX with e | ⟨n, hn, e, -⟩
  · refine ⟨_, List.mem_cons_self, vals, ⟨[], by simp⟩, hH, rfl, fun q hq => absurd hq List.not_mem_nil, .int (p 9 X), ⟨p 9 X, rfl, by rw [e]; rfl⟩, rfl⟩
  · have hl : vals.length = 3 := hH.1.len.symm
    refine ⟨_, List.mem_cons_of_mem _ List.mem_cons_self, vals ++ [(n : Int)], ⟨[(n : Int)], rfl⟩, ⟨?_, fun q hq => absurd hq List.not_mem_nil⟩, rfl, fun q hq => absurd hq List.not_mem_nil, .int (p 9 X), ⟨p 9 X, rfl, ?_⟩, rfl⟩
    · exact hH.1.push ⟨by show (0 : Int) ≤ (n : Int); omega, by show (n : Int) ≤ 10; omega⟩
    · unfold tk_num
      dsimp only
      rw [List.getElem?_append_right (by omega), hl, e, nI_i32 (by omega)]
      show some (1 * (n : Int) + 0) = _
      congr 1
      omega
end MH42_2
section MH42_3
/-! ===== fx: sends ===== -/
section FSN
variable {g : Nat → Int32} {tp bt : Int64} {a : Nat → Nat → Int32} {b : Nat → Nat → Int64}
def fm_sym (a : Nat → Nat → Int32) : Prop := ∀ A B, A < 10 → B < 10 → fm_b (a 1 (10 + 6 * A)) (nI B) = fm_b (a 1 (10 + 6 * B)) (nI A)
theorem fm_min {q : Nat → Nat → Int32} {Y : Nat} : ∀ n : Nat, (∃ c, c < n ∧ fm_near q Y c) → ∃ c, c < n ∧ fm_near q Y c ∧ ∀ d, d < c → ¬ fm_near q Y d := by
  intro n
  induction n with
  | zero => rintro ⟨c, h, -⟩; exact absurd h (Nat.not_lt_zero c)
  | succ n ih =>
    rintro ⟨c, hc, hn⟩
    by_cases h : ∃ d, d < n ∧ fm_near q Y d
    · obtain ⟨d, h1, h2, h3⟩ := ih h
      exact ⟨d, by omega, h2, h3⟩
    · refine ⟨c, hc, hn, fun d hd hq => h ⟨d, by omega, hq⟩⟩
theorem nI_pred1 (d : Nat) : nI (d + 1) - 1 = nI d := nI_pred d
theorem fm_next {q : Nat → Nat → Int32} {Y d : Nat} (hb : fm_bfs q) (hs : fm_sym q) (hY : Y < 10) (hd : q 9 Y = nI (d + 1)) (hd10 : d + 1 ≤ 10) : ∃ c0, c0 < 10 ∧ q 9 c0 = nI d ∧ fr_T 4 306 [.ref 0, .int (nI Y)] (fm g tp bt q b) (some (.int (nI c0))) (fm g tp bt q b) := by
  have hex : ∃ c, c < 10 ∧ fm_near q Y c := by
    rcases hb Y hY with e | ⟨v, hv, e, h0 | ⟨c1, h1, h2, h3⟩⟩
    · rw [hd] at e
      exact absurd ((nI_eq (a := d + 1) (b := 1000000) (by omega) (by omega)).mp e) (by omega)
    · rw [hd] at e
      have := (nI_eq (a := d + 1) (b := v) (by omega) (by omega)).mp e
      omega
    · rw [hd] at e
      have e2 := (nI_eq (a := d + 1) (b := v) (by omega) (by omega)).mp e
      subst e2
      refine ⟨c1, h1, ?_, ?_⟩
      · rw [hs Y c1 hY h1]; exact h3
      · rw [h2, hd, nI_pred1]; rfl
  obtain ⟨c0, h1, h2, h3⟩ := fm_min 10 hex
  refine ⟨c0, h1, ?_, fr_nextOn hY h1 h2 h3⟩
  rw [h2.2, hd, nI_pred1]
def fm_sent (a q : Nat → Nat → Int32) (W : Nat) : Prop := (∀ t, t ≠ 1 → t ≠ 9 → q t = a t) ∧ (∀ i, i < 10 → 0 ≤ (q 9 i).toInt ∧ (q 9 i).toInt ≤ 1000000) ∧ ∀ j, q 1 j = a 1 j ∨ (318 + 20 * W ≤ j ∧ j < 328 + 20 * W ∧ ∃ c, c < 10 ∧ q 1 j = nI c) ∨ (j = 281 + 5 * W ∧ ∃ n, n ≤ 10 ∧ q 1 j = nI n)
def fm_FS (g : Nat → Int32) (tp bt : Int64) (a : Nat → Nat → Int32) (b : Nat → Nat → Int64) (W : Nat) (R : Option Value × fx_M) : Prop := ∃ (v : Int32) (q : Nat → Nat → Int32), (v = 0 ∨ v = 6 ∨ v = 7) ∧ R = (some (.int v), fm g tp bt q b) ∧ fm_sent a q W
/-- what a route's writing leaves -/
def fm_way (p q : Nat → Nat → Int32) (W : Nat) : Prop := (∀ t, t ≠ 1 → q t = p t) ∧ ∀ j, q 1 j = p 1 j ∨ (318 + 20 * W ≤ j ∧ j < 328 + 20 * W ∧ ∃ c, c < 10 ∧ q 1 j = nI c)
theorem fm_way_low {p q : Nat → Nat → Int32} {W j : Nat} (h : fm_way p q W) (hj : j < 318) : q 1 j = p 1 j := by
  rcases h.2 j with e | ⟨h1, -, -⟩
  · exact e
  · omega
theorem fm_way_bfs {p q : Nat → Nat → Int32} {W : Nat} (h : fm_way p q W) (hb : fm_bfs p) : fm_bfs q := by
  intro c hc
  rw [h.1 9 (by decide)]
  rcases hb c hc with e | ⟨v, hv, e, h0⟩
  · exact Or.inl e
  · refine Or.inr ⟨v, hv, e, h0.imp id ?_⟩
    rintro ⟨c1, h1, h2, h3⟩
    exact ⟨c1, h1, h2, by rw [fm_way_low h (by omega)]; exact h3⟩
theorem fm_way_sym {p q : Nat → Nat → Int32} {W : Nat} (h : fm_way p q W) (hs : fm_sym p) : fm_sym q := fun A B hA hB => by
  rw [fm_way_low h (by omega), fm_way_low h (by omega)]
  exact hs A B hA hB
theorem fm_way_set {p q : Nat → Nat → Int32} {W i c : Nat} (h : fm_way p q W) (hi : i < 10) (hc : c < 10) : fm_way p (fm_u q 1 (318 + 20 * W + i) (nI c)) W := by
  refine ⟨fun t ht => ?_, fun j => ?_⟩
  · unfold fm_u; rw [if_neg ht]; exact h.1 t ht
  · unfold fm_u
    rw [if_pos rfl]
    by_cases e : j = 318 + 20 * W + i
    · subst e
      exact Or.inr ⟨by omega, by omega, c, hc, pk_us⟩
    · rw [pk_un e]; exact h.2 j
theorem fr_sends {W : Nat} {to : Int32} (ht : fm_t a) (hs : fm_sym a) (hb9 : ∀ i, i < 10 → 0 ≤ (a 9 i).toInt ∧ (a 9 i).toInt ≤ 1000000) (hW : W < 8) : ∃ (v : Option Value) (mem' : fx_M), fm_FS g tp bt a b W (v, mem') ∧ fr_T 8 290 [.ref 0, .int (nI W), .int to] (fm g tp bt a b) v mem' := by
  obtain ⟨⟨NC, hNC, eNC⟩, -, -, -, hw⟩ := id ht
  obtain ⟨X, hX, eX⟩ := hw W hW
  refine fe_meth (by rfl) (by rfl) ?_
  refine fe_s 2 (pc' := 2) (lc' := [(0, .ref 0), (1, .int (nI W)), (2, .int to)]) (stk' := [.int (nI W), .ref 0]) (mem' := fm g tp bt a b) (by intro _ _ _; eq_refl) ?_
  obtain ⟨v3, z4, hv3⟩ := fq_isWet (V := W) (g := g) (tp := tp) (bt := bt) (a := a) (b := b) (by omega)
  refine fe_ivV hv3 (by omega) (by rfl) (by rfl) (by rfl) (by rfl) (by rfl) (by rfl) ?_
  rcases z4 with rfl | rfl
  · refine fe_s 1 (pc' := cond (fx_cb .ne 0 0) 25 8) (lc' := [(0, .ref 0), (1, .int (nI W)), (2, .int to)]) (stk' := []) (mem' := fm g tp bt a b) (by intro _ _ _; eq_refl) ?_
    rw [show (fx_cb .ne 0 0) = false from by decide]
    dsimp only [cond]
    refine fe_s 2 (pc' := 10) (lc' := [(0, .ref 0), (1, .int (nI W)), (2, .int to)]) (stk' := [.int (nI W), .ref 0]) (mem' := fm g tp bt a b) (by intro _ _ _; eq_refl) ?_
    obtain ⟨v5, hv5⟩ := fq_leftOf (V := W) (g := g) (tp := tp) (bt := bt) (a := a) (b := b) (by omega)
    refine fe_ivV hv5 (by omega) (by rfl) (by rfl) (by rfl) (by rfl) (by rfl) (by rfl) ?_
    refine fe_s 1 (pc' := cond (fx_cb .gt v5 0) 25 16) (lc' := [(0, .ref 0), (1, .int (nI W)), (2, .int to)]) (stk' := []) (mem' := fm g tp bt a b) (by intro _ _ _; eq_refl) ?_
    cases h6 : fx_cb .gt v5 0
    · refine fe_s 2 (pc' := 18) (lc' := [(0, .ref 0), (1, .int (nI W)), (2, .int to)]) (stk' := [.int (nI W), .ref 0]) (mem' := fm g tp bt a b) (by intro _ _ _; eq_refl) ?_
      refine fe_ivV (fr_whereOf (W := W) (by omega)) (by omega) (by rfl) (by rfl) (by rfl) (by rfl) (by rfl) (by rfl) ?_
      rw [eX]
      refine fe_s 1 (pc' := 22) (lc' := [(0, .ref 0), (1, .int (nI W)), (2, .int to)]) (stk' := [.int to, .int (nI X)]) (mem' := fm g tp bt a b) (by intro _ _ _; eq_refl) ?_
      refine fe_s 1 (pc' := cond (fx_cb .ne (nI X) to) 28 25) (lc' := [(0, .ref 0), (1, .int (nI W)), (2, .int to)]) (stk' := []) (mem' := fm g tp bt a b) (by intro _ _ _; eq_refl) ?_
      cases h7 : fx_cb .ne (nI X) to
      · refine fe_s 1 (pc' := 27) (lc' := [(0, .ref 0), (1, .int (nI W)), (2, .int to)]) (stk' := [.int 7]) (mem' := fm g tp bt a b) (by intro _ _ _; eq_refl) ?_
        exact fe_ret ⟨_, a, Or.inr (Or.inr rfl), rfl, ⟨fun _ _ _ => rfl, hb9, fun j => Or.inl rfl⟩⟩ (by rfl) (by rfl) (by rfl)
      · refine fe_s 5 (pc' := 33) (lc' := [(0, .ref 0), (1, .int (nI W)), (2, .int to)]) (stk' := [.int (nI W), .ref 0, .int to, .int (nI W), .ref 0]) (mem' := fm g tp bt a b) (by intro _ _ _; eq_refl) ?_
        obtain ⟨v8, hv8⟩ := fq_bearers (W := W) (g := g) (tp := tp) (bt := bt) (a := a) (b := b) ht (by omega)
        refine fe_ivV hv8 (by omega) (by rfl) (by rfl) (by rfl) (by rfl) (by rfl) (by rfl) ?_
        obtain ⟨v5, mem5, ⟨p, hp, hR⟩, hfr⟩ := fr_laysFar (g := g) (tp := tp) (bt := bt) (b := b) (to := to) (bby := v8) (W := W) (by omega) eX hX eNC hNC
        cases hR
        refine fe_ivV hfr (by omega) (by rfl) (by rfl) (by rfl) (by rfl) (by rfl) (by rfl) ?_
        have eXp : p 1 (279 + 5 * W) = nI X := by rw [hp.1 1 (by decide)]; exact eX
        rcases hp.2 X hX with e | ⟨n, hn, e, -⟩
        · rw [e]
          refine fe_s 3 (pc' := 44) (lc' := [(3, .int 1000000), (0, .ref 0), (1, .int (nI W)), (2, .int to)]) (stk' := [.int 1000000, .int 1000000]) (mem' := fm g tp bt p b) (by intro _ _ _; eq_refl) ?_
          refine fe_s 1 (pc' := cond (fx_cb .ne 1000000 1000000) 50 47) (lc' := [(3, .int 1000000), (0, .ref 0), (1, .int (nI W)), (2, .int to)]) (stk' := []) (mem' := fm g tp bt p b) (by intro _ _ _; eq_refl) ?_
          rw [show (fx_cb .ne 1000000 1000000) = false from by decide]
          dsimp only [cond]
          refine fe_s 1 (pc' := 49) (lc' := [(3, .int 1000000), (0, .ref 0), (1, .int (nI W)), (2, .int to)]) (stk' := [.int 6]) (mem' := fm g tp bt p b) (by intro _ _ _; eq_refl) ?_
          exact fe_ret ⟨_, p, Or.inr (Or.inl rfl), rfl, ⟨fun t h1 h9 => hp.1 t h9, fm_bfs_bd hp.2, fun j => Or.inl (by rw [hp.1 1 (by decide)])⟩⟩ (by rfl) (by rfl) (by rfl)
        · rw [e]
          refine fe_s 3 (pc' := 44) (lc' := [(3, .int (nI n)), (0, .ref 0), (1, .int (nI W)), (2, .int to)]) (stk' := [.int 1000000, .int (nI n)]) (mem' := fm g tp bt p b) (by intro _ _ _; eq_refl) ?_
          refine fe_s 1 (pc' := cond (fx_cb .ne (nI n) 1000000) 50 47) (lc' := [(3, .int (nI n)), (0, .ref 0), (1, .int (nI W)), (2, .int to)]) (stk' := []) (mem' := fm g tp bt p b) (by intro _ _ _; eq_refl) ?_
          rw [show (fx_cb .ne (nI n) 1000000) = true from cb_neT (a := n) (b := 1000000) (by omega) (by omega) (by omega)]
          dsimp only [cond]
          refine fe_s 2 (pc' := 52) (lc' := [(3, .int (nI n)), (0, .ref 0), (1, .int (nI W)), (2, .int to)]) (stk' := [.int (nI W), .ref 0]) (mem' := fm g tp bt p b) (by intro _ _ _; eq_refl) ?_
          refine fe_ivV (fr_whereOf (W := W) (by omega)) (by omega) (by rfl) (by rfl) (by rfl) (by rfl) (by rfl) (by rfl) ?_
          rw [eXp]
          refine fe_s 3 (pc' := 60) (lc' := [(5, .int 0), (4, .int (nI X)), (3, .int (nI n)), (0, .ref 0), (1, .int (nI W)), (2, .int to)]) (stk' := []) (mem' := fm g tp bt p b) (by intro _ _ _; eq_refl) ?_
          refine fe_w (lc' := [(5, .int (0)), (4, .int (nI X)), (3, .int (nI n)), (0, .ref 0), (1, .int (nI W)), (2, .int to)]) ⟨rfl, rfl, rfl, rfl, rfl, rfl, trivial⟩ (by show List.Nodup [5, 4, 3, 0, 1, 2]; decide) (by show List.Nodup [5, 4, 3, 0, 1, 2]; decide) ?_
          have hsp : fm_sym p := fun A B hA hB => by rw [hp.1 1 (by decide)]; exact hs A B hA hB
          have loop : ∀ (r i : Nat), i + r = n → ∀ (Y : Nat) (q : Nat → Nat → Int32), Y < 10 → q 9 Y = nI r → fm_way p q W → fe_R 7 gk_m290 60 [(5, .int (nI i)), (4, .int (nI Y)), (3, .int (nI n)), (0, .ref 0), (1, .int (nI W)), (2, .int to)] [] (fm g tp bt q b) (fm_FS g tp bt a b W) := by
            intro r
            induction r with
            | zero =>
              intro i hir Y q hY hq9 hq
              obtain rfl : n = i := by omega
              refine fe_s 2 (pc' := 63) (lc' := [(5, .int (nI n)), (4, .int (nI Y)), (3, .int (nI n)), (0, .ref 0), (1, .int (nI W)), (2, .int to)]) (stk' := [.int (nI n), .int (nI n)]) (mem' := fm g tp bt q b) (by intro _ _ _; eq_refl) ?_
              refine fe_s 1 (pc' := cond (fx_cb .ge (nI n) (nI n)) 98 66) (lc' := [(5, .int (nI n)), (4, .int (nI Y)), (3, .int (nI n)), (0, .ref 0), (1, .int (nI W)), (2, .int to)]) (stk' := []) (mem' := fm g tp bt q b) (by intro _ _ _; eq_refl) ?_
              rw [show (fx_cb .ge (nI n) (nI n)) = true from cb_geT (a := n) (b := n) (by omega) (by omega) (by omega)]
              dsimp only [cond]
              refine fe_s 3 (pc' := 103) (lc' := [(5, .int (nI n)), (4, .int (nI Y)), (3, .int (nI n)), (0, .ref 0), (1, .int (nI W)), (2, .int to)]) (stk' := [.int (nI W), .ref 1]) (mem' := fm g tp bt q b) (by intro _ _ _; eq_refl) ?_
              refine fe_ivS fr_walkerRow (by omega) (by rfl) (by rfl) (by rfl) (by rfl) (by rfl) ?_
              rw [show (278 + 5 * (nI W) : Int32) = nI (278 + (5 * W)) from by simp only [show (278 : Int32) = nI 278 from rfl, show (5 : Int32) = nI 5 from rfl, nI_add, fm_mul]]
              refine fe_s 3 (pc' := 109) (lc' := [(5, .int (nI n)), (4, .int (nI Y)), (3, .int (nI n)), (0, .ref 0), (1, .int (nI W)), (2, .int to)]) (stk' := [.int (nI n), .int ((nI (278 + (5 * W))) + 3), .ref 1]) (mem' := fm g tp bt q b) (by intro _ _ _; eq_refl) ?_
              rw [show ((nI (278 + (5 * W))) + 3 : Int32) = nI ((278 + (5 * W)) + 3) from by simp only [show (3 : Int32) = nI 3 from rfl, nI_add, fm_mul]]
              refine fe_stI (mem' := fm g tp bt (fm_u q 1 (nI ((278 + (5 * W)) + 3)).toNatClampNeg (nI n)) b) (by rfl) (by rfl) (fx_inN (i := (278 + (5 * W)) + 3) (by omega) (by omega)) fm_si1 ?_
              rw [show Int32.toNatClampNeg (nI ((278 + (5 * W)) + 3)) = (278 + (5 * W)) + 3 from nI_clamp (by omega)]
              refine fe_s 1 (pc' := 111) (lc' := [(5, .int (nI n)), (4, .int (nI Y)), (3, .int (nI n)), (0, .ref 0), (1, .int (nI W)), (2, .int to)]) (stk' := [.int 0]) (mem' := fm g tp bt (fm_u q 1 ((278 + (5 * W)) + 3) (nI n)) b) (by intro _ _ _; eq_refl) ?_
              refine fe_ret ⟨_, _, Or.inl rfl, rfl, fun t h1 h9 => ?_, fun k hk => ?_, fun j => ?_⟩ (by rfl) (by rfl) (by rfl)
              · unfold fm_u; rw [if_neg h1, hq.1 t h1]; exact hp.1 t h9
              · unfold fm_u; rw [if_neg (by decide), hq.1 9 (by decide)]; exact fm_bfs_bd hp.2 k hk
              · unfold fm_u; rw [if_pos rfl]
                by_cases e9 : j = (278 + (5 * W)) + 3
                · subst e9; exact Or.inr (Or.inr ⟨by omega, n, by omega, pk_us⟩)
                · rw [pk_un e9]
                  rcases hq.2 j with z | z
                  · exact Or.inl (by rw [z, hp.1 1 (by decide)])
                  · exact Or.inr (Or.inl z)
            | succ r ih =>
              intro i hir Y q hY hq9 hq
              obtain ⟨c0, hc0, hc9, hnx⟩ := fm_next (g := g) (tp := tp) (bt := bt) (b := b) (d := r) (fm_way_bfs hq hp.2) (fm_way_sym hq hsp) hY hq9 (by omega)
              refine fe_s 2 (pc' := 63) (lc' := [(5, .int (nI i)), (4, .int (nI Y)), (3, .int (nI n)), (0, .ref 0), (1, .int (nI W)), (2, .int to)]) (stk' := [.int (nI n), .int (nI i)]) (mem' := fm g tp bt q b) (by intro _ _ _; eq_refl) ?_
              refine fe_s 1 (pc' := cond (fx_cb .ge (nI i) (nI n)) 98 66) (lc' := [(5, .int (nI i)), (4, .int (nI Y)), (3, .int (nI n)), (0, .ref 0), (1, .int (nI W)), (2, .int to)]) (stk' := []) (mem' := fm g tp bt q b) (by intro _ _ _; eq_refl) ?_
              rw [show (fx_cb .ge (nI i) (nI n)) = false from cb_geF (a := i) (b := n) (by omega) (by omega) (by omega)]
              dsimp only [cond]
              refine fe_s 2 (pc' := 69) (lc' := [(5, .int (nI i)), (4, .int (nI Y)), (3, .int (nI n)), (0, .ref 0), (1, .int (nI W)), (2, .int to)]) (stk' := [.int (nI Y), .ref 0]) (mem' := fm g tp bt q b) (by intro _ _ _; eq_refl) ?_
              refine fe_ivV hnx (by omega) (by rfl) (by rfl) (by rfl) (by rfl) (by rfl) (by rfl) ?_
              refine fe_s 11 (pc' := 91) (lc' := [(4, .int (nI c0)), (5, .int (nI i)), (3, .int (nI n)), (0, .ref 0), (1, .int (nI W)), (2, .int to)]) (stk' := [.int (nI c0), .int ((318 + (20 * (nI W))) + (nI i)), .ref 1]) (mem' := fm g tp bt q b) (by intro _ _ _; eq_refl) ?_
              rw [show ((318 + (20 * (nI W))) + (nI i) : Int32) = nI ((318 + (20 * W)) + i) from by simp only [show (318 : Int32) = nI 318 from rfl, show (20 : Int32) = nI 20 from rfl, nI_add, fm_mul]]
              refine fe_stI (mem' := fm g tp bt (fm_u q 1 (nI ((318 + (20 * W)) + i)).toNatClampNeg (nI c0)) b) (by rfl) (by rfl) (fx_inN (i := (318 + (20 * W)) + i) (by omega) (by omega)) fm_si1 ?_
              rw [show Int32.toNatClampNeg (nI ((318 + (20 * W)) + i)) = 318 + 20 * W + i from by rw [nI_clamp (by omega)]]
              refine fe_s 2 (pc' := 60) (lc' := [(5, .int ((nI i) + 1)), (4, .int (nI c0)), (3, .int (nI n)), (0, .ref 0), (1, .int (nI W)), (2, .int to)]) (stk' := []) (mem' := fm g tp bt (fm_u q 1 (318 + 20 * W + i) (nI c0)) b) (by intro _ _ _; eq_refl) ?_
              rw [show ((nI i) + 1 : Int32) = nI (i + 1) from by simp only [show (1 : Int32) = nI 1 from rfl, nI_add, fm_mul]]
              refine fe_w (lc' := [(5, .int (nI (i + 1))), (4, .int (nI c0)), (3, .int (nI n)), (0, .ref 0), (1, .int (nI W)), (2, .int to)]) ⟨rfl, rfl, rfl, rfl, rfl, rfl, trivial⟩ (by show List.Nodup [5, 4, 3, 0, 1, 2]; decide) (by show List.Nodup [5, 4, 3, 0, 1, 2]; decide) ?_
              refine ih (i + 1) (by omega) c0 _ hc0 ?_ (fm_way_set hq (by omega) hc0)
              show fm_u q 1 (318 + 20 * W + i) (nI c0) 9 c0 = nI r
              unfold fm_u; rw [if_neg (by decide)]; exact hc9
          exact loop n 0 (by omega) X p hX e ⟨fun _ _ => rfl, fun _ => Or.inl rfl⟩
    · refine fe_s 1 (pc' := 27) (lc' := [(0, .ref 0), (1, .int (nI W)), (2, .int to)]) (stk' := [.int 7]) (mem' := fm g tp bt a b) (by intro _ _ _; eq_refl) ?_
      exact fe_ret ⟨_, a, Or.inr (Or.inr rfl), rfl, ⟨fun _ _ _ => rfl, hb9, fun j => Or.inl rfl⟩⟩ (by rfl) (by rfl) (by rfl)
  · refine fe_s 1 (pc' := cond (fx_cb .ne 1 0) 25 8) (lc' := [(0, .ref 0), (1, .int (nI W)), (2, .int to)]) (stk' := []) (mem' := fm g tp bt a b) (by intro _ _ _; eq_refl) ?_
    rw [show (fx_cb .ne 1 0) = true from by decide]
    dsimp only [cond]
    refine fe_s 1 (pc' := 27) (lc' := [(0, .ref 0), (1, .int (nI W)), (2, .int to)]) (stk' := [.int 7]) (mem' := fm g tp bt a b) (by intro _ _ _; eq_refl) ?_
    exact fe_ret ⟨_, a, Or.inr (Or.inr rfl), rfl, ⟨fun _ _ _ => rfl, hb9, fun j => Or.inl rfl⟩⟩ (by rfl) (by rfl) (by rfl)
end FSN
end MH42_3
section MH42_4
/-! ===== fx: which call is refused; on the way ===== -/
section FOW
variable {g : Nat → Int32} {tp bt : Int64} {a : Nat → Nat → Int32} {b : Nat → Nat → Int64}
theorem fm_rng {w : Int32} {n : Nat} (hn : n < 2147483648) (h1 : fx_cb .lt w 0 = false) (h2 : fx_cb .ge w (nI n) = false) : ∃ W, W < n ∧ w = nI W := by
  obtain ⟨j, hj, rfl⟩ := nI_of (x := w) (of_decide_eq_false h1)
  exact ⟨j, Nat.lt_of_not_le (fun z => of_decide_eq_false h2 ((nI_leI (by omega) (by omega)).mpr z)), rfl⟩
theorem fm_rng2 {w : Int32} {n : Nat} (hn : n < 2147483648) (h1 : fx_cb .lt w 0 = false) (h2 : fx_cb .lt w (nI n) = true) : ∃ W, W < n ∧ w = nI W := by
  obtain ⟨j, hj, rfl⟩ := nI_of (x := w) (of_decide_eq_false h1)
  exact ⟨j, (nI_ltI (by omega) (by omega)).mp (of_decide_eq_true h2), rfl⟩
theorem fr_refuse {x : Int32} : fr_T 1 207 [.ref 0, .int x] (fm g tp bt a b) (some (.int (-1))) (fm (upd g 2 x) tp bt a b) := by
  refine fr_meth (by rfl) (by rfl) ?_
  refine fr_s 4 (pc' := 6) (lc' := [(0, .ref 0), (1, .int x)]) (stk' := [.int (-1)]) (mem' := fm (upd g 2 x) tp bt a b) (by intro _ _ _; eq_refl) ?_
  exact fr_ret (by rfl) (by rfl) (by rfl)
theorem fr_gives {x : Int32} : fr_T 1 208 [.ref 0, .int x] (fm g tp bt a b) (some (.int x)) (fm (upd g 2 0) tp bt a b) := by
  refine fr_meth (by rfl) (by rfl) ?_
  refine fr_s 4 (pc' := 6) (lc' := [(0, .ref 0), (1, .int x)]) (stk' := [.int x]) (mem' := fm (upd g 2 0) tp bt a b) (by intro _ _ _; eq_refl) ?_
  exact fr_ret (by rfl) (by rfl) (by rfl)
/-- an int is answered; but for the status nothing is changed -/
def fm_FG (g : Nat → Int32) (tp bt : Int64) (a : Nat → Nat → Int32) (b : Nat → Nat → Int64) (V : Int32 → Prop) (R : Option Value × fx_M) : Prop := ∃ (v s : Int32), V v ∧ 0 ≤ s.toInt ∧ s.toInt ≤ 9 ∧ R = (some (.int v), fm (upd g 2 s) tp bt a b)
theorem fr_isWalker {w : Int32} (ht : fm_t a) : ∃ (v : Option Value) (mem' : fx_M), (fun R => ∃ v : Int32, (v = 0 ∨ v = 1 ∧ ∃ W, W < 8 ∧ w = nI W) ∧ R = (some (.int v), fm g tp bt a b)) (v, mem') ∧ fr_T 2 258 [.ref 0, .int w] (fm g tp bt a b) v mem' := by
  obtain ⟨-, ⟨NW, hNW, eNW⟩, -, -, -⟩ := id ht
  refine fe_meth (F := fun R => ∃ v : Int32, (v = 0 ∨ v = 1 ∧ ∃ W, W < 8 ∧ w = nI W) ∧ R = (some (.int v), fm g tp bt a b)) (M := gk_m258) (by rfl) (by rfl) ?_
  refine fe_s 1 (pc' := 1) (lc' := [(0, .ref 0), (1, .int w)]) (stk' := [.int w]) (mem' := fm g tp bt a b) (by intro _ _ _; eq_refl) ?_
  refine fe_s 1 (pc' := cond (fx_cb .lt w 0) 18 4) (lc' := [(0, .ref 0), (1, .int w)]) (stk' := []) (mem' := fm g tp bt a b) (by intro _ _ _; eq_refl) ?_
  cases h1 : fx_cb .lt w 0
  · refine fe_s 4 (pc' := 10) (lc' := [(0, .ref 0), (1, .int w)]) (stk' := [.int 1, .ref 1, .int w]) (mem' := fm g tp bt a b) (by intro _ _ _; eq_refl) ?_
    refine fe_ldI (by rfl) (by rfl) (fx_inN (i := 1) (by omega) (by omega)) ?_
    rw [show Int32.toNatClampNeg (1) = 1 from rfl]
    rw [eNW]
    refine fe_s 1 (pc' := cond (fx_cb .ge w (nI NW)) 18 14) (lc' := [(0, .ref 0), (1, .int w)]) (stk' := []) (mem' := fm g tp bt a b) (by intro _ _ _; eq_refl) ?_
    cases h2 : fx_cb .ge w (nI NW)
    · refine fe_s 2 (pc' := 19) (lc' := [(0, .ref 0), (1, .int w)]) (stk' := [.int 1]) (mem' := fm g tp bt a b) (by intro _ _ _; eq_refl) ?_
      exact fe_ret ⟨_, Or.inr ⟨rfl, (by obtain ⟨W, hW, e⟩ := fm_rng (by omega) h1 h2; exact ⟨W, by omega, e⟩)⟩, rfl⟩ (by rfl) (by rfl) (by rfl)
    · refine fe_s 1 (pc' := 19) (lc' := [(0, .ref 0), (1, .int w)]) (stk' := [.int 0]) (mem' := fm g tp bt a b) (by intro _ _ _; eq_refl) ?_
      exact fe_ret ⟨_, Or.inl rfl, rfl⟩ (by rfl) (by rfl) (by rfl)
  · refine fe_s 1 (pc' := 19) (lc' := [(0, .ref 0), (1, .int w)]) (stk' := [.int 0]) (mem' := fm g tp bt a b) (by intro _ _ _; eq_refl) ?_
    exact fe_ret ⟨_, Or.inl rfl, rfl⟩ (by rfl) (by rfl) (by rfl)
theorem fr_isCell {c : Int64} (ht : fm_t a) : ∃ (v : Option Value) (mem' : fx_M), (fun R => ∃ v : Int32, (v = 0 ∨ v = 1) ∧ R = (some (.int v), fm g tp bt a b)) (v, mem') ∧ fr_T 2 255 [.ref 0, .long c] (fm g tp bt a b) v mem' := by
  obtain ⟨⟨NC, hNC, eNC⟩, -, -, -, -⟩ := id ht
  refine fe_meth (F := fun R => ∃ v : Int32, (v = 0 ∨ v = 1) ∧ R = (some (.int v), fm g tp bt a b)) (M := gk_m255) (by rfl) (by rfl) ?_
  refine fe_s 3 (pc' := 3) (lc' := [(0, .ref 0), (1, .long c)]) (stk' := [.int (lg_cmp c 0)]) (mem' := fm g tp bt a b) (by intro _ _ _; eq_refl) ?_
  refine fe_s 1 (pc' := cond (fx_cb .lt (lg_cmp c 0) 0) 22 6) (lc' := [(0, .ref 0), (1, .long c)]) (stk' := []) (mem' := fm g tp bt a b) (by intro _ _ _; eq_refl) ?_
  cases h1 : fx_cb .lt (lg_cmp c 0) 0
  · refine fe_s 4 (pc' := 12) (lc' := [(0, .ref 0), (1, .long c)]) (stk' := [.int 0, .ref 1, .long c]) (mem' := fm g tp bt a b) (by intro _ _ _; eq_refl) ?_
    refine fe_ldI (by rfl) (by rfl) (fx_inN (i := 0) (by omega) (by omega)) ?_
    rw [show Int32.toNatClampNeg (0) = 0 from rfl]
    rw [eNC]
    refine fe_s 2 (pc' := 15) (lc' := [(0, .ref 0), (1, .long c)]) (stk' := [.int (lg_cmp c ((nI NC).toInt64))]) (mem' := fm g tp bt a b) (by intro _ _ _; eq_refl) ?_
    refine fe_s 1 (pc' := cond (fx_cb .ge (lg_cmp c ((nI NC).toInt64)) 0) 22 18) (lc' := [(0, .ref 0), (1, .long c)]) (stk' := []) (mem' := fm g tp bt a b) (by intro _ _ _; eq_refl) ?_
    cases h2 : fx_cb .ge (lg_cmp c ((nI NC).toInt64)) 0
    · refine fe_s 2 (pc' := 23) (lc' := [(0, .ref 0), (1, .long c)]) (stk' := [.int 1]) (mem' := fm g tp bt a b) (by intro _ _ _; eq_refl) ?_
      exact fe_ret ⟨_, Or.inr rfl, rfl⟩ (by rfl) (by rfl) (by rfl)
    · refine fe_s 1 (pc' := 23) (lc' := [(0, .ref 0), (1, .long c)]) (stk' := [.int 0]) (mem' := fm g tp bt a b) (by intro _ _ _; eq_refl) ?_
      exact fe_ret ⟨_, Or.inl rfl, rfl⟩ (by rfl) (by rfl) (by rfl)
  · refine fe_s 1 (pc' := 23) (lc' := [(0, .ref 0), (1, .long c)]) (stk' := [.int 0]) (mem' := fm g tp bt a b) (by intro _ _ _; eq_refl) ?_
    exact fe_ret ⟨_, Or.inl rfl, rfl⟩ (by rfl) (by rfl) (by rfl)
theorem fr_areBoth {w c : Int32} (ht : fm_t a) : ∃ (v : Option Value) (mem' : fx_M), (fun R => ∃ v : Int32, (v = 0 ∨ v = 1 ∧ ∃ W, W < 8 ∧ w = nI W) ∧ R = (some (.int v), fm g tp bt a b)) (v, mem') ∧ fr_T 3 259 [.ref 0, .int w, .int c] (fm g tp bt a b) v mem' := by
  refine fe_meth (F := fun R => ∃ v : Int32, (v = 0 ∨ v = 1 ∧ ∃ W, W < 8 ∧ w = nI W) ∧ R = (some (.int v), fm g tp bt a b)) (M := gk_m259) (by rfl) (by rfl) ?_
  refine fe_s 2 (pc' := 2) (lc' := [(0, .ref 0), (1, .int w), (2, .int c)]) (stk' := [.int w, .ref 0]) (mem' := fm g tp bt a b) (by intro _ _ _; eq_refl) ?_
  obtain ⟨v7, mem7, ⟨x7, hx7, hR7⟩, hfr7⟩ := fr_isWalker (w := w) (g := g) (tp := tp) (bt := bt) (b := b) ht
  cases hR7
  refine fe_ivV hfr7 (by omega) (by rfl) (by rfl) (by rfl) (by rfl) (by rfl) (by rfl) ?_
  rcases hx7 with rfl | ⟨rfl, hW7⟩
  · refine fe_s 1 (pc' := cond (fx_cb .eq 0 0) 21 8) (lc' := [(0, .ref 0), (1, .int w), (2, .int c)]) (stk' := []) (mem' := fm g tp bt a b) (by intro _ _ _; eq_refl) ?_
    rw [show (fx_cb .eq 0 0) = true from by decide]
    dsimp only [cond]
    refine fe_s 1 (pc' := 22) (lc' := [(0, .ref 0), (1, .int w), (2, .int c)]) (stk' := [.int 0]) (mem' := fm g tp bt a b) (by intro _ _ _; eq_refl) ?_
    exact fe_ret ⟨_, Or.inl rfl, rfl⟩ (by rfl) (by rfl) (by rfl)
  · refine fe_s 1 (pc' := cond (fx_cb .eq 1 0) 21 8) (lc' := [(0, .ref 0), (1, .int w), (2, .int c)]) (stk' := []) (mem' := fm g tp bt a b) (by intro _ _ _; eq_refl) ?_
    rw [show (fx_cb .eq 1 0) = false from by decide]
    dsimp only [cond]
    refine fe_s 3 (pc' := 11) (lc' := [(0, .ref 0), (1, .int w), (2, .int c)]) (stk' := [.long (c.toInt64), .ref 0]) (mem' := fm g tp bt a b) (by intro _ _ _; eq_refl) ?_
    obtain ⟨v8, mem8, ⟨x8, hx8, hR8⟩, hfr8⟩ := fr_isCell (c := c.toInt64) (g := g) (tp := tp) (bt := bt) (b := b) ht
    cases hR8
    refine fe_ivV hfr8 (by omega) (by rfl) (by rfl) (by rfl) (by rfl) (by rfl) (by rfl) ?_
    rcases hx8 with rfl | rfl
    · refine fe_s 1 (pc' := cond (fx_cb .eq 0 0) 21 17) (lc' := [(0, .ref 0), (1, .int w), (2, .int c)]) (stk' := []) (mem' := fm g tp bt a b) (by intro _ _ _; eq_refl) ?_
      rw [show (fx_cb .eq 0 0) = true from by decide]
      dsimp only [cond]
      refine fe_s 1 (pc' := 22) (lc' := [(0, .ref 0), (1, .int w), (2, .int c)]) (stk' := [.int 0]) (mem' := fm g tp bt a b) (by intro _ _ _; eq_refl) ?_
      exact fe_ret ⟨_, Or.inl rfl, rfl⟩ (by rfl) (by rfl) (by rfl)
    · refine fe_s 1 (pc' := cond (fx_cb .eq 1 0) 21 17) (lc' := [(0, .ref 0), (1, .int w), (2, .int c)]) (stk' := []) (mem' := fm g tp bt a b) (by intro _ _ _; eq_refl) ?_
      rw [show (fx_cb .eq 1 0) = false from by decide]
      dsimp only [cond]
      refine fe_s 2 (pc' := 22) (lc' := [(0, .ref 0), (1, .int w), (2, .int c)]) (stk' := [.int 1]) (mem' := fm g tp bt a b) (by intro _ _ _; eq_refl) ?_
      exact fe_ret ⟨_, Or.inr ⟨rfl, hW7⟩, rfl⟩ (by rfl) (by rfl) (by rfl)
theorem fr_onWay {W : Nat} {k : Int32} (ht : fm_t a) (hb : fm_bfs a) (hs : fm_sym a) (hW : W < 8) : ∃ (v : Option Value) (mem' : fx_M), (fun R => ∃ v : Int32, (v = -1 ∨ ∃ c, c < 10 ∧ v = nI c) ∧ R = (some (.int v), fm g tp bt a b)) (v, mem') ∧ fr_T 5 307 [.ref 0, .int (nI W), .int k] (fm g tp bt a b) v mem' := by
  obtain ⟨-, -, -, -, hw⟩ := id ht
  obtain ⟨X, hX, eX⟩ := hw W hW
  refine fe_meth (F := fun R => ∃ v : Int32, (v = -1 ∨ ∃ c, c < 10 ∧ v = nI c) ∧ R = (some (.int v), fm g tp bt a b)) (M := gk_m307) (by rfl) (by rfl) ?_
  refine fe_s 4 (pc' := 6) (lc' := [(0, .ref 0), (1, .int (nI W)), (2, .int k)]) (stk' := [.int (nI W), .ref 0, .ref 9]) (mem' := fm g tp bt a b) (by intro _ _ _; eq_refl) ?_
  refine fe_ivV (fr_whereOf (W := W) (by omega)) (by omega) (by rfl) (by rfl) (by rfl) (by rfl) (by rfl) (by rfl) ?_
  rw [eX]
  refine fe_ldI (by rfl) (by rfl) (fx_inN (i := X) (by omega) (by omega)) ?_
  rw [show Int32.toNatClampNeg (nI X) = X from nI_clamp (by omega)]
  rcases hb X hX with e | ⟨n, hn, e, -⟩
  · rw [e]
    refine fe_s 3 (pc' := 15) (lc' := [(3, .int 1000000), (0, .ref 0), (1, .int (nI W)), (2, .int k)]) (stk' := [.int 1000000, .int 1000000]) (mem' := fm g tp bt a b) (by intro _ _ _; eq_refl) ?_
    refine fe_s 1 (pc' := cond (fx_cb .eq 1000000 1000000) 27 18) (lc' := [(3, .int 1000000), (0, .ref 0), (1, .int (nI W)), (2, .int k)]) (stk' := []) (mem' := fm g tp bt a b) (by intro _ _ _; eq_refl) ?_
    rw [show (fx_cb .eq 1000000 1000000) = true from by decide]
    dsimp only [cond]
    refine fe_s 1 (pc' := 28) (lc' := [(3, .int 1000000), (0, .ref 0), (1, .int (nI W)), (2, .int k)]) (stk' := [.int (-1)]) (mem' := fm g tp bt a b) (by intro _ _ _; eq_refl) ?_
    exact fe_ret ⟨_, Or.inl rfl, rfl⟩ (by rfl) (by rfl) (by rfl)
  · rw [e]
    refine fe_s 3 (pc' := 15) (lc' := [(3, .int (nI n)), (0, .ref 0), (1, .int (nI W)), (2, .int k)]) (stk' := [.int 1000000, .int (nI n)]) (mem' := fm g tp bt a b) (by intro _ _ _; eq_refl) ?_
    refine fe_s 1 (pc' := cond (fx_cb .eq (nI n) 1000000) 27 18) (lc' := [(3, .int (nI n)), (0, .ref 0), (1, .int (nI W)), (2, .int k)]) (stk' := []) (mem' := fm g tp bt a b) (by intro _ _ _; eq_refl) ?_
    rw [show (fx_cb .eq (nI n) 1000000) = false from cb_eqF (a := n) (b := 1000000) (by omega) (by omega) (by omega)]
    dsimp only [cond]
    refine fe_s 1 (pc' := 19) (lc' := [(3, .int (nI n)), (0, .ref 0), (1, .int (nI W)), (2, .int k)]) (stk' := [.int k]) (mem' := fm g tp bt a b) (by intro _ _ _; eq_refl) ?_
    refine fe_s 1 (pc' := cond (fx_cb .lt k 0) 27 22) (lc' := [(3, .int (nI n)), (0, .ref 0), (1, .int (nI W)), (2, .int k)]) (stk' := []) (mem' := fm g tp bt a b) (by intro _ _ _; eq_refl) ?_
    cases h1 : fx_cb .lt k 0
    · refine fe_s 2 (pc' := 24) (lc' := [(3, .int (nI n)), (0, .ref 0), (1, .int (nI W)), (2, .int k)]) (stk' := [.int (nI n), .int k]) (mem' := fm g tp bt a b) (by intro _ _ _; eq_refl) ?_
      refine fe_s 1 (pc' := cond (fx_cb .lt k (nI n)) 29 27) (lc' := [(3, .int (nI n)), (0, .ref 0), (1, .int (nI W)), (2, .int k)]) (stk' := []) (mem' := fm g tp bt a b) (by intro _ _ _; eq_refl) ?_
      cases h2 : fx_cb .lt k (nI n)
      · refine fe_s 1 (pc' := 28) (lc' := [(3, .int (nI n)), (0, .ref 0), (1, .int (nI W)), (2, .int k)]) (stk' := [.int (-1)]) (mem' := fm g tp bt a b) (by intro _ _ _; eq_refl) ?_
        exact fe_ret ⟨_, Or.inl rfl, rfl⟩ (by rfl) (by rfl) (by rfl)
      · refine fe_s 2 (pc' := 31) (lc' := [(3, .int (nI n)), (0, .ref 0), (1, .int (nI W)), (2, .int k)]) (stk' := [.int (nI W), .ref 0]) (mem' := fm g tp bt a b) (by intro _ _ _; eq_refl) ?_
        refine fe_ivV (fr_whereOf (W := W) (by omega)) (by omega) (by rfl) (by rfl) (by rfl) (by rfl) (by rfl) (by rfl) ?_
        rw [eX]
        refine fe_s 3 (pc' := 39) (lc' := [(5, .int 0), (4, .int (nI X)), (3, .int (nI n)), (0, .ref 0), (1, .int (nI W)), (2, .int k)]) (stk' := []) (mem' := fm g tp bt a b) (by intro _ _ _; eq_refl) ?_
        obtain ⟨K, hK, rfl⟩ := fm_rng2 (by omega) h1 h2
        refine fe_w (lc' := [(5, .int (0)), (4, .int (nI X)), (3, .int (nI n)), (0, .ref 0), (1, .int (nI W)), (2, .int (nI K))]) ⟨rfl, rfl, rfl, rfl, rfl, rfl, trivial⟩ (by show List.Nodup [5, 4, 3, 0, 1, 2]; decide) (by show List.Nodup [5, 4, 3, 0, 1, 2]; decide) ?_
        have loop : ∀ (r i : Nat), i + r = n → i ≤ K + 1 → ∀ (Y : Nat), Y < 10 → a 9 Y = nI r → fe_R 4 gk_m307 39 [(5, .int (nI i)), (4, .int (nI Y)), (3, .int (nI n)), (0, .ref 0), (1, .int (nI W)), (2, .int (nI K))] [] (fm g tp bt a b) (fun R => ∃ v : Int32, (v = -1 ∨ ∃ c, c < 10 ∧ v = nI c) ∧ R = (some (.int v), fm g tp bt a b)) := by
          intro r
          induction r with
          | zero =>
            intro i hir hiK Y hY hq9
            refine fe_s 2 (pc' := 42) (lc' := [(5, .int (nI i)), (4, .int (nI Y)), (3, .int (nI n)), (0, .ref 0), (1, .int (nI W)), (2, .int (nI K))]) (stk' := [.int (nI K), .int (nI i)]) (mem' := fm g tp bt a b) (by intro _ _ _; eq_refl) ?_
            refine fe_s 1 (pc' := cond (fx_cb .gt (nI i) (nI K)) 59 45) (lc' := [(5, .int (nI i)), (4, .int (nI Y)), (3, .int (nI n)), (0, .ref 0), (1, .int (nI W)), (2, .int (nI K))]) (stk' := []) (mem' := fm g tp bt a b) (by intro _ _ _; eq_refl) ?_
            rw [show (fx_cb .gt (nI i) (nI K)) = true from cb_gtT (a := i) (b := K) (by omega) (by omega) (by omega)]
            dsimp only [cond]
            refine fe_s 1 (pc' := 61) (lc' := [(5, .int (nI i)), (4, .int (nI Y)), (3, .int (nI n)), (0, .ref 0), (1, .int (nI W)), (2, .int (nI K))]) (stk' := [.int (nI Y)]) (mem' := fm g tp bt a b) (by intro _ _ _; eq_refl) ?_
            exact fe_ret ⟨_, Or.inr ⟨Y, by omega, rfl⟩, rfl⟩ (by rfl) (by rfl) (by rfl)
          | succ r ih =>
            intro i hir hiK Y hY hq9
            obtain ⟨c0, hc0, hc9, hnx⟩ := fm_next (g := g) (tp := tp) (bt := bt) (b := b) (d := r) hb hs hY hq9 (by omega)
            refine fe_s 2 (pc' := 42) (lc' := [(5, .int (nI i)), (4, .int (nI Y)), (3, .int (nI n)), (0, .ref 0), (1, .int (nI W)), (2, .int (nI K))]) (stk' := [.int (nI K), .int (nI i)]) (mem' := fm g tp bt a b) (by intro _ _ _; eq_refl) ?_
            refine fe_s 1 (pc' := cond (fx_cb .gt (nI i) (nI K)) 59 45) (lc' := [(5, .int (nI i)), (4, .int (nI Y)), (3, .int (nI n)), (0, .ref 0), (1, .int (nI W)), (2, .int (nI K))]) (stk' := []) (mem' := fm g tp bt a b) (by intro _ _ _; eq_refl) ?_
            by_cases h3 : K < i
            · rw [show (fx_cb .gt (nI i) (nI K)) = true from cb_gtT (a := i) (b := K) (by omega) (by omega) (by omega)]
              dsimp only [cond]
              refine fe_s 1 (pc' := 61) (lc' := [(5, .int (nI i)), (4, .int (nI Y)), (3, .int (nI n)), (0, .ref 0), (1, .int (nI W)), (2, .int (nI K))]) (stk' := [.int (nI Y)]) (mem' := fm g tp bt a b) (by intro _ _ _; eq_refl) ?_
              exact fe_ret ⟨_, Or.inr ⟨Y, by omega, rfl⟩, rfl⟩ (by rfl) (by rfl) (by rfl)
            · rw [show (fx_cb .gt (nI i) (nI K)) = false from cb_gtF (a := i) (b := K) (by omega) (by omega) (by omega)]
              dsimp only [cond]
              refine fe_s 2 (pc' := 48) (lc' := [(5, .int (nI i)), (4, .int (nI Y)), (3, .int (nI n)), (0, .ref 0), (1, .int (nI W)), (2, .int (nI K))]) (stk' := [.int (nI Y), .ref 0]) (mem' := fm g tp bt a b) (by intro _ _ _; eq_refl) ?_
              refine fe_ivV hnx (by omega) (by rfl) (by rfl) (by rfl) (by rfl) (by rfl) (by rfl) ?_
              refine fe_s 3 (pc' := 39) (lc' := [(5, .int ((nI i) + 1)), (4, .int (nI c0)), (3, .int (nI n)), (0, .ref 0), (1, .int (nI W)), (2, .int (nI K))]) (stk' := []) (mem' := fm g tp bt a b) (by intro _ _ _; eq_refl) ?_
              rw [show ((nI i) + 1 : Int32) = nI (i + 1) from by simp only [show (1 : Int32) = nI 1 from rfl, nI_add, fm_mul]]
              refine fe_w (lc' := [(5, .int (nI (i + 1))), (4, .int (nI c0)), (3, .int (nI n)), (0, .ref 0), (1, .int (nI W)), (2, .int (nI K))]) ⟨rfl, rfl, rfl, rfl, rfl, rfl, trivial⟩ (by show List.Nodup [5, 4, 3, 0, 1, 2]; decide) (by show List.Nodup [5, 4, 3, 0, 1, 2]; decide) ?_
              exact ih (i + 1) (by omega) (by omega) c0 hc0 hc9
        exact loop n 0 (by omega) (by omega) X hX e
    · refine fe_s 1 (pc' := 28) (lc' := [(3, .int (nI n)), (0, .ref 0), (1, .int (nI W)), (2, .int k)]) (stk' := [.int (-1)]) (mem' := fm g tp bt a b) (by intro _ _ _; eq_refl) ?_
      exact fe_ret ⟨_, Or.inl rfl, rfl⟩ (by rfl) (by rfl) (by rfl)
end FOW
end MH42_4
section MH42_5
/-! ===== fx: wayAt, surestAt ===== -/
section FWA
variable {g : Nat → Int32} {tp bt : Int64} {a : Nat → Nat → Int32} {b : Nat → Nat → Int64}
theorem fm_t_eq {p q : Nat → Nat → Int32} (h : q 1 = p 1) (ht : fm_t p) : fm_t q := by
  unfold fm_t at ht ⊢
  rw [h]
  exact ht
theorem fm_sym_eq {p q : Nat → Nat → Int32} (h : q 1 = p 1) (hs : fm_sym p) : fm_sym q := by
  unfold fm_sym at hs ⊢
  rw [h]
  exact hs
theorem fm_upd2 {g : Nat → Int32} {k : Nat} {x y : Int32} : upd (upd g k x) k y = upd g k y := funext (fun i => by
  by_cases e : i = k
  · subst e; rw [pk_us, pk_us]
  · rw [pk_un e, pk_un e, pk_un e])
theorem fm_ne {x y : Int32} (h : fx_cb .ne x y = false) : x = y := by
  have h2 : (!decide (x = y)) = false := h
  rw [Bool.not_eq_false'] at h2
  exact of_decide_eq_true h2
/-- far0 alone is changed, and is within -/
def fm_f9 (a p : Nat → Nat → Int32) : Prop := (∀ t, t ≠ 9 → p t = a t) ∧ ∀ i, i < 10 → 0 ≤ (p 9 i).toInt ∧ (p 9 i).toInt ≤ 1000000
def fm_FW (g : Nat → Int32) (tp bt : Int64) (a : Nat → Nat → Int32) (b : Nat → Nat → Int64) (R : Option Value × fx_M) : Prop := ∃ (v s : Int32) (p : Nat → Nat → Int32), (v = -1 ∨ ∃ c, c < 10 ∧ v = nI c) ∧ 0 ≤ s.toInt ∧ s.toInt ≤ 9 ∧ fm_f9 a p ∧ R = (some (.int v), fm (upd g 2 s) tp bt p b)
def fm_FS9 (g : Nat → Int32) (tp bt : Int64) (a : Nat → Nat → Int32) (b : Nat → Nat → Int64) (R : Option Value × fx_M) : Prop := ∃ (v x : Int32) (p : Nat → Nat → Int32), (v = 0 ∨ v = 1) ∧ fm_ok9 a p ∧ R = (some (.int v), fm (upd g 25 x) tp bt p b)
def fm_FQ (g : Nat → Int32) (tp bt : Int64) (a : Nat → Nat → Int32) (b : Nat → Nat → Int64) (R : Option Value × fx_M) : Prop := ∃ (v s x : Int32) (p : Nat → Nat → Int32) (g' : Nat → Int32), (v = -1 ∨ ∃ c, c < 10 ∧ v = nI c) ∧ 0 ≤ s.toInt ∧ s.toInt ≤ 9 ∧ fm_f9 a p ∧ (g' = g ∨ g' = upd g 25 x) ∧ R = (some (.int v), fm (upd g' 2 s) tp bt p b)
theorem fr_orNone {x : Int32}  : ∃ (v : Option Value) (mem' : fx_M), (fun R => ∃ s : Int32, 0 ≤ s.toInt ∧ s.toInt ≤ 9 ∧ R = (some (.int x), fm (upd g 2 s) tp bt a b)) (v, mem') ∧ fr_T 3 209 [.ref 0, .int x] (fm g tp bt a b) v mem' := by
  refine fe_meth (F := fun R => ∃ s : Int32, 0 ≤ s.toInt ∧ s.toInt ≤ 9 ∧ R = (some (.int x), fm (upd g 2 s) tp bt a b)) (M := gk_m209) (by rfl) (by rfl) ?_
  refine fe_s 2 (pc' := 2) (lc' := [(0, .ref 0), (1, .int x)]) (stk' := [.int (-1), .int x]) (mem' := fm g tp bt a b) (by intro _ _ _; eq_refl) ?_
  refine fe_s 1 (pc' := cond (fx_cb .ne x (-1)) 14 5) (lc' := [(0, .ref 0), (1, .int x)]) (stk' := []) (mem' := fm g tp bt a b) (by intro _ _ _; eq_refl) ?_
  cases h1 : fx_cb .ne x (-1)
  · refine fe_s 2 (pc' := 8) (lc' := [(0, .ref 0), (1, .int x)]) (stk' := [.int 6, .ref 0]) (mem' := fm g tp bt a b) (by intro _ _ _; eq_refl) ?_
    refine fe_ivV (fr_refuse (x := 6)) (by omega) (by rfl) (by rfl) (by rfl) (by rfl) (by rfl) (by rfl) ?_
    refine fe_s 1 (pc' := 19) (lc' := [(0, .ref 0), (1, .int x)]) (stk' := [.int (-1)]) (mem' := fm (upd g 2 6) tp bt a b) (by intro _ _ _; eq_refl) ?_
    exact fe_ret ⟨6, by decide, by decide, by rw [fm_ne h1]⟩ (by rfl) (by rfl) (by rfl)
  · refine fe_s 2 (pc' := 16) (lc' := [(0, .ref 0), (1, .int x)]) (stk' := [.int x, .ref 0]) (mem' := fm g tp bt a b) (by intro _ _ _; eq_refl) ?_
    refine fe_ivV (fr_gives (x := x)) (by omega) (by rfl) (by rfl) (by rfl) (by rfl) (by rfl) (by rfl) ?_
    exact fe_ret ⟨0, by decide, by decide, rfl⟩ (by rfl) (by rfl) (by rfl)
theorem fr_wayAt {w c k : Int32} (ht : fm_t a) (hs : fm_sym a) (hb9 : ∀ i, i < 10 → 0 ≤ (a 9 i).toInt ∧ (a 9 i).toInt ≤ 1000000) : ∃ (v : Option Value) (mem' : fx_M), (fm_FW g tp bt a b) (v, mem') ∧ fr_T 8 311 [.ref 0, .int w, .int c, .int k] (fm g tp bt a b) v mem' := by
  refine fe_meth (F := fm_FW g tp bt a b) (M := gk_m311) (by rfl) (by rfl) ?_
  refine fe_s 3 (pc' := 3) (lc' := [(0, .ref 0), (1, .int w), (2, .int c), (3, .int k)]) (stk' := [.int c, .int w, .ref 0]) (mem' := fm g tp bt a b) (by intro _ _ _; eq_refl) ?_
  obtain ⟨v7, mem7, ⟨x7, hx7, hR7⟩, hfr7⟩ := fr_areBoth (w := w) (c := c) (g := g) (tp := tp) (bt := bt) (b := b) ht
  cases hR7
  refine fe_ivV hfr7 (by omega) (by rfl) (by rfl) (by rfl) (by rfl) (by rfl) (by rfl) ?_
  rcases hx7 with rfl | ⟨rfl, W, hW, rfl⟩
  · refine fe_s 1 (pc' := cond (fx_cb .ne 0 0) 15 9) (lc' := [(0, .ref 0), (1, .int w), (2, .int c), (3, .int k)]) (stk' := []) (mem' := fm g tp bt a b) (by intro _ _ _; eq_refl) ?_
    rw [show (fx_cb .ne 0 0) = false from by decide]
    dsimp only [cond]
    refine fe_s 2 (pc' := 11) (lc' := [(0, .ref 0), (1, .int w), (2, .int c), (3, .int k)]) (stk' := [.int 1, .ref 0]) (mem' := fm g tp bt a b) (by intro _ _ _; eq_refl) ?_
    refine fe_ivV (fr_refuse (x := 1)) (by omega) (by rfl) (by rfl) (by rfl) (by rfl) (by rfl) (by rfl) ?_
    exact fe_ret ⟨_, _, a, Or.inl rfl, by decide, by decide, ⟨fun _ _ => rfl, hb9⟩, rfl⟩ (by rfl) (by rfl) (by rfl)
  · obtain ⟨⟨NC, hNC, eNC⟩, -, -, -, hw⟩ := id ht
    obtain ⟨X, hX, eX⟩ := hw W hW
    refine fe_s 1 (pc' := cond (fx_cb .ne 1 0) 15 9) (lc' := [(0, .ref 0), (1, .int (nI W)), (2, .int c), (3, .int k)]) (stk' := []) (mem' := fm g tp bt a b) (by intro _ _ _; eq_refl) ?_
    rw [show (fx_cb .ne 1 0) = true from by decide]
    dsimp only [cond]
    refine fe_s 5 (pc' := 20) (lc' := [(0, .ref 0), (1, .int (nI W)), (2, .int c), (3, .int k)]) (stk' := [.int (nI W), .ref 0, .int c, .int (nI W), .ref 0]) (mem' := fm g tp bt a b) (by intro _ _ _; eq_refl) ?_
    obtain ⟨v1, hv1⟩ := fq_bearers (W := W) (g := g) (tp := tp) (bt := bt) (a := a) (b := b) ht (by omega)
    refine fe_ivV hv1 (by omega) (by rfl) (by rfl) (by rfl) (by rfl) (by rfl) (by rfl) ?_
    obtain ⟨vp, memp, ⟨p, hp, hRp⟩, hfrp⟩ := fr_laysFar (g := g) (tp := tp) (bt := bt) (a := a) (b := b) (to := c) (bby := v1) (W := W) (by omega) eX hX eNC hNC
    cases hRp
    refine fe_ivV hfrp (by omega) (by rfl) (by rfl) (by rfl) (by rfl) (by rfl) (by rfl) ?_
    have ep : p 1 = a 1 := hp.1 1 (by decide)
    have ap : ∀ t, t ≠ 9 → p t = a t := hp.1
    have htp : fm_t p := fm_t_eq ep ht
    have eXp : p 1 (279 + 5 * W) = nI X := by rw [ep]; exact eX
    have eNp : p 1 0 = nI NC := by rw [ep]; exact eNC
    refine fe_s 5 (pc' := 31) (lc' := [(0, .ref 0), (1, .int (nI W)), (2, .int c), (3, .int k)]) (stk' := [.int k, .int (nI W), .ref 0, .ref 0]) (mem' := fm g tp bt p b) (by intro _ _ _; eq_refl) ?_
    obtain ⟨vw, memw, ⟨xw, hxw, hRw⟩, hfrw⟩ := fr_onWay (W := W) (k := k) (g := g) (tp := tp) (bt := bt) (a := p) (b := b) htp hp.2 (fm_sym_eq (ap 1 (by decide)) hs) hW
    cases hRw
    refine fe_ivV hfrw (by omega) (by rfl) (by rfl) (by rfl) (by rfl) (by rfl) (by rfl) ?_
    obtain ⟨vo, memo, ⟨so, ho1, ho2, hRo⟩, hfro⟩ := fr_orNone (x := xw) (g := g) (tp := tp) (bt := bt) (a := p) (b := b)
    cases hRo
    refine fe_ivV hfro (by omega) (by rfl) (by rfl) (by rfl) (by rfl) (by rfl) (by rfl) ?_
    exact fe_ret ⟨_, _, p, hxw, ho1, ho2, ⟨ap, fm_bfs_bd hp.2⟩, rfl⟩ (by rfl) (by rfl) (by rfl)
theorem fr_laysSurest {W : Nat} {to : Int32} (ht : fm_t a) (hW : W < 8) : ∃ (v : Option Value) (mem' : fx_M), (fm_FS9 g tp bt a b) (v, mem') ∧ fr_T 8 312 [.ref 0, .int (nI W), .int to] (fm g tp bt a b) v mem' := by
  obtain ⟨⟨NC, hNC, eNC⟩, -, -, -, hw⟩ := id ht
  obtain ⟨X, hX, eX⟩ := hw W hW
  refine fe_meth (F := fm_FS9 g tp bt a b) (M := gk_m312) (by rfl) (by rfl) ?_
  refine fe_s 7 (pc' := 12) (lc' := [(4, .int 0), (3, .int 0), (0, .ref 0), (1, .int (nI W)), (2, .int to)]) (stk' := []) (mem' := fm (upd g 25 (-1000000)) tp bt a b) (by intro _ _ _; eq_refl) ?_
  refine fe_w (lc' := [(4, .int (0)), (3, .int 0), (0, .ref 0), (1, .int (nI W)), (2, .int to)]) ⟨rfl, rfl, rfl, rfl, rfl, trivial⟩ (by show List.Nodup [4, 3, 0, 1, 2]; decide) (by show List.Nodup [4, 3, 0, 1, 2]; decide) ?_
  have loop : ∀ (r i : Nat), i + r = NC → ∀ (z x : Int32) (p : Nat → Nat → Int32), (z = 0 ∨ z = 1) → (∀ t, t ≠ 9 → p t = a t) → fe_R 7 gk_m312 12 [(4, .int (nI i)), (3, .int z), (0, .ref 0), (1, .int (nI W)), (2, .int to)] [] (fm (upd g 25 x) tp bt p b) (fm_FS9 g tp bt a b) := by
    intro r
    induction r with
    | zero =>
      intro i hir z x p hz ap
      have htp : fm_t p := fm_t_eq (ap 1 (by decide)) ht
      have eXp : p 1 (279 + 5 * W) = nI X := by rw [ap 1 (by decide)]; exact eX
      have eNp : p 1 0 = nI NC := by rw [ap 1 (by decide)]; exact eNC
      obtain rfl : NC = i := by omega
      refine fe_s 4 (pc' := 19) (lc' := [(4, .int (nI NC)), (3, .int z), (0, .ref 0), (1, .int (nI W)), (2, .int to)]) (stk' := [.int 0, .ref 1, .int (nI NC)]) (mem' := fm (upd g 25 x) tp bt p b) (by intro _ _ _; eq_refl) ?_
      refine fe_ldI (by rfl) (by rfl) (fx_inN (i := 0) (by omega) (by omega)) ?_
      rw [show Int32.toNatClampNeg (0) = 0 from rfl]
      rw [eNp]
      refine fe_s 1 (pc' := cond (fx_cb .ge (nI NC) (nI NC)) 77 23) (lc' := [(4, .int (nI NC)), (3, .int z), (0, .ref 0), (1, .int (nI W)), (2, .int to)]) (stk' := []) (mem' := fm (upd g 25 x) tp bt p b) (by intro _ _ _; eq_refl) ?_
      rw [show (fx_cb .ge (nI NC) (nI NC)) = true from cb_geT (a := NC) (b := NC) (by omega) (by omega) (by omega)]
      dsimp only [cond]
      refine fe_s 7 (pc' := 86) (lc' := [(4, .int (nI NC)), (3, .int z), (0, .ref 0), (1, .int (nI W)), (2, .int to)]) (stk' := [.int x, .int (nI W), .ref 0, .int to, .int (nI W), .ref 0]) (mem' := fm (upd g 25 x) tp bt p b) (by intro _ _ _; eq_refl) ?_
      obtain ⟨v1, hv1⟩ := fq_above (W := W) (m := x) (g := (upd g 25 x)) (tp := tp) (bt := bt) (a := p) (b := b) htp (by omega)
      refine fe_ivV hv1 (by omega) (by rfl) (by rfl) (by rfl) (by rfl) (by rfl) (by rfl) ?_
      obtain ⟨vp2, memp2, ⟨p2, hp2, hRp2⟩, hfrp2⟩ := fr_laysFar (g := (upd g 25 x)) (tp := tp) (bt := bt) (a := p) (b := b) (to := to) (bby := v1) (W := W) (by omega) eXp hX eNp hNC
      cases hRp2
      refine fe_ivV hfrp2 (by omega) (by rfl) (by rfl) (by rfl) (by rfl) (by rfl) (by rfl) ?_
      have ep2 : p2 1 = p 1 := hp2.1 1 (by decide)
      have ap2 : ∀ t, t ≠ 9 → p2 t = a t := fun t h9 => (hp2.1 t h9).trans (ap t h9)
      have htp2 : fm_t p2 := fm_t_eq ep2 htp
      have eXp2 : p2 1 (279 + 5 * W) = nI X := by rw [ep2]; exact eXp
      have eNp2 : p2 1 0 = nI NC := by rw [ep2]; exact eNp
      refine fe_s 2 (pc' := 94) (lc' := [(4, .int (nI NC)), (3, .int z), (0, .ref 0), (1, .int (nI W)), (2, .int to)]) (stk' := [.int z]) (mem' := fm (upd g 25 x) tp bt p2 b) (by intro _ _ _; eq_refl) ?_
      exact fe_retz ⟨_, x, p2, hz, ⟨ap2, hp2.2⟩, rfl⟩ hz (by rfl) (by rfl)
    | succ r ih =>
      intro i hir z x p hz ap
      have htp : fm_t p := fm_t_eq (ap 1 (by decide)) ht
      have eXp : p 1 (279 + 5 * W) = nI X := by rw [ap 1 (by decide)]; exact eX
      have eNp : p 1 0 = nI NC := by rw [ap 1 (by decide)]; exact eNC
      refine fe_s 4 (pc' := 19) (lc' := [(4, .int (nI i)), (3, .int z), (0, .ref 0), (1, .int (nI W)), (2, .int to)]) (stk' := [.int 0, .ref 1, .int (nI i)]) (mem' := fm (upd g 25 x) tp bt p b) (by intro _ _ _; eq_refl) ?_
      refine fe_ldI (by rfl) (by rfl) (fx_inN (i := 0) (by omega) (by omega)) ?_
      rw [show Int32.toNatClampNeg (0) = 0 from rfl]
      rw [eNp]
      refine fe_s 1 (pc' := cond (fx_cb .ge (nI i) (nI NC)) 77 23) (lc' := [(4, .int (nI i)), (3, .int z), (0, .ref 0), (1, .int (nI W)), (2, .int to)]) (stk' := []) (mem' := fm (upd g 25 x) tp bt p b) (by intro _ _ _; eq_refl) ?_
      rw [show (fx_cb .ge (nI i) (nI NC)) = false from cb_geF (a := i) (b := NC) (by omega) (by omega) (by omega)]
      dsimp only [cond]
      refine fe_s 3 (pc' := 27) (lc' := [(4, .int (nI i)), (3, .int z), (0, .ref 0), (1, .int (nI W)), (2, .int to)]) (stk' := [.int (nI i), .int (nI W), .ref 0]) (mem' := fm (upd g 25 x) tp bt p b) (by intro _ _ _; eq_refl) ?_
      obtain ⟨v2, hv2⟩ := fq_marginOf (W := W) (C := i) (g := (upd g 25 x)) (tp := tp) (bt := bt) (a := p) (b := b) htp (by omega) (by omega)
      refine fe_ivV hv2 (by omega) (by rfl) (by rfl) (by rfl) (by rfl) (by rfl) (by rfl) ?_
      refine fe_s 4 (pc' := 38) (lc' := [(5, .int v2), (4, .int (nI i)), (3, .int z), (0, .ref 0), (1, .int (nI W)), (2, .int to)]) (stk' := [.int x, .int v2]) (mem' := fm (upd g 25 x) tp bt p b) (by intro _ _ _; eq_refl) ?_
      refine fe_s 1 (pc' := cond (fx_cb .le v2 x) 71 41) (lc' := [(5, .int v2), (4, .int (nI i)), (3, .int z), (0, .ref 0), (1, .int (nI W)), (2, .int to)]) (stk' := []) (mem' := fm (upd g 25 x) tp bt p b) (by intro _ _ _; eq_refl) ?_
      cases h3 : fx_cb .le v2 x
      · refine fe_s 6 (pc' := 48) (lc' := [(5, .int v2), (4, .int (nI i)), (3, .int z), (0, .ref 0), (1, .int (nI W)), (2, .int to)]) (stk' := [.int v2, .int (nI W), .ref 0, .int to, .int (nI W), .ref 0]) (mem' := fm (upd g 25 x) tp bt p b) (by intro _ _ _; eq_refl) ?_
        obtain ⟨v4, hv4⟩ := fq_above (W := W) (m := v2) (g := (upd g 25 x)) (tp := tp) (bt := bt) (a := p) (b := b) htp (by omega)
        refine fe_ivV hv4 (by omega) (by rfl) (by rfl) (by rfl) (by rfl) (by rfl) (by rfl) ?_
        obtain ⟨vp2, memp2, ⟨p2, hp2, hRp2⟩, hfrp2⟩ := fr_laysFar (g := (upd g 25 x)) (tp := tp) (bt := bt) (a := p) (b := b) (to := to) (bby := v4) (W := W) (by omega) eXp hX eNp hNC
        cases hRp2
        refine fe_ivV hfrp2 (by omega) (by rfl) (by rfl) (by rfl) (by rfl) (by rfl) (by rfl) ?_
        have ep2 : p2 1 = p 1 := hp2.1 1 (by decide)
        have ap2 : ∀ t, t ≠ 9 → p2 t = a t := fun t h9 => (hp2.1 t h9).trans (ap t h9)
        have htp2 : fm_t p2 := fm_t_eq ep2 htp
        have eXp2 : p2 1 (279 + 5 * W) = nI X := by rw [ep2]; exact eXp
        have eNp2 : p2 1 0 = nI NC := by rw [ep2]; exact eNp
        refine fe_s 1 (pc' := 57) (lc' := [(5, .int v2), (4, .int (nI i)), (3, .int z), (0, .ref 0), (1, .int (nI W)), (2, .int to)]) (stk' := [.int 1000000, .int (p2 9 X)]) (mem' := fm (upd g 25 x) tp bt p2 b) (by intro _ _ _; eq_refl) ?_
        refine fe_s 1 (pc' := cond (fx_cb .ne (p2 9 X) 1000000) 63 60) (lc' := [(5, .int v2), (4, .int (nI i)), (3, .int z), (0, .ref 0), (1, .int (nI W)), (2, .int to)]) (stk' := []) (mem' := fm (upd g 25 x) tp bt p2 b) (by intro _ _ _; eq_refl) ?_
        cases h5 : fx_cb .ne (p2 9 X) 1000000
        · refine fe_s 3 (pc' := 12) (lc' := [(4, .int ((nI i) + 1)), (5, .int v2), (3, .int z), (0, .ref 0), (1, .int (nI W)), (2, .int to)]) (stk' := []) (mem' := fm (upd g 25 x) tp bt p2 b) (by intro _ _ _; eq_refl) ?_
          rw [show ((nI i) + 1 : Int32) = nI (i + 1) from by simp only [show (1 : Int32) = nI 1 from rfl, nI_add, fm_mul]]
          refine fe_w (lc' := [(4, .int (nI (i + 1))), (3, .int z), (0, .ref 0), (1, .int (nI W)), (2, .int to)]) ⟨rfl, rfl, rfl, rfl, rfl, trivial⟩ (by show List.Nodup [4, 3, 0, 1, 2]; decide) (by show List.Nodup [4, 5, 3, 0, 1, 2]; decide) ?_
          exact ih (i + 1) (by omega) _ _ p2 hz ap2
        · refine fe_s 7 (pc' := 12) (lc' := [(4, .int ((nI i) + 1)), (3, .int 1), (5, .int v2), (0, .ref 0), (1, .int (nI W)), (2, .int to)]) (stk' := []) (mem' := fm (upd (upd g 25 x) 25 v2) tp bt p2 b) (by intro _ _ _; eq_refl) ?_
          rw [show ((nI i) + 1 : Int32) = nI (i + 1) from by simp only [show (1 : Int32) = nI 1 from rfl, nI_add, fm_mul]]
          refine fe_w (lc' := [(4, .int (nI (i + 1))), (3, .int 1), (0, .ref 0), (1, .int (nI W)), (2, .int to)]) ⟨rfl, rfl, rfl, rfl, rfl, trivial⟩ (by show List.Nodup [4, 3, 0, 1, 2]; decide) (by show List.Nodup [4, 3, 5, 0, 1, 2]; decide) ?_
          rw [fm_upd2]
          exact ih (i + 1) (by omega) _ _ p2 (Or.inr rfl) ap2
      · refine fe_s 2 (pc' := 12) (lc' := [(4, .int ((nI i) + 1)), (5, .int v2), (3, .int z), (0, .ref 0), (1, .int (nI W)), (2, .int to)]) (stk' := []) (mem' := fm (upd g 25 x) tp bt p b) (by intro _ _ _; eq_refl) ?_
        rw [show ((nI i) + 1 : Int32) = nI (i + 1) from by simp only [show (1 : Int32) = nI 1 from rfl, nI_add, fm_mul]]
        refine fe_w (lc' := [(4, .int (nI (i + 1))), (3, .int z), (0, .ref 0), (1, .int (nI W)), (2, .int to)]) ⟨rfl, rfl, rfl, rfl, rfl, trivial⟩ (by show List.Nodup [4, 3, 0, 1, 2]; decide) (by show List.Nodup [4, 5, 3, 0, 1, 2]; decide) ?_
        exact ih (i + 1) (by omega) _ _ p hz ap
  exact loop NC 0 (by omega) 0 _ a (Or.inl rfl) (fun _ _ => rfl)
theorem fr_isAway {w c : Int32} (ht : fm_t a) : ∃ (v : Option Value) (mem' : fx_M), (fun R => ∃ v : Int32, (v = 0 ∨ v = 1 ∧ ∃ W, W < 8 ∧ w = nI W) ∧ R = (some (.int v), fm g tp bt a b)) (v, mem') ∧ fr_T 5 314 [.ref 0, .int w, .int c] (fm g tp bt a b) v mem' := by
  refine fe_meth (F := fun R => ∃ v : Int32, (v = 0 ∨ v = 1 ∧ ∃ W, W < 8 ∧ w = nI W) ∧ R = (some (.int v), fm g tp bt a b)) (M := gk_m314) (by rfl) (by rfl) ?_
  refine fe_s 3 (pc' := 3) (lc' := [(0, .ref 0), (1, .int w), (2, .int c)]) (stk' := [.int c, .int w, .ref 0]) (mem' := fm g tp bt a b) (by intro _ _ _; eq_refl) ?_
  obtain ⟨v7, mem7, ⟨x7, hx7, hR7⟩, hfr7⟩ := fr_areBoth (w := w) (c := c) (g := g) (tp := tp) (bt := bt) (b := b) ht
  cases hR7
  refine fe_ivV hfr7 (by omega) (by rfl) (by rfl) (by rfl) (by rfl) (by rfl) (by rfl) ?_
  rcases hx7 with rfl | ⟨rfl, W, hW, rfl⟩
  · refine fe_s 1 (pc' := cond (fx_cb .eq 0 0) 22 9) (lc' := [(0, .ref 0), (1, .int w), (2, .int c)]) (stk' := []) (mem' := fm g tp bt a b) (by intro _ _ _; eq_refl) ?_
    rw [show (fx_cb .eq 0 0) = true from by decide]
    dsimp only [cond]
    refine fe_s 1 (pc' := 23) (lc' := [(0, .ref 0), (1, .int w), (2, .int c)]) (stk' := [.int 0]) (mem' := fm g tp bt a b) (by intro _ _ _; eq_refl) ?_
    exact fe_ret ⟨_, Or.inl rfl, rfl⟩ (by rfl) (by rfl) (by rfl)
  · obtain ⟨⟨NC, hNC, eNC⟩, -, -, -, hw⟩ := id ht
    obtain ⟨X, hX, eX⟩ := hw W hW
    refine fe_s 1 (pc' := cond (fx_cb .eq 1 0) 22 9) (lc' := [(0, .ref 0), (1, .int (nI W)), (2, .int c)]) (stk' := []) (mem' := fm g tp bt a b) (by intro _ _ _; eq_refl) ?_
    rw [show (fx_cb .eq 1 0) = false from by decide]
    dsimp only [cond]
    refine fe_s 2 (pc' := 11) (lc' := [(0, .ref 0), (1, .int (nI W)), (2, .int c)]) (stk' := [.int (nI W), .ref 0]) (mem' := fm g tp bt a b) (by intro _ _ _; eq_refl) ?_
    refine fe_ivV (fr_whereOf (W := W) (by omega)) (by omega) (by rfl) (by rfl) (by rfl) (by rfl) (by rfl) (by rfl) ?_
    refine fe_s 1 (pc' := 15) (lc' := [(0, .ref 0), (1, .int (nI W)), (2, .int c)]) (stk' := [.int c, .int (a 1 (279 + 5 * W))]) (mem' := fm g tp bt a b) (by intro _ _ _; eq_refl) ?_
    refine fe_s 1 (pc' := cond (fx_cb .eq (a 1 (279 + 5 * W)) c) 22 18) (lc' := [(0, .ref 0), (1, .int (nI W)), (2, .int c)]) (stk' := []) (mem' := fm g tp bt a b) (by intro _ _ _; eq_refl) ?_
    cases h1 : fx_cb .eq (a 1 (279 + 5 * W)) c
    · refine fe_s 2 (pc' := 23) (lc' := [(0, .ref 0), (1, .int (nI W)), (2, .int c)]) (stk' := [.int 1]) (mem' := fm g tp bt a b) (by intro _ _ _; eq_refl) ?_
      exact fe_ret ⟨_, Or.inr ⟨rfl, W, hW, rfl⟩, rfl⟩ (by rfl) (by rfl) (by rfl)
    · refine fe_s 1 (pc' := 23) (lc' := [(0, .ref 0), (1, .int (nI W)), (2, .int c)]) (stk' := [.int 0]) (mem' := fm g tp bt a b) (by intro _ _ _; eq_refl) ?_
      exact fe_ret ⟨_, Or.inl rfl, rfl⟩ (by rfl) (by rfl) (by rfl)
theorem fr_surestAt {w c k : Int32} (ht : fm_t a) (hs : fm_sym a) (hb9 : ∀ i, i < 10 → 0 ≤ (a 9 i).toInt ∧ (a 9 i).toInt ≤ 1000000) : ∃ (v : Option Value) (mem' : fx_M), (fm_FQ g tp bt a b) (v, mem') ∧ fr_T 9 317 [.ref 0, .int w, .int c, .int k] (fm g tp bt a b) v mem' := by
  refine fe_meth (F := fm_FQ g tp bt a b) (M := gk_m317) (by rfl) (by rfl) ?_
  refine fe_s 3 (pc' := 3) (lc' := [(0, .ref 0), (1, .int w), (2, .int c), (3, .int k)]) (stk' := [.int c, .int w, .ref 0]) (mem' := fm g tp bt a b) (by intro _ _ _; eq_refl) ?_
  obtain ⟨v7, mem7, ⟨x7, hx7, hR7⟩, hfr7⟩ := fr_isAway (w := w) (c := c) (g := g) (tp := tp) (bt := bt) (b := b) ht
  cases hR7
  refine fe_ivV hfr7 (by omega) (by rfl) (by rfl) (by rfl) (by rfl) (by rfl) (by rfl) ?_
  rcases hx7 with rfl | ⟨rfl, W, hW, rfl⟩
  · refine fe_s 1 (pc' := cond (fx_cb .ne 0 0) 17 9) (lc' := [(0, .ref 0), (1, .int w), (2, .int c), (3, .int k)]) (stk' := []) (mem' := fm g tp bt a b) (by intro _ _ _; eq_refl) ?_
    rw [show (fx_cb .ne 0 0) = false from by decide]
    dsimp only [cond]
    refine fe_s 2 (pc' := 11) (lc' := [(0, .ref 0), (1, .int w), (2, .int c), (3, .int k)]) (stk' := [.int 1, .ref 0]) (mem' := fm g tp bt a b) (by intro _ _ _; eq_refl) ?_
    refine fe_ivV (fr_refuse (x := 1)) (by omega) (by rfl) (by rfl) (by rfl) (by rfl) (by rfl) (by rfl) ?_
    refine fe_s 1 (pc' := 45) (lc' := [(0, .ref 0), (1, .int w), (2, .int c), (3, .int k)]) (stk' := [.int (-1)]) (mem' := fm (upd g 2 1) tp bt a b) (by intro _ _ _; eq_refl) ?_
    exact fe_ret ⟨_, 1, 0, a, g, Or.inl rfl, by decide, by decide, ⟨fun _ _ => rfl, hb9⟩, Or.inl rfl, rfl⟩ (by rfl) (by rfl) (by rfl)
  · refine fe_s 1 (pc' := cond (fx_cb .ne 1 0) 17 9) (lc' := [(0, .ref 0), (1, .int (nI W)), (2, .int c), (3, .int k)]) (stk' := []) (mem' := fm g tp bt a b) (by intro _ _ _; eq_refl) ?_
    rw [show (fx_cb .ne 1 0) = true from by decide]
    dsimp only [cond]
    refine fe_s 3 (pc' := 20) (lc' := [(0, .ref 0), (1, .int (nI W)), (2, .int c), (3, .int k)]) (stk' := [.int c, .int (nI W), .ref 0]) (mem' := fm g tp bt a b) (by intro _ _ _; eq_refl) ?_
    obtain ⟨v8, mem8, ⟨x8, y8, p, hx8, hp, hR8⟩, hfr8⟩ := fr_laysSurest (W := W) (to := c) (g := g) (tp := tp) (bt := bt) (b := b) ht hW
    cases hR8
    refine fe_ivV hfr8 (by omega) (by rfl) (by rfl) (by rfl) (by rfl) (by rfl) (by rfl) ?_
    have htp : fm_t p := fm_t_eq (hp.1 1 (by decide)) ht
    have ap := hp.1
    rcases hx8 with rfl | rfl
    · refine fe_s 1 (pc' := cond (fx_cb .eq 0 0) 39 26) (lc' := [(0, .ref 0), (1, .int (nI W)), (2, .int c), (3, .int k)]) (stk' := []) (mem' := fm (upd g 25 y8) tp bt p b) (by intro _ _ _; eq_refl) ?_
      rw [show (fx_cb .eq 0 0) = true from by decide]
      dsimp only [cond]
      refine fe_s 2 (pc' := 42) (lc' := [(0, .ref 0), (1, .int (nI W)), (2, .int c), (3, .int k)]) (stk' := [.int 6, .ref 0]) (mem' := fm (upd g 25 y8) tp bt p b) (by intro _ _ _; eq_refl) ?_
      refine fe_ivV (fr_refuse (x := 6)) (by omega) (by rfl) (by rfl) (by rfl) (by rfl) (by rfl) (by rfl) ?_
      exact fe_ret ⟨_, 6, y8, p, _, Or.inl rfl, by decide, by decide, ⟨ap, fm_bfs_bd hp.2⟩, Or.inr rfl, rfl⟩ (by rfl) (by rfl) (by rfl)
    · refine fe_s 1 (pc' := cond (fx_cb .eq 1 0) 39 26) (lc' := [(0, .ref 0), (1, .int (nI W)), (2, .int c), (3, .int k)]) (stk' := []) (mem' := fm (upd g 25 y8) tp bt p b) (by intro _ _ _; eq_refl) ?_
      rw [show (fx_cb .eq 1 0) = false from by decide]
      dsimp only [cond]
      refine fe_s 4 (pc' := 30) (lc' := [(0, .ref 0), (1, .int (nI W)), (2, .int c), (3, .int k)]) (stk' := [.int k, .int (nI W), .ref 0, .ref 0]) (mem' := fm (upd g 25 y8) tp bt p b) (by intro _ _ _; eq_refl) ?_
      obtain ⟨vw, memw, ⟨xw, hxw, hRw⟩, hfrw⟩ := fr_onWay (W := W) (k := k) (g := (upd g 25 y8)) (tp := tp) (bt := bt) (a := p) (b := b) htp hp.2 (fm_sym_eq (ap 1 (by decide)) hs) hW
      cases hRw
      refine fe_ivV hfrw (by omega) (by rfl) (by rfl) (by rfl) (by rfl) (by rfl) (by rfl) ?_
      obtain ⟨vo, memo, ⟨so, ho1, ho2, hRo⟩, hfro⟩ := fr_orNone (x := xw) (g := (upd g 25 y8)) (tp := tp) (bt := bt) (a := p) (b := b)
      cases hRo
      refine fe_ivV hfro (by omega) (by rfl) (by rfl) (by rfl) (by rfl) (by rfl) (by rfl) ?_
      refine fe_s 1 (pc' := 45) (lc' := [(0, .ref 0), (1, .int (nI W)), (2, .int c), (3, .int k)]) (stk' := [.int xw]) (mem' := fm (upd (upd g 25 y8) 2 so) tp bt p b) (by intro _ _ _; eq_refl) ?_
      exact fe_ret ⟨_, so, y8, p, _, hxw, ho1, ho2, ⟨ap, fm_bfs_bd hp.2⟩, Or.inr rfl, rfl⟩ (by rfl) (by rfl) (by rfl)
end FWA
end MH42_5
