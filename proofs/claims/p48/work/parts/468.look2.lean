/-! ===== fx: what one looks up of the LAKE, and its loops ===== -/
section FQ2
variable {g : Nat → Int32} {tp bt : Int64} {a : Nat → Nat → Int32} {b : Nat → Nat → Int64}
theorem fq_cameLately {C : Nat} (ht : fm_t a) (hC : C < 10) : fm_P 4 270 [.ref 0, .int (nI C)] (fm g tp bt a b) := by
  have ht0 := ht
  obtain ⟨-, -, ⟨NG, hNG, eNG⟩, -, -⟩ := ht
  have ht := ht0
  refine fm_P_of (by rfl) (by rfl) ?_
  refine fe_s 4 (pc' := 4) (lc' := [(3, .int 0), (2, .int 0), (0, .ref 0), (1, .int (nI C))]) (stk' := []) (mem' := fm g tp bt a b) (fun _ _ _ => rfl) ?_
  have loop : ∀ (r i : Nat), i + r = NG → ∀ (x2 : Int32), fe_R 3 gk_m270 4 [(3, .int (nI i)), (2, .int x2), (0, .ref 0), (1, .int (nI C))] [] (fm g tp bt a b) (fm_FP (fm g tp bt a b)) := by
    intro r
    induction r with
    | zero =>
      intro i hir x2
      obtain rfl : NG = i := by omega
      refine fe_s 4 (pc' := 10) (lc' := [(3, .int (nI NG)), (2, .int x2), (0, .ref 0), (1, .int (nI C))]) (stk' := [.int 3, .ref 1, .int (nI NG)]) (mem' := fm g tp bt a b) (fun _ _ _ => rfl) ?_
      refine fe_ldI (by rfl) (by rfl) (fx_inN (i := 3) (by omega) (by omega)) ?_
      rw [show Int32.toNatClampNeg (3) = 3 from rfl]
      rw [eNG]
      refine fe_s 1 (pc' := cond (fx_cb .ge (nI NG) (nI NG)) 29 14) (lc' := [(3, .int (nI NG)), (2, .int x2), (0, .ref 0), (1, .int (nI C))]) (stk' := []) (mem' := fm g tp bt a b) (fun _ _ _ => rfl) ?_
      rw [show (fx_cb .ge (nI NG) (nI NG)) = true from cb_geT (a := NG) (b := NG) (by omega) (by omega) (by omega)]
      dsimp only [cond]
      refine fe_s 1 (pc' := 30) (lc' := [(3, .int (nI NG)), (2, .int x2), (0, .ref 0), (1, .int (nI C))]) (stk' := [.int x2]) (mem' := fm g tp bt a b) (fun _ _ _ => rfl) ?_
      exact fe_ret ⟨_, rfl⟩ (by rfl) (by rfl) (by rfl)
    | succ r ih =>
      intro i hir x2
      refine fe_s 4 (pc' := 10) (lc' := [(3, .int (nI i)), (2, .int x2), (0, .ref 0), (1, .int (nI C))]) (stk' := [.int 3, .ref 1, .int (nI i)]) (mem' := fm g tp bt a b) (fun _ _ _ => rfl) ?_
      refine fe_ldI (by rfl) (by rfl) (fx_inN (i := 3) (by omega) (by omega)) ?_
      rw [show Int32.toNatClampNeg (3) = 3 from rfl]
      rw [eNG]
      refine fe_s 1 (pc' := cond (fx_cb .ge (nI i) (nI NG)) 29 14) (lc' := [(3, .int (nI i)), (2, .int x2), (0, .ref 0), (1, .int (nI C))]) (stk' := []) (mem' := fm g tp bt a b) (fun _ _ _ => rfl) ?_
      rw [show (fx_cb .ge (nI i) (nI NG)) = false from cb_geF (a := i) (b := NG) (by omega) (by omega) (by omega)]
      dsimp only [cond]
      refine fe_s 4 (pc' := 18) (lc' := [(3, .int (nI i)), (2, .int x2), (0, .ref 0), (1, .int (nI C))]) (stk' := [.int (nI i), .int (nI C), .ref 0, .int x2]) (mem' := fm g tp bt a b) (fun _ _ _ => rfl) ?_
      obtain ⟨v1, hv1⟩ := fq_cameAgo (C := C) (S := i) (g := g) (tp := tp) (bt := bt) (a := a) (b := b) ht (by omega) (by omega)
      refine fe_ivV hv1 (by omega) (by rfl) (by rfl) (by rfl) (by rfl) (by rfl) (by rfl) ?_
      refine fe_s 4 (pc' := 4) (lc' := [(3, .int ((nI i) + 1)), (2, .int (x2 + v1)), (0, .ref 0), (1, .int (nI C))]) (stk' := []) (mem' := fm g tp bt a b) (fun _ _ _ => rfl) ?_
      rw [show ((nI i) + 1 : Int32) = nI (i + 1) from by simp only [show (1 : Int32) = nI 1 from rfl, nI_add, fm_mul]]
      exact ih (i + 1) (by omega) _
  exact loop NG 0 (by omega) _
theorem fq_loadBut {C : Nat} {w : Int32} (ht : fm_t a) (hC : C < 10) : fm_P 4 272 [.ref 0, .int (nI C), .int w] (fm g tp bt a b) := by
  have ht0 := ht
  obtain ⟨-, ⟨NW, hNW, eNW⟩, -, -, -⟩ := ht
  have ht := ht0
  refine fm_P_of (by rfl) (by rfl) ?_
  refine fe_s 4 (pc' := 5) (lc' := [(4, .int 0), (3, .int 0), (0, .ref 0), (1, .int (nI C)), (2, .int w)]) (stk' := []) (mem' := fm g tp bt a b) (fun _ _ _ => rfl) ?_
  have loop : ∀ (r i : Nat), i + r = NW → ∀ (x3 : Int32), fe_R 3 gk_m272 5 [(4, .int (nI i)), (3, .int x3), (0, .ref 0), (1, .int (nI C)), (2, .int w)] [] (fm g tp bt a b) (fm_FP (fm g tp bt a b)) := by
    intro r
    induction r with
    | zero =>
      intro i hir x3
      obtain rfl : NW = i := by omega
      refine fe_s 4 (pc' := 12) (lc' := [(4, .int (nI NW)), (3, .int x3), (0, .ref 0), (1, .int (nI C)), (2, .int w)]) (stk' := [.int 1, .ref 1, .int (nI NW)]) (mem' := fm g tp bt a b) (fun _ _ _ => rfl) ?_
      refine fe_ldI (by rfl) (by rfl) (fx_inN (i := 1) (by omega) (by omega)) ?_
      rw [show Int32.toNatClampNeg (1) = 1 from rfl]
      rw [eNW]
      refine fe_s 1 (pc' := cond (fx_cb .ge (nI NW) (nI NW)) 84 16) (lc' := [(4, .int (nI NW)), (3, .int x3), (0, .ref 0), (1, .int (nI C)), (2, .int w)]) (stk' := []) (mem' := fm g tp bt a b) (fun _ _ _ => rfl) ?_
      rw [show (fx_cb .ge (nI NW) (nI NW)) = true from cb_geT (a := NW) (b := NW) (by omega) (by omega) (by omega)]
      dsimp only [cond]
      refine fe_s 1 (pc' := 85) (lc' := [(4, .int (nI NW)), (3, .int x3), (0, .ref 0), (1, .int (nI C)), (2, .int w)]) (stk' := [.int x3]) (mem' := fm g tp bt a b) (fun _ _ _ => rfl) ?_
      exact fe_ret ⟨_, rfl⟩ (by rfl) (by rfl) (by rfl)
    | succ r ih =>
      intro i hir x3
      refine fe_s 4 (pc' := 12) (lc' := [(4, .int (nI i)), (3, .int x3), (0, .ref 0), (1, .int (nI C)), (2, .int w)]) (stk' := [.int 1, .ref 1, .int (nI i)]) (mem' := fm g tp bt a b) (fun _ _ _ => rfl) ?_
      refine fe_ldI (by rfl) (by rfl) (fx_inN (i := 1) (by omega) (by omega)) ?_
      rw [show Int32.toNatClampNeg (1) = 1 from rfl]
      rw [eNW]
      refine fe_s 1 (pc' := cond (fx_cb .ge (nI i) (nI NW)) 84 16) (lc' := [(4, .int (nI i)), (3, .int x3), (0, .ref 0), (1, .int (nI C)), (2, .int w)]) (stk' := []) (mem' := fm g tp bt a b) (fun _ _ _ => rfl) ?_
      rw [show (fx_cb .ge (nI i) (nI NW)) = false from cb_geF (a := i) (b := NW) (by omega) (by omega) (by omega)]
      dsimp only [cond]
      refine fe_s 3 (pc' := 20) (lc' := [(4, .int (nI i)), (3, .int x3), (0, .ref 0), (1, .int (nI C)), (2, .int w)]) (stk' := [.int w, .int (nI i), .int x3]) (mem' := fm g tp bt a b) (fun _ _ _ => rfl) ?_
      refine fe_s 1 (pc' := cond (fx_cb .eq (nI i) w) 75 23) (lc' := [(4, .int (nI i)), (3, .int x3), (0, .ref 0), (1, .int (nI C)), (2, .int w)]) (stk' := [.int x3]) (mem' := fm g tp bt a b) (fun _ _ _ => rfl) ?_
      cases h1 : fx_cb .eq (nI i) w
      · refine fe_s 2 (pc' := 26) (lc' := [(4, .int (nI i)), (3, .int x3), (0, .ref 0), (1, .int (nI C)), (2, .int w)]) (stk' := [.int (nI i), .ref 0, .int x3]) (mem' := fm g tp bt a b) (fun _ _ _ => rfl) ?_
        obtain ⟨v2, z3, hv2⟩ := fq_isWet (V := i) (g := g) (tp := tp) (bt := bt) (a := a) (b := b) (by omega)
        refine fe_ivV hv2 (by omega) (by rfl) (by rfl) (by rfl) (by rfl) (by rfl) (by rfl) ?_
        rcases z3 with rfl | rfl
        · refine fe_s 1 (pc' := cond (fx_cb .ne 0 0) 75 32) (lc' := [(4, .int (nI i)), (3, .int x3), (0, .ref 0), (1, .int (nI C)), (2, .int w)]) (stk' := [.int x3]) (mem' := fm g tp bt a b) (fun _ _ _ => rfl) ?_
          rw [show (fx_cb .ne 0 0) = false from by decide]
          dsimp only [cond]
          refine fe_s 2 (pc' := 35) (lc' := [(4, .int (nI i)), (3, .int x3), (0, .ref 0), (1, .int (nI C)), (2, .int w)]) (stk' := [.int (nI i), .ref 0, .int x3]) (mem' := fm g tp bt a b) (fun _ _ _ => rfl) ?_
          refine fe_ivV (fr_whereOf (W := i) (by omega)) (by omega) (by rfl) (by rfl) (by rfl) (by rfl) (by rfl) (by rfl) ?_
          refine fe_s 1 (pc' := 39) (lc' := [(4, .int (nI i)), (3, .int x3), (0, .ref 0), (1, .int (nI C)), (2, .int w)]) (stk' := [.int (nI C), .int (a 1 (279 + 5 * i)), .int x3]) (mem' := fm g tp bt a b) (fun _ _ _ => rfl) ?_
          refine fe_s 1 (pc' := cond (fx_cb .eq (a 1 (279 + 5 * i)) (nI C)) 66 42) (lc' := [(4, .int (nI i)), (3, .int x3), (0, .ref 0), (1, .int (nI C)), (2, .int w)]) (stk' := [.int x3]) (mem' := fm g tp bt a b) (fun _ _ _ => rfl) ?_
          cases h4 : fx_cb .eq (a 1 (279 + 5 * i)) (nI C)
          · refine fe_s 4 (pc' := 48) (lc' := [(4, .int (nI i)), (3, .int x3), (0, .ref 0), (1, .int (nI C)), (2, .int w)]) (stk' := [.int (nI C), .ref 1, .ref 0, .int x3]) (mem' := fm g tp bt a b) (fun _ _ _ => rfl) ?_
            refine fe_ivS fr_cellRow (by omega) (by rfl) (by rfl) (by rfl) (by rfl) (by rfl) ?_
            rw [show (8 + 6 * (nI C) : Int32) = nI (8 + (6 * C)) from by simp only [show (8 : Int32) = nI 8 from rfl, show (6 : Int32) = nI 6 from rfl, nI_add, fm_mul]]
            refine fe_s 2 (pc' := 53) (lc' := [(4, .int (nI i)), (3, .int x3), (0, .ref 0), (1, .int (nI C)), (2, .int w)]) (stk' := [.int ((nI (8 + (6 * C))) + 3), .ref 1, .ref 0, .int x3]) (mem' := fm g tp bt a b) (fun _ _ _ => rfl) ?_
            rw [show ((nI (8 + (6 * C))) + 3 : Int32) = nI ((8 + (6 * C)) + 3) from by simp only [show (3 : Int32) = nI 3 from rfl, nI_add, fm_mul]]
            refine fe_ldI (by rfl) (by rfl) (fx_inN (i := (8 + (6 * C)) + 3) (by omega) (by omega)) ?_
            rw [show Int32.toNatClampNeg (nI ((8 + (6 * C)) + 3)) = (8 + (6 * C)) + 3 from nI_clamp (by omega)]
            refine fe_s 2 (pc' := 57) (lc' := [(4, .int (nI i)), (3, .int x3), (0, .ref 0), (1, .int (nI C)), (2, .int w)]) (stk' := [.int (nI i), .ref 0, .int (a 1 ((8 + (6 * C)) + 3)), .ref 0, .int x3]) (mem' := fm g tp bt a b) (fun _ _ _ => rfl) ?_
            refine fe_ivV (fr_whereOf (W := i) (by omega)) (by omega) (by rfl) (by rfl) (by rfl) (by rfl) (by rfl) (by rfl) ?_
            refine fe_ivV fr_isIn (by omega) (by rfl) (by rfl) (by rfl) (by rfl) (by rfl) (by rfl) ?_
            rcases fm_b_01 (a 1 ((8 + (6 * C)) + 3)) (a 1 (279 + 5 * i)) with q1 | q1
            · rw [q1]
              refine fe_s 1 (pc' := cond (fx_cb .eq 0 0) 75 66) (lc' := [(4, .int (nI i)), (3, .int x3), (0, .ref 0), (1, .int (nI C)), (2, .int w)]) (stk' := [.int x3]) (mem' := fm g tp bt a b) (fun _ _ _ => rfl) ?_
              rw [show (fx_cb .eq 0 0) = true from by decide]
              dsimp only [cond]
              refine fe_s 5 (pc' := 5) (lc' := [(4, .int ((nI i) + 1)), (3, .int (x3 + 0)), (0, .ref 0), (1, .int (nI C)), (2, .int w)]) (stk' := []) (mem' := fm g tp bt a b) (fun _ _ _ => rfl) ?_
              rw [show ((nI i) + 1 : Int32) = nI (i + 1) from by simp only [show (1 : Int32) = nI 1 from rfl, nI_add, fm_mul]]
              exact ih (i + 1) (by omega) _
            · rw [q1]
              refine fe_s 1 (pc' := cond (fx_cb .eq 1 0) 75 66) (lc' := [(4, .int (nI i)), (3, .int x3), (0, .ref 0), (1, .int (nI C)), (2, .int w)]) (stk' := [.int x3]) (mem' := fm g tp bt a b) (fun _ _ _ => rfl) ?_
              rw [show (fx_cb .eq 1 0) = false from by decide]
              dsimp only [cond]
              refine fe_s 2 (pc' := 69) (lc' := [(4, .int (nI i)), (3, .int x3), (0, .ref 0), (1, .int (nI C)), (2, .int w)]) (stk' := [.int (nI i), .ref 0, .int x3]) (mem' := fm g tp bt a b) (fun _ _ _ => rfl) ?_
              obtain ⟨v5, hv5⟩ := fq_weightOf (V := i) (g := g) (tp := tp) (bt := bt) (a := a) (b := b) (by omega)
              refine fe_ivV hv5 (by omega) (by rfl) (by rfl) (by rfl) (by rfl) (by rfl) (by rfl) ?_
              refine fe_s 5 (pc' := 5) (lc' := [(4, .int ((nI i) + 1)), (3, .int (x3 + v5)), (0, .ref 0), (1, .int (nI C)), (2, .int w)]) (stk' := []) (mem' := fm g tp bt a b) (fun _ _ _ => rfl) ?_
              rw [show ((nI i) + 1 : Int32) = nI (i + 1) from by simp only [show (1 : Int32) = nI 1 from rfl, nI_add, fm_mul]]
              exact ih (i + 1) (by omega) _
          · refine fe_s 2 (pc' := 69) (lc' := [(4, .int (nI i)), (3, .int x3), (0, .ref 0), (1, .int (nI C)), (2, .int w)]) (stk' := [.int (nI i), .ref 0, .int x3]) (mem' := fm g tp bt a b) (fun _ _ _ => rfl) ?_
            obtain ⟨v6, hv6⟩ := fq_weightOf (V := i) (g := g) (tp := tp) (bt := bt) (a := a) (b := b) (by omega)
            refine fe_ivV hv6 (by omega) (by rfl) (by rfl) (by rfl) (by rfl) (by rfl) (by rfl) ?_
            refine fe_s 5 (pc' := 5) (lc' := [(4, .int ((nI i) + 1)), (3, .int (x3 + v6)), (0, .ref 0), (1, .int (nI C)), (2, .int w)]) (stk' := []) (mem' := fm g tp bt a b) (fun _ _ _ => rfl) ?_
            rw [show ((nI i) + 1 : Int32) = nI (i + 1) from by simp only [show (1 : Int32) = nI 1 from rfl, nI_add, fm_mul]]
            exact ih (i + 1) (by omega) _
        · refine fe_s 1 (pc' := cond (fx_cb .ne 1 0) 75 32) (lc' := [(4, .int (nI i)), (3, .int x3), (0, .ref 0), (1, .int (nI C)), (2, .int w)]) (stk' := [.int x3]) (mem' := fm g tp bt a b) (fun _ _ _ => rfl) ?_
          rw [show (fx_cb .ne 1 0) = true from by decide]
          dsimp only [cond]
          refine fe_s 5 (pc' := 5) (lc' := [(4, .int ((nI i) + 1)), (3, .int (x3 + 0)), (0, .ref 0), (1, .int (nI C)), (2, .int w)]) (stk' := []) (mem' := fm g tp bt a b) (fun _ _ _ => rfl) ?_
          rw [show ((nI i) + 1 : Int32) = nI (i + 1) from by simp only [show (1 : Int32) = nI 1 from rfl, nI_add, fm_mul]]
          exact ih (i + 1) (by omega) _
      · refine fe_s 5 (pc' := 5) (lc' := [(4, .int ((nI i) + 1)), (3, .int (x3 + 0)), (0, .ref 0), (1, .int (nI C)), (2, .int w)]) (stk' := []) (mem' := fm g tp bt a b) (fun _ _ _ => rfl) ?_
        rw [show ((nI i) + 1 : Int32) = nI (i + 1) from by simp only [show (1 : Int32) = nI 1 from rfl, nI_add, fm_mul]]
        exact ih (i + 1) (by omega) _
  exact loop NW 0 (by omega) _
theorem fq_marginOf {W C : Nat} (ht : fm_t a) (hW : W < 8) (hC : C < 10) : fm_P 5 302 [.ref 0, .int (nI W), .int (nI C)] (fm g tp bt a b) := by
  refine fm_P_of (by rfl) (by rfl) ?_
  refine fe_s 2 (pc' := 2) (lc' := [(0, .ref 0), (1, .int (nI W)), (2, .int (nI C))]) (stk' := [.int (nI C), .ref 0]) (mem' := fm g tp bt a b) (fun _ _ _ => rfl) ?_
  obtain ⟨v1, z2, hv1⟩ := fq_isShore (C := C) (g := g) (tp := tp) (bt := bt) (a := a) (b := b) (by omega)
  refine fe_ivV hv1 (by omega) (by rfl) (by rfl) (by rfl) (by rfl) (by rfl) (by rfl) ?_
  rcases z2 with rfl | rfl
  · refine fe_s 1 (pc' := cond (fx_cb .eq 0 0) 12 8) (lc' := [(0, .ref 0), (1, .int (nI W)), (2, .int (nI C))]) (stk' := []) (mem' := fm g tp bt a b) (fun _ _ _ => rfl) ?_
    rw [show (fx_cb .eq 0 0) = true from by decide]
    dsimp only [cond]
    refine fe_s 2 (pc' := 14) (lc' := [(0, .ref 0), (1, .int (nI W)), (2, .int (nI C))]) (stk' := [.int (nI C), .ref 0]) (mem' := fm g tp bt a b) (fun _ _ _ => rfl) ?_
    obtain ⟨v3, z4, hv3⟩ := fq_isBroken (C := C) (g := g) (tp := tp) (bt := bt) (a := a) (b := b) (by omega)
    refine fe_ivV hv3 (by omega) (by rfl) (by rfl) (by rfl) (by rfl) (by rfl) (by rfl) ?_
    rcases z4 with rfl | rfl
    · refine fe_s 1 (pc' := cond (fx_cb .eq 0 0) 24 20) (lc' := [(0, .ref 0), (1, .int (nI W)), (2, .int (nI C))]) (stk' := []) (mem' := fm g tp bt a b) (fun _ _ _ => rfl) ?_
      rw [show (fx_cb .eq 0 0) = true from by decide]
      dsimp only [cond]
      refine fe_s 4 (pc' := 30) (lc' := [(0, .ref 0), (1, .int (nI W)), (2, .int (nI C))]) (stk' := [.int (nI C), .ref 1, .int 0]) (mem' := fm g tp bt a b) (fun _ _ _ => rfl) ?_
      refine fe_ivS fr_cellRow (by omega) (by rfl) (by rfl) (by rfl) (by rfl) (by rfl) ?_
      rw [show (8 + 6 * (nI C) : Int32) = nI (8 + (6 * C)) from by simp only [show (8 : Int32) = nI 8 from rfl, show (6 : Int32) = nI 6 from rfl, nI_add, fm_mul]]
      refine fe_s 2 (pc' := 35) (lc' := [(0, .ref 0), (1, .int (nI W)), (2, .int (nI C))]) (stk' := [.int ((nI (8 + (6 * C))) + 1), .ref 1, .int 0]) (mem' := fm g tp bt a b) (fun _ _ _ => rfl) ?_
      rw [show ((nI (8 + (6 * C))) + 1 : Int32) = nI ((8 + (6 * C)) + 1) from by simp only [show (1 : Int32) = nI 1 from rfl, nI_add, fm_mul]]
      refine fe_ldI (by rfl) (by rfl) (fx_inN (i := (8 + (6 * C)) + 1) (by omega) (by omega)) ?_
      rw [show Int32.toNatClampNeg (nI ((8 + (6 * C)) + 1)) = (8 + (6 * C)) + 1 from nI_clamp (by omega)]
      refine fe_s 3 (pc' := 41) (lc' := [(0, .ref 0), (1, .int (nI W)), (2, .int (nI C))]) (stk' := [.int 2, .ref 1, .int (a 1 ((8 + (6 * C)) + 1)), .int 0]) (mem' := fm g tp bt a b) (fun _ _ _ => rfl) ?_
      refine fe_ldI (by rfl) (by rfl) (fx_inN (i := 2) (by omega) (by omega)) ?_
      rw [show Int32.toNatClampNeg (2) = 2 from rfl]
      refine fe_s 2 (pc' := 44) (lc' := [(0, .ref 0), (1, .int (nI W)), (2, .int (nI C))]) (stk' := [.int (nI C), .ref 0, .int (a 1 2), .int (a 1 ((8 + (6 * C)) + 1)), .int 0]) (mem' := fm g tp bt a b) (fun _ _ _ => rfl) ?_
      obtain ⟨v5, hv5⟩ := fq_cameLately (C := C) (g := g) (tp := tp) (bt := bt) (a := a) (b := b) ht (by omega)
      refine fe_ivV hv5 (by omega) (by rfl) (by rfl) (by rfl) (by rfl) (by rfl) (by rfl) ?_
      refine fe_s 4 (pc' := 51) (lc' := [(0, .ref 0), (1, .int (nI W)), (2, .int (nI C))]) (stk' := [.int ((a 1 ((8 + (6 * C)) + 1)) - ((a 1 2) * (v5 + 1))), .int 0]) (mem' := fm g tp bt a b) (fun _ _ _ => rfl) ?_
      refine fe_s 1 (pc' := 54) (lc' := [(0, .ref 0), (1, .int (nI W)), (2, .int (nI C))]) (stk' := [.int (if 0 < ((a 1 ((8 + (6 * C)) + 1)) - ((a 1 2) * (v5 + 1))) then ((a 1 ((8 + (6 * C)) + 1)) - ((a 1 2) * (v5 + 1))) else 0)]) (mem' := fm g tp bt a b) (fun _ _ _ => rfl) ?_
      refine fe_s 5 (pc' := 59) (lc' := [(3, .int (if 0 < ((a 1 ((8 + (6 * C)) + 1)) - ((a 1 2) * (v5 + 1))) then ((a 1 ((8 + (6 * C)) + 1)) - ((a 1 2) * (v5 + 1))) else 0)), (0, .ref 0), (1, .int (nI W)), (2, .int (nI C))]) (stk' := [.int (nI W), .int (nI C), .ref 0, .int (if 0 < ((a 1 ((8 + (6 * C)) + 1)) - ((a 1 2) * (v5 + 1))) then ((a 1 ((8 + (6 * C)) + 1)) - ((a 1 2) * (v5 + 1))) else 0)]) (mem' := fm g tp bt a b) (fun _ _ _ => rfl) ?_
      obtain ⟨v6, hv6⟩ := fq_loadBut (C := C) (w := nI W) (g := g) (tp := tp) (bt := bt) (a := a) (b := b) ht (by omega)
      refine fe_ivV hv6 (by omega) (by rfl) (by rfl) (by rfl) (by rfl) (by rfl) (by rfl) ?_
      refine fe_s 3 (pc' := 65) (lc' := [(3, .int (if 0 < ((a 1 ((8 + (6 * C)) + 1)) - ((a 1 2) * (v5 + 1))) then ((a 1 ((8 + (6 * C)) + 1)) - ((a 1 2) * (v5 + 1))) else 0)), (0, .ref 0), (1, .int (nI W)), (2, .int (nI C))]) (stk' := [.int (nI W), .ref 0, .int ((if 0 < ((a 1 ((8 + (6 * C)) + 1)) - ((a 1 2) * (v5 + 1))) then ((a 1 ((8 + (6 * C)) + 1)) - ((a 1 2) * (v5 + 1))) else 0) - v6)]) (mem' := fm g tp bt a b) (fun _ _ _ => rfl) ?_
      obtain ⟨v7, hv7⟩ := fq_weightOf (V := W) (g := g) (tp := tp) (bt := bt) (a := a) (b := b) (by omega)
      refine fe_ivV hv7 (by omega) (by rfl) (by rfl) (by rfl) (by rfl) (by rfl) (by rfl) ?_
      refine fe_s 1 (pc' := 69) (lc' := [(3, .int (if 0 < ((a 1 ((8 + (6 * C)) + 1)) - ((a 1 2) * (v5 + 1))) then ((a 1 ((8 + (6 * C)) + 1)) - ((a 1 2) * (v5 + 1))) else 0)), (0, .ref 0), (1, .int (nI W)), (2, .int (nI C))]) (stk' := [.int (((if 0 < ((a 1 ((8 + (6 * C)) + 1)) - ((a 1 2) * (v5 + 1))) then ((a 1 ((8 + (6 * C)) + 1)) - ((a 1 2) * (v5 + 1))) else 0) - v6) - v7)]) (mem' := fm g tp bt a b) (fun _ _ _ => rfl) ?_
      exact fe_ret ⟨_, rfl⟩ (by rfl) (by rfl) (by rfl)
    · refine fe_s 1 (pc' := cond (fx_cb .eq 1 0) 24 20) (lc' := [(0, .ref 0), (1, .int (nI W)), (2, .int (nI C))]) (stk' := []) (mem' := fm g tp bt a b) (fun _ _ _ => rfl) ?_
      rw [show (fx_cb .eq 1 0) = false from by decide]
      dsimp only [cond]
      refine fe_s 7 (pc' := 59) (lc' := [(3, .int 0), (0, .ref 0), (1, .int (nI W)), (2, .int (nI C))]) (stk' := [.int (nI W), .int (nI C), .ref 0, .int 0]) (mem' := fm g tp bt a b) (fun _ _ _ => rfl) ?_
      obtain ⟨v8, hv8⟩ := fq_loadBut (C := C) (w := nI W) (g := g) (tp := tp) (bt := bt) (a := a) (b := b) ht (by omega)
      refine fe_ivV hv8 (by omega) (by rfl) (by rfl) (by rfl) (by rfl) (by rfl) (by rfl) ?_
      refine fe_s 3 (pc' := 65) (lc' := [(3, .int 0), (0, .ref 0), (1, .int (nI W)), (2, .int (nI C))]) (stk' := [.int (nI W), .ref 0, .int (0 - v8)]) (mem' := fm g tp bt a b) (fun _ _ _ => rfl) ?_
      obtain ⟨v9, hv9⟩ := fq_weightOf (V := W) (g := g) (tp := tp) (bt := bt) (a := a) (b := b) (by omega)
      refine fe_ivV hv9 (by omega) (by rfl) (by rfl) (by rfl) (by rfl) (by rfl) (by rfl) ?_
      refine fe_s 1 (pc' := 69) (lc' := [(3, .int 0), (0, .ref 0), (1, .int (nI W)), (2, .int (nI C))]) (stk' := [.int ((0 - v8) - v9)]) (mem' := fm g tp bt a b) (fun _ _ _ => rfl) ?_
      exact fe_ret ⟨_, rfl⟩ (by rfl) (by rfl) (by rfl)
  · refine fe_s 1 (pc' := cond (fx_cb .eq 1 0) 12 8) (lc' := [(0, .ref 0), (1, .int (nI W)), (2, .int (nI C))]) (stk' := []) (mem' := fm g tp bt a b) (fun _ _ _ => rfl) ?_
    rw [show (fx_cb .eq 1 0) = false from by decide]
    dsimp only [cond]
    refine fe_s 1 (pc' := 11) (lc' := [(0, .ref 0), (1, .int (nI W)), (2, .int (nI C))]) (stk' := [.int 999]) (mem' := fm g tp bt a b) (fun _ _ _ => rfl) ?_
    exact fe_ret ⟨_, rfl⟩ (by rfl) (by rfl) (by rfl)
theorem fq_doesBear {W C : Nat} (ht : fm_t a) (hW : W < 8) (hC : C < 10) : fm_Pz 6 303 [.ref 0, .int (nI W), .int (nI C)] (fm g tp bt a b) := by
  refine fm_Pz_of (by rfl) (by rfl) ?_
  refine fe_s 2 (pc' := 2) (lc' := [(0, .ref 0), (1, .int (nI W)), (2, .int (nI C))]) (stk' := [.int (nI C), .ref 0]) (mem' := fm g tp bt a b) (fun _ _ _ => rfl) ?_
  obtain ⟨v1, z2, hv1⟩ := fq_isShore (C := C) (g := g) (tp := tp) (bt := bt) (a := a) (b := b) (by omega)
  refine fe_ivV hv1 (by omega) (by rfl) (by rfl) (by rfl) (by rfl) (by rfl) (by rfl) ?_
  rcases z2 with rfl | rfl
  · refine fe_s 1 (pc' := cond (fx_cb .ne 0 0) 25 8) (lc' := [(0, .ref 0), (1, .int (nI W)), (2, .int (nI C))]) (stk' := []) (mem' := fm g tp bt a b) (fun _ _ _ => rfl) ?_
    rw [show (fx_cb .ne 0 0) = false from by decide]
    dsimp only [cond]
    refine fe_s 2 (pc' := 10) (lc' := [(0, .ref 0), (1, .int (nI W)), (2, .int (nI C))]) (stk' := [.int (nI C), .ref 0]) (mem' := fm g tp bt a b) (fun _ _ _ => rfl) ?_
    obtain ⟨v3, z4, hv3⟩ := fq_isBroken (C := C) (g := g) (tp := tp) (bt := bt) (a := a) (b := b) (by omega)
    refine fe_ivV hv3 (by omega) (by rfl) (by rfl) (by rfl) (by rfl) (by rfl) (by rfl) ?_
    rcases z4 with rfl | rfl
    · refine fe_s 1 (pc' := cond (fx_cb .ne 0 0) 29 16) (lc' := [(0, .ref 0), (1, .int (nI W)), (2, .int (nI C))]) (stk' := []) (mem' := fm g tp bt a b) (fun _ _ _ => rfl) ?_
      rw [show (fx_cb .ne 0 0) = false from by decide]
      dsimp only [cond]
      refine fe_s 3 (pc' := 19) (lc' := [(0, .ref 0), (1, .int (nI W)), (2, .int (nI C))]) (stk' := [.int (nI C), .int (nI W), .ref 0]) (mem' := fm g tp bt a b) (fun _ _ _ => rfl) ?_
      obtain ⟨v5, hv5⟩ := fq_marginOf (W := W) (C := C) (g := g) (tp := tp) (bt := bt) (a := a) (b := b) ht (by omega) (by omega)
      refine fe_ivV hv5 (by omega) (by rfl) (by rfl) (by rfl) (by rfl) (by rfl) (by rfl) ?_
      refine fe_s 1 (pc' := cond (fx_cb .lt v5 0) 29 25) (lc' := [(0, .ref 0), (1, .int (nI W)), (2, .int (nI C))]) (stk' := []) (mem' := fm g tp bt a b) (fun _ _ _ => rfl) ?_
      cases h6 : fx_cb .lt v5 0
      · refine fe_s 2 (pc' := 30) (lc' := [(0, .ref 0), (1, .int (nI W)), (2, .int (nI C))]) (stk' := [.int 1]) (mem' := fm g tp bt a b) (fun _ _ _ => rfl) ?_
        exact fe_ret ⟨_, Or.inr rfl, rfl⟩ (by rfl) (by rfl) (by rfl)
      · refine fe_s 1 (pc' := 30) (lc' := [(0, .ref 0), (1, .int (nI W)), (2, .int (nI C))]) (stk' := [.int 0]) (mem' := fm g tp bt a b) (fun _ _ _ => rfl) ?_
        exact fe_ret ⟨_, Or.inl rfl, rfl⟩ (by rfl) (by rfl) (by rfl)
    · refine fe_s 1 (pc' := cond (fx_cb .ne 1 0) 29 16) (lc' := [(0, .ref 0), (1, .int (nI W)), (2, .int (nI C))]) (stk' := []) (mem' := fm g tp bt a b) (fun _ _ _ => rfl) ?_
      rw [show (fx_cb .ne 1 0) = true from by decide]
      dsimp only [cond]
      refine fe_s 1 (pc' := 30) (lc' := [(0, .ref 0), (1, .int (nI W)), (2, .int (nI C))]) (stk' := [.int 0]) (mem' := fm g tp bt a b) (fun _ _ _ => rfl) ?_
      exact fe_ret ⟨_, Or.inl rfl, rfl⟩ (by rfl) (by rfl) (by rfl)
  · refine fe_s 1 (pc' := cond (fx_cb .ne 1 0) 25 8) (lc' := [(0, .ref 0), (1, .int (nI W)), (2, .int (nI C))]) (stk' := []) (mem' := fm g tp bt a b) (fun _ _ _ => rfl) ?_
    rw [show (fx_cb .ne 1 0) = true from by decide]
    dsimp only [cond]
    refine fe_s 2 (pc' := 30) (lc' := [(0, .ref 0), (1, .int (nI W)), (2, .int (nI C))]) (stk' := [.int 1]) (mem' := fm g tp bt a b) (fun _ _ _ => rfl) ?_
    exact fe_ret ⟨_, Or.inr rfl, rfl⟩ (by rfl) (by rfl) (by rfl)
theorem fq_bearers {W : Nat} (ht : fm_t a) (hW : W < 8) : fm_P 7 304 [.ref 0, .int (nI W)] (fm g tp bt a b) := by
  have ht0 := ht
  obtain ⟨⟨NC, hNC, eNC⟩, -, -, -, -⟩ := ht
  have ht := ht0
  refine fm_P_of (by rfl) (by rfl) ?_
  refine fe_s 4 (pc' := 4) (lc' := [(3, .int 0), (2, .int 0), (0, .ref 0), (1, .int (nI W))]) (stk' := []) (mem' := fm g tp bt a b) (fun _ _ _ => rfl) ?_
  have loop : ∀ (r i : Nat), i + r = NC → ∀ (x2 : Int32), fe_R 6 gk_m304 4 [(3, .int (nI i)), (2, .int x2), (0, .ref 0), (1, .int (nI W))] [] (fm g tp bt a b) (fm_FP (fm g tp bt a b)) := by
    intro r
    induction r with
    | zero =>
      intro i hir x2
      obtain rfl : NC = i := by omega
      refine fe_s 4 (pc' := 10) (lc' := [(3, .int (nI NC)), (2, .int x2), (0, .ref 0), (1, .int (nI W))]) (stk' := [.int 0, .ref 1, .int (nI NC)]) (mem' := fm g tp bt a b) (fun _ _ _ => rfl) ?_
      refine fe_ldI (by rfl) (by rfl) (fx_inN (i := 0) (by omega) (by omega)) ?_
      rw [show Int32.toNatClampNeg (0) = 0 from rfl]
      rw [eNC]
      refine fe_s 1 (pc' := cond (fx_cb .ge (nI NC) (nI NC)) 39 14) (lc' := [(3, .int (nI NC)), (2, .int x2), (0, .ref 0), (1, .int (nI W))]) (stk' := []) (mem' := fm g tp bt a b) (fun _ _ _ => rfl) ?_
      rw [show (fx_cb .ge (nI NC) (nI NC)) = true from cb_geT (a := NC) (b := NC) (by omega) (by omega) (by omega)]
      dsimp only [cond]
      refine fe_s 1 (pc' := 40) (lc' := [(3, .int (nI NC)), (2, .int x2), (0, .ref 0), (1, .int (nI W))]) (stk' := [.int x2]) (mem' := fm g tp bt a b) (fun _ _ _ => rfl) ?_
      exact fe_ret ⟨_, rfl⟩ (by rfl) (by rfl) (by rfl)
    | succ r ih =>
      intro i hir x2
      refine fe_s 4 (pc' := 10) (lc' := [(3, .int (nI i)), (2, .int x2), (0, .ref 0), (1, .int (nI W))]) (stk' := [.int 0, .ref 1, .int (nI i)]) (mem' := fm g tp bt a b) (fun _ _ _ => rfl) ?_
      refine fe_ldI (by rfl) (by rfl) (fx_inN (i := 0) (by omega) (by omega)) ?_
      rw [show Int32.toNatClampNeg (0) = 0 from rfl]
      rw [eNC]
      refine fe_s 1 (pc' := cond (fx_cb .ge (nI i) (nI NC)) 39 14) (lc' := [(3, .int (nI i)), (2, .int x2), (0, .ref 0), (1, .int (nI W))]) (stk' := []) (mem' := fm g tp bt a b) (fun _ _ _ => rfl) ?_
      rw [show (fx_cb .ge (nI i) (nI NC)) = false from cb_geF (a := i) (b := NC) (by omega) (by omega) (by omega)]
      dsimp only [cond]
      refine fe_s 4 (pc' := 18) (lc' := [(3, .int (nI i)), (2, .int x2), (0, .ref 0), (1, .int (nI W))]) (stk' := [.int (nI i), .int (nI W), .ref 0, .int x2]) (mem' := fm g tp bt a b) (fun _ _ _ => rfl) ?_
      obtain ⟨v1, z2, hv1⟩ := fq_doesBear (W := W) (C := i) (g := g) (tp := tp) (bt := bt) (a := a) (b := b) ht (by omega) (by omega)
      refine fe_ivV hv1 (by omega) (by rfl) (by rfl) (by rfl) (by rfl) (by rfl) (by rfl) ?_
      rcases z2 with rfl | rfl
      · refine fe_s 1 (pc' := cond (fx_cb .eq 0 0) 30 24) (lc' := [(3, .int (nI i)), (2, .int x2), (0, .ref 0), (1, .int (nI W))]) (stk' := [.int x2]) (mem' := fm g tp bt a b) (fun _ _ _ => rfl) ?_
        rw [show (fx_cb .eq 0 0) = true from by decide]
        dsimp only [cond]
        refine fe_s 5 (pc' := 4) (lc' := [(3, .int ((nI i) + 1)), (2, .int (x2 ||| 0)), (0, .ref 0), (1, .int (nI W))]) (stk' := []) (mem' := fm g tp bt a b) (fun _ _ _ => rfl) ?_
        rw [show ((nI i) + 1 : Int32) = nI (i + 1) from by simp only [show (1 : Int32) = nI 1 from rfl, nI_add, fm_mul]]
        exact ih (i + 1) (by omega) _
      · refine fe_s 1 (pc' := cond (fx_cb .eq 1 0) 30 24) (lc' := [(3, .int (nI i)), (2, .int x2), (0, .ref 0), (1, .int (nI W))]) (stk' := [.int x2]) (mem' := fm g tp bt a b) (fun _ _ _ => rfl) ?_
        rw [show (fx_cb .eq 1 0) = false from by decide]
        dsimp only [cond]
        refine fe_s 8 (pc' := 4) (lc' := [(3, .int ((nI i) + 1)), (2, .int (x2 ||| (1 <<< ((nI i) &&& 31)))), (0, .ref 0), (1, .int (nI W))]) (stk' := []) (mem' := fm g tp bt a b) (fun _ _ _ => rfl) ?_
        rw [show ((nI i) + 1 : Int32) = nI (i + 1) from by simp only [show (1 : Int32) = nI 1 from rfl, nI_add, fm_mul]]
        exact ih (i + 1) (by omega) _
  exact loop NC 0 (by omega) _
theorem fq_above {W : Nat} {m : Int32} (ht : fm_t a) (hW : W < 8) : fm_P 7 313 [.ref 0, .int (nI W), .int m] (fm g tp bt a b) := by
  have ht0 := ht
  obtain ⟨⟨NC, hNC, eNC⟩, -, -, -, -⟩ := ht
  have ht := ht0
  refine fm_P_of (by rfl) (by rfl) ?_
  refine fe_s 4 (pc' := 5) (lc' := [(4, .int 0), (3, .int 0), (0, .ref 0), (1, .int (nI W)), (2, .int m)]) (stk' := []) (mem' := fm g tp bt a b) (fun _ _ _ => rfl) ?_
  have loop : ∀ (r i : Nat), i + r = NC → ∀ (x3 : Int32), fe_R 6 gk_m313 5 [(4, .int (nI i)), (3, .int x3), (0, .ref 0), (1, .int (nI W)), (2, .int m)] [] (fm g tp bt a b) (fm_FP (fm g tp bt a b)) := by
    intro r
    induction r with
    | zero =>
      intro i hir x3
      obtain rfl : NC = i := by omega
      refine fe_s 4 (pc' := 12) (lc' := [(4, .int (nI NC)), (3, .int x3), (0, .ref 0), (1, .int (nI W)), (2, .int m)]) (stk' := [.int 0, .ref 1, .int (nI NC)]) (mem' := fm g tp bt a b) (fun _ _ _ => rfl) ?_
      refine fe_ldI (by rfl) (by rfl) (fx_inN (i := 0) (by omega) (by omega)) ?_
      rw [show Int32.toNatClampNeg (0) = 0 from rfl]
      rw [eNC]
      refine fe_s 1 (pc' := cond (fx_cb .ge (nI NC) (nI NC)) 44 16) (lc' := [(4, .int (nI NC)), (3, .int x3), (0, .ref 0), (1, .int (nI W)), (2, .int m)]) (stk' := []) (mem' := fm g tp bt a b) (fun _ _ _ => rfl) ?_
      rw [show (fx_cb .ge (nI NC) (nI NC)) = true from cb_geT (a := NC) (b := NC) (by omega) (by omega) (by omega)]
      dsimp only [cond]
      refine fe_s 1 (pc' := 45) (lc' := [(4, .int (nI NC)), (3, .int x3), (0, .ref 0), (1, .int (nI W)), (2, .int m)]) (stk' := [.int x3]) (mem' := fm g tp bt a b) (fun _ _ _ => rfl) ?_
      exact fe_ret ⟨_, rfl⟩ (by rfl) (by rfl) (by rfl)
    | succ r ih =>
      intro i hir x3
      refine fe_s 4 (pc' := 12) (lc' := [(4, .int (nI i)), (3, .int x3), (0, .ref 0), (1, .int (nI W)), (2, .int m)]) (stk' := [.int 0, .ref 1, .int (nI i)]) (mem' := fm g tp bt a b) (fun _ _ _ => rfl) ?_
      refine fe_ldI (by rfl) (by rfl) (fx_inN (i := 0) (by omega) (by omega)) ?_
      rw [show Int32.toNatClampNeg (0) = 0 from rfl]
      rw [eNC]
      refine fe_s 1 (pc' := cond (fx_cb .ge (nI i) (nI NC)) 44 16) (lc' := [(4, .int (nI i)), (3, .int x3), (0, .ref 0), (1, .int (nI W)), (2, .int m)]) (stk' := []) (mem' := fm g tp bt a b) (fun _ _ _ => rfl) ?_
      rw [show (fx_cb .ge (nI i) (nI NC)) = false from cb_geF (a := i) (b := NC) (by omega) (by omega) (by omega)]
      dsimp only [cond]
      refine fe_s 4 (pc' := 21) (lc' := [(4, .int (nI i)), (3, .int x3), (0, .ref 0), (1, .int (nI W)), (2, .int m)]) (stk' := [.int (nI i), .int (nI W), .ref 0, .int x3]) (mem' := fm g tp bt a b) (fun _ _ _ => rfl) ?_
      obtain ⟨v1, hv1⟩ := fq_marginOf (W := W) (C := i) (g := g) (tp := tp) (bt := bt) (a := a) (b := b) ht (by omega) (by omega)
      refine fe_ivV hv1 (by omega) (by rfl) (by rfl) (by rfl) (by rfl) (by rfl) (by rfl) ?_
      refine fe_s 1 (pc' := 25) (lc' := [(4, .int (nI i)), (3, .int x3), (0, .ref 0), (1, .int (nI W)), (2, .int m)]) (stk' := [.int m, .int v1, .int x3]) (mem' := fm g tp bt a b) (fun _ _ _ => rfl) ?_
      refine fe_s 1 (pc' := cond (fx_cb .lt v1 m) 35 28) (lc' := [(4, .int (nI i)), (3, .int x3), (0, .ref 0), (1, .int (nI W)), (2, .int m)]) (stk' := [.int x3]) (mem' := fm g tp bt a b) (fun _ _ _ => rfl) ?_
      cases h2 : fx_cb .lt v1 m
      · refine fe_s 8 (pc' := 5) (lc' := [(4, .int ((nI i) + 1)), (3, .int (x3 ||| (1 <<< ((nI i) &&& 31)))), (0, .ref 0), (1, .int (nI W)), (2, .int m)]) (stk' := []) (mem' := fm g tp bt a b) (fun _ _ _ => rfl) ?_
        rw [show ((nI i) + 1 : Int32) = nI (i + 1) from by simp only [show (1 : Int32) = nI 1 from rfl, nI_add, fm_mul]]
        exact ih (i + 1) (by omega) _
      · refine fe_s 5 (pc' := 5) (lc' := [(4, .int ((nI i) + 1)), (3, .int (x3 ||| 0)), (0, .ref 0), (1, .int (nI W)), (2, .int m)]) (stk' := []) (mem' := fm g tp bt a b) (fun _ _ _ => rfl) ?_
        rw [show ((nI i) + 1 : Int32) = nI (i + 1) from by simp only [show (1 : Int32) = nI 1 from rfl, nI_add, fm_mul]]
        exact ih (i + 1) (by omega) _
  exact loop NC 0 (by omega) _
end FQ2
