section MH6_0
/-! ===== fx: a step of all ===== -/
section FGP
variable {g : Nat → Int32} {tp bt : Int64} {a0 a : Nat → Nat → Int32} {b : Nat → Nat → Int64}
set_option maxHeartbeats 16000000 in
set_option maxRecDepth 20000 in
theorem fr_goes {T : Nat} (hB : fm_B a0) (hD : fm_D a0 a T) (hT : T < 10030) : ∃ (v : Option Value) (mem' : fx_M), (fun R => ∃ (v : Int32) (a' : Nat → Nat → Int32), fm_D a0 a' (T + 1) ∧ R = (some (.int v), fm g tp bt a' b)) (v, mem') ∧ fr_T 6 285 [.ref 0] (fm g tp bt a b) v mem' := by
  obtain ⟨NC, hNC, eNC⟩ := fm_B_0 hB (i := 0) (n := 10) (by decide) rfl
  obtain ⟨NW, hNW, eNW⟩ := fm_B_0 hB (i := 1) (n := 8) (by decide) rfl
  obtain ⟨NG, hNG, eNG⟩ := fm_B_0 hB (i := 3) (n := 20) (by decide) rfl
  have hT9 := hD.2.2.2.2.1
  refine fe_meth (F := fun R => ∃ (v : Int32) (a' : Nat → Nat → Int32), fm_D a0 a' (T + 1) ∧ R = (some (.int v), fm g tp bt a' b)) (M := gk_m285) (by rfl) (by rfl) ?_
  refine fe_s 4 (pc' := 6) (lc' := [(0, .ref 0)]) (stk' := [.int 5, .ref 1, .int 5, .ref 1]) (mem' := fm g tp bt a b) (by intro _ _ _; eq_refl) ?_
  refine fe_ldI (by rfl) (by rfl) (fx_inN (i := 5) (by omega) (by omega)) ?_
  rw [show Int32.toNatClampNeg (5) = 5 from rfl]
  rw [show a 1 5 = nI T from hD.2.2.2.1]
  refine fe_s 2 (pc' := 9) (lc' := [(0, .ref 0)]) (stk' := [.int ((nI T) + 1), .int 5, .ref 1]) (mem' := fm g tp bt a b) (by intro _ _ _; eq_refl) ?_
  rw [show ((nI T) + 1 : Int32) = nI (T + 1) from by simp only [show (1 : Int32) = nI 1 from rfl, nI_add, fm_mul]]
  refine fe_stI (mem' := fm g tp bt (fm_u a 1 (5 : Int32).toNatClampNeg (nI (T + 1))) b) (by rfl) (by rfl) (fx_inN (i := 5) (by omega) (by omega)) fm_si1 ?_
  rw [show Int32.toNatClampNeg (5) = 5 from rfl]
  obtain ⟨at1, hat1⟩ : ∃ z, z = fm_u a 1 (5) (nI (T + 1)) := ⟨_, rfl⟩
  rw [← hat1]
  have hDt1 : fm_D a0 at1 (T + 1) := by rw [hat1]; exact fm_D_T hD (by omega)
  refine fe_s 2 (pc' := 12) (lc' := [(1, .int 0), (0, .ref 0)]) (stk' := []) (mem' := fm g tp bt at1 b) (by intro _ _ _; eq_refl) ?_
  have loop2 : ∀ (r i2 : Nat), i2 + r = NC → ∀ a_2 : Nat → Nat → Int32, fm_D a0 a_2 (T + 1) → fe_R 5 gk_m285 12 [(1, .int (nI i2)), (0, .ref 0)] [] (fm g tp bt a_2 b) (fun R => ∃ (v : Int32) (a' : Nat → Nat → Int32), fm_D a0 a' (T + 1) ∧ R = (some (.int v), fm g tp bt a' b)) := by
    intro r
    induction r with
    | zero =>
      intro i2 hi2 a_2 hD_2
      obtain rfl : NC = i2 := by omega
      refine fe_s 4 (pc' := 18) (lc' := [(1, .int (nI NC)), (0, .ref 0)]) (stk' := [.int 0, .ref 1, .int (nI NC)]) (mem' := fm g tp bt a_2 b) (by intro _ _ _; eq_refl) ?_
      refine fe_ldI (by rfl) (by rfl) (fx_inN (i := 0) (by omega) (by omega)) ?_
      rw [show Int32.toNatClampNeg (0) = 0 from rfl]
      rw [show a_2 1 0 = nI NC from (fm_D_h hD_2 (by decide) rfl).trans eNC]
      refine fe_s 1 (pc' := cond (fx_cb .ge (nI NC) (nI NC)) 51 22) (lc' := [(1, .int (nI NC)), (0, .ref 0)]) (stk' := []) (mem' := fm g tp bt a_2 b) (by intro _ _ _; eq_refl) ?_
      rw [show (fx_cb .ge (nI NC) (nI NC)) = true from cb_geT (a := NC) (b := NC) (by omega) (by omega) (by omega)]
      dsimp only [cond]
      refine fe_s 2 (pc' := 53) (lc' := [(1, .int 0), (0, .ref 0)]) (stk' := []) (mem' := fm g tp bt a_2 b) (by intro _ _ _; eq_refl) ?_
      have loop3 : ∀ (r i3 : Nat), i3 + r = NW → ∀ a_3 : Nat → Nat → Int32, fm_D a0 a_3 (T + 1) → fe_R 5 gk_m285 53 [(1, .int (nI i3)), (0, .ref 0)] [] (fm g tp bt a_3 b) (fun R => ∃ (v : Int32) (a' : Nat → Nat → Int32), fm_D a0 a' (T + 1) ∧ R = (some (.int v), fm g tp bt a' b)) := by
        intro r
        induction r with
        | zero =>
          intro i3 hi3 a_3 hD_3
          obtain rfl : NW = i3 := by omega
          refine fe_s 4 (pc' := 59) (lc' := [(1, .int (nI NW)), (0, .ref 0)]) (stk' := [.int 1, .ref 1, .int (nI NW)]) (mem' := fm g tp bt a_3 b) (by intro _ _ _; eq_refl) ?_
          refine fe_ldI (by rfl) (by rfl) (fx_inN (i := 1) (by omega) (by omega)) ?_
          rw [show Int32.toNatClampNeg (1) = 1 from rfl]
          rw [show a_3 1 1 = nI NW from (fm_D_h hD_3 (by decide) rfl).trans eNW]
          refine fe_s 1 (pc' := cond (fx_cb .ge (nI NW) (nI NW)) 82 63) (lc' := [(1, .int (nI NW)), (0, .ref 0)]) (stk' := []) (mem' := fm g tp bt a_3 b) (by intro _ _ _; eq_refl) ?_
          rw [show (fx_cb .ge (nI NW) (nI NW)) = true from cb_geT (a := NW) (b := NW) (by omega) (by omega) (by omega)]
          dsimp only [cond]
          refine fe_s 2 (pc' := 84) (lc' := [(1, .int 0), (0, .ref 0)]) (stk' := []) (mem' := fm g tp bt a_3 b) (by intro _ _ _; eq_refl) ?_
          have loop4 : ∀ (r i4 : Nat), i4 + r = NC → ∀ a_4 : Nat → Nat → Int32, fm_D a0 a_4 (T + 1) → fe_R 5 gk_m285 84 [(1, .int (nI i4)), (0, .ref 0)] [] (fm g tp bt a_4 b) (fun R => ∃ (v : Int32) (a' : Nat → Nat → Int32), fm_D a0 a' (T + 1) ∧ R = (some (.int v), fm g tp bt a' b)) := by
            intro r
            induction r with
            | zero =>
              intro i4 hi4 a_4 hD_4
              obtain rfl : NC = i4 := by omega
              refine fe_s 4 (pc' := 90) (lc' := [(1, .int (nI NC)), (0, .ref 0)]) (stk' := [.int 0, .ref 1, .int (nI NC)]) (mem' := fm g tp bt a_4 b) (by intro _ _ _; eq_refl) ?_
              refine fe_ldI (by rfl) (by rfl) (fx_inN (i := 0) (by omega) (by omega)) ?_
              rw [show Int32.toNatClampNeg (0) = 0 from rfl]
              rw [show a_4 1 0 = nI NC from (fm_D_h hD_4 (by decide) rfl).trans eNC]
              refine fe_s 1 (pc' := cond (fx_cb .ge (nI NC) (nI NC)) 163 94) (lc' := [(1, .int (nI NC)), (0, .ref 0)]) (stk' := []) (mem' := fm g tp bt a_4 b) (by intro _ _ _; eq_refl) ?_
              rw [show (fx_cb .ge (nI NC) (nI NC)) = true from cb_geT (a := NC) (b := NC) (by omega) (by omega) (by omega)]
              dsimp only [cond]
              refine fe_s 4 (pc' := 167) (lc' := [(2, .int 0), (1, .int 0), (0, .ref 0)]) (stk' := []) (mem' := fm g tp bt a_4 b) (by intro _ _ _; eq_refl) ?_
              have loop5 : ∀ (r i5 : Nat), i5 + r = NC → ∀ (x1_5 : Int32), ∀ a_5 : Nat → Nat → Int32, fm_D a0 a_5 (T + 1) → fe_R 5 gk_m285 167 [(2, .int (nI i5)), (1, .int x1_5), (0, .ref 0)] [] (fm g tp bt a_5 b) (fun R => ∃ (v : Int32) (a' : Nat → Nat → Int32), fm_D a0 a' (T + 1) ∧ R = (some (.int v), fm g tp bt a' b)) := by
                intro r
                induction r with
                | zero =>
                  intro i5 hi5 x1_5 a_5 hD_5
                  obtain rfl : NC = i5 := by omega
                  refine fe_s 4 (pc' := 173) (lc' := [(2, .int (nI NC)), (1, .int x1_5), (0, .ref 0)]) (stk' := [.int 0, .ref 1, .int (nI NC)]) (mem' := fm g tp bt a_5 b) (by intro _ _ _; eq_refl) ?_
                  refine fe_ldI (by rfl) (by rfl) (fx_inN (i := 0) (by omega) (by omega)) ?_
                  rw [show Int32.toNatClampNeg (0) = 0 from rfl]
                  rw [show a_5 1 0 = nI NC from (fm_D_h hD_5 (by decide) rfl).trans eNC]
                  refine fe_s 1 (pc' := cond (fx_cb .ge (nI NC) (nI NC)) 215 177) (lc' := [(2, .int (nI NC)), (1, .int x1_5), (0, .ref 0)]) (stk' := []) (mem' := fm g tp bt a_5 b) (by intro _ _ _; eq_refl) ?_
                  rw [show (fx_cb .ge (nI NC) (nI NC)) = true from cb_geT (a := NC) (b := NC) (by omega) (by omega) (by omega)]
                  dsimp only [cond]
                  refine fe_s 3 (pc' := 218) (lc' := [(2, .int (nI NC)), (1, .int x1_5), (0, .ref 0)]) (stk' := [.int 1, .ref 0, .int x1_5]) (mem' := fm g tp bt a_5 b) (by intro _ _ _; eq_refl) ?_
                  obtain ⟨vd6, memd6, ⟨xd6, ad6, hDd6, hRd6⟩, hfrd6⟩ := fr_setOf1 (g := g) (tp := tp) (bt := bt) (a := a_5) (b := b) hB hD_5
                  cases hRd6
                  refine fe_ivV hfrd6 (by omega) (by rfl) (by rfl) (by rfl) (by rfl) (by rfl) (by rfl) ?_
                  refine fe_s 6 (pc' := 227) (lc' := [(3, .int 0), (2, .int (x1_5 &&& (xd6 ^^^ (-1)))), (1, .int x1_5), (0, .ref 0)]) (stk' := []) (mem' := fm g tp bt ad6 b) (by intro _ _ _; eq_refl) ?_
                  have loop7 : ∀ (r i7 : Nat), i7 + r = NC → ∀ a_7 : Nat → Nat → Int32, fm_D a0 a_7 (T + 1) → fe_R 5 gk_m285 227 [(3, .int (nI i7)), (2, .int (x1_5 &&& (xd6 ^^^ (-1)))), (1, .int x1_5), (0, .ref 0)] [] (fm g tp bt a_7 b) (fun R => ∃ (v : Int32) (a' : Nat → Nat → Int32), fm_D a0 a' (T + 1) ∧ R = (some (.int v), fm g tp bt a' b)) := by
                    intro r
                    induction r with
                    | zero =>
                      intro i7 hi7 a_7 hD_7
                      obtain rfl : NC = i7 := by omega
                      refine fe_s 4 (pc' := 233) (lc' := [(3, .int (nI NC)), (2, .int (x1_5 &&& (xd6 ^^^ (-1)))), (1, .int x1_5), (0, .ref 0)]) (stk' := [.int 0, .ref 1, .int (nI NC)]) (mem' := fm g tp bt a_7 b) (by intro _ _ _; eq_refl) ?_
                      refine fe_ldI (by rfl) (by rfl) (fx_inN (i := 0) (by omega) (by omega)) ?_
                      rw [show Int32.toNatClampNeg (0) = 0 from rfl]
                      rw [show a_7 1 0 = nI NC from (fm_D_h hD_7 (by decide) rfl).trans eNC]
                      refine fe_s 1 (pc' := cond (fx_cb .ge (nI NC) (nI NC)) 257 237) (lc' := [(3, .int (nI NC)), (2, .int (x1_5 &&& (xd6 ^^^ (-1)))), (1, .int x1_5), (0, .ref 0)]) (stk' := []) (mem' := fm g tp bt a_7 b) (by intro _ _ _; eq_refl) ?_
                      rw [show (fx_cb .ge (nI NC) (nI NC)) = true from cb_geT (a := NC) (b := NC) (by omega) (by omega) (by omega)]
                      dsimp only [cond]
                      refine fe_s 2 (pc' := 259) (lc' := [(3, .int 0), (2, .int (x1_5 &&& (xd6 ^^^ (-1)))), (1, .int x1_5), (0, .ref 0)]) (stk' := []) (mem' := fm g tp bt a_7 b) (by intro _ _ _; eq_refl) ?_
                      have loop8 : ∀ (r i8 : Nat), i8 + r = NC → ∀ a_8 : Nat → Nat → Int32, fm_D a0 a_8 (T + 1) → fe_R 5 gk_m285 259 [(3, .int (nI i8)), (2, .int (x1_5 &&& (xd6 ^^^ (-1)))), (1, .int x1_5), (0, .ref 0)] [] (fm g tp bt a_8 b) (fun R => ∃ (v : Int32) (a' : Nat → Nat → Int32), fm_D a0 a' (T + 1) ∧ R = (some (.int v), fm g tp bt a' b)) := by
                        intro r
                        induction r with
                        | zero =>
                          intro i8 hi8 a_8 hD_8
                          obtain rfl : NC = i8 := by omega
                          refine fe_s 4 (pc' := 265) (lc' := [(3, .int (nI NC)), (2, .int (x1_5 &&& (xd6 ^^^ (-1)))), (1, .int x1_5), (0, .ref 0)]) (stk' := [.int 0, .ref 1, .int (nI NC)]) (mem' := fm g tp bt a_8 b) (by intro _ _ _; eq_refl) ?_
                          refine fe_ldI (by rfl) (by rfl) (fx_inN (i := 0) (by omega) (by omega)) ?_
                          rw [show Int32.toNatClampNeg (0) = 0 from rfl]
                          rw [show a_8 1 0 = nI NC from (fm_D_h hD_8 (by decide) rfl).trans eNC]
                          refine fe_s 1 (pc' := cond (fx_cb .ge (nI NC) (nI NC)) 322 269) (lc' := [(3, .int (nI NC)), (2, .int (x1_5 &&& (xd6 ^^^ (-1)))), (1, .int x1_5), (0, .ref 0)]) (stk' := []) (mem' := fm g tp bt a_8 b) (by intro _ _ _; eq_refl) ?_
                          rw [show (fx_cb .ge (nI NC) (nI NC)) = true from cb_geT (a := NC) (b := NC) (by omega) (by omega) (by omega)]
                          dsimp only [cond]
                          refine fe_s 1 (pc' := 323) (lc' := [(3, .int (nI NC)), (2, .int (x1_5 &&& (xd6 ^^^ (-1)))), (1, .int x1_5), (0, .ref 0)]) (stk' := [.int (x1_5 &&& (xd6 ^^^ (-1)))]) (mem' := fm g tp bt a_8 b) (by intro _ _ _; eq_refl) ?_
                          exact fe_ret ⟨_, _, hD_8, rfl⟩ (by rfl) (by rfl) (by rfl)
                        | succ r ih8 =>
                          intro i8 hi8 a_8 hD_8
                          have hl8 : i8 < NC := by omega
                          refine fe_s 4 (pc' := 265) (lc' := [(3, .int (nI i8)), (2, .int (x1_5 &&& (xd6 ^^^ (-1)))), (1, .int x1_5), (0, .ref 0)]) (stk' := [.int 0, .ref 1, .int (nI i8)]) (mem' := fm g tp bt a_8 b) (by intro _ _ _; eq_refl) ?_
                          refine fe_ldI (by rfl) (by rfl) (fx_inN (i := 0) (by omega) (by omega)) ?_
                          rw [show Int32.toNatClampNeg (0) = 0 from rfl]
                          rw [show a_8 1 0 = nI NC from (fm_D_h hD_8 (by decide) rfl).trans eNC]
                          refine fe_s 1 (pc' := cond (fx_cb .ge (nI i8) (nI NC)) 322 269) (lc' := [(3, .int (nI i8)), (2, .int (x1_5 &&& (xd6 ^^^ (-1)))), (1, .int x1_5), (0, .ref 0)]) (stk' := []) (mem' := fm g tp bt a_8 b) (by intro _ _ _; eq_refl) ?_
                          rw [show (fx_cb .ge (nI i8) (nI NC)) = false from cb_geF (a := i8) (b := NC) (by omega) (by omega) (by omega)]
                          dsimp only [cond]
                          refine fe_s 2 (pc' := 271) (lc' := [(3, .int (nI i8)), (2, .int (x1_5 &&& (xd6 ^^^ (-1)))), (1, .int x1_5), (0, .ref 0)]) (stk' := [.int (nI i8), .ref 0]) (mem' := fm g tp bt a_8 b) (by intro _ _ _; eq_refl) ?_
                          obtain ⟨v9, z10, hv9⟩ := fq_isIce (C := i8) (g := g) (tp := tp) (bt := bt) (a := a_8) (b := b) (fm_D_t hB hD_8) (by omega)
                          refine fe_ivV hv9 (by omega) (by rfl) (by rfl) (by rfl) (by rfl) (by rfl) (by rfl) ?_
                          rcases z10 with rfl | rfl
                          · refine fe_s 1 (pc' := cond (fx_cb .eq 0 0) 316 277) (lc' := [(3, .int (nI i8)), (2, .int (x1_5 &&& (xd6 ^^^ (-1)))), (1, .int x1_5), (0, .ref 0)]) (stk' := []) (mem' := fm g tp bt a_8 b) (by intro _ _ _; eq_refl) ?_
                            rw [show (fx_cb .eq 0 0) = true from by decide]
                            dsimp only [cond]
                            refine fe_s 2 (pc' := 259) (lc' := [(3, .int ((nI i8) + 1)), (2, .int (x1_5 &&& (xd6 ^^^ (-1)))), (1, .int x1_5), (0, .ref 0)]) (stk' := []) (mem' := fm g tp bt a_8 b) (by intro _ _ _; eq_refl) ?_
                            rw [show ((nI i8) + 1 : Int32) = nI (i8 + 1) from by simp only [show (1 : Int32) = nI 1 from rfl, nI_add, fm_mul]]
                            exact ih8 (i8 + 1) (by omega) a_8 hD_8
                          · refine fe_s 1 (pc' := cond (fx_cb .eq 1 0) 316 277) (lc' := [(3, .int (nI i8)), (2, .int (x1_5 &&& (xd6 ^^^ (-1)))), (1, .int x1_5), (0, .ref 0)]) (stk' := []) (mem' := fm g tp bt a_8 b) (by intro _ _ _; eq_refl) ?_
                            rw [show (fx_cb .eq 1 0) = false from by decide]
                            dsimp only [cond]
                            refine fe_s 2 (pc' := 279) (lc' := [(3, .int (nI i8)), (2, .int (x1_5 &&& (xd6 ^^^ (-1)))), (1, .int x1_5), (0, .ref 0)]) (stk' := [.int (nI i8), .ref 0]) (mem' := fm g tp bt a_8 b) (by intro _ _ _; eq_refl) ?_
                            obtain ⟨v11, z12, hv11⟩ := fq_isBroken (C := i8) (g := g) (tp := tp) (bt := bt) (a := a_8) (b := b) (by omega)
                            refine fe_ivV hv11 (by omega) (by rfl) (by rfl) (by rfl) (by rfl) (by rfl) (by rfl) ?_
                            rcases z12 with rfl | rfl
                            · refine fe_s 1 (pc' := cond (fx_cb .ne 0 0) 316 285) (lc' := [(3, .int (nI i8)), (2, .int (x1_5 &&& (xd6 ^^^ (-1)))), (1, .int x1_5), (0, .ref 0)]) (stk' := []) (mem' := fm g tp bt a_8 b) (by intro _ _ _; eq_refl) ?_
                              rw [show (fx_cb .ne 0 0) = false from by decide]
                              dsimp only [cond]
                              refine fe_s 3 (pc' := 290) (lc' := [(3, .int (nI i8)), (2, .int (x1_5 &&& (xd6 ^^^ (-1)))), (1, .int x1_5), (0, .ref 0)]) (stk' := [.int (nI i8), .ref 1]) (mem' := fm g tp bt a_8 b) (by intro _ _ _; eq_refl) ?_
                              refine fe_ivS fr_cellRow (by omega) (by rfl) (by rfl) (by rfl) (by rfl) (by rfl) ?_
                              rw [show (8 + 6 * (nI i8) : Int32) = nI (8 + (6 * i8)) from by simp only [show (8 : Int32) = nI 8 from rfl, show (6 : Int32) = nI 6 from rfl, nI_add, fm_mul]]
                              refine fe_s 5 (pc' := 300) (lc' := [(3, .int (nI i8)), (2, .int (x1_5 &&& (xd6 ^^^ (-1)))), (1, .int x1_5), (0, .ref 0)]) (stk' := [.int (nI i8), .ref 1, .int ((nI (8 + (6 * i8))) + 5), .ref 1]) (mem' := fm g tp bt a_8 b) (by intro _ _ _; eq_refl) ?_
                              rw [show ((nI (8 + (6 * i8))) + 5 : Int32) = nI ((8 + (6 * i8)) + 5) from by simp only [show (5 : Int32) = nI 5 from rfl, nI_add, fm_mul]]
                              refine fe_ivS fr_cellRow (by omega) (by rfl) (by rfl) (by rfl) (by rfl) (by rfl) ?_
                              rw [show (8 + 6 * (nI i8) : Int32) = nI (8 + (6 * i8)) from by simp only [show (8 : Int32) = nI 8 from rfl, show (6 : Int32) = nI 6 from rfl, nI_add, fm_mul]]
                              refine fe_s 2 (pc' := 305) (lc' := [(3, .int (nI i8)), (2, .int (x1_5 &&& (xd6 ^^^ (-1)))), (1, .int x1_5), (0, .ref 0)]) (stk' := [.int ((nI (8 + (6 * i8))) + 5), .ref 1, .int (nI ((8 + (6 * i8)) + 5)), .ref 1]) (mem' := fm g tp bt a_8 b) (by intro _ _ _; eq_refl) ?_
                              rw [show ((nI (8 + (6 * i8))) + 5 : Int32) = nI ((8 + (6 * i8)) + 5) from by simp only [show (5 : Int32) = nI 5 from rfl, nI_add, fm_mul]]
                              refine fe_ldI (by rfl) (by rfl) (fx_inN (i := (8 + (6 * i8)) + 5) (by omega) (by omega)) ?_
                              rw [show Int32.toNatClampNeg (nI ((8 + (6 * i8)) + 5)) = (8 + (6 * i8)) + 5 from nI_clamp (by omega)]
                              refine fe_s 3 (pc' := 309) (lc' := [(3, .int (nI i8)), (2, .int (x1_5 &&& (xd6 ^^^ (-1)))), (1, .int x1_5), (0, .ref 0)]) (stk' := [.int (-1), .int (nI i8), .ref 0, .int (a_8 1 ((8 + (6 * i8)) + 5)), .int (nI ((8 + (6 * i8)) + 5)), .ref 1]) (mem' := fm g tp bt a_8 b) (by intro _ _ _; eq_refl) ?_
                              obtain ⟨v13, hv13⟩ := fq_loadBut (C := i8) (w := (-1)) (g := g) (tp := tp) (bt := bt) (a := a_8) (b := b) (fm_D_t hB hD_8) (by omega)
                              refine fe_ivV hv13 (by omega) (by rfl) (by rfl) (by rfl) (by rfl) (by rfl) (by rfl) ?_
                              refine fe_s 1 (pc' := 315) (lc' := [(3, .int (nI i8)), (2, .int (x1_5 &&& (xd6 ^^^ (-1)))), (1, .int x1_5), (0, .ref 0)]) (stk' := [.int (if (a_8 1 ((8 + (6 * i8)) + 5)) < v13 then v13 else (a_8 1 ((8 + (6 * i8)) + 5))), .int (nI ((8 + (6 * i8)) + 5)), .ref 1]) (mem' := fm g tp bt a_8 b) (by intro _ _ _; eq_refl) ?_
                              refine fe_stI (mem' := fm g tp bt (fm_u a_8 1 (nI ((8 + (6 * i8)) + 5) : Int32).toNatClampNeg (if (a_8 1 ((8 + (6 * i8)) + 5)) < v13 then v13 else (a_8 1 ((8 + (6 * i8)) + 5)))) b) (by rfl) (by rfl) (fx_inN (i := (8 + (6 * i8)) + 5) (by omega) (by omega)) fm_si1 ?_
                              rw [show Int32.toNatClampNeg (nI ((8 + (6 * i8)) + 5)) = (8 + (6 * i8)) + 5 from nI_clamp (by omega)]
                              obtain ⟨at14, hat14⟩ : ∃ z, z = fm_u a_8 1 ((8 + (6 * i8)) + 5) (if (a_8 1 ((8 + (6 * i8)) + 5)) < v13 then v13 else (a_8 1 ((8 + (6 * i8)) + 5))) := ⟨_, rfl⟩
                              rw [← hat14]
                              have hDt14 : fm_D a0 at14 (T + 1) := by rw [hat14, show (8 + (6 * i8)) + 5 = 13 + 6 * i8 by omega]; exact fm_Dc5 hD_8 (by omega)
                              refine fe_s 2 (pc' := 259) (lc' := [(3, .int ((nI i8) + 1)), (2, .int (x1_5 &&& (xd6 ^^^ (-1)))), (1, .int x1_5), (0, .ref 0)]) (stk' := []) (mem' := fm g tp bt at14 b) (by intro _ _ _; eq_refl) ?_
                              rw [show ((nI i8) + 1 : Int32) = nI (i8 + 1) from by simp only [show (1 : Int32) = nI 1 from rfl, nI_add, fm_mul]]
                              exact ih8 (i8 + 1) (by omega) at14 hDt14
                            · refine fe_s 1 (pc' := cond (fx_cb .ne 1 0) 316 285) (lc' := [(3, .int (nI i8)), (2, .int (x1_5 &&& (xd6 ^^^ (-1)))), (1, .int x1_5), (0, .ref 0)]) (stk' := []) (mem' := fm g tp bt a_8 b) (by intro _ _ _; eq_refl) ?_
                              rw [show (fx_cb .ne 1 0) = true from by decide]
                              dsimp only [cond]
                              refine fe_s 2 (pc' := 259) (lc' := [(3, .int ((nI i8) + 1)), (2, .int (x1_5 &&& (xd6 ^^^ (-1)))), (1, .int x1_5), (0, .ref 0)]) (stk' := []) (mem' := fm g tp bt a_8 b) (by intro _ _ _; eq_refl) ?_
                              rw [show ((nI i8) + 1 : Int32) = nI (i8 + 1) from by simp only [show (1 : Int32) = nI 1 from rfl, nI_add, fm_mul]]
                              exact ih8 (i8 + 1) (by omega) a_8 hD_8
                      exact loop8 (NC) 0 (by omega) a_7 hD_7
                    | succ r ih7 =>
                      intro i7 hi7 a_7 hD_7
                      have hl7 : i7 < NC := by omega
                      refine fe_s 4 (pc' := 233) (lc' := [(3, .int (nI i7)), (2, .int (x1_5 &&& (xd6 ^^^ (-1)))), (1, .int x1_5), (0, .ref 0)]) (stk' := [.int 0, .ref 1, .int (nI i7)]) (mem' := fm g tp bt a_7 b) (by intro _ _ _; eq_refl) ?_
                      refine fe_ldI (by rfl) (by rfl) (fx_inN (i := 0) (by omega) (by omega)) ?_
                      rw [show Int32.toNatClampNeg (0) = 0 from rfl]
                      rw [show a_7 1 0 = nI NC from (fm_D_h hD_7 (by decide) rfl).trans eNC]
                      refine fe_s 1 (pc' := cond (fx_cb .ge (nI i7) (nI NC)) 257 237) (lc' := [(3, .int (nI i7)), (2, .int (x1_5 &&& (xd6 ^^^ (-1)))), (1, .int x1_5), (0, .ref 0)]) (stk' := []) (mem' := fm g tp bt a_7 b) (by intro _ _ _; eq_refl) ?_
                      rw [show (fx_cb .ge (nI i7) (nI NC)) = false from cb_geF (a := i7) (b := NC) (by omega) (by omega) (by omega)]
                      dsimp only [cond]
                      refine fe_s 3 (pc' := 240) (lc' := [(3, .int (nI i7)), (2, .int (x1_5 &&& (xd6 ^^^ (-1)))), (1, .int x1_5), (0, .ref 0)]) (stk' := [.int (nI i7), .int x1_5, .ref 0]) (mem' := fm g tp bt a_7 b) (by intro _ _ _; eq_refl) ?_
                      refine fe_ivV fr_isIn (by omega) (by rfl) (by rfl) (by rfl) (by rfl) (by rfl) (by rfl) ?_
                      rcases fm_b_01 x1_5 (nI i7) with q15 | q15
                      · rw [q15]
                        refine fe_s 1 (pc' := cond (fx_cb .eq 0 0) 251 246) (lc' := [(3, .int (nI i7)), (2, .int (x1_5 &&& (xd6 ^^^ (-1)))), (1, .int x1_5), (0, .ref 0)]) (stk' := []) (mem' := fm g tp bt a_7 b) (by intro _ _ _; eq_refl) ?_
                        rw [show (fx_cb .eq 0 0) = true from by decide]
                        dsimp only [cond]
                        refine fe_s 2 (pc' := 227) (lc' := [(3, .int ((nI i7) + 1)), (2, .int (x1_5 &&& (xd6 ^^^ (-1)))), (1, .int x1_5), (0, .ref 0)]) (stk' := []) (mem' := fm g tp bt a_7 b) (by intro _ _ _; eq_refl) ?_
                        rw [show ((nI i7) + 1 : Int32) = nI (i7 + 1) from by simp only [show (1 : Int32) = nI 1 from rfl, nI_add, fm_mul]]
                        exact ih7 (i7 + 1) (by omega) a_7 hD_7
                      · rw [q15]
                        refine fe_s 1 (pc' := cond (fx_cb .eq 1 0) 251 246) (lc' := [(3, .int (nI i7)), (2, .int (x1_5 &&& (xd6 ^^^ (-1)))), (1, .int x1_5), (0, .ref 0)]) (stk' := []) (mem' := fm g tp bt a_7 b) (by intro _ _ _; eq_refl) ?_
                        rw [show (fx_cb .eq 1 0) = false from by decide]
                        dsimp only [cond]
                        refine fe_s 2 (pc' := 248) (lc' := [(3, .int (nI i7)), (2, .int (x1_5 &&& (xd6 ^^^ (-1)))), (1, .int x1_5), (0, .ref 0)]) (stk' := [.int (nI i7), .ref 0]) (mem' := fm g tp bt a_7 b) (by intro _ _ _; eq_refl) ?_
                        obtain ⟨vd16, memd16, ⟨ad16, hDd16, hRd16⟩, hfrd16⟩ := fr_breaks (C := i7) (g := g) (tp := tp) (bt := bt) (a := a_7) (b := b) hB hD_7 (by omega)
                        cases hRd16
                        refine fe_ivV hfrd16 (by omega) (by rfl) (by rfl) (by rfl) (by rfl) (by rfl) (by rfl) ?_
                        refine fe_s 2 (pc' := 227) (lc' := [(3, .int ((nI i7) + 1)), (2, .int (x1_5 &&& (xd6 ^^^ (-1)))), (1, .int x1_5), (0, .ref 0)]) (stk' := []) (mem' := fm g tp bt ad16 b) (by intro _ _ _; eq_refl) ?_
                        rw [show ((nI i7) + 1 : Int32) = nI (i7 + 1) from by simp only [show (1 : Int32) = nI 1 from rfl, nI_add, fm_mul]]
                        exact ih7 (i7 + 1) (by omega) ad16 hDd16
                  exact loop7 (NC) 0 (by omega) ad6 hDd6
                | succ r ih5 =>
                  intro i5 hi5 x1_5 a_5 hD_5
                  have hl5 : i5 < NC := by omega
                  refine fe_s 4 (pc' := 173) (lc' := [(2, .int (nI i5)), (1, .int x1_5), (0, .ref 0)]) (stk' := [.int 0, .ref 1, .int (nI i5)]) (mem' := fm g tp bt a_5 b) (by intro _ _ _; eq_refl) ?_
                  refine fe_ldI (by rfl) (by rfl) (fx_inN (i := 0) (by omega) (by omega)) ?_
                  rw [show Int32.toNatClampNeg (0) = 0 from rfl]
                  rw [show a_5 1 0 = nI NC from (fm_D_h hD_5 (by decide) rfl).trans eNC]
                  refine fe_s 1 (pc' := cond (fx_cb .ge (nI i5) (nI NC)) 215 177) (lc' := [(2, .int (nI i5)), (1, .int x1_5), (0, .ref 0)]) (stk' := []) (mem' := fm g tp bt a_5 b) (by intro _ _ _; eq_refl) ?_
                  rw [show (fx_cb .ge (nI i5) (nI NC)) = false from cb_geF (a := i5) (b := NC) (by omega) (by omega) (by omega)]
                  dsimp only [cond]
                  refine fe_s 3 (pc' := 180) (lc' := [(2, .int (nI i5)), (1, .int x1_5), (0, .ref 0)]) (stk' := [.int (nI i5), .ref 0, .int x1_5]) (mem' := fm g tp bt a_5 b) (by intro _ _ _; eq_refl) ?_
                  obtain ⟨v17, z18, hv17⟩ := fq_isIce (C := i5) (g := g) (tp := tp) (bt := bt) (a := a_5) (b := b) (fm_D_t hB hD_5) (by omega)
                  refine fe_ivV hv17 (by omega) (by rfl) (by rfl) (by rfl) (by rfl) (by rfl) (by rfl) ?_
                  rcases z18 with rfl | rfl
                  · refine fe_s 1 (pc' := cond (fx_cb .eq 0 0) 206 186) (lc' := [(2, .int (nI i5)), (1, .int x1_5), (0, .ref 0)]) (stk' := [.int x1_5]) (mem' := fm g tp bt a_5 b) (by intro _ _ _; eq_refl) ?_
                    rw [show (fx_cb .eq 0 0) = true from by decide]
                    dsimp only [cond]
                    refine fe_s 5 (pc' := 167) (lc' := [(2, .int ((nI i5) + 1)), (1, .int (x1_5 ||| 0)), (0, .ref 0)]) (stk' := []) (mem' := fm g tp bt a_5 b) (by intro _ _ _; eq_refl) ?_
                    rw [show ((nI i5) + 1 : Int32) = nI (i5 + 1) from by simp only [show (1 : Int32) = nI 1 from rfl, nI_add, fm_mul]]
                    exact ih5 (i5 + 1) (by omega) _ a_5 hD_5
                  · refine fe_s 1 (pc' := cond (fx_cb .eq 1 0) 206 186) (lc' := [(2, .int (nI i5)), (1, .int x1_5), (0, .ref 0)]) (stk' := [.int x1_5]) (mem' := fm g tp bt a_5 b) (by intro _ _ _; eq_refl) ?_
                    rw [show (fx_cb .eq 1 0) = false from by decide]
                    dsimp only [cond]
                    refine fe_s 3 (pc' := 189) (lc' := [(2, .int (nI i5)), (1, .int x1_5), (0, .ref 0)]) (stk' := [.int (-1), .int (nI i5), .ref 0, .int x1_5]) (mem' := fm g tp bt a_5 b) (by intro _ _ _; eq_refl) ?_
                    obtain ⟨v19, hv19⟩ := fq_loadBut (C := i5) (w := (-1)) (g := g) (tp := tp) (bt := bt) (a := a_5) (b := b) (fm_D_t hB hD_5) (by omega)
                    refine fe_ivV hv19 (by omega) (by rfl) (by rfl) (by rfl) (by rfl) (by rfl) (by rfl) ?_
                    refine fe_s 2 (pc' := 194) (lc' := [(2, .int (nI i5)), (1, .int x1_5), (0, .ref 0)]) (stk' := [.int (nI i5), .ref 0, .int v19, .int x1_5]) (mem' := fm g tp bt a_5 b) (by intro _ _ _; eq_refl) ?_
                    obtain ⟨v20, hv20⟩ := fq_strengthOf (C := i5) (g := g) (tp := tp) (bt := bt) (a := a_5) (b := b) (fm_D_t hB hD_5) (by omega)
                    refine fe_ivV hv20 (by omega) (by rfl) (by rfl) (by rfl) (by rfl) (by rfl) (by rfl) ?_
                    refine fe_s 1 (pc' := cond (fx_cb .le v19 v20) 206 200) (lc' := [(2, .int (nI i5)), (1, .int x1_5), (0, .ref 0)]) (stk' := [.int x1_5]) (mem' := fm g tp bt a_5 b) (by intro _ _ _; eq_refl) ?_
                    cases h21 : fx_cb .le v19 v20
                    · refine fe_s 8 (pc' := 167) (lc' := [(2, .int ((nI i5) + 1)), (1, .int (x1_5 ||| ((1 : Int32) <<< ((nI i5) &&& 31)))), (0, .ref 0)]) (stk' := []) (mem' := fm g tp bt a_5 b) (by intro _ _ _; eq_refl) ?_
                      rw [show ((nI i5) + 1 : Int32) = nI (i5 + 1) from by simp only [show (1 : Int32) = nI 1 from rfl, nI_add, fm_mul]]
                      exact ih5 (i5 + 1) (by omega) _ a_5 hD_5
                    · refine fe_s 5 (pc' := 167) (lc' := [(2, .int ((nI i5) + 1)), (1, .int (x1_5 ||| 0)), (0, .ref 0)]) (stk' := []) (mem' := fm g tp bt a_5 b) (by intro _ _ _; eq_refl) ?_
                      rw [show ((nI i5) + 1 : Int32) = nI (i5 + 1) from by simp only [show (1 : Int32) = nI 1 from rfl, nI_add, fm_mul]]
                      exact ih5 (i5 + 1) (by omega) _ a_5 hD_5
              exact loop5 (NC) 0 (by omega) _ a_4 hD_4
            | succ r ih4 =>
              intro i4 hi4 a_4 hD_4
              have hl4 : i4 < NC := by omega
              refine fe_s 4 (pc' := 90) (lc' := [(1, .int (nI i4)), (0, .ref 0)]) (stk' := [.int 0, .ref 1, .int (nI i4)]) (mem' := fm g tp bt a_4 b) (by intro _ _ _; eq_refl) ?_
              refine fe_ldI (by rfl) (by rfl) (fx_inN (i := 0) (by omega) (by omega)) ?_
              rw [show Int32.toNatClampNeg (0) = 0 from rfl]
              rw [show a_4 1 0 = nI NC from (fm_D_h hD_4 (by decide) rfl).trans eNC]
              refine fe_s 1 (pc' := cond (fx_cb .ge (nI i4) (nI NC)) 163 94) (lc' := [(1, .int (nI i4)), (0, .ref 0)]) (stk' := []) (mem' := fm g tp bt a_4 b) (by intro _ _ _; eq_refl) ?_
              rw [show (fx_cb .ge (nI i4) (nI NC)) = false from cb_geF (a := i4) (b := NC) (by omega) (by omega) (by omega)]
              dsimp only [cond]
              refine fe_s 2 (pc' := 96) (lc' := [(1, .int (nI i4)), (0, .ref 0)]) (stk' := [.int (nI i4), .ref 0]) (mem' := fm g tp bt a_4 b) (by intro _ _ _; eq_refl) ?_
              obtain ⟨v22, z23, hv22⟩ := fq_isIce (C := i4) (g := g) (tp := tp) (bt := bt) (a := a_4) (b := b) (fm_D_t hB hD_4) (by omega)
              refine fe_ivV hv22 (by omega) (by rfl) (by rfl) (by rfl) (by rfl) (by rfl) (by rfl) ?_
              rcases z23 with rfl | rfl
              · refine fe_s 1 (pc' := cond (fx_cb .eq 0 0) 157 102) (lc' := [(1, .int (nI i4)), (0, .ref 0)]) (stk' := []) (mem' := fm g tp bt a_4 b) (by intro _ _ _; eq_refl) ?_
                rw [show (fx_cb .eq 0 0) = true from by decide]
                dsimp only [cond]
                refine fe_s 1 (pc' := 160) (lc' := [(1, .int ((nI i4) + 1)), (0, .ref 0)]) (stk' := []) (mem' := fm g tp bt a_4 b) (by intro _ _ _; eq_refl) ?_
                rw [show ((nI i4) + 1 : Int32) = nI (i4 + 1) from by simp only [show (1 : Int32) = nI 1 from rfl, nI_add, fm_mul]]
                refine fe_s 1 (pc' := fx_to 160 (-76)) (lc' := [(1, .int (nI (i4 + 1))), (0, .ref 0)]) (stk' := []) (mem' := fm g tp bt a_4 b) (by intro _ _ _; eq_refl) ?_
                rw [show fx_to 160 (-76) = 84 from by decide]
                exact ih4 (i4 + 1) (by omega) a_4 hD_4
              · refine fe_s 1 (pc' := cond (fx_cb .eq 1 0) 157 102) (lc' := [(1, .int (nI i4)), (0, .ref 0)]) (stk' := []) (mem' := fm g tp bt a_4 b) (by intro _ _ _; eq_refl) ?_
                rw [show (fx_cb .eq 1 0) = false from by decide]
                dsimp only [cond]
                refine fe_s 2 (pc' := 104) (lc' := [(1, .int (nI i4)), (0, .ref 0)]) (stk' := [.int (nI i4), .ref 0]) (mem' := fm g tp bt a_4 b) (by intro _ _ _; eq_refl) ?_
                obtain ⟨v24, z25, hv24⟩ := fq_isBroken (C := i4) (g := g) (tp := tp) (bt := bt) (a := a_4) (b := b) (by omega)
                refine fe_ivV hv24 (by omega) (by rfl) (by rfl) (by rfl) (by rfl) (by rfl) (by rfl) ?_
                rcases z25 with rfl | rfl
                · refine fe_s 1 (pc' := cond (fx_cb .ne 0 0) 157 110) (lc' := [(1, .int (nI i4)), (0, .ref 0)]) (stk' := []) (mem' := fm g tp bt a_4 b) (by intro _ _ _; eq_refl) ?_
                  rw [show (fx_cb .ne 0 0) = false from by decide]
                  dsimp only [cond]
                  refine fe_s 3 (pc' := 115) (lc' := [(1, .int (nI i4)), (0, .ref 0)]) (stk' := [.int (nI i4), .ref 1]) (mem' := fm g tp bt a_4 b) (by intro _ _ _; eq_refl) ?_
                  refine fe_ivS fr_cellRow (by omega) (by rfl) (by rfl) (by rfl) (by rfl) (by rfl) ?_
                  rw [show (8 + 6 * (nI i4) : Int32) = nI (8 + (6 * i4)) from by simp only [show (8 : Int32) = nI 8 from rfl, show (6 : Int32) = nI 6 from rfl, nI_add, fm_mul]]
                  refine fe_s 6 (pc' := 128) (lc' := [(1, .int (nI i4)), (0, .ref 0)]) (stk' := [.int (nI i4), .ref 1, .int 999, .int ((nI (8 + (6 * i4))) + 1), .ref 1]) (mem' := fm g tp bt a_4 b) (by intro _ _ _; eq_refl) ?_
                  rw [show ((nI (8 + (6 * i4))) + 1 : Int32) = nI ((8 + (6 * i4)) + 1) from by simp only [show (1 : Int32) = nI 1 from rfl, nI_add, fm_mul]]
                  refine fe_ivS fr_cellRow (by omega) (by rfl) (by rfl) (by rfl) (by rfl) (by rfl) ?_
                  rw [show (8 + 6 * (nI i4) : Int32) = nI (8 + (6 * i4)) from by simp only [show (8 : Int32) = nI 8 from rfl, show (6 : Int32) = nI 6 from rfl, nI_add, fm_mul]]
                  refine fe_s 2 (pc' := 133) (lc' := [(1, .int (nI i4)), (0, .ref 0)]) (stk' := [.int ((nI (8 + (6 * i4))) + 1), .ref 1, .int 999, .int (nI ((8 + (6 * i4)) + 1)), .ref 1]) (mem' := fm g tp bt a_4 b) (by intro _ _ _; eq_refl) ?_
                  rw [show ((nI (8 + (6 * i4))) + 1 : Int32) = nI ((8 + (6 * i4)) + 1) from by simp only [show (1 : Int32) = nI 1 from rfl, nI_add, fm_mul]]
                  refine fe_ldI (by rfl) (by rfl) (fx_inN (i := (8 + (6 * i4)) + 1) (by omega) (by omega)) ?_
                  rw [show Int32.toNatClampNeg (nI ((8 + (6 * i4)) + 1)) = (8 + (6 * i4)) + 1 from nI_clamp (by omega)]
                  refine fe_s 3 (pc' := 139) (lc' := [(1, .int (nI i4)), (0, .ref 0)]) (stk' := [.int 4, .ref 1, .int (a_4 1 ((8 + (6 * i4)) + 1)), .int 999, .int (nI ((8 + (6 * i4)) + 1)), .ref 1]) (mem' := fm g tp bt a_4 b) (by intro _ _ _; eq_refl) ?_
                  refine fe_ldI (by rfl) (by rfl) (fx_inN (i := 4) (by omega) (by omega)) ?_
                  rw [show Int32.toNatClampNeg (4) = 4 from rfl]
                  refine fe_s 5 (pc' := 147) (lc' := [(1, .int (nI i4)), (0, .ref 0)]) (stk' := [.int 3, .ref 1, .int (nI i4), .ref 0, .int (a_4 1 4), .int (a_4 1 ((8 + (6 * i4)) + 1)), .int 999, .int (nI ((8 + (6 * i4)) + 1)), .ref 1]) (mem' := fm g tp bt a_4 b) (by intro _ _ _; eq_refl) ?_
                  refine fe_ldI (by rfl) (by rfl) (fx_inN (i := 3) (by omega) (by omega)) ?_
                  rw [show Int32.toNatClampNeg (3) = 3 from rfl]
                  rw [show a_4 1 3 = nI NG from (fm_D_h hD_4 (by decide) rfl).trans eNG]
                  obtain ⟨v26, hv26⟩ := fq_cameAgo (C := i4) (S := NG) (g := g) (tp := tp) (bt := bt) (a := a_4) (b := b) (fm_D_t hB hD_4) (by omega) (by omega)
                  refine fe_ivV hv26 (by omega) (by rfl) (by rfl) (by rfl) (by rfl) (by rfl) (by rfl) ?_
                  refine fe_s 2 (pc' := 153) (lc' := [(1, .int (nI i4)), (0, .ref 0)]) (stk' := [.int ((a_4 1 ((8 + (6 * i4)) + 1)) + ((a_4 1 4) * v26)), .int 999, .int (nI ((8 + (6 * i4)) + 1)), .ref 1]) (mem' := fm g tp bt a_4 b) (by intro _ _ _; eq_refl) ?_
                  refine fe_s 1 (pc' := 156) (lc' := [(1, .int (nI i4)), (0, .ref 0)]) (stk' := [.int (if ((a_4 1 ((8 + (6 * i4)) + 1)) + ((a_4 1 4) * v26)) < 999 then ((a_4 1 ((8 + (6 * i4)) + 1)) + ((a_4 1 4) * v26)) else 999), .int (nI ((8 + (6 * i4)) + 1)), .ref 1]) (mem' := fm g tp bt a_4 b) (by intro _ _ _; eq_refl) ?_
                  refine fe_stI (mem' := fm g tp bt (fm_u a_4 1 (nI ((8 + (6 * i4)) + 1) : Int32).toNatClampNeg (if ((a_4 1 ((8 + (6 * i4)) + 1)) + ((a_4 1 4) * v26)) < 999 then ((a_4 1 ((8 + (6 * i4)) + 1)) + ((a_4 1 4) * v26)) else 999)) b) (by rfl) (by rfl) (fx_inN (i := (8 + (6 * i4)) + 1) (by omega) (by omega)) fm_si1 ?_
                  rw [show Int32.toNatClampNeg (nI ((8 + (6 * i4)) + 1)) = (8 + (6 * i4)) + 1 from nI_clamp (by omega)]
                  obtain ⟨at27, hat27⟩ : ∃ z, z = fm_u a_4 1 ((8 + (6 * i4)) + 1) (if ((a_4 1 ((8 + (6 * i4)) + 1)) + ((a_4 1 4) * v26)) < 999 then ((a_4 1 ((8 + (6 * i4)) + 1)) + ((a_4 1 4) * v26)) else 999) := ⟨_, rfl⟩
                  rw [← hat27]
                  have hDt27 : fm_D a0 at27 (T + 1) := by rw [hat27, show (8 + (6 * i4)) + 1 = 9 + 6 * i4 by omega]; exact fm_Dc1 hD_4 (by omega)
                  refine fe_s 1 (pc' := 160) (lc' := [(1, .int ((nI i4) + 1)), (0, .ref 0)]) (stk' := []) (mem' := fm g tp bt at27 b) (by intro _ _ _; eq_refl) ?_
                  rw [show ((nI i4) + 1 : Int32) = nI (i4 + 1) from by simp only [show (1 : Int32) = nI 1 from rfl, nI_add, fm_mul]]
                  refine fe_s 1 (pc' := fx_to 160 (-76)) (lc' := [(1, .int (nI (i4 + 1))), (0, .ref 0)]) (stk' := []) (mem' := fm g tp bt at27 b) (by intro _ _ _; eq_refl) ?_
                  rw [show fx_to 160 (-76) = 84 from by decide]
                  exact ih4 (i4 + 1) (by omega) at27 hDt27
                · refine fe_s 1 (pc' := cond (fx_cb .ne 1 0) 157 110) (lc' := [(1, .int (nI i4)), (0, .ref 0)]) (stk' := []) (mem' := fm g tp bt a_4 b) (by intro _ _ _; eq_refl) ?_
                  rw [show (fx_cb .ne 1 0) = true from by decide]
                  dsimp only [cond]
                  refine fe_s 1 (pc' := 160) (lc' := [(1, .int ((nI i4) + 1)), (0, .ref 0)]) (stk' := []) (mem' := fm g tp bt a_4 b) (by intro _ _ _; eq_refl) ?_
                  rw [show ((nI i4) + 1 : Int32) = nI (i4 + 1) from by simp only [show (1 : Int32) = nI 1 from rfl, nI_add, fm_mul]]
                  refine fe_s 1 (pc' := fx_to 160 (-76)) (lc' := [(1, .int (nI (i4 + 1))), (0, .ref 0)]) (stk' := []) (mem' := fm g tp bt a_4 b) (by intro _ _ _; eq_refl) ?_
                  rw [show fx_to 160 (-76) = 84 from by decide]
                  exact ih4 (i4 + 1) (by omega) a_4 hD_4
          exact loop4 (NC) 0 (by omega) a_3 hD_3
        | succ r ih3 =>
          intro i3 hi3 a_3 hD_3
          have hl3 : i3 < NW := by omega
          refine fe_s 4 (pc' := 59) (lc' := [(1, .int (nI i3)), (0, .ref 0)]) (stk' := [.int 1, .ref 1, .int (nI i3)]) (mem' := fm g tp bt a_3 b) (by intro _ _ _; eq_refl) ?_
          refine fe_ldI (by rfl) (by rfl) (fx_inN (i := 1) (by omega) (by omega)) ?_
          rw [show Int32.toNatClampNeg (1) = 1 from rfl]
          rw [show a_3 1 1 = nI NW from (fm_D_h hD_3 (by decide) rfl).trans eNW]
          refine fe_s 1 (pc' := cond (fx_cb .ge (nI i3) (nI NW)) 82 63) (lc' := [(1, .int (nI i3)), (0, .ref 0)]) (stk' := []) (mem' := fm g tp bt a_3 b) (by intro _ _ _; eq_refl) ?_
          rw [show (fx_cb .ge (nI i3) (nI NW)) = false from cb_geF (a := i3) (b := NW) (by omega) (by omega) (by omega)]
          dsimp only [cond]
          refine fe_s 2 (pc' := 65) (lc' := [(1, .int (nI i3)), (0, .ref 0)]) (stk' := [.int (nI i3), .ref 0]) (mem' := fm g tp bt a_3 b) (by intro _ _ _; eq_refl) ?_
          refine fe_ivV (fr_leftOfX (V := i3) (g := g) (tp := tp) (bt := bt) (a := a_3) (b := b) (by omega)) (by omega) (by rfl) (by rfl) (by rfl) (by rfl) (by rfl) (by rfl) ?_
          obtain ⟨l28, hl28, el28⟩ := fm_D_w3 hD_3 (W := i3) (by omega)
          rw [el28]
          refine fe_s 1 (pc' := cond (fx_cb .le (nI l28) 0) 76 71) (lc' := [(1, .int (nI i3)), (0, .ref 0)]) (stk' := []) (mem' := fm g tp bt a_3 b) (by intro _ _ _; eq_refl) ?_
          by_cases h29 : l28 ≤ 0
          · rw [show (fx_cb .le (nI l28) 0) = true from cb_leT (a := l28) (b := 0) (by omega) (by omega) (by omega)]
            dsimp only [cond]
            refine fe_s 2 (pc' := 53) (lc' := [(1, .int ((nI i3) + 1)), (0, .ref 0)]) (stk' := []) (mem' := fm g tp bt a_3 b) (by intro _ _ _; eq_refl) ?_
            rw [show ((nI i3) + 1 : Int32) = nI (i3 + 1) from by simp only [show (1 : Int32) = nI 1 from rfl, nI_add, fm_mul]]
            exact ih3 (i3 + 1) (by omega) a_3 hD_3
          · rw [show (fx_cb .le (nI l28) 0) = false from cb_leF (a := l28) (b := 0) (by omega) (by omega) (by omega)]
            dsimp only [cond]
            refine fe_s 2 (pc' := 73) (lc' := [(1, .int (nI i3)), (0, .ref 0)]) (stk' := [.int (nI i3), .ref 0]) (mem' := fm g tp bt a_3 b) (by intro _ _ _; eq_refl) ?_
            obtain ⟨vd30, memd30, ⟨ad30, hDd30, hRd30⟩, hfrd30⟩ := fr_walks (W := i3) (m := l28 - 1) (g := g) (tp := tp) (bt := bt) (a := a_3) (b := b) hB hD_3 (by omega) (by rw [show l28 - 1 + 1 = l28 by omega]; exact el28) (by omega)
            cases hRd30
            refine fe_ivV hfrd30 (by omega) (by rfl) (by rfl) (by rfl) (by rfl) (by rfl) (by rfl) ?_
            refine fe_s 2 (pc' := 53) (lc' := [(1, .int ((nI i3) + 1)), (0, .ref 0)]) (stk' := []) (mem' := fm g tp bt ad30 b) (by intro _ _ _; eq_refl) ?_
            rw [show ((nI i3) + 1 : Int32) = nI (i3 + 1) from by simp only [show (1 : Int32) = nI 1 from rfl, nI_add, fm_mul]]
            exact ih3 (i3 + 1) (by omega) ad30 hDd30
      exact loop3 (NW) 0 (by omega) a_2 hD_2
    | succ r ih2 =>
      intro i2 hi2 a_2 hD_2
      have hl2 : i2 < NC := by omega
      refine fe_s 4 (pc' := 18) (lc' := [(1, .int (nI i2)), (0, .ref 0)]) (stk' := [.int 0, .ref 1, .int (nI i2)]) (mem' := fm g tp bt a_2 b) (by intro _ _ _; eq_refl) ?_
      refine fe_ldI (by rfl) (by rfl) (fx_inN (i := 0) (by omega) (by omega)) ?_
      rw [show Int32.toNatClampNeg (0) = 0 from rfl]
      rw [show a_2 1 0 = nI NC from (fm_D_h hD_2 (by decide) rfl).trans eNC]
      refine fe_s 1 (pc' := cond (fx_cb .ge (nI i2) (nI NC)) 51 22) (lc' := [(1, .int (nI i2)), (0, .ref 0)]) (stk' := []) (mem' := fm g tp bt a_2 b) (by intro _ _ _; eq_refl) ?_
      rw [show (fx_cb .ge (nI i2) (nI NC)) = false from cb_geF (a := i2) (b := NC) (by omega) (by omega) (by omega)]
      dsimp only [cond]
      refine fe_s 10 (pc' := 38) (lc' := [(1, .int (nI i2)), (0, .ref 0)]) (stk' := [.int 5, .ref 1, .int (68 + (21 * (nI i2))), .ref 1]) (mem' := fm g tp bt a_2 b) (by intro _ _ _; eq_refl) ?_
      rw [show (68 + (21 * (nI i2)) : Int32) = nI (68 + (21 * i2)) from by simp only [show (68 : Int32) = nI 68 from rfl, show (21 : Int32) = nI 21 from rfl, nI_add, fm_mul]]
      refine fe_ldI (by rfl) (by rfl) (fx_inN (i := 5) (by omega) (by omega)) ?_
      rw [show Int32.toNatClampNeg (5) = 5 from rfl]
      rw [show a_2 1 5 = nI (T + 1) from hD_2.2.2.2.1]
      refine fe_s 4 (pc' := 44) (lc' := [(1, .int (nI i2)), (0, .ref 0)]) (stk' := [.int 0, .int ((nI (68 + (21 * i2))) + ((nI (T + 1)) - (nI (T + 1)) / 21 * 21)), .ref 1]) (mem' := fm g tp bt a_2 b) (by intro _ _ _; eq_refl) ?_
      rw [show ((nI (68 + (21 * i2))) + ((nI (T + 1)) - (nI (T + 1)) / 21 * 21) : Int32) = nI ((68 + (21 * i2)) + ((T + 1) % 21)) from by simp only [(show ((nI (T + 1)) - (nI (T + 1)) / 21 * 21 : Int32) = nI ((T + 1) % 21) from pk_rem (a := T + 1) (d := 21) (by omega) (by decide) (by decide)), nI_add, fm_mul]]
      refine fe_stI (mem' := fm g tp bt (fm_u a_2 1 (nI ((68 + (21 * i2)) + ((T + 1) % 21)) : Int32).toNatClampNeg 0) b) (by rfl) (by rfl) (fx_inN (i := (68 + (21 * i2)) + ((T + 1) % 21)) (by omega) (by omega)) fm_si1 ?_
      rw [show Int32.toNatClampNeg (nI ((68 + (21 * i2)) + ((T + 1) % 21))) = (68 + (21 * i2)) + ((T + 1) % 21) from nI_clamp (by omega)]
      obtain ⟨at31, hat31⟩ : ∃ z, z = fm_u a_2 1 ((68 + (21 * i2)) + ((T + 1) % 21)) 0 := ⟨_, rfl⟩
      rw [← hat31]
      have hDt31 : fm_D a0 at31 (T + 1) := by rw [hat31]; exact fm_Dcm hD_2 (by omega) (by omega)
      refine fe_s 2 (pc' := 12) (lc' := [(1, .int ((nI i2) + 1)), (0, .ref 0)]) (stk' := []) (mem' := fm g tp bt at31 b) (by intro _ _ _; eq_refl) ?_
      rw [show ((nI i2) + 1 : Int32) = nI (i2 + 1) from by simp only [show (1 : Int32) = nI 1 from rfl, nI_add, fm_mul]]
      exact ih2 (i2 + 1) (by omega) at31 hDt31
  exact loop2 (NC) 0 (by omega) at1 hDt1
theorem fr_stills {T : Nat} (hB : fm_B a0) (hD : fm_D a0 a T) : ∃ (v : Option Value) (mem' : fx_M), (fun R => ∃ a' : Nat → Nat → Int32, fm_D a0 a' T ∧ R = (none, fm g tp bt a' b)) (v, mem') ∧ fr_T 3 327 [.ref 0] (fm g tp bt a b) v mem' := by
  obtain ⟨NC, hNC, eNC⟩ := fm_B_0 hB (i := 0) (n := 10) (by decide) rfl
  obtain ⟨NW, hNW, eNW⟩ := fm_B_0 hB (i := 1) (n := 8) (by decide) rfl
  have hT9 := hD.2.2.2.2.1
  refine fe_meth (F := fun R => ∃ a' : Nat → Nat → Int32, fm_D a0 a' T ∧ R = (none, fm g tp bt a' b)) (M := gk_m327) (by rfl) (by rfl) ?_
  refine fe_s 2 (pc' := 2) (lc' := [(1, .int 0), (0, .ref 0)]) (stk' := []) (mem' := fm g tp bt a b) (by intro _ _ _; eq_refl) ?_
  have loop1 : ∀ (r i1 : Nat), i1 + r = NW → ∀ a_1 : Nat → Nat → Int32, fm_D a0 a_1 T → fe_R 2 gk_m327 2 [(1, .int (nI i1)), (0, .ref 0)] [] (fm g tp bt a_1 b) (fun R => ∃ a' : Nat → Nat → Int32, fm_D a0 a' T ∧ R = (none, fm g tp bt a' b)) := by
    intro r
    induction r with
    | zero =>
      intro i1 hi1 a_1 hD_1
      obtain rfl : NW = i1 := by omega
      refine fe_s 4 (pc' := 8) (lc' := [(1, .int (nI NW)), (0, .ref 0)]) (stk' := [.int 1, .ref 1, .int (nI NW)]) (mem' := fm g tp bt a_1 b) (by intro _ _ _; eq_refl) ?_
      refine fe_ldI (by rfl) (by rfl) (fx_inN (i := 1) (by omega) (by omega)) ?_
      rw [show Int32.toNatClampNeg (1) = 1 from rfl]
      rw [show a_1 1 1 = nI NW from (fm_D_h hD_1 (by decide) rfl).trans eNW]
      refine fe_s 1 (pc' := cond (fx_cb .ge (nI NW) (nI NW)) 30 12) (lc' := [(1, .int (nI NW)), (0, .ref 0)]) (stk' := []) (mem' := fm g tp bt a_1 b) (by intro _ _ _; eq_refl) ?_
      rw [show (fx_cb .ge (nI NW) (nI NW)) = true from cb_geT (a := NW) (b := NW) (by omega) (by omega) (by omega)]
      dsimp only [cond]
      exact fe_ret ⟨_, hD_1, rfl⟩ (by rfl) (by rfl) (by rfl)
    | succ r ih1 =>
      intro i1 hi1 a_1 hD_1
      have hl1 : i1 < NW := by omega
      refine fe_s 4 (pc' := 8) (lc' := [(1, .int (nI i1)), (0, .ref 0)]) (stk' := [.int 1, .ref 1, .int (nI i1)]) (mem' := fm g tp bt a_1 b) (by intro _ _ _; eq_refl) ?_
      refine fe_ldI (by rfl) (by rfl) (fx_inN (i := 1) (by omega) (by omega)) ?_
      rw [show Int32.toNatClampNeg (1) = 1 from rfl]
      rw [show a_1 1 1 = nI NW from (fm_D_h hD_1 (by decide) rfl).trans eNW]
      refine fe_s 1 (pc' := cond (fx_cb .ge (nI i1) (nI NW)) 30 12) (lc' := [(1, .int (nI i1)), (0, .ref 0)]) (stk' := []) (mem' := fm g tp bt a_1 b) (by intro _ _ _; eq_refl) ?_
      rw [show (fx_cb .ge (nI i1) (nI NW)) = false from cb_geF (a := i1) (b := NW) (by omega) (by omega) (by omega)]
      dsimp only [cond]
      refine fe_s 3 (pc' := 17) (lc' := [(1, .int (nI i1)), (0, .ref 0)]) (stk' := [.int (nI i1), .ref 1]) (mem' := fm g tp bt a_1 b) (by intro _ _ _; eq_refl) ?_
      refine fe_ivS fr_walkerRow (by omega) (by rfl) (by rfl) (by rfl) (by rfl) (by rfl) ?_
      rw [show (278 + 5 * (nI i1) : Int32) = nI (278 + (5 * i1)) from by simp only [show (278 : Int32) = nI 278 from rfl, show (5 : Int32) = nI 5 from rfl, nI_add, fm_mul]]
      refine fe_s 3 (pc' := 23) (lc' := [(1, .int (nI i1)), (0, .ref 0)]) (stk' := [.int 0, .int ((nI (278 + (5 * i1))) + 3), .ref 1]) (mem' := fm g tp bt a_1 b) (by intro _ _ _; eq_refl) ?_
      rw [show ((nI (278 + (5 * i1))) + 3 : Int32) = nI ((278 + (5 * i1)) + 3) from by simp only [show (3 : Int32) = nI 3 from rfl, nI_add, fm_mul]]
      refine fe_stI (mem' := fm g tp bt (fm_u a_1 1 (nI ((278 + (5 * i1)) + 3) : Int32).toNatClampNeg 0) b) (by rfl) (by rfl) (fx_inN (i := (278 + (5 * i1)) + 3) (by omega) (by omega)) fm_si1 ?_
      rw [show Int32.toNatClampNeg (nI ((278 + (5 * i1)) + 3)) = (278 + (5 * i1)) + 3 from nI_clamp (by omega)]
      obtain ⟨at2, hat2⟩ : ∃ z, z = fm_u a_1 1 ((278 + (5 * i1)) + 3) 0 := ⟨_, rfl⟩
      rw [← hat2]
      have hDt2 : fm_D a0 at2 T := by rw [hat2, show (278 + (5 * i1)) + 3 = 281 + 5 * i1 by omega]; exact fm_Dw3 (X := 0) hD_1 (by omega) (by omega)
      refine fe_s 2 (pc' := 2) (lc' := [(1, .int ((nI i1) + 1)), (0, .ref 0)]) (stk' := []) (mem' := fm g tp bt at2 b) (by intro _ _ _; eq_refl) ?_
      rw [show ((nI i1) + 1 : Int32) = nI (i1 + 1) from by simp only [show (1 : Int32) = nI 1 from rfl, nI_add, fm_mul]]
      exact ih1 (i1 + 1) (by omega) at2 hDt2
  exact loop1 (NW) 0 (by omega) a hD
theorem fr_freezes {T : Nat} {n : Int32} (hB : fm_B a0) (hD : fm_D a0 a T) : ∃ (v : Option Value) (mem' : fx_M), (fun R => ∃ (v : Int32) (a' : Nat → Nat → Int32), fm_D a0 a' T ∧ R = (some (.int v), fm g tp bt a' b)) (v, mem') ∧ fr_T 4 294 [.ref 0, .int n] (fm g tp bt a b) v mem' := by
  obtain ⟨NC, hNC, eNC⟩ := fm_B_0 hB (i := 0) (n := 10) (by decide) rfl
  obtain ⟨NW, hNW, eNW⟩ := fm_B_0 hB (i := 1) (n := 8) (by decide) rfl
  have hT9 := hD.2.2.2.2.1
  refine fe_meth (F := fun R => ∃ (v : Int32) (a' : Nat → Nat → Int32), fm_D a0 a' T ∧ R = (some (.int v), fm g tp bt a' b)) (M := gk_m294) (by rfl) (by rfl) ?_
  refine fe_s 4 (pc' := 4) (lc' := [(3, .int 0), (2, .int 0), (0, .ref 0), (1, .int n)]) (stk' := []) (mem' := fm g tp bt a b) (by intro _ _ _; eq_refl) ?_
  have loop1 : ∀ (r i1 : Nat), i1 + r = NC → ∀ (x2_1 : Int32), ∀ a_1 : Nat → Nat → Int32, fm_D a0 a_1 T → fe_R 3 gk_m294 4 [(3, .int (nI i1)), (2, .int x2_1), (0, .ref 0), (1, .int n)] [] (fm g tp bt a_1 b) (fun R => ∃ (v : Int32) (a' : Nat → Nat → Int32), fm_D a0 a' T ∧ R = (some (.int v), fm g tp bt a' b)) := by
    intro r
    induction r with
    | zero =>
      intro i1 hi1 x2_1 a_1 hD_1
      obtain rfl : NC = i1 := by omega
      refine fe_s 4 (pc' := 10) (lc' := [(3, .int (nI NC)), (2, .int x2_1), (0, .ref 0), (1, .int n)]) (stk' := [.int 0, .ref 1, .int (nI NC)]) (mem' := fm g tp bt a_1 b) (by intro _ _ _; eq_refl) ?_
      refine fe_ldI (by rfl) (by rfl) (fx_inN (i := 0) (by omega) (by omega)) ?_
      rw [show Int32.toNatClampNeg (0) = 0 from rfl]
      rw [show a_1 1 0 = nI NC from (fm_D_h hD_1 (by decide) rfl).trans eNC]
      refine fe_s 1 (pc' := cond (fx_cb .ge (nI NC) (nI NC)) 89 14) (lc' := [(3, .int (nI NC)), (2, .int x2_1), (0, .ref 0), (1, .int n)]) (stk' := []) (mem' := fm g tp bt a_1 b) (by intro _ _ _; eq_refl) ?_
      rw [show (fx_cb .ge (nI NC) (nI NC)) = true from cb_geT (a := NC) (b := NC) (by omega) (by omega) (by omega)]
      dsimp only [cond]
      refine fe_s 1 (pc' := 90) (lc' := [(3, .int (nI NC)), (2, .int x2_1), (0, .ref 0), (1, .int n)]) (stk' := [.int x2_1]) (mem' := fm g tp bt a_1 b) (by intro _ _ _; eq_refl) ?_
      exact fe_ret ⟨_, _, hD_1, rfl⟩ (by rfl) (by rfl) (by rfl)
    | succ r ih1 =>
      intro i1 hi1 x2_1 a_1 hD_1
      have hl1 : i1 < NC := by omega
      refine fe_s 4 (pc' := 10) (lc' := [(3, .int (nI i1)), (2, .int x2_1), (0, .ref 0), (1, .int n)]) (stk' := [.int 0, .ref 1, .int (nI i1)]) (mem' := fm g tp bt a_1 b) (by intro _ _ _; eq_refl) ?_
      refine fe_ldI (by rfl) (by rfl) (fx_inN (i := 0) (by omega) (by omega)) ?_
      rw [show Int32.toNatClampNeg (0) = 0 from rfl]
      rw [show a_1 1 0 = nI NC from (fm_D_h hD_1 (by decide) rfl).trans eNC]
      refine fe_s 1 (pc' := cond (fx_cb .ge (nI i1) (nI NC)) 89 14) (lc' := [(3, .int (nI i1)), (2, .int x2_1), (0, .ref 0), (1, .int n)]) (stk' := []) (mem' := fm g tp bt a_1 b) (by intro _ _ _; eq_refl) ?_
      rw [show (fx_cb .ge (nI i1) (nI NC)) = false from cb_geF (a := i1) (b := NC) (by omega) (by omega) (by omega)]
      dsimp only [cond]
      refine fe_s 2 (pc' := 16) (lc' := [(3, .int (nI i1)), (2, .int x2_1), (0, .ref 0), (1, .int n)]) (stk' := [.int (nI i1), .ref 0]) (mem' := fm g tp bt a_1 b) (by intro _ _ _; eq_refl) ?_
      obtain ⟨v2, z3, hv2⟩ := fq_isShore (C := i1) (g := g) (tp := tp) (bt := bt) (a := a_1) (b := b) (by omega)
      refine fe_ivV hv2 (by omega) (by rfl) (by rfl) (by rfl) (by rfl) (by rfl) (by rfl) ?_
      rcases z3 with rfl | rfl
      · refine fe_s 1 (pc' := cond (fx_cb .eq 0 0) 25 22) (lc' := [(3, .int (nI i1)), (2, .int x2_1), (0, .ref 0), (1, .int n)]) (stk' := []) (mem' := fm g tp bt a_1 b) (by intro _ _ _; eq_refl) ?_
        rw [show (fx_cb .eq 0 0) = true from by decide]
        dsimp only [cond]
        refine fe_s 3 (pc' := 28) (lc' := [(3, .int (nI i1)), (2, .int x2_1), (0, .ref 0), (1, .int n)]) (stk' := [.int (nI i1), .ref 0, .int x2_1]) (mem' := fm g tp bt a_1 b) (by intro _ _ _; eq_refl) ?_
        obtain ⟨v4, z5, hv4⟩ := fq_isBroken (C := i1) (g := g) (tp := tp) (bt := bt) (a := a_1) (b := b) (by omega)
        refine fe_ivV hv4 (by omega) (by rfl) (by rfl) (by rfl) (by rfl) (by rfl) (by rfl) ?_
        rcases z5 with rfl | rfl
        · refine fe_s 1 (pc' := cond (fx_cb .eq 0 0) 38 34) (lc' := [(3, .int (nI i1)), (2, .int x2_1), (0, .ref 0), (1, .int n)]) (stk' := [.int x2_1]) (mem' := fm g tp bt a_1 b) (by intro _ _ _; eq_refl) ?_
          rw [show (fx_cb .eq 0 0) = true from by decide]
          dsimp only [cond]
          refine fe_s 6 (pc' := 46) (lc' := [(2, .int (x2_1 + 0)), (3, .int (nI i1)), (0, .ref 0), (1, .int n)]) (stk' := [.int (nI i1), .ref 1]) (mem' := fm g tp bt a_1 b) (by intro _ _ _; eq_refl) ?_
          refine fe_ivS fr_cellRow (by omega) (by rfl) (by rfl) (by rfl) (by rfl) (by rfl) ?_
          rw [show (8 + 6 * (nI i1) : Int32) = nI (8 + (6 * i1)) from by simp only [show (8 : Int32) = nI 8 from rfl, show (6 : Int32) = nI 6 from rfl, nI_add, fm_mul]]
          refine fe_s 3 (pc' := 52) (lc' := [(2, .int (x2_1 + 0)), (3, .int (nI i1)), (0, .ref 0), (1, .int n)]) (stk' := [.int 0, .int ((nI (8 + (6 * i1))) + 4), .ref 1]) (mem' := fm g tp bt a_1 b) (by intro _ _ _; eq_refl) ?_
          rw [show ((nI (8 + (6 * i1))) + 4 : Int32) = nI ((8 + (6 * i1)) + 4) from by simp only [show (4 : Int32) = nI 4 from rfl, nI_add, fm_mul]]
          refine fe_stI (mem' := fm g tp bt (fm_u a_1 1 (nI ((8 + (6 * i1)) + 4) : Int32).toNatClampNeg 0) b) (by rfl) (by rfl) (fx_inN (i := (8 + (6 * i1)) + 4) (by omega) (by omega)) fm_si1 ?_
          rw [show Int32.toNatClampNeg (nI ((8 + (6 * i1)) + 4)) = (8 + (6 * i1)) + 4 from nI_clamp (by omega)]
          obtain ⟨at6, hat6⟩ : ∃ z, z = fm_u a_1 1 ((8 + (6 * i1)) + 4) 0 := ⟨_, rfl⟩
          rw [← hat6]
          have hDt6 : fm_D a0 at6 T := by rw [hat6, show (8 + (6 * i1)) + 4 = 12 + 6 * i1 by omega]; exact fm_Dc4 (X := 0) hD_1 (by omega) (by omega)
          refine fe_s 3 (pc' := 58) (lc' := [(2, .int (x2_1 + 0)), (3, .int (nI i1)), (0, .ref 0), (1, .int n)]) (stk' := [.int (nI i1), .ref 1]) (mem' := fm g tp bt at6 b) (by intro _ _ _; eq_refl) ?_
          refine fe_ivS fr_cellRow (by omega) (by rfl) (by rfl) (by rfl) (by rfl) (by rfl) ?_
          rw [show (8 + 6 * (nI i1) : Int32) = nI (8 + (6 * i1)) from by simp only [show (8 : Int32) = nI 8 from rfl, show (6 : Int32) = nI 6 from rfl, nI_add, fm_mul]]
          refine fe_s 6 (pc' := 71) (lc' := [(2, .int (x2_1 + 0)), (3, .int (nI i1)), (0, .ref 0), (1, .int n)]) (stk' := [.int (nI i1), .ref 1, .int 999, .int ((nI (8 + (6 * i1))) + 1), .ref 1]) (mem' := fm g tp bt at6 b) (by intro _ _ _; eq_refl) ?_
          rw [show ((nI (8 + (6 * i1))) + 1 : Int32) = nI ((8 + (6 * i1)) + 1) from by simp only [show (1 : Int32) = nI 1 from rfl, nI_add, fm_mul]]
          refine fe_ivS fr_cellRow (by omega) (by rfl) (by rfl) (by rfl) (by rfl) (by rfl) ?_
          rw [show (8 + 6 * (nI i1) : Int32) = nI (8 + (6 * i1)) from by simp only [show (8 : Int32) = nI 8 from rfl, show (6 : Int32) = nI 6 from rfl, nI_add, fm_mul]]
          refine fe_s 2 (pc' := 76) (lc' := [(2, .int (x2_1 + 0)), (3, .int (nI i1)), (0, .ref 0), (1, .int n)]) (stk' := [.int ((nI (8 + (6 * i1))) + 1), .ref 1, .int 999, .int (nI ((8 + (6 * i1)) + 1)), .ref 1]) (mem' := fm g tp bt at6 b) (by intro _ _ _; eq_refl) ?_
          rw [show ((nI (8 + (6 * i1))) + 1 : Int32) = nI ((8 + (6 * i1)) + 1) from by simp only [show (1 : Int32) = nI 1 from rfl, nI_add, fm_mul]]
          refine fe_ldI (by rfl) (by rfl) (fx_inN (i := (8 + (6 * i1)) + 1) (by omega) (by omega)) ?_
          rw [show Int32.toNatClampNeg (nI ((8 + (6 * i1)) + 1)) = (8 + (6 * i1)) + 1 from nI_clamp (by omega)]
          refine fe_s 2 (pc' := 79) (lc' := [(2, .int (x2_1 + 0)), (3, .int (nI i1)), (0, .ref 0), (1, .int n)]) (stk' := [.int ((at6 1 ((8 + (6 * i1)) + 1)) + n), .int 999, .int (nI ((8 + (6 * i1)) + 1)), .ref 1]) (mem' := fm g tp bt at6 b) (by intro _ _ _; eq_refl) ?_
          refine fe_s 1 (pc' := 82) (lc' := [(2, .int (x2_1 + 0)), (3, .int (nI i1)), (0, .ref 0), (1, .int n)]) (stk' := [.int (if ((at6 1 ((8 + (6 * i1)) + 1)) + n) < 999 then ((at6 1 ((8 + (6 * i1)) + 1)) + n) else 999), .int (nI ((8 + (6 * i1)) + 1)), .ref 1]) (mem' := fm g tp bt at6 b) (by intro _ _ _; eq_refl) ?_
          refine fe_stI (mem' := fm g tp bt (fm_u at6 1 (nI ((8 + (6 * i1)) + 1) : Int32).toNatClampNeg (if ((at6 1 ((8 + (6 * i1)) + 1)) + n) < 999 then ((at6 1 ((8 + (6 * i1)) + 1)) + n) else 999)) b) (by rfl) (by rfl) (fx_inN (i := (8 + (6 * i1)) + 1) (by omega) (by omega)) fm_si1 ?_
          rw [show Int32.toNatClampNeg (nI ((8 + (6 * i1)) + 1)) = (8 + (6 * i1)) + 1 from nI_clamp (by omega)]
          obtain ⟨at7, hat7⟩ : ∃ z, z = fm_u at6 1 ((8 + (6 * i1)) + 1) (if ((at6 1 ((8 + (6 * i1)) + 1)) + n) < 999 then ((at6 1 ((8 + (6 * i1)) + 1)) + n) else 999) := ⟨_, rfl⟩
          rw [← hat7]
          have hDt7 : fm_D a0 at7 T := by rw [hat7, show (8 + (6 * i1)) + 1 = 9 + 6 * i1 by omega]; exact fm_Dc1 hDt6 (by omega)
          refine fe_s 1 (pc' := 86) (lc' := [(3, .int ((nI i1) + 1)), (2, .int (x2_1 + 0)), (0, .ref 0), (1, .int n)]) (stk' := []) (mem' := fm g tp bt at7 b) (by intro _ _ _; eq_refl) ?_
          rw [show ((nI i1) + 1 : Int32) = nI (i1 + 1) from by simp only [show (1 : Int32) = nI 1 from rfl, nI_add, fm_mul]]
          refine fe_s 1 (pc' := fx_to 86 (-82)) (lc' := [(3, .int (nI (i1 + 1))), (2, .int (x2_1 + 0)), (0, .ref 0), (1, .int n)]) (stk' := []) (mem' := fm g tp bt at7 b) (by intro _ _ _; eq_refl) ?_
          rw [show fx_to 86 (-82) = 4 from by decide]
          exact ih1 (i1 + 1) (by omega) _ at7 hDt7
        · refine fe_s 1 (pc' := cond (fx_cb .eq 1 0) 38 34) (lc' := [(3, .int (nI i1)), (2, .int x2_1), (0, .ref 0), (1, .int n)]) (stk' := [.int x2_1]) (mem' := fm g tp bt a_1 b) (by intro _ _ _; eq_refl) ?_
          rw [show (fx_cb .eq 1 0) = false from by decide]
          dsimp only [cond]
          refine fe_s 7 (pc' := 46) (lc' := [(2, .int (x2_1 + 1)), (3, .int (nI i1)), (0, .ref 0), (1, .int n)]) (stk' := [.int (nI i1), .ref 1]) (mem' := fm g tp bt a_1 b) (by intro _ _ _; eq_refl) ?_
          refine fe_ivS fr_cellRow (by omega) (by rfl) (by rfl) (by rfl) (by rfl) (by rfl) ?_
          rw [show (8 + 6 * (nI i1) : Int32) = nI (8 + (6 * i1)) from by simp only [show (8 : Int32) = nI 8 from rfl, show (6 : Int32) = nI 6 from rfl, nI_add, fm_mul]]
          refine fe_s 3 (pc' := 52) (lc' := [(2, .int (x2_1 + 1)), (3, .int (nI i1)), (0, .ref 0), (1, .int n)]) (stk' := [.int 0, .int ((nI (8 + (6 * i1))) + 4), .ref 1]) (mem' := fm g tp bt a_1 b) (by intro _ _ _; eq_refl) ?_
          rw [show ((nI (8 + (6 * i1))) + 4 : Int32) = nI ((8 + (6 * i1)) + 4) from by simp only [show (4 : Int32) = nI 4 from rfl, nI_add, fm_mul]]
          refine fe_stI (mem' := fm g tp bt (fm_u a_1 1 (nI ((8 + (6 * i1)) + 4) : Int32).toNatClampNeg 0) b) (by rfl) (by rfl) (fx_inN (i := (8 + (6 * i1)) + 4) (by omega) (by omega)) fm_si1 ?_
          rw [show Int32.toNatClampNeg (nI ((8 + (6 * i1)) + 4)) = (8 + (6 * i1)) + 4 from nI_clamp (by omega)]
          obtain ⟨at8, hat8⟩ : ∃ z, z = fm_u a_1 1 ((8 + (6 * i1)) + 4) 0 := ⟨_, rfl⟩
          rw [← hat8]
          have hDt8 : fm_D a0 at8 T := by rw [hat8, show (8 + (6 * i1)) + 4 = 12 + 6 * i1 by omega]; exact fm_Dc4 (X := 0) hD_1 (by omega) (by omega)
          refine fe_s 3 (pc' := 58) (lc' := [(2, .int (x2_1 + 1)), (3, .int (nI i1)), (0, .ref 0), (1, .int n)]) (stk' := [.int (nI i1), .ref 1]) (mem' := fm g tp bt at8 b) (by intro _ _ _; eq_refl) ?_
          refine fe_ivS fr_cellRow (by omega) (by rfl) (by rfl) (by rfl) (by rfl) (by rfl) ?_
          rw [show (8 + 6 * (nI i1) : Int32) = nI (8 + (6 * i1)) from by simp only [show (8 : Int32) = nI 8 from rfl, show (6 : Int32) = nI 6 from rfl, nI_add, fm_mul]]
          refine fe_s 6 (pc' := 71) (lc' := [(2, .int (x2_1 + 1)), (3, .int (nI i1)), (0, .ref 0), (1, .int n)]) (stk' := [.int (nI i1), .ref 1, .int 999, .int ((nI (8 + (6 * i1))) + 1), .ref 1]) (mem' := fm g tp bt at8 b) (by intro _ _ _; eq_refl) ?_
          rw [show ((nI (8 + (6 * i1))) + 1 : Int32) = nI ((8 + (6 * i1)) + 1) from by simp only [show (1 : Int32) = nI 1 from rfl, nI_add, fm_mul]]
          refine fe_ivS fr_cellRow (by omega) (by rfl) (by rfl) (by rfl) (by rfl) (by rfl) ?_
          rw [show (8 + 6 * (nI i1) : Int32) = nI (8 + (6 * i1)) from by simp only [show (8 : Int32) = nI 8 from rfl, show (6 : Int32) = nI 6 from rfl, nI_add, fm_mul]]
          refine fe_s 2 (pc' := 76) (lc' := [(2, .int (x2_1 + 1)), (3, .int (nI i1)), (0, .ref 0), (1, .int n)]) (stk' := [.int ((nI (8 + (6 * i1))) + 1), .ref 1, .int 999, .int (nI ((8 + (6 * i1)) + 1)), .ref 1]) (mem' := fm g tp bt at8 b) (by intro _ _ _; eq_refl) ?_
          rw [show ((nI (8 + (6 * i1))) + 1 : Int32) = nI ((8 + (6 * i1)) + 1) from by simp only [show (1 : Int32) = nI 1 from rfl, nI_add, fm_mul]]
          refine fe_ldI (by rfl) (by rfl) (fx_inN (i := (8 + (6 * i1)) + 1) (by omega) (by omega)) ?_
          rw [show Int32.toNatClampNeg (nI ((8 + (6 * i1)) + 1)) = (8 + (6 * i1)) + 1 from nI_clamp (by omega)]
          refine fe_s 2 (pc' := 79) (lc' := [(2, .int (x2_1 + 1)), (3, .int (nI i1)), (0, .ref 0), (1, .int n)]) (stk' := [.int ((at8 1 ((8 + (6 * i1)) + 1)) + n), .int 999, .int (nI ((8 + (6 * i1)) + 1)), .ref 1]) (mem' := fm g tp bt at8 b) (by intro _ _ _; eq_refl) ?_
          refine fe_s 1 (pc' := 82) (lc' := [(2, .int (x2_1 + 1)), (3, .int (nI i1)), (0, .ref 0), (1, .int n)]) (stk' := [.int (if ((at8 1 ((8 + (6 * i1)) + 1)) + n) < 999 then ((at8 1 ((8 + (6 * i1)) + 1)) + n) else 999), .int (nI ((8 + (6 * i1)) + 1)), .ref 1]) (mem' := fm g tp bt at8 b) (by intro _ _ _; eq_refl) ?_
          refine fe_stI (mem' := fm g tp bt (fm_u at8 1 (nI ((8 + (6 * i1)) + 1) : Int32).toNatClampNeg (if ((at8 1 ((8 + (6 * i1)) + 1)) + n) < 999 then ((at8 1 ((8 + (6 * i1)) + 1)) + n) else 999)) b) (by rfl) (by rfl) (fx_inN (i := (8 + (6 * i1)) + 1) (by omega) (by omega)) fm_si1 ?_
          rw [show Int32.toNatClampNeg (nI ((8 + (6 * i1)) + 1)) = (8 + (6 * i1)) + 1 from nI_clamp (by omega)]
          obtain ⟨at9, hat9⟩ : ∃ z, z = fm_u at8 1 ((8 + (6 * i1)) + 1) (if ((at8 1 ((8 + (6 * i1)) + 1)) + n) < 999 then ((at8 1 ((8 + (6 * i1)) + 1)) + n) else 999) := ⟨_, rfl⟩
          rw [← hat9]
          have hDt9 : fm_D a0 at9 T := by rw [hat9, show (8 + (6 * i1)) + 1 = 9 + 6 * i1 by omega]; exact fm_Dc1 hDt8 (by omega)
          refine fe_s 1 (pc' := 86) (lc' := [(3, .int ((nI i1) + 1)), (2, .int (x2_1 + 1)), (0, .ref 0), (1, .int n)]) (stk' := []) (mem' := fm g tp bt at9 b) (by intro _ _ _; eq_refl) ?_
          rw [show ((nI i1) + 1 : Int32) = nI (i1 + 1) from by simp only [show (1 : Int32) = nI 1 from rfl, nI_add, fm_mul]]
          refine fe_s 1 (pc' := fx_to 86 (-82)) (lc' := [(3, .int (nI (i1 + 1))), (2, .int (x2_1 + 1)), (0, .ref 0), (1, .int n)]) (stk' := []) (mem' := fm g tp bt at9 b) (by intro _ _ _; eq_refl) ?_
          rw [show fx_to 86 (-82) = 4 from by decide]
          exact ih1 (i1 + 1) (by omega) _ at9 hDt9
      · refine fe_s 1 (pc' := cond (fx_cb .eq 1 0) 25 22) (lc' := [(3, .int (nI i1)), (2, .int x2_1), (0, .ref 0), (1, .int n)]) (stk' := []) (mem' := fm g tp bt a_1 b) (by intro _ _ _; eq_refl) ?_
        rw [show (fx_cb .eq 1 0) = false from by decide]
        dsimp only [cond]
        refine fe_s 2 (pc' := 86) (lc' := [(3, .int ((nI i1) + 1)), (2, .int x2_1), (0, .ref 0), (1, .int n)]) (stk' := []) (mem' := fm g tp bt a_1 b) (by intro _ _ _; eq_refl) ?_
        rw [show ((nI i1) + 1 : Int32) = nI (i1 + 1) from by simp only [show (1 : Int32) = nI 1 from rfl, nI_add, fm_mul]]
        refine fe_s 1 (pc' := fx_to 86 (-82)) (lc' := [(3, .int (nI (i1 + 1))), (2, .int x2_1), (0, .ref 0), (1, .int n)]) (stk' := []) (mem' := fm g tp bt a_1 b) (by intro _ _ _; eq_refl) ?_
        rw [show fx_to 86 (-82) = 4 from by decide]
        exact ih1 (i1 + 1) (by omega) _ a_1 hD_1
  exact loop1 (NC) 0 (by omega) _ a hD
theorem fr_thaws {T : Nat} {n : Int32} (hB : fm_B a0) (hD : fm_D a0 a T) : ∃ (v : Option Value) (mem' : fx_M), (fun R => ∃ (v : Int32) (a' : Nat → Nat → Int32), fm_D a0 a' T ∧ R = (some (.int v), fm g tp bt a' b)) (v, mem') ∧ fr_T 7 295 [.ref 0, .int n] (fm g tp bt a b) v mem' := by
  obtain ⟨NC, hNC, eNC⟩ := fm_B_0 hB (i := 0) (n := 10) (by decide) rfl
  obtain ⟨NW, hNW, eNW⟩ := fm_B_0 hB (i := 1) (n := 8) (by decide) rfl
  have hT9 := hD.2.2.2.2.1
  refine fe_meth (F := fun R => ∃ (v : Int32) (a' : Nat → Nat → Int32), fm_D a0 a' T ∧ R = (some (.int v), fm g tp bt a' b)) (M := gk_m295) (by rfl) (by rfl) ?_
  refine fe_s 4 (pc' := 4) (lc' := [(3, .int 0), (2, .int 0), (0, .ref 0), (1, .int n)]) (stk' := []) (mem' := fm g tp bt a b) (by intro _ _ _; eq_refl) ?_
  have loop1 : ∀ (r i1 : Nat), i1 + r = NC → ∀ (x2_1 : Int32), ∀ a_1 : Nat → Nat → Int32, fm_D a0 a_1 T → fe_R 6 gk_m295 4 [(3, .int (nI i1)), (2, .int x2_1), (0, .ref 0), (1, .int n)] [] (fm g tp bt a_1 b) (fun R => ∃ (v : Int32) (a' : Nat → Nat → Int32), fm_D a0 a' T ∧ R = (some (.int v), fm g tp bt a' b)) := by
    intro r
    induction r with
    | zero =>
      intro i1 hi1 x2_1 a_1 hD_1
      obtain rfl : NC = i1 := by omega
      refine fe_s 4 (pc' := 10) (lc' := [(3, .int (nI NC)), (2, .int x2_1), (0, .ref 0), (1, .int n)]) (stk' := [.int 0, .ref 1, .int (nI NC)]) (mem' := fm g tp bt a_1 b) (by intro _ _ _; eq_refl) ?_
      refine fe_ldI (by rfl) (by rfl) (fx_inN (i := 0) (by omega) (by omega)) ?_
      rw [show Int32.toNatClampNeg (0) = 0 from rfl]
      rw [show a_1 1 0 = nI NC from (fm_D_h hD_1 (by decide) rfl).trans eNC]
      refine fe_s 1 (pc' := cond (fx_cb .ge (nI NC) (nI NC)) 75 14) (lc' := [(3, .int (nI NC)), (2, .int x2_1), (0, .ref 0), (1, .int n)]) (stk' := []) (mem' := fm g tp bt a_1 b) (by intro _ _ _; eq_refl) ?_
      rw [show (fx_cb .ge (nI NC) (nI NC)) = true from cb_geT (a := NC) (b := NC) (by omega) (by omega) (by omega)]
      dsimp only [cond]
      refine fe_s 1 (pc' := 76) (lc' := [(3, .int (nI NC)), (2, .int x2_1), (0, .ref 0), (1, .int n)]) (stk' := [.int x2_1]) (mem' := fm g tp bt a_1 b) (by intro _ _ _; eq_refl) ?_
      exact fe_ret ⟨_, _, hD_1, rfl⟩ (by rfl) (by rfl) (by rfl)
    | succ r ih1 =>
      intro i1 hi1 x2_1 a_1 hD_1
      have hl1 : i1 < NC := by omega
      refine fe_s 4 (pc' := 10) (lc' := [(3, .int (nI i1)), (2, .int x2_1), (0, .ref 0), (1, .int n)]) (stk' := [.int 0, .ref 1, .int (nI i1)]) (mem' := fm g tp bt a_1 b) (by intro _ _ _; eq_refl) ?_
      refine fe_ldI (by rfl) (by rfl) (fx_inN (i := 0) (by omega) (by omega)) ?_
      rw [show Int32.toNatClampNeg (0) = 0 from rfl]
      rw [show a_1 1 0 = nI NC from (fm_D_h hD_1 (by decide) rfl).trans eNC]
      refine fe_s 1 (pc' := cond (fx_cb .ge (nI i1) (nI NC)) 75 14) (lc' := [(3, .int (nI i1)), (2, .int x2_1), (0, .ref 0), (1, .int n)]) (stk' := []) (mem' := fm g tp bt a_1 b) (by intro _ _ _; eq_refl) ?_
      rw [show (fx_cb .ge (nI i1) (nI NC)) = false from cb_geF (a := i1) (b := NC) (by omega) (by omega) (by omega)]
      dsimp only [cond]
      refine fe_s 2 (pc' := 16) (lc' := [(3, .int (nI i1)), (2, .int x2_1), (0, .ref 0), (1, .int n)]) (stk' := [.int (nI i1), .ref 0]) (mem' := fm g tp bt a_1 b) (by intro _ _ _; eq_refl) ?_
      obtain ⟨v2, z3, hv2⟩ := fq_isShore (C := i1) (g := g) (tp := tp) (bt := bt) (a := a_1) (b := b) (by omega)
      refine fe_ivV hv2 (by omega) (by rfl) (by rfl) (by rfl) (by rfl) (by rfl) (by rfl) ?_
      rcases z3 with rfl | rfl
      · refine fe_s 1 (pc' := cond (fx_cb .eq 0 0) 25 22) (lc' := [(3, .int (nI i1)), (2, .int x2_1), (0, .ref 0), (1, .int n)]) (stk' := []) (mem' := fm g tp bt a_1 b) (by intro _ _ _; eq_refl) ?_
        rw [show (fx_cb .eq 0 0) = true from by decide]
        dsimp only [cond]
        refine fe_s 3 (pc' := 30) (lc' := [(3, .int (nI i1)), (2, .int x2_1), (0, .ref 0), (1, .int n)]) (stk' := [.int (nI i1), .ref 1]) (mem' := fm g tp bt a_1 b) (by intro _ _ _; eq_refl) ?_
        refine fe_ivS fr_cellRow (by omega) (by rfl) (by rfl) (by rfl) (by rfl) (by rfl) ?_
        rw [show (8 + 6 * (nI i1) : Int32) = nI (8 + (6 * i1)) from by simp only [show (8 : Int32) = nI 8 from rfl, show (6 : Int32) = nI 6 from rfl, nI_add, fm_mul]]
        refine fe_s 6 (pc' := 41) (lc' := [(3, .int (nI i1)), (2, .int x2_1), (0, .ref 0), (1, .int n)]) (stk' := [.int (nI i1), .ref 1, .int 0, .int ((nI (8 + (6 * i1))) + 1), .ref 1]) (mem' := fm g tp bt a_1 b) (by intro _ _ _; eq_refl) ?_
        rw [show ((nI (8 + (6 * i1))) + 1 : Int32) = nI ((8 + (6 * i1)) + 1) from by simp only [show (1 : Int32) = nI 1 from rfl, nI_add, fm_mul]]
        refine fe_ivS fr_cellRow (by omega) (by rfl) (by rfl) (by rfl) (by rfl) (by rfl) ?_
        rw [show (8 + 6 * (nI i1) : Int32) = nI (8 + (6 * i1)) from by simp only [show (8 : Int32) = nI 8 from rfl, show (6 : Int32) = nI 6 from rfl, nI_add, fm_mul]]
        refine fe_s 2 (pc' := 46) (lc' := [(3, .int (nI i1)), (2, .int x2_1), (0, .ref 0), (1, .int n)]) (stk' := [.int ((nI (8 + (6 * i1))) + 1), .ref 1, .int 0, .int (nI ((8 + (6 * i1)) + 1)), .ref 1]) (mem' := fm g tp bt a_1 b) (by intro _ _ _; eq_refl) ?_
        rw [show ((nI (8 + (6 * i1))) + 1 : Int32) = nI ((8 + (6 * i1)) + 1) from by simp only [show (1 : Int32) = nI 1 from rfl, nI_add, fm_mul]]
        refine fe_ldI (by rfl) (by rfl) (fx_inN (i := (8 + (6 * i1)) + 1) (by omega) (by omega)) ?_
        rw [show Int32.toNatClampNeg (nI ((8 + (6 * i1)) + 1)) = (8 + (6 * i1)) + 1 from nI_clamp (by omega)]
        refine fe_s 2 (pc' := 49) (lc' := [(3, .int (nI i1)), (2, .int x2_1), (0, .ref 0), (1, .int n)]) (stk' := [.int ((a_1 1 ((8 + (6 * i1)) + 1)) - n), .int 0, .int (nI ((8 + (6 * i1)) + 1)), .ref 1]) (mem' := fm g tp bt a_1 b) (by intro _ _ _; eq_refl) ?_
        refine fe_s 1 (pc' := 52) (lc' := [(3, .int (nI i1)), (2, .int x2_1), (0, .ref 0), (1, .int n)]) (stk' := [.int (if 0 < ((a_1 1 ((8 + (6 * i1)) + 1)) - n) then ((a_1 1 ((8 + (6 * i1)) + 1)) - n) else 0), .int (nI ((8 + (6 * i1)) + 1)), .ref 1]) (mem' := fm g tp bt a_1 b) (by intro _ _ _; eq_refl) ?_
        refine fe_stI (mem' := fm g tp bt (fm_u a_1 1 (nI ((8 + (6 * i1)) + 1) : Int32).toNatClampNeg (if 0 < ((a_1 1 ((8 + (6 * i1)) + 1)) - n) then ((a_1 1 ((8 + (6 * i1)) + 1)) - n) else 0)) b) (by rfl) (by rfl) (fx_inN (i := (8 + (6 * i1)) + 1) (by omega) (by omega)) fm_si1 ?_
        rw [show Int32.toNatClampNeg (nI ((8 + (6 * i1)) + 1)) = (8 + (6 * i1)) + 1 from nI_clamp (by omega)]
        obtain ⟨at4, hat4⟩ : ∃ z, z = fm_u a_1 1 ((8 + (6 * i1)) + 1) (if 0 < ((a_1 1 ((8 + (6 * i1)) + 1)) - n) then ((a_1 1 ((8 + (6 * i1)) + 1)) - n) else 0) := ⟨_, rfl⟩
        rw [← hat4]
        have hDt4 : fm_D a0 at4 T := by rw [hat4, show (8 + (6 * i1)) + 1 = 9 + 6 * i1 by omega]; exact fm_Dc1 hD_1 (by omega)
        refine fe_s 3 (pc' := 56) (lc' := [(3, .int (nI i1)), (2, .int x2_1), (0, .ref 0), (1, .int n)]) (stk' := [.int (nI i1), .ref 0, .int x2_1]) (mem' := fm g tp bt at4 b) (by intro _ _ _; eq_refl) ?_
        obtain ⟨v5, hv5⟩ := fq_strengthOf (C := i1) (g := g) (tp := tp) (bt := bt) (a := at4) (b := b) (fm_D_t hB hDt4) (by omega)
        refine fe_ivV hv5 (by omega) (by rfl) (by rfl) (by rfl) (by rfl) (by rfl) (by rfl) ?_
        refine fe_s 1 (pc' := cond (fx_cb .ne v5 0) 66 62) (lc' := [(3, .int (nI i1)), (2, .int x2_1), (0, .ref 0), (1, .int n)]) (stk' := [.int x2_1]) (mem' := fm g tp bt at4 b) (by intro _ _ _; eq_refl) ?_
        cases h6 : fx_cb .ne v5 0
        · refine fe_s 5 (pc' := 72) (lc' := [(3, .int ((nI i1) + 1)), (2, .int (x2_1 + 1)), (0, .ref 0), (1, .int n)]) (stk' := []) (mem' := fm g tp bt at4 b) (by intro _ _ _; eq_refl) ?_
          rw [show ((nI i1) + 1 : Int32) = nI (i1 + 1) from by simp only [show (1 : Int32) = nI 1 from rfl, nI_add, fm_mul]]
          refine fe_s 1 (pc' := fx_to 72 (-68)) (lc' := [(3, .int (nI (i1 + 1))), (2, .int (x2_1 + 1)), (0, .ref 0), (1, .int n)]) (stk' := []) (mem' := fm g tp bt at4 b) (by intro _ _ _; eq_refl) ?_
          rw [show fx_to 72 (-68) = 4 from by decide]
          exact ih1 (i1 + 1) (by omega) _ at4 hDt4
        · refine fe_s 4 (pc' := 72) (lc' := [(3, .int ((nI i1) + 1)), (2, .int (x2_1 + 0)), (0, .ref 0), (1, .int n)]) (stk' := []) (mem' := fm g tp bt at4 b) (by intro _ _ _; eq_refl) ?_
          rw [show ((nI i1) + 1 : Int32) = nI (i1 + 1) from by simp only [show (1 : Int32) = nI 1 from rfl, nI_add, fm_mul]]
          refine fe_s 1 (pc' := fx_to 72 (-68)) (lc' := [(3, .int (nI (i1 + 1))), (2, .int (x2_1 + 0)), (0, .ref 0), (1, .int n)]) (stk' := []) (mem' := fm g tp bt at4 b) (by intro _ _ _; eq_refl) ?_
          rw [show fx_to 72 (-68) = 4 from by decide]
          exact ih1 (i1 + 1) (by omega) _ at4 hDt4
      · refine fe_s 1 (pc' := cond (fx_cb .eq 1 0) 25 22) (lc' := [(3, .int (nI i1)), (2, .int x2_1), (0, .ref 0), (1, .int n)]) (stk' := []) (mem' := fm g tp bt a_1 b) (by intro _ _ _; eq_refl) ?_
        rw [show (fx_cb .eq 1 0) = false from by decide]
        dsimp only [cond]
        refine fe_s 2 (pc' := 72) (lc' := [(3, .int ((nI i1) + 1)), (2, .int x2_1), (0, .ref 0), (1, .int n)]) (stk' := []) (mem' := fm g tp bt a_1 b) (by intro _ _ _; eq_refl) ?_
        rw [show ((nI i1) + 1 : Int32) = nI (i1 + 1) from by simp only [show (1 : Int32) = nI 1 from rfl, nI_add, fm_mul]]
        refine fe_s 1 (pc' := fx_to 72 (-68)) (lc' := [(3, .int (nI (i1 + 1))), (2, .int x2_1), (0, .ref 0), (1, .int n)]) (stk' := []) (mem' := fm g tp bt a_1 b) (by intro _ _ _; eq_refl) ?_
        rw [show fx_to 72 (-68) = 4 from by decide]
        exact ih1 (i1 + 1) (by omega) _ a_1 hD_1
  exact loop1 (NC) 0 (by omega) _ a hD
end FGP
end MH6_0
section MH6_1
/-! ===== fx: routes in trays ===== -/
section FTRY
variable {g : Nat → Int32} {tp bt : Int64} {a0 a : Nat → Nat → Int32} {b : Nat → Nat → Int64}
theorem lgc_ltF {x y : Int64} (h : fx_cb .lt (lg_cmp x y) 0 = false) : y.toInt ≤ x.toInt := by
  rcases rk_lgc x y with ⟨z, w⟩ | ⟨z, w⟩ | ⟨z, w⟩
  · omega
  · omega
  · rw [z] at h; exact absurd h (by decide)
theorem lgc_ltT {x y : Int64} (h : fx_cb .lt (lg_cmp x y) 0 = true) : x.toInt < y.toInt := by
  rcases rk_lgc x y with ⟨z, w⟩ | ⟨z, w⟩ | ⟨z, w⟩
  · rw [z] at h; exact absurd h (by decide)
  · rw [z] at h; exact absurd h (by decide)
  · omega
theorem lgc_gtF {x y : Int64} (h : fx_cb .gt (lg_cmp x y) 0 = false) : x.toInt ≤ y.toInt := by
  rcases rk_lgc x y with ⟨z, w⟩ | ⟨z, w⟩ | ⟨z, w⟩
  · rw [z] at h; exact absurd h (by decide)
  · omega
  · omega
theorem lgc_gtT {x y : Int64} (h : fx_cb .gt (lg_cmp x y) 0 = true) : y.toInt < x.toInt := by
  rcases rk_lgc x y with ⟨z, w⟩ | ⟨z, w⟩ | ⟨z, w⟩
  · omega
  · rw [z] at h; exact absurd h (by decide)
  · rw [z] at h; exact absurd h (by decide)
theorem lgc_geF {x y : Int64} (h : fx_cb .ge (lg_cmp x y) 0 = false) : x.toInt < y.toInt := by
  rcases rk_lgc x y with ⟨z, w⟩ | ⟨z, w⟩ | ⟨z, w⟩
  · rw [z] at h; exact absurd h (by decide)
  · rw [z] at h; exact absurd h (by decide)
  · omega
theorem fm_l2i {C : Nat} (h : C < 10) : (Int64.ofNat C).toInt32 = nI C := by
  have e : ∀ C, C < 10 → (Int64.ofNat C).toInt32 = nI C := by decide
  exact e C h
theorem fm_lN {x : Int64} {n : Nat} (h0 : 0 ≤ x.toInt) (h1 : x.toInt < (n : Int)) : ∃ C, C < n ∧ x = Int64.ofNat C := by
  refine ⟨x.toInt.toNat, by omega, ?_⟩
  have h2 := x.toInt_lt
  apply Int64.toInt_inj.mp
  rw [Int64.toInt_ofNat_of_lt (by omega)]
  omega
theorem fr_isFrom {v l m : Int64} {mem : fx_M} : ∃ (r : Option Value) (mem' : fx_M), (fun R => ∃ z : Int32, (z = 0 ∧ ¬ (l.toInt ≤ v.toInt ∧ v.toInt ≤ m.toInt) ∨ z = 1 ∧ l.toInt ≤ v.toInt ∧ v.toInt ≤ m.toInt) ∧ R = (some (.int z), mem)) (r, mem') ∧ fr_T 1 218 [.long v, .long l, .long m] mem r mem' := by
  refine fe_meth (F := fun R => ∃ z : Int32, (z = 0 ∧ ¬ (l.toInt ≤ v.toInt ∧ v.toInt ≤ m.toInt) ∨ z = 1 ∧ l.toInt ≤ v.toInt ∧ v.toInt ≤ m.toInt) ∧ R = (some (.int z), mem)) (M := gk_m218) (by rfl) (by rfl) ?_
  refine fe_s 3 (pc' := 3) (lc' := [(0, .long v), (2, .long l), (4, .long m)]) (stk' := [.int (lg_cmp v l)]) (mem' := mem) (by intro _ _ _; eq_refl) ?_
  refine fe_s 1 (pc' := cond (fx_cb .lt (lg_cmp v l) 0) 17 6) (lc' := [(0, .long v), (2, .long l), (4, .long m)]) (stk' := []) (mem' := mem) (by intro _ _ _; eq_refl) ?_
  cases h1 : fx_cb .lt (lg_cmp v l) 0
  · refine fe_s 3 (pc' := 10) (lc' := [(0, .long v), (2, .long l), (4, .long m)]) (stk' := [.int (lg_cmp v m)]) (mem' := mem) (by intro _ _ _; eq_refl) ?_
    refine fe_s 1 (pc' := cond (fx_cb .gt (lg_cmp v m) 0) 17 13) (lc' := [(0, .long v), (2, .long l), (4, .long m)]) (stk' := []) (mem' := mem) (by intro _ _ _; eq_refl) ?_
    cases h2 : fx_cb .gt (lg_cmp v m) 0
    · refine fe_s 2 (pc' := 18) (lc' := [(0, .long v), (2, .long l), (4, .long m)]) (stk' := [.int 1]) (mem' := mem) (by intro _ _ _; eq_refl) ?_
      exact fe_ret ⟨1, Or.inr ⟨rfl, lgc_ltF h1, lgc_gtF h2⟩, rfl⟩ (by rfl) (by rfl) (by rfl)
    · refine fe_s 1 (pc' := 18) (lc' := [(0, .long v), (2, .long l), (4, .long m)]) (stk' := [.int 0]) (mem' := mem) (by intro _ _ _; eq_refl) ?_
      exact fe_ret ⟨0, Or.inl ⟨rfl, fun z => by have := lgc_gtT h2; omega⟩, rfl⟩ (by rfl) (by rfl) (by rfl)
  · refine fe_s 1 (pc' := 18) (lc' := [(0, .long v), (2, .long l), (4, .long m)]) (stk' := [.int 0]) (mem' := mem) (by intro _ _ _; eq_refl) ?_
    exact fe_ret ⟨0, Or.inl ⟨rfl, fun z => by have := lgc_ltT h1; omega⟩, rfl⟩ (by rfl) (by rfl) (by rfl)
theorem fr_isCellX {c : Int64} {NC : Nat} (eN : a 1 0 = nI NC) (hN : NC ≤ 10) : ∃ (r : Option Value) (mem' : fx_M), (fun R => ∃ z : Int32, (z = 0 ∨ z = 1 ∧ ∃ C, C < NC ∧ c = Int64.ofNat C) ∧ R = (some (.int z), fm g tp bt a b)) (r, mem') ∧ fr_T 1 255 [.ref 0, .long c] (fm g tp bt a b) r mem' := by
  refine fe_meth (F := fun R => ∃ z : Int32, (z = 0 ∨ z = 1 ∧ ∃ C, C < NC ∧ c = Int64.ofNat C) ∧ R = (some (.int z), fm g tp bt a b)) (M := gk_m255) (by rfl) (by rfl) ?_
  refine fe_s 3 (pc' := 3) (lc' := [(0, .ref 0), (1, .long c)]) (stk' := [.int (lg_cmp c (0 : Int64))]) (mem' := fm g tp bt a b) (by intro _ _ _; eq_refl) ?_
  refine fe_s 1 (pc' := cond (fx_cb .lt (lg_cmp c (0 : Int64)) 0) 22 6) (lc' := [(0, .ref 0), (1, .long c)]) (stk' := []) (mem' := fm g tp bt a b) (by intro _ _ _; eq_refl) ?_
  cases h1 : fx_cb .lt (lg_cmp c (0 : Int64)) 0
  · refine fe_s 4 (pc' := 12) (lc' := [(0, .ref 0), (1, .long c)]) (stk' := [.int 0, .ref 1, .long c]) (mem' := fm g tp bt a b) (by intro _ _ _; eq_refl) ?_
    refine fe_ldI (by rfl) (by rfl) (fx_inN (i := 0) (by omega) (by omega)) ?_
    rw [show Int32.toNatClampNeg (0) = 0 from rfl]
    rw [eN]
    refine fe_s 2 (pc' := 15) (lc' := [(0, .ref 0), (1, .long c)]) (stk' := [.int (lg_cmp c ((nI NC).toInt64))]) (mem' := fm g tp bt a b) (by intro _ _ _; eq_refl) ?_
    refine fe_s 1 (pc' := cond (fx_cb .ge (lg_cmp c ((nI NC).toInt64)) 0) 22 18) (lc' := [(0, .ref 0), (1, .long c)]) (stk' := []) (mem' := fm g tp bt a b) (by intro _ _ _; eq_refl) ?_
    cases h2 : fx_cb .ge (lg_cmp c ((nI NC).toInt64)) 0
    · refine fe_s 2 (pc' := 23) (lc' := [(0, .ref 0), (1, .long c)]) (stk' := [.int 1]) (mem' := fm g tp bt a b) (by intro _ _ _; eq_refl) ?_
      exact fe_ret ⟨1, Or.inr ⟨rfl, fm_lN (by have := lgc_ltF h1; simpa using this) (by have := lgc_geF h2; rw [Int32.toInt_toInt64, nI_i32 (by omega)] at this; exact this)⟩, rfl⟩ (by rfl) (by rfl) (by rfl)
    · refine fe_s 1 (pc' := 23) (lc' := [(0, .ref 0), (1, .long c)]) (stk' := [.int 0]) (mem' := fm g tp bt a b) (by intro _ _ _; eq_refl) ?_
      exact fe_ret ⟨0, Or.inl rfl, rfl⟩ (by rfl) (by rfl) (by rfl)
  · refine fe_s 1 (pc' := 23) (lc' := [(0, .ref 0), (1, .long c)]) (stk' := [.int 0]) (mem' := fm g tp bt a b) (by intro _ _ _; eq_refl) ?_
    exact fe_ret ⟨0, Or.inl rfl, rfl⟩ (by rfl) (by rfl) (by rfl)
theorem fr_isWayM {B : Int32} : fr_T 3 262 [.ref 0, .int (-1), .int B] (fm g tp bt a b) (some (.int (fm_b (a 1 4) B))) (fm g tp bt a b) := by
  refine fr_meth (by rfl) (by rfl) ?_
  refine fr_s 4 (pc' := 6) (lc' := [(0, .ref 0), (1, .int (-1)), (2, .int B)]) (stk' := [.int (-1), .ref 1, .ref 0]) (mem' := fm g tp bt a b) (by intro _ _ _; eq_refl) ?_
  refine fr_ivS fr_cellRow (by omega) (by rfl) (by rfl) (by rfl) (by rfl) (by rfl) ?_
  refine fr_s 2 (pc' := 11) (lc' := [(0, .ref 0), (1, .int (-1)), (2, .int B)]) (stk' := [.int 4, .ref 1, .ref 0]) (mem' := fm g tp bt a b) (by intro _ _ _; eq_refl) ?_
  refine fr_ldI (by rfl) (by rfl) (fx_inN (i := 4) (by omega) (by omega)) ?_
  rw [show Int32.toNatClampNeg 4 = 4 from rfl]
  refine fr_s 1 (pc' := 13) (lc' := [(0, .ref 0), (1, .int (-1)), (2, .int B)]) (stk' := [.int B, .int (a 1 4), .ref 0]) (mem' := fm g tp bt a b) (by intro _ _ _; eq_refl) ?_
  refine fr_ivV fr_isIn (by omega) (by rfl) (by rfl) (by rfl) (by rfl) (by rfl) (by rfl) ?_
  exact fr_retz (fm_b_01 _ _) (by rfl) (by rfl)
theorem fr_isRoute {T : Nat} {X t n : Nat} (hB : fm_B a0) (hD : fm_D a0 a T) (hX : X < 10) (ht : t < 4) (hn : n ≤ 20) (hc : ∀ k, k < n → ∃ C, C < 10 ∧ b 5 (60 * t + k) = Int64.ofNat C) : ∃ (v : Option Value) (mem' : fx_M), (fun R => ∃ v : Int32, (v = 0 ∨ v = 1) ∧ ∃ a' : Nat → Nat → Int32, fm_D a0 a' T ∧ R = (some (.int v), fm g tp bt a' b)) (v, mem') ∧ fr_T 5 286 [.ref 0, .int (nI X), .int (nI t), .int (nI n)] (fm g tp bt a b) v mem' := by
  obtain ⟨NC, hNC, eNC⟩ := fm_B_0 hB (i := 0) (n := 10) (by decide) rfl
  obtain ⟨NW, hNW, eNW⟩ := fm_B_0 hB (i := 1) (n := 8) (by decide) rfl
  have hT9 := hD.2.2.2.2.1
  refine fe_meth (F := fun R => ∃ v : Int32, (v = 0 ∨ v = 1) ∧ ∃ a' : Nat → Nat → Int32, fm_D a0 a' T ∧ R = (some (.int v), fm g tp bt a' b)) (M := gk_m286) (by rfl) (by rfl) ?_
  refine fe_s 4 (pc' := 6) (lc' := [(5, .int 0), (4, .int (nI X)), (0, .ref 0), (1, .int (nI X)), (2, .int (nI t)), (3, .int (nI n))]) (stk' := []) (mem' := fm g tp bt a b) (by intro _ _ _; eq_refl) ?_
  have loop1 : ∀ (r i1 : Nat), i1 + r = n → ∀ y4_1 : Nat, y4_1 < 10 → ∀ a_1 : Nat → Nat → Int32, fm_D a0 a_1 T → fe_R 4 gk_m286 6 [(5, .int (nI i1)), (4, .int (nI y4_1)), (0, .ref 0), (1, .int (nI X)), (2, .int (nI t)), (3, .int (nI n))] [] (fm g tp bt a_1 b) (fun R => ∃ v : Int32, (v = 0 ∨ v = 1) ∧ ∃ a' : Nat → Nat → Int32, fm_D a0 a' T ∧ R = (some (.int v), fm g tp bt a' b)) := by
    intro r
    induction r with
    | zero =>
      intro i1 hi1 y4_1 hy4_1 a_1 hD_1
      obtain rfl : n = i1 := by omega
      refine fe_s 2 (pc' := 9) (lc' := [(5, .int (nI n)), (4, .int (nI y4_1)), (0, .ref 0), (1, .int (nI X)), (2, .int (nI t)), (3, .int (nI n))]) (stk' := [.int (nI n), .int (nI n)]) (mem' := fm g tp bt a_1 b) (by intro _ _ _; eq_refl) ?_
      refine fe_s 1 (pc' := cond (fx_cb .ge (nI n) (nI n)) 50 12) (lc' := [(5, .int (nI n)), (4, .int (nI y4_1)), (0, .ref 0), (1, .int (nI X)), (2, .int (nI t)), (3, .int (nI n))]) (stk' := []) (mem' := fm g tp bt a_1 b) (by intro _ _ _; eq_refl) ?_
      rw [show (fx_cb .ge (nI n) (nI n)) = true from cb_geT (a := n) (b := n) (by omega) (by omega) (by omega)]
      dsimp only [cond]
      refine fe_s 1 (pc' := 51) (lc' := [(5, .int (nI n)), (4, .int (nI y4_1)), (0, .ref 0), (1, .int (nI X)), (2, .int (nI t)), (3, .int (nI n))]) (stk' := [.int 1]) (mem' := fm g tp bt a_1 b) (by intro _ _ _; eq_refl) ?_
      exact fe_ret ⟨_, Or.inr rfl, _, hD_1, rfl⟩ (by rfl) (by rfl) (by rfl)
    | succ r ih1 =>
      intro i1 hi1 y4_1 hy4_1 a_1 hD_1
      have hl1 : i1 < n := by omega
      refine fe_s 2 (pc' := 9) (lc' := [(5, .int (nI i1)), (4, .int (nI y4_1)), (0, .ref 0), (1, .int (nI X)), (2, .int (nI t)), (3, .int (nI n))]) (stk' := [.int (nI n), .int (nI i1)]) (mem' := fm g tp bt a_1 b) (by intro _ _ _; eq_refl) ?_
      refine fe_s 1 (pc' := cond (fx_cb .ge (nI i1) (nI n)) 50 12) (lc' := [(5, .int (nI i1)), (4, .int (nI y4_1)), (0, .ref 0), (1, .int (nI X)), (2, .int (nI t)), (3, .int (nI n))]) (stk' := []) (mem' := fm g tp bt a_1 b) (by intro _ _ _; eq_refl) ?_
      rw [show (fx_cb .ge (nI i1) (nI n)) = false from cb_geF (a := i1) (b := n) (by omega) (by omega) (by omega)]
      dsimp only [cond]
      refine fe_s 7 (pc' := 23) (lc' := [(5, .int (nI i1)), (4, .int (nI y4_1)), (0, .ref 0), (1, .int (nI X)), (2, .int (nI t)), (3, .int (nI n))]) (stk' := [.int ((60 * (nI t)) + (nI i1)), .ref 5]) (mem' := fm g tp bt a_1 b) (by intro _ _ _; eq_refl) ?_
      rw [show ((60 * (nI t)) + (nI i1) : Int32) = nI ((60 * t) + i1) from by simp only [show (60 : Int32) = nI 60 from rfl, nI_add, fm_mul]]
      refine fe_ldL (by rfl) (by rfl) (fx_inN (i := (60 * t) + i1) (by omega) (by omega)) ?_
      rw [show Int32.toNatClampNeg (nI ((60 * t) + i1)) = (60 * t) + i1 from nI_clamp (by omega)]
      obtain ⟨c2, hc2, ec2⟩ := hc (i1) (by omega)
      rw [ec2]
      refine fe_s 1 (pc' := 25) (lc' := [(5, .int (nI i1)), (4, .int (nI y4_1)), (0, .ref 0), (1, .int (nI X)), (2, .int (nI t)), (3, .int (nI n))]) (stk' := [.int ((Int64.ofNat c2).toInt32)]) (mem' := fm g tp bt a_1 b) (by intro _ _ _; eq_refl) ?_
      rw [fm_l2i hc2]
      refine fe_s 4 (pc' := 32) (lc' := [(6, .int (nI c2)), (5, .int (nI i1)), (4, .int (nI y4_1)), (0, .ref 0), (1, .int (nI X)), (2, .int (nI t)), (3, .int (nI n))]) (stk' := [.int (nI c2), .int (nI y4_1), .ref 0]) (mem' := fm g tp bt a_1 b) (by intro _ _ _; eq_refl) ?_
      refine fe_ivV (fr_isWay (A := y4_1) (B := nI c2) (g := g) (tp := tp) (bt := bt) (a := a_1) (b := b) (by omega)) (by omega) (by rfl) (by rfl) (by rfl) (by rfl) (by rfl) (by rfl) ?_
      rcases fm_b_01 (a_1 1 (10 + 6 * y4_1)) (nI c2) with q3 | q3
      · rw [q3]
        refine fe_s 1 (pc' := cond (fx_cb .ne 0 0) 40 38) (lc' := [(6, .int (nI c2)), (5, .int (nI i1)), (4, .int (nI y4_1)), (0, .ref 0), (1, .int (nI X)), (2, .int (nI t)), (3, .int (nI n))]) (stk' := []) (mem' := fm g tp bt a_1 b) (by intro _ _ _; eq_refl) ?_
        rw [show (fx_cb .ne 0 0) = false from by decide]
        dsimp only [cond]
        refine fe_s 1 (pc' := 39) (lc' := [(6, .int (nI c2)), (5, .int (nI i1)), (4, .int (nI y4_1)), (0, .ref 0), (1, .int (nI X)), (2, .int (nI t)), (3, .int (nI n))]) (stk' := [.int 0]) (mem' := fm g tp bt a_1 b) (by intro _ _ _; eq_refl) ?_
        exact fe_ret ⟨_, Or.inl rfl, _, hD_1, rfl⟩ (by rfl) (by rfl) (by rfl)
      · rw [q3]
        refine fe_s 1 (pc' := cond (fx_cb .ne 1 0) 40 38) (lc' := [(6, .int (nI c2)), (5, .int (nI i1)), (4, .int (nI y4_1)), (0, .ref 0), (1, .int (nI X)), (2, .int (nI t)), (3, .int (nI n))]) (stk' := []) (mem' := fm g tp bt a_1 b) (by intro _ _ _; eq_refl) ?_
        rw [show (fx_cb .ne 1 0) = true from by decide]
        dsimp only [cond]
        refine fe_s 4 (pc' := 6) (lc' := [(5, .int ((nI i1) + 1)), (4, .int (nI c2)), (6, .int (nI c2)), (0, .ref 0), (1, .int (nI X)), (2, .int (nI t)), (3, .int (nI n))]) (stk' := []) (mem' := fm g tp bt a_1 b) (by intro _ _ _; eq_refl) ?_
        rw [show ((nI i1) + 1 : Int32) = nI (i1 + 1) from by simp only [show (1 : Int32) = nI 1 from rfl, nI_add, fm_mul]]
        refine fe_w (lc' := [(5, .int (nI (i1 + 1))), (4, .int (nI c2)), (0, .ref 0), (1, .int (nI X)), (2, .int (nI t)), (3, .int (nI n))]) ⟨rfl, rfl, rfl, rfl, rfl, rfl, trivial⟩ (by show List.Nodup [5, 4, 0, 1, 2, 3]; decide) (by show List.Nodup [5, 4, 6, 0, 1, 2, 3]; decide) ?_
        exact ih1 (i1 + 1) (by omega) (c2) (by omega) a_1 hD_1
  exact loop1 (n) 0 (by omega) (X) (by omega) a hD
theorem fr_sets {T : Nat} {W t n : Nat} (hB : fm_B a0) (hD : fm_D a0 a T) (hW : W < 8) (ht : t < 4) (hn : n ≤ 20) (hc : ∀ k, k < n → ∃ C, C < 10 ∧ b 5 (60 * t + k) = Int64.ofNat C) : ∃ (v : Option Value) (mem' : fx_M), (fun R => ∃ a' : Nat → Nat → Int32, fm_D a0 a' T ∧ R = (none, fm g tp bt a' b)) (v, mem') ∧ fr_T 3 288 [.ref 0, .int (nI W), .int (nI t), .int (nI n)] (fm g tp bt a b) v mem' := by
  obtain ⟨NC, hNC, eNC⟩ := fm_B_0 hB (i := 0) (n := 10) (by decide) rfl
  obtain ⟨NW, hNW, eNW⟩ := fm_B_0 hB (i := 1) (n := 8) (by decide) rfl
  have hT9 := hD.2.2.2.2.1
  refine fe_meth (F := fun R => ∃ a' : Nat → Nat → Int32, fm_D a0 a' T ∧ R = (none, fm g tp bt a' b)) (M := gk_m288) (by rfl) (by rfl) ?_
  refine fe_s 2 (pc' := 3) (lc' := [(4, .int 0), (0, .ref 0), (1, .int (nI W)), (2, .int (nI t)), (3, .int (nI n))]) (stk' := []) (mem' := fm g tp bt a b) (by intro _ _ _; eq_refl) ?_
  have loop1 : ∀ (r i1 : Nat), i1 + r = n → ∀ a_1 : Nat → Nat → Int32, fm_D a0 a_1 T → fe_R 2 gk_m288 3 [(4, .int (nI i1)), (0, .ref 0), (1, .int (nI W)), (2, .int (nI t)), (3, .int (nI n))] [] (fm g tp bt a_1 b) (fun R => ∃ a' : Nat → Nat → Int32, fm_D a0 a' T ∧ R = (none, fm g tp bt a' b)) := by
    intro r
    induction r with
    | zero =>
      intro i1 hi1 a_1 hD_1
      obtain rfl : n = i1 := by omega
      refine fe_s 2 (pc' := 6) (lc' := [(4, .int (nI n)), (0, .ref 0), (1, .int (nI W)), (2, .int (nI t)), (3, .int (nI n))]) (stk' := [.int (nI n), .int (nI n)]) (mem' := fm g tp bt a_1 b) (by intro _ _ _; eq_refl) ?_
      refine fe_s 1 (pc' := cond (fx_cb .ge (nI n) (nI n)) 44 9) (lc' := [(4, .int (nI n)), (0, .ref 0), (1, .int (nI W)), (2, .int (nI t)), (3, .int (nI n))]) (stk' := []) (mem' := fm g tp bt a_1 b) (by intro _ _ _; eq_refl) ?_
      rw [show (fx_cb .ge (nI n) (nI n)) = true from cb_geT (a := n) (b := n) (by omega) (by omega) (by omega)]
      dsimp only [cond]
      refine fe_s 3 (pc' := 49) (lc' := [(4, .int (nI n)), (0, .ref 0), (1, .int (nI W)), (2, .int (nI t)), (3, .int (nI n))]) (stk' := [.int (nI W), .ref 1]) (mem' := fm g tp bt a_1 b) (by intro _ _ _; eq_refl) ?_
      refine fe_ivS fr_walkerRow (by omega) (by rfl) (by rfl) (by rfl) (by rfl) (by rfl) ?_
      rw [show (278 + 5 * (nI W) : Int32) = nI (278 + (5 * W)) from by simp only [show (278 : Int32) = nI 278 from rfl, show (5 : Int32) = nI 5 from rfl, nI_add, fm_mul]]
      refine fe_s 3 (pc' := 55) (lc' := [(4, .int (nI n)), (0, .ref 0), (1, .int (nI W)), (2, .int (nI t)), (3, .int (nI n))]) (stk' := [.int (nI n), .int ((nI (278 + (5 * W))) + 3), .ref 1]) (mem' := fm g tp bt a_1 b) (by intro _ _ _; eq_refl) ?_
      rw [show ((nI (278 + (5 * W))) + 3 : Int32) = nI ((278 + (5 * W)) + 3) from by simp only [show (3 : Int32) = nI 3 from rfl, nI_add, fm_mul]]
      refine fe_stI (mem' := fm g tp bt (fm_u a_1 1 (nI ((278 + (5 * W)) + 3) : Int32).toNatClampNeg (nI n)) b) (by rfl) (by rfl) (fx_inN (i := (278 + (5 * W)) + 3) (by omega) (by omega)) fm_si1 ?_
      rw [show Int32.toNatClampNeg (nI ((278 + (5 * W)) + 3)) = (278 + (5 * W)) + 3 from nI_clamp (by omega)]
      obtain ⟨at2, hat2⟩ : ∃ z, z = fm_u a_1 1 ((278 + (5 * W)) + 3) (nI n) := ⟨_, rfl⟩
      rw [← hat2]
      have hDt2 : fm_D a0 at2 T := by rw [hat2, show (278 + (5 * W)) + 3 = 281 + 5 * W by omega]; exact fm_Dw3 (X := n) hD_1 (by omega) (by omega)
      exact fe_ret ⟨_, hDt2, rfl⟩ (by rfl) (by rfl) (by rfl)
    | succ r ih1 =>
      intro i1 hi1 a_1 hD_1
      have hl1 : i1 < n := by omega
      refine fe_s 2 (pc' := 6) (lc' := [(4, .int (nI i1)), (0, .ref 0), (1, .int (nI W)), (2, .int (nI t)), (3, .int (nI n))]) (stk' := [.int (nI n), .int (nI i1)]) (mem' := fm g tp bt a_1 b) (by intro _ _ _; eq_refl) ?_
      refine fe_s 1 (pc' := cond (fx_cb .ge (nI i1) (nI n)) 44 9) (lc' := [(4, .int (nI i1)), (0, .ref 0), (1, .int (nI W)), (2, .int (nI t)), (3, .int (nI n))]) (stk' := []) (mem' := fm g tp bt a_1 b) (by intro _ _ _; eq_refl) ?_
      rw [show (fx_cb .ge (nI i1) (nI n)) = false from cb_geF (a := i1) (b := n) (by omega) (by omega) (by omega)]
      dsimp only [cond]
      refine fe_s 16 (pc' := 35) (lc' := [(4, .int (nI i1)), (0, .ref 0), (1, .int (nI W)), (2, .int (nI t)), (3, .int (nI n))]) (stk' := [.int ((60 * (nI t)) + (nI i1)), .ref 5, .int ((318 + (20 * (nI W))) + (nI i1)), .ref 1]) (mem' := fm g tp bt a_1 b) (by intro _ _ _; eq_refl) ?_
      rw [show ((60 * (nI t)) + (nI i1) : Int32) = nI ((60 * t) + i1) from by simp only [show (60 : Int32) = nI 60 from rfl, nI_add, fm_mul]]
      rw [show ((318 + (20 * (nI W))) + (nI i1) : Int32) = nI ((318 + (20 * W)) + i1) from by simp only [show (318 : Int32) = nI 318 from rfl, show (20 : Int32) = nI 20 from rfl, nI_add, fm_mul]]
      refine fe_ldL (by rfl) (by rfl) (fx_inN (i := (60 * t) + i1) (by omega) (by omega)) ?_
      rw [show Int32.toNatClampNeg (nI ((60 * t) + i1)) = (60 * t) + i1 from nI_clamp (by omega)]
      obtain ⟨c3, hc3, ec3⟩ := hc (i1) (by omega)
      rw [ec3]
      refine fe_s 1 (pc' := 37) (lc' := [(4, .int (nI i1)), (0, .ref 0), (1, .int (nI W)), (2, .int (nI t)), (3, .int (nI n))]) (stk' := [.int ((Int64.ofNat c3).toInt32), .int (nI ((318 + (20 * W)) + i1)), .ref 1]) (mem' := fm g tp bt a_1 b) (by intro _ _ _; eq_refl) ?_
      rw [fm_l2i hc3]
      refine fe_stI (mem' := fm g tp bt (fm_u a_1 1 (nI ((318 + (20 * W)) + i1) : Int32).toNatClampNeg (nI c3)) b) (by rfl) (by rfl) (fx_inN (i := (318 + (20 * W)) + i1) (by omega) (by omega)) fm_si1 ?_
      rw [show Int32.toNatClampNeg (nI ((318 + (20 * W)) + i1)) = (318 + (20 * W)) + i1 from nI_clamp (by omega)]
      obtain ⟨at4, hat4⟩ : ∃ z, z = fm_u a_1 1 ((318 + (20 * W)) + i1) (nI c3) := ⟨_, rfl⟩
      rw [← hat4]
      have hDt4 : fm_D a0 at4 T := by rw [hat4]; exact fm_Drt (X := c3) hD_1 (by omega) (by omega) (by omega)
      refine fe_s 2 (pc' := 3) (lc' := [(4, .int ((nI i1) + 1)), (0, .ref 0), (1, .int (nI W)), (2, .int (nI t)), (3, .int (nI n))]) (stk' := []) (mem' := fm g tp bt at4 b) (by intro _ _ _; eq_refl) ?_
      rw [show ((nI i1) + 1 : Int32) = nI (i1 + 1) from by simp only [show (1 : Int32) = nI 1 from rfl, nI_add, fm_mul]]
      exact ih1 (i1 + 1) (by omega) at4 hDt4
  exact loop1 (n) 0 (by omega) a hD
theorem fr_isTray {t : Int32} {mem : fx_M} : ∃ (r : Option Value) (mem' : fx_M), (fun R => ∃ z : Int32, (z = 0 ∨ z = 1 ∧ ∃ n, n < 4 ∧ t = nI n) ∧ R = (some (.int z), mem)) (r, mem') ∧ fr_T 1 211 [.int t] mem r mem' := by
  refine fe_meth (F := fun R => ∃ z : Int32, (z = 0 ∨ z = 1 ∧ ∃ n, n < 4 ∧ t = nI n) ∧ R = (some (.int z), mem)) (M := gk_m211) (by rfl) (by rfl) ?_
  refine fe_s 1 (pc' := 1) (lc' := [(0, .int t)]) (stk' := [.int t]) (mem' := mem) (by intro _ _ _; eq_refl) ?_
  refine fe_s 1 (pc' := cond (fx_cb .lt t 0) 13 4) (lc' := [(0, .int t)]) (stk' := []) (mem' := mem) (by intro _ _ _; eq_refl) ?_
  cases h1 : fx_cb .lt t 0
  · refine fe_s 2 (pc' := 6) (lc' := [(0, .int t)]) (stk' := [.int 4, .int t]) (mem' := mem) (by intro _ _ _; eq_refl) ?_
    refine fe_s 1 (pc' := cond (fx_cb .ge t 4) 13 9) (lc' := [(0, .int t)]) (stk' := []) (mem' := mem) (by intro _ _ _; eq_refl) ?_
    cases h2 : fx_cb .ge t 4
    · refine fe_s 2 (pc' := 14) (lc' := [(0, .int t)]) (stk' := [.int 1]) (mem' := mem) (by intro _ _ _; eq_refl) ?_
      exact fe_ret ⟨_, Or.inr ⟨rfl, fm_rng (n := 4) (by omega) h1 h2⟩, rfl⟩ (by rfl) (by rfl) (by rfl)
    · refine fe_s 1 (pc' := 14) (lc' := [(0, .int t)]) (stk' := [.int 0]) (mem' := mem) (by intro _ _ _; eq_refl) ?_
      exact fe_ret ⟨_, Or.inl rfl, rfl⟩ (by rfl) (by rfl) (by rfl)
  · refine fe_s 1 (pc' := 14) (lc' := [(0, .int t)]) (stk' := [.int 0]) (mem' := mem) (by intro _ _ _; eq_refl) ?_
    exact fe_ret ⟨_, Or.inl rfl, rfl⟩ (by rfl) (by rfl) (by rfl)
theorem fr_wrongTray {tray nn : Int32} {M NC : Nat} (hM : M ≤ 20) (eNC : a 1 0 = nI NC) (hNC : NC ≤ 10) : ∃ (r : Option Value) (mem' : fx_M), (fun R => ∃ v : Nat, v ≤ 5 ∧ (v = 0 → ∃ t n : Nat, tray = nI t ∧ nn = nI n ∧ t < 4 ∧ 1 ≤ n ∧ n ≤ M ∧ ∀ k, k < n → ∃ C, C < 10 ∧ b 5 (60 * t + k) = Int64.ofNat C) ∧ R = (some (.int (nI v)), fm g tp bt a b)) (r, mem') ∧ fr_T 2 287 [.ref 0, .int tray, .int nn, .int (nI M)] (fm g tp bt a b) r mem' := by
  refine fe_meth (F := fun R => ∃ v : Nat, v ≤ 5 ∧ (v = 0 → ∃ t n : Nat, tray = nI t ∧ nn = nI n ∧ t < 4 ∧ 1 ≤ n ∧ n ≤ M ∧ ∀ k, k < n → ∃ C, C < 10 ∧ b 5 (60 * t + k) = Int64.ofNat C) ∧ R = (some (.int (nI v)), fm g tp bt a b)) (M := gk_m287) (by rfl) (by rfl) ?_
  refine fe_s 1 (pc' := 1) (lc' := [(0, .ref 0), (1, .int tray), (2, .int nn), (3, .int (nI M))]) (stk' := [.int tray]) (mem' := fm g tp bt a b) (by intro _ _ _; eq_refl) ?_
  obtain ⟨v1, mem1, ⟨x1, hx1, hR1⟩, hfr1⟩ := fr_isTray (t := tray) (mem := fm g tp bt a b)
  cases hR1
  refine fe_ivS hfr1 (by omega) (by rfl) (by rfl) (by rfl) (by rfl) (by rfl) ?_
  rcases hx1 with rfl | ⟨rfl, t, ht, rfl⟩
  · refine fe_s 1 (pc' := cond (fx_cb .eq 0 0) 18 7) (lc' := [(0, .ref 0), (1, .int tray), (2, .int nn), (3, .int (nI M))]) (stk' := []) (mem' := fm g tp bt a b) (by intro _ _ _; eq_refl) ?_
    rw [show (fx_cb .eq 0 0) = true from by decide]
    dsimp only [cond]
    refine fe_s 1 (pc' := 19) (lc' := [(0, .ref 0), (1, .int tray), (2, .int nn), (3, .int (nI M))]) (stk' := [.int 1]) (mem' := fm g tp bt a b) (by intro _ _ _; eq_refl) ?_
    exact fe_ret ⟨1, by omega, fun z => absurd z (by decide), rfl⟩ (by rfl) (by rfl) (by rfl)
  · refine fe_s 1 (pc' := cond (fx_cb .eq 1 0) 18 7) (lc' := [(0, .ref 0), (1, .int (nI t)), (2, .int nn), (3, .int (nI M))]) (stk' := []) (mem' := fm g tp bt a b) (by intro _ _ _; eq_refl) ?_
    rw [show (fx_cb .eq 1 0) = false from by decide]
    dsimp only [cond]
    refine fe_s 5 (pc' := 12) (lc' := [(0, .ref 0), (1, .int (nI t)), (2, .int nn), (3, .int (nI M))]) (stk' := [.long ((nI M).toInt64), .long (1 : Int64), .long (nn.toInt64)]) (mem' := fm g tp bt a b) (by intro _ _ _; eq_refl) ?_
    obtain ⟨v2, mem2, ⟨x2, hx2, hR2⟩, hfr2⟩ := fr_isFrom (v := nn.toInt64) (l := (1 : Int64)) (m := (nI M).toInt64) (mem := fm g tp bt a b)
    cases hR2
    refine fe_ivS hfr2 (by omega) (by rfl) (by rfl) (by rfl) (by rfl) (by rfl) ?_
    rcases hx2 with ⟨rfl, -⟩ | ⟨rfl, hl2, hm2⟩
    · refine fe_s 1 (pc' := cond (fx_cb .ne 0 0) 20 18) (lc' := [(0, .ref 0), (1, .int (nI t)), (2, .int nn), (3, .int (nI M))]) (stk' := []) (mem' := fm g tp bt a b) (by intro _ _ _; eq_refl) ?_
      rw [show (fx_cb .ne 0 0) = false from by decide]
      dsimp only [cond]
      refine fe_s 1 (pc' := 19) (lc' := [(0, .ref 0), (1, .int (nI t)), (2, .int nn), (3, .int (nI M))]) (stk' := [.int 1]) (mem' := fm g tp bt a b) (by intro _ _ _; eq_refl) ?_
      exact fe_ret ⟨1, by omega, fun z => absurd z (by decide), rfl⟩ (by rfl) (by rfl) (by rfl)
    · obtain ⟨n, hn, rfl⟩ : ∃ n, n ≤ M ∧ nn = nI n := by
        rw [Int32.toInt_toInt64, Int32.toInt_toInt64, nI_i32 (by omega)] at hm2
        rw [Int32.toInt_toInt64, show ((1 : Int64).toInt) = 1 from rfl] at hl2
        exact nI_bd (by omega) hm2
      have hn1 : 1 ≤ n := by
        rw [Int32.toInt_toInt64, nI_i32 (by omega), show ((1 : Int64).toInt) = 1 from rfl] at hl2; omega
      refine fe_s 1 (pc' := cond (fx_cb .ne 1 0) 20 18) (lc' := [(0, .ref 0), (1, .int (nI t)), (2, .int (nI n)), (3, .int (nI M))]) (stk' := []) (mem' := fm g tp bt a b) (by intro _ _ _; eq_refl) ?_
      rw [show (fx_cb .ne 1 0) = true from by decide]
      dsimp only [cond]
      refine fe_s 3 (pc' := 25) (lc' := [(0, .ref 0), (1, .int (nI t)), (2, .int (nI n)), (3, .int (nI M))]) (stk' := [.int (nI t), .ref 4]) (mem' := fm g tp bt a b) (by intro _ _ _; eq_refl) ?_
      refine fe_ldI (by rfl) (by rfl) (fx_inN (i := t) (by omega) (by omega)) ?_
      rw [show Int32.toNatClampNeg (nI t) = t from nI_clamp (by omega)]
      refine fe_s 1 (pc' := 27) (lc' := [(0, .ref 0), (1, .int (nI t)), (2, .int (nI n)), (3, .int (nI M))]) (stk' := [.int (-1), .int (a 4 t)]) (mem' := fm g tp bt a b) (by intro _ _ _; eq_refl) ?_
      refine fe_s 1 (pc' := cond (fx_cb .ne (a 4 t) (-1)) 32 30) (lc' := [(0, .ref 0), (1, .int (nI t)), (2, .int (nI n)), (3, .int (nI M))]) (stk' := []) (mem' := fm g tp bt a b) (by intro _ _ _; eq_refl) ?_
      cases h1 : fx_cb .ne (a 4 t) (-1)
      · refine fe_s 1 (pc' := 31) (lc' := [(0, .ref 0), (1, .int (nI t)), (2, .int (nI n)), (3, .int (nI M))]) (stk' := [.int 2]) (mem' := fm g tp bt a b) (by intro _ _ _; eq_refl) ?_
        exact fe_ret ⟨2, by omega, fun z => absurd z (by decide), rfl⟩ (by rfl) (by rfl) (by rfl)
      · refine fe_s 3 (pc' := 37) (lc' := [(0, .ref 0), (1, .int (nI t)), (2, .int (nI n)), (3, .int (nI M))]) (stk' := [.int (nI t), .ref 4]) (mem' := fm g tp bt a b) (by intro _ _ _; eq_refl) ?_
        refine fe_ldI (by rfl) (by rfl) (fx_inN (i := t) (by omega) (by omega)) ?_
        rw [show Int32.toNatClampNeg (nI t) = t from nI_clamp (by omega)]
        refine fe_s 1 (pc' := 39) (lc' := [(0, .ref 0), (1, .int (nI t)), (2, .int (nI n)), (3, .int (nI M))]) (stk' := [.int (nI n), .int (a 4 t)]) (mem' := fm g tp bt a b) (by intro _ _ _; eq_refl) ?_
        refine fe_s 1 (pc' := cond (fx_cb .ge (a 4 t) (nI n)) 44 42) (lc' := [(0, .ref 0), (1, .int (nI t)), (2, .int (nI n)), (3, .int (nI M))]) (stk' := []) (mem' := fm g tp bt a b) (by intro _ _ _; eq_refl) ?_
        cases h2 : fx_cb .ge (a 4 t) (nI n)
        · refine fe_s 1 (pc' := 43) (lc' := [(0, .ref 0), (1, .int (nI t)), (2, .int (nI n)), (3, .int (nI M))]) (stk' := [.int 3]) (mem' := fm g tp bt a b) (by intro _ _ _; eq_refl) ?_
          exact fe_ret ⟨3, by omega, fun z => absurd z (by decide), rfl⟩ (by rfl) (by rfl) (by rfl)
        · refine fe_s 2 (pc' := 47) (lc' := [(4, .int 0), (0, .ref 0), (1, .int (nI t)), (2, .int (nI n)), (3, .int (nI M))]) (stk' := []) (mem' := fm g tp bt a b) (by intro _ _ _; eq_refl) ?_
          have loop : ∀ (r k : Nat), k + r = n → (∀ j, j < k → ∃ C, C < 10 ∧ b 5 (60 * t + j) = Int64.ofNat C) → fe_R 1 gk_m287 47 [(4, .int (nI k)), (0, .ref 0), (1, .int (nI t)), (2, .int (nI n)), (3, .int (nI M))] [] (fm g tp bt a b) (fun R => ∃ v : Nat, v ≤ 5 ∧ (v = 0 → ∃ t2 n2 : Nat, nI t = nI t2 ∧ nI n = nI n2 ∧ t2 < 4 ∧ 1 ≤ n2 ∧ n2 ≤ M ∧ ∀ k, k < n2 → ∃ C, C < 10 ∧ b 5 (60 * t2 + k) = Int64.ofNat C) ∧ R = (some (.int (nI v)), fm g tp bt a b)) := by
            intro r
            induction r with
            | zero =>
              intro k hk hc9
              obtain rfl : n = k := by omega
              refine fe_s 2 (pc' := 50) (lc' := [(4, .int (nI n)), (0, .ref 0), (1, .int (nI t)), (2, .int (nI n)), (3, .int (nI M))]) (stk' := [.int (nI n), .int (nI n)]) (mem' := fm g tp bt a b) (by intro _ _ _; eq_refl) ?_
              refine fe_s 1 (pc' := cond (fx_cb .ge (nI n) (nI n)) 80 53) (lc' := [(4, .int (nI n)), (0, .ref 0), (1, .int (nI t)), (2, .int (nI n)), (3, .int (nI M))]) (stk' := []) (mem' := fm g tp bt a b) (by intro _ _ _; eq_refl) ?_
              rw [show (fx_cb .ge (nI n) (nI n)) = true from cb_geT (a := n) (b := n) (by omega) (by omega) (by omega)]
              dsimp only [cond]
              refine fe_s 1 (pc' := 81) (lc' := [(4, .int (nI n)), (0, .ref 0), (1, .int (nI t)), (2, .int (nI n)), (3, .int (nI M))]) (stk' := [.int 0]) (mem' := fm g tp bt a b) (by intro _ _ _; eq_refl) ?_
              exact fe_ret ⟨0, by omega, fun _ => ⟨t, n, rfl, rfl, ht, hn1, hn, hc9⟩, rfl⟩ (by rfl) (by rfl) (by rfl)
            | succ r ih =>
              intro k hk hc9
              refine fe_s 2 (pc' := 50) (lc' := [(4, .int (nI k)), (0, .ref 0), (1, .int (nI t)), (2, .int (nI n)), (3, .int (nI M))]) (stk' := [.int (nI n), .int (nI k)]) (mem' := fm g tp bt a b) (by intro _ _ _; eq_refl) ?_
              refine fe_s 1 (pc' := cond (fx_cb .ge (nI k) (nI n)) 80 53) (lc' := [(4, .int (nI k)), (0, .ref 0), (1, .int (nI t)), (2, .int (nI n)), (3, .int (nI M))]) (stk' := []) (mem' := fm g tp bt a b) (by intro _ _ _; eq_refl) ?_
              rw [show (fx_cb .ge (nI k) (nI n)) = false from cb_geF (a := k) (b := n) (by omega) (by omega) (by omega)]
              dsimp only [cond]
              refine fe_s 8 (pc' := 65) (lc' := [(4, .int (nI k)), (0, .ref 0), (1, .int (nI t)), (2, .int (nI n)), (3, .int (nI M))]) (stk' := [.int ((60 * (nI t)) + (nI k)), .ref 5, .ref 0]) (mem' := fm g tp bt a b) (by intro _ _ _; eq_refl) ?_
              rw [show ((60 * (nI t)) + (nI k) : Int32) = nI ((60 * t) + k) from by simp only [show (60 : Int32) = nI 60 from rfl, nI_add, fm_mul]]
              refine fe_ldL (by rfl) (by rfl) (fx_inN (i := (60 * t) + k) (by omega) (by omega)) ?_
              rw [show Int32.toNatClampNeg (nI ((60 * t) + k)) = (60 * t) + k from nI_clamp (by omega)]
              obtain ⟨v3, mem3, ⟨x3, hx3, hR3⟩, hfr3⟩ := fr_isCellX (c := b 5 ((60 * t) + k)) (g := g) (tp := tp) (bt := bt) (b := b) eNC hNC
              cases hR3
              refine fe_ivV hfr3 (by omega) (by rfl) (by rfl) (by rfl) (by rfl) (by rfl) (by rfl) ?_
              rcases hx3 with rfl | ⟨rfl, C3, hC3, e3⟩
              · refine fe_s 1 (pc' := cond (fx_cb .ne 0 0) 74 72) (lc' := [(4, .int (nI k)), (0, .ref 0), (1, .int (nI t)), (2, .int (nI n)), (3, .int (nI M))]) (stk' := []) (mem' := fm g tp bt a b) (by intro _ _ _; eq_refl) ?_
                rw [show (fx_cb .ne 0 0) = false from by decide]
                dsimp only [cond]
                refine fe_s 1 (pc' := 73) (lc' := [(4, .int (nI k)), (0, .ref 0), (1, .int (nI t)), (2, .int (nI n)), (3, .int (nI M))]) (stk' := [.int 5]) (mem' := fm g tp bt a b) (by intro _ _ _; eq_refl) ?_
                exact fe_ret ⟨5, by omega, fun z => absurd z (by decide), rfl⟩ (by rfl) (by rfl) (by rfl)
              · refine fe_s 1 (pc' := cond (fx_cb .ne 1 0) 74 72) (lc' := [(4, .int (nI k)), (0, .ref 0), (1, .int (nI t)), (2, .int (nI n)), (3, .int (nI M))]) (stk' := []) (mem' := fm g tp bt a b) (by intro _ _ _; eq_refl) ?_
                rw [show (fx_cb .ne 1 0) = true from by decide]
                dsimp only [cond]
                refine fe_s 2 (pc' := 47) (lc' := [(4, .int ((nI k) + 1)), (0, .ref 0), (1, .int (nI t)), (2, .int (nI n)), (3, .int (nI M))]) (stk' := []) (mem' := fm g tp bt a b) (by intro _ _ _; eq_refl) ?_
                rw [show ((nI k) + 1 : Int32) = nI (k + 1) from by simp only [show (1 : Int32) = nI 1 from rfl, nI_add, fm_mul]]
                refine ih (k + 1) (by omega) (fun j hj => ?_)
                by_cases e : j = k
                · subst e; exact ⟨C3, by omega, e3⟩
                · exact hc9 j (by omega)
          refine fe_w (lc' := [(4, .int (nI 0)), (0, .ref 0), (1, .int (nI t)), (2, .int (nI n)), (3, .int (nI M))]) ⟨rfl, rfl, rfl, rfl, rfl, trivial⟩ (by show List.Nodup [4, 0, 1, 2, 3]; decide) (by show List.Nodup [4, 0, 1, 2, 3]; decide) ?_
          exact loop n 0 (by omega) (fun j hj => absurd hj (Nat.not_lt_zero j))
end FTRY
end MH6_1
section MH6_2
/-! ===== fx: the LAKE kept, and taken back ===== -/
def fm_K (a a0 : Nat → Nat → Int32) (to : Nat) : Prop := (∀ t, t ≠ 1 → a0 t = a t) ∧ (∀ i, ¬ (to ≤ i ∧ i < to + 478) → a0 1 i = a 1 i) ∧ ∀ k, k < 478 → a0 1 (to + k) = a 1 k
def fm_Rs (a1 a9 : Nat → Nat → Int32) (to : Nat) : Prop := (∀ t, t ≠ 1 → a9 t = a1 t) ∧ (∀ i, 478 ≤ i → a9 1 i = a1 1 i) ∧ ∀ k, k < 478 → a9 1 k = a1 1 (to + k)
theorem gm_at_k5 : ∀ k, k < 478 → gm_at (4210 + k) = gm_at k := by decide +kernel
theorem gm_at_k6 : ∀ k, k < 478 → gm_at (5052 + k) = gm_at k := by decide +kernel
theorem fm_B_eq {a b : Nat → Nat → Int32} (hB : fm_B a) (h : ∀ i, b 1 i = a 1 i) (h9 : ∀ i, i < 10 → 0 ≤ (b 9 i).toInt ∧ (b 9 i).toInt ≤ 1000000) : fm_B b := by
  obtain ⟨h1, ⟨h2, h3⟩, -⟩ := hB
  refine ⟨fun i hi => fm_bd_eq (h1 i hi) (h i), ⟨fun s hs c d hc hd => ?_, fun s hs n hn => ?_⟩, h9⟩
  · rw [h, h]; exact h2 s hs c d hc hd
  · rw [h] at hn
    rw [h, h]; exact h3 s hs n hn
theorem fm_kept {a a0 : Nat → Nat → Int32} {to : Nat} (hB : fm_B a) (ht : to = 4210 ∨ to = 5052) (h : fm_K a a0 to) : fm_B a0 := by
  obtain ⟨k1, k2, k3⟩ := h
  obtain ⟨h1, ⟨h2, h3⟩, h4⟩ := hB
  refine ⟨fun i hi => ?_, ⟨fun s hs c d hc hd => ?_, fun s hs n hn => ?_⟩, fun i hi => by rw [k1 9 (by decide)]; exact h4 i hi⟩
  · by_cases hi2 : to ≤ i ∧ i < to + 478
    · obtain ⟨k, rfl⟩ := Nat.exists_eq_add_of_le hi2.1
      have hg : gm_at (to + k) = gm_at k := by
        rcases ht with rfl | rfl
        · exact gm_at_k5 k (by omega)
        · exact gm_at_k6 k (by omega)
      have := h1 k (by omega)
      unfold fm_bd at this ⊢
      rw [k3 k (by omega), hg]
      exact this
    · exact fm_bd_eq (h1 i hi) (k2 i hi2)
  · by_cases hs2 : 842 * s = to
    · have := h2 0 (by omega) c d hc hd
      rw [show 842 * 0 + 10 + 6 * c = 10 + 6 * c by omega, show 842 * 0 + 10 + 6 * d = 10 + 6 * d by omega] at this
      rw [show 842 * s + 10 + 6 * c = to + (10 + 6 * c) by omega, show 842 * s + 10 + 6 * d = to + (10 + 6 * d) by omega, k3 _ (by omega), k3 _ (by omega)]
      exact this
    · rw [k2 _ (by omega), k2 _ (by omega)]
      exact h2 s hs c d hc hd
  · rw [k2 _ (by omega)] at hn
    have e6 := h3 s hs n hn
    have hn6 : (n : Int) < 60 := by
      have := (h1 (842 * s + 6) (by omega)).2
      have hg : (gm_at (842 * s + 6)).2 ≤ 60 := by
        have : ∀ s, s < 4 → (gm_at (842 * s + 6)).2 ≤ 60 := by decide
        exact this s hs
      omega
    rw [k2 _ (by omega), k2 _ (by omega)]
    exact e6
theorem fm_restd {a a0 a1 a9 : Nat → Nat → Int32} {to T : Nat} (hB : fm_B a0) (ht : to = 4210 ∨ to = 5052) (h : fm_K a a0 to) (hD : fm_D a0 a1 T) (hr : fm_Rs a1 a9 to) : fm_B a9 ∧ (∀ i, ¬ (to ≤ i ∧ i < to + 478) → a9 1 i = a 1 i) ∧ ∀ t, fm_okt t = false → a9 t = a t := by
  obtain ⟨k1, k2, k3⟩ := h
  obtain ⟨r1, r2, r3⟩ := hr
  have hh : ∀ i, 478 ≤ i → a1 1 i = a0 1 i := fun i hi => fm_D_h hD (by omega) (by
    cases h : fm_dyn i
    · rfl
    · have := fm_dyn_lt h; omega)
  have he : ∀ i, a9 1 i = a0 1 i := fun i => by
    rcases Nat.lt_or_ge i 478 with hi | hi
    · rw [r3 i hi, hh _ (by omega), k3 i hi, k2 i (by omega)]
    · rw [r2 i hi, hh i hi]
  refine ⟨fm_B_eq hB he (fun i hi => by rw [r1 9 (by decide)]; exact hD.2.2.2.2.2 i hi), fun i hi => by rw [he, k2 i hi], fun t ht2 => ?_⟩
  have h1 : t ≠ 1 := fun e => by subst e; exact absurd ht2 (by decide)
  rw [r1 t h1, hD.1 t ht2, k1 t h1]
/-- arrays of which a call says nothing -/
def fm_okE (t : Nat) : Bool := decide (t = 1 ∨ t = 9 ∨ 10 ≤ t ∧ t ≤ 13 ∨ t = 16 ∨ 19 ≤ t ∧ t ≤ 21)
/-- what stands in the LAKE and the kept ones, and isn't walked on -/
def fm_st (i : Nat) : Bool := decide (i < 3368 ∧ i ≠ 5) && !fm_dyn i
theorem fm_st_n {i : Nat} (h : fm_st i = true) : i < 3368 := (of_decide_eq_true (Bool.and_eq_true_iff.mp h).1).1
theorem fm_st_5 {i : Nat} (h : fm_st i = true) : i ≠ 5 := (of_decide_eq_true (Bool.and_eq_true_iff.mp h).1).2
theorem fm_st_d {i : Nat} (h : fm_st i = true) : fm_dyn i = false := by
  have := (Bool.and_eq_true_iff.mp h).2
  cases e : fm_dyn i
  · rfl
  · rw [e] at this; cases this
def fm_Ew (a a' : Nat → Nat → Int32) : Prop := fm_B a' ∧ ∀ t, fm_okE t = false → a' t = a t
def fm_E (a a' : Nat → Nat → Int32) : Prop := fm_B a' ∧ (∀ t, fm_okE t = false → a' t = a t) ∧ ∀ i, fm_st i = true → a' 1 i = a 1 i
theorem fm_E_w {a a' : Nat → Nat → Int32} (h : fm_E a a') : fm_Ew a a' := ⟨h.1, h.2.1⟩
theorem fm_okE_t {t : Nat} (h : fm_okE t = false) : fm_okt t = false := by
  have := of_decide_eq_false h
  exact decide_eq_false (by omega)
theorem fm_E_rf {a : Nat → Nat → Int32} (h : fm_B a) : fm_E a a := ⟨h, fun _ _ => rfl, fun _ _ => rfl⟩
theorem fm_E_D {a0 a : Nat → Nat → Int32} {T : Nat} (hB : fm_B a0) (hD : fm_D a0 a T) (hT : T ≤ 9999) : fm_E a0 a := ⟨fm_D_B hB hD hT, fun t ht => hD.1 t (fm_okE_t ht), fun i hi => hD.2.1 i (fm_st_5 hi) (fm_st_d hi)⟩
theorem fm_E_tr {a b c : Nat → Nat → Int32} (h : fm_E a b) (h2 : fm_E b c) : fm_E a c := ⟨h2.1, fun t ht => (h2.2.1 t ht).trans (h.2.1 t ht), fun i hi => (h2.2.2 i hi).trans (h.2.2 i hi)⟩
/-- fields of which a call says nothing but their bounds -/
def fm_okg (j : Nat) : Bool := decide (j = 2 ∨ j = 25 ∨ j = 30 ∨ j = 36 ∨ j = 37 ∨ j = 41)
def fm_gb (g : Nat → Int32) : Prop := (0 ≤ (g 2).toInt ∧ (g 2).toInt ≤ 9) ∧ (0 ≤ (g 30).toInt ∧ (g 30).toInt ≤ 4) ∧ (0 ≤ (g 37).toInt ∧ (g 37).toInt ≤ 300) ∧ 0 ≤ (g 41).toInt ∧ (g 41).toInt ≤ 1
def fm_G (g g' : Nat → Int32) : Prop := (∀ j, fm_okg j = false → g' j = g j) ∧ fm_gb g'
theorem fm_G_rf {g : Nat → Int32} (h : fm_gb g) : fm_G g g := ⟨fun _ _ => rfl, h⟩
theorem fm_G_tr {g g1 g2 : Nat → Int32} (h : fm_G g g1) (h2 : fm_G g1 g2) : fm_G g g2 := ⟨fun j hj => (h2.1 j hj).trans (h.1 j hj), h2.2⟩
theorem fm_G_2 {g g1 : Nat → Int32} {x : Int32} (h : fm_G g g1) (h1 : 0 ≤ x.toInt) (h2 : x.toInt ≤ 9) : fm_G g (upd g1 2 x) := by
  obtain ⟨k1, k2, k3, k4, k5⟩ := h
  refine ⟨fun j hj => ?_, ?_, ?_, ?_, ?_⟩
  · rw [pk_un (fun e => by subst e; exact absurd hj (by decide))]; exact k1 j hj
  · rw [pk_us]; exact ⟨h1, h2⟩
  · rw [pk_un (by decide)]; exact k3
  · rw [pk_un (by decide)]; exact k4
  · rw [pk_un (by decide)]; exact k5
theorem fm_G_f {g g1 : Nat → Int32} {x : Int32} {k : Nat} (h : fm_G g g1) (hk : k = 25 ∨ k = 36) : fm_G g (upd g1 k x) := by
  obtain ⟨k1, k2, k3, k4, k5⟩ := h
  refine ⟨fun j hj => ?_, ?_, ?_, ?_, ?_⟩
  · rw [pk_un (fun e => by subst e; rcases hk with rfl | rfl <;> exact absurd hj (by decide))]; exact k1 j hj
  · rw [pk_un (by omega)]; exact k2
  · rw [pk_un (by omega)]; exact k3
  · rw [pk_un (by omega)]; exact k4
  · rw [pk_un (by omega)]; exact k5
theorem fm_G_30 {g g1 : Nat → Int32} {n : Nat} (h : fm_G g g1) (hn : n ≤ 4) : fm_G g (upd g1 30 (nI n)) := by
  obtain ⟨k1, k2, k3, k4, k5⟩ := h
  refine ⟨fun j hj => ?_, ?_, ?_, ?_, ?_⟩
  · rw [pk_un (fun e => by subst e; exact absurd hj (by decide))]; exact k1 j hj
  · rw [pk_un (by decide)]; exact k2
  · rw [pk_us, nI_i32 (by omega)]; omega
  · rw [pk_un (by decide)]; exact k4
  · rw [pk_un (by decide)]; exact k5
theorem fm_G_37 {g g1 : Nat → Int32} {n : Nat} (h : fm_G g g1) (hn : n ≤ 300) : fm_G g (upd g1 37 (nI n)) := by
  obtain ⟨k1, k2, k3, k4, k5⟩ := h
  refine ⟨fun j hj => ?_, ?_, ?_, ?_, ?_⟩
  · rw [pk_un (fun e => by subst e; exact absurd hj (by decide))]; exact k1 j hj
  · rw [pk_un (by decide)]; exact k2
  · rw [pk_un (by decide)]; exact k3
  · rw [pk_us, nI_i32 (by omega)]; omega
  · rw [pk_un (by decide)]; exact k5
theorem fm_G_41 {g g1 : Nat → Int32} (h : fm_G g g1) : fm_G g (upd g1 41 1) := by
  obtain ⟨k1, k2, k3, k4, k5⟩ := h
  refine ⟨fun j hj => ?_, ?_, ?_, ?_, ?_⟩
  · rw [pk_un (fun e => by subst e; exact absurd hj (by decide))]; exact k1 j hj
  · rw [pk_un (by decide)]; exact k2
  · rw [pk_un (by decide)]; exact k3
  · rw [pk_un (by decide)]; exact k4
  · rw [pk_us]; decide
/-- what a public call leaves behind -/
def fm_PO (g : Nat → Int32) (tp bt : Int64) (a : Nat → Nat → Int32) (b : Nat → Nat → Int64) (R : Option Value × fx_M) : Prop := ∃ (v : Int32) (g' : Nat → Int32) (tp' bt' : Int64) (a' : Nat → Nat → Int32) (b' : Nat → Nat → Int64), fm_E a a' ∧ fm_G g g' ∧ (∀ t, t ≠ 17 → t ≠ 18 → b' t = b t) ∧ R = (some (.int v), fm g' tp' bt' a' b')
def fm_PZ (g : Nat → Int32) (tp bt : Int64) (a : Nat → Nat → Int32) (b : Nat → Nat → Int64) (R : Option Value × fx_M) : Prop := ∃ (v : Int32) (g' : Nat → Int32) (tp' bt' : Int64) (a' : Nat → Nat → Int32) (b' : Nat → Nat → Int64), (v = 0 ∨ v = 1) ∧ fm_E a a' ∧ fm_G g g' ∧ (∀ t, t ≠ 17 → t ≠ 18 → b' t = b t) ∧ R = (some (.int v), fm g' tp' bt' a' b')
def fm_PW (g : Nat → Int32) (tp bt : Int64) (a : Nat → Nat → Int32) (b : Nat → Nat → Int64) (R : Option Value × fx_M) : Prop := ∃ (v : Int32) (g' : Nat → Int32) (tp' bt' : Int64) (a' : Nat → Nat → Int32) (b' : Nat → Nat → Int64), (v = 0 ∨ v = 1) ∧ fm_Ew a a' ∧ fm_G g g' ∧ (∀ t, t ≠ 17 → t ≠ 18 → b' t = b t) ∧ R = (some (.int v), fm g' tp' bt' a' b')
theorem fm_i64c {x : Int32} {C : Nat} (h : x.toInt64 = Int64.ofNat C) (hC : C < 10) : x = nI C := by
  apply Int32.toInt_inj.mp
  rw [← Int32.toInt_toInt64 x, h, nI_i32 (by omega), Int64.toInt_ofNat_of_lt (by omega)]
theorem fm_T5 {a : Nat → Nat → Int32} (hB : fm_B a) : ∃ T, T ≤ 9999 ∧ a 1 5 = nI T := fm_B_0 hB (i := 5) (n := 9999) (by decide) rfl
end MH6_2
section MH6_3
/-! ===== fx: the LAKE kept for a try ===== -/
section FKP
variable {g : Nat → Int32} {tp bt : Int64} {a0 a : Nat → Nat → Int32} {b : Nat → Nat → Int64}
theorem fr_keeps4210 : ∃ (v : Option Value) (mem' : fx_M), (fun R => ∃ a' : Nat → Nat → Int32, fm_K a a' 4210 ∧ R = (none, fm g tp bt a' b)) (v, mem') ∧ fr_T 1 325 [.ref 0, .int 4210] (fm g tp bt a b) v mem' := by
  refine fe_meth (F := fun R => ∃ a' : Nat → Nat → Int32, fm_K a a' 4210 ∧ R = (none, fm g tp bt a' b)) (M := gk_m325) (by rfl) (by rfl) ?_
  have loop : ∀ (r k : Nat), k + r = 478 → ∀ a' : Nat → Nat → Int32, (∀ t, t ≠ 1 → a' t = a t) → (∀ i, ¬ (4210 ≤ i ∧ i < 4210 + k) → a' 1 i = a 1 i) → (∀ i, i < k → a' 1 (4210 + i) = a 1 i) → fe_R 0 gk_m325 2 [(2, .int (nI k)), (0, .ref 0), (1, .int 4210)] [] (fm g tp bt a' b) (fun R => ∃ a' : Nat → Nat → Int32, fm_K a a' 4210 ∧ R = (none, fm g tp bt a' b)) := by
    intro r
    induction r with
    | zero =>
      intro k hk a' h1 h2 h3
      obtain rfl : k = 478 := by omega
      refine fe_s 2 (pc' := 6) (lc' := [(2, .int (nI 478)), (0, .ref 0), (1, .int 4210)]) (stk' := [.int 478, .int (nI 478)]) (mem' := fm g tp bt a' b) (by intro _ _ _; eq_refl) ?_
      refine fe_s 1 (pc' := cond (fx_cb .ge (nI 478) 478) 29 9) (lc' := [(2, .int (nI 478)), (0, .ref 0), (1, .int 4210)]) (stk' := []) (mem' := fm g tp bt a' b) (by intro _ _ _; eq_refl) ?_
      rw [show (fx_cb .ge (nI 478) 478) = true from cb_geT (a := 478) (b := 478) (by omega) (by omega) (by omega)]
      dsimp only [cond]
      exact fe_ret ⟨a', ⟨h1, h2, h3⟩, rfl⟩ (by rfl) (by rfl) (by rfl)
    | succ r ih =>
      intro k hk a' h1 h2 h3
      refine fe_s 2 (pc' := 6) (lc' := [(2, .int (nI k)), (0, .ref 0), (1, .int 4210)]) (stk' := [.int 478, .int (nI k)]) (mem' := fm g tp bt a' b) (by intro _ _ _; eq_refl) ?_
      refine fe_s 1 (pc' := cond (fx_cb .ge (nI k) 478) 29 9) (lc' := [(2, .int (nI k)), (0, .ref 0), (1, .int 4210)]) (stk' := []) (mem' := fm g tp bt a' b) (by intro _ _ _; eq_refl) ?_
      rw [show (fx_cb .ge (nI k) 478) = false from cb_geF (a := k) (b := 478) (by omega) (by omega) (by omega)]
      dsimp only [cond]
      refine fe_s 8 (pc' := 21) (lc' := [(2, .int (nI k)), (0, .ref 0), (1, .int 4210)]) (stk' := [.int (nI k), .ref 1, .int (4210 + (nI k)), .ref 1]) (mem' := fm g tp bt a' b) (by intro _ _ _; eq_refl) ?_
      rw [show (4210 + (nI k) : Int32) = nI (4210 + k) from by simp only [show (4210 : Int32) = nI 4210 from rfl, nI_add, fm_mul]]
      refine fe_ldI (by rfl) (by rfl) (fx_inN (i := k) (by omega) (by omega)) ?_
      rw [show Int32.toNatClampNeg (nI k) = k from nI_clamp (by omega)]
      refine fe_stI (mem' := fm g tp bt (fm_u a' 1 (nI (4210 + k) : Int32).toNatClampNeg (a' 1 k)) b) (by rfl) (by rfl) (fx_inN (i := 4210 + k) (by omega) (by omega)) fm_si1 ?_
      rw [show Int32.toNatClampNeg (nI (4210 + k)) = 4210 + k from nI_clamp (by omega)]
      refine fe_s 2 (pc' := 2) (lc' := [(2, .int ((nI k) + 1)), (0, .ref 0), (1, .int 4210)]) (stk' := []) (mem' := fm g tp bt (fm_u a' 1 (4210 + k) (a' 1 k)) b) (by intro _ _ _; eq_refl) ?_
      rw [show ((nI k) + 1 : Int32) = nI (k + 1) from by simp only [show (1 : Int32) = nI 1 from rfl, nI_add, fm_mul]]
      refine ih (k + 1) (by omega) _ (fun t ht => by rw [fm_ut ht]; exact h1 t ht) (fun i hi => by rw [fm_u1, if_neg (by omega)]; exact h2 i (by omega)) (fun i hi => ?_)
      rw [fm_u1]
      by_cases e : i = k
      · rw [if_pos (by omega), h2 k (by omega), e]
      · rw [if_neg (by omega)]; exact h3 i (by omega)
  refine fe_s 2 (pc' := 2) (lc' := [(2, .int 0), (0, .ref 0), (1, .int 4210)]) (stk' := []) (mem' := fm g tp bt a b) (by intro _ _ _; eq_refl) ?_
  exact loop 478 0 (by omega) a (fun _ _ => rfl) (fun _ _ => rfl) (fun i hi => absurd hi (Nat.not_lt_zero i))
theorem fr_keeps5052 : ∃ (v : Option Value) (mem' : fx_M), (fun R => ∃ a' : Nat → Nat → Int32, fm_K a a' 5052 ∧ R = (none, fm g tp bt a' b)) (v, mem') ∧ fr_T 1 325 [.ref 0, .int 5052] (fm g tp bt a b) v mem' := by
  refine fe_meth (F := fun R => ∃ a' : Nat → Nat → Int32, fm_K a a' 5052 ∧ R = (none, fm g tp bt a' b)) (M := gk_m325) (by rfl) (by rfl) ?_
  have loop : ∀ (r k : Nat), k + r = 478 → ∀ a' : Nat → Nat → Int32, (∀ t, t ≠ 1 → a' t = a t) → (∀ i, ¬ (5052 ≤ i ∧ i < 5052 + k) → a' 1 i = a 1 i) → (∀ i, i < k → a' 1 (5052 + i) = a 1 i) → fe_R 0 gk_m325 2 [(2, .int (nI k)), (0, .ref 0), (1, .int 5052)] [] (fm g tp bt a' b) (fun R => ∃ a' : Nat → Nat → Int32, fm_K a a' 5052 ∧ R = (none, fm g tp bt a' b)) := by
    intro r
    induction r with
    | zero =>
      intro k hk a' h1 h2 h3
      obtain rfl : k = 478 := by omega
      refine fe_s 2 (pc' := 6) (lc' := [(2, .int (nI 478)), (0, .ref 0), (1, .int 5052)]) (stk' := [.int 478, .int (nI 478)]) (mem' := fm g tp bt a' b) (by intro _ _ _; eq_refl) ?_
      refine fe_s 1 (pc' := cond (fx_cb .ge (nI 478) 478) 29 9) (lc' := [(2, .int (nI 478)), (0, .ref 0), (1, .int 5052)]) (stk' := []) (mem' := fm g tp bt a' b) (by intro _ _ _; eq_refl) ?_
      rw [show (fx_cb .ge (nI 478) 478) = true from cb_geT (a := 478) (b := 478) (by omega) (by omega) (by omega)]
      dsimp only [cond]
      exact fe_ret ⟨a', ⟨h1, h2, h3⟩, rfl⟩ (by rfl) (by rfl) (by rfl)
    | succ r ih =>
      intro k hk a' h1 h2 h3
      refine fe_s 2 (pc' := 6) (lc' := [(2, .int (nI k)), (0, .ref 0), (1, .int 5052)]) (stk' := [.int 478, .int (nI k)]) (mem' := fm g tp bt a' b) (by intro _ _ _; eq_refl) ?_
      refine fe_s 1 (pc' := cond (fx_cb .ge (nI k) 478) 29 9) (lc' := [(2, .int (nI k)), (0, .ref 0), (1, .int 5052)]) (stk' := []) (mem' := fm g tp bt a' b) (by intro _ _ _; eq_refl) ?_
      rw [show (fx_cb .ge (nI k) 478) = false from cb_geF (a := k) (b := 478) (by omega) (by omega) (by omega)]
      dsimp only [cond]
      refine fe_s 8 (pc' := 21) (lc' := [(2, .int (nI k)), (0, .ref 0), (1, .int 5052)]) (stk' := [.int (nI k), .ref 1, .int (5052 + (nI k)), .ref 1]) (mem' := fm g tp bt a' b) (by intro _ _ _; eq_refl) ?_
      rw [show (5052 + (nI k) : Int32) = nI (5052 + k) from by simp only [show (5052 : Int32) = nI 5052 from rfl, nI_add, fm_mul]]
      refine fe_ldI (by rfl) (by rfl) (fx_inN (i := k) (by omega) (by omega)) ?_
      rw [show Int32.toNatClampNeg (nI k) = k from nI_clamp (by omega)]
      refine fe_stI (mem' := fm g tp bt (fm_u a' 1 (nI (5052 + k) : Int32).toNatClampNeg (a' 1 k)) b) (by rfl) (by rfl) (fx_inN (i := 5052 + k) (by omega) (by omega)) fm_si1 ?_
      rw [show Int32.toNatClampNeg (nI (5052 + k)) = 5052 + k from nI_clamp (by omega)]
      refine fe_s 2 (pc' := 2) (lc' := [(2, .int ((nI k) + 1)), (0, .ref 0), (1, .int 5052)]) (stk' := []) (mem' := fm g tp bt (fm_u a' 1 (5052 + k) (a' 1 k)) b) (by intro _ _ _; eq_refl) ?_
      rw [show ((nI k) + 1 : Int32) = nI (k + 1) from by simp only [show (1 : Int32) = nI 1 from rfl, nI_add, fm_mul]]
      refine ih (k + 1) (by omega) _ (fun t ht => by rw [fm_ut ht]; exact h1 t ht) (fun i hi => by rw [fm_u1, if_neg (by omega)]; exact h2 i (by omega)) (fun i hi => ?_)
      rw [fm_u1]
      by_cases e : i = k
      · rw [if_pos (by omega), h2 k (by omega), e]
      · rw [if_neg (by omega)]; exact h3 i (by omega)
  refine fe_s 2 (pc' := 2) (lc' := [(2, .int 0), (0, .ref 0), (1, .int 5052)]) (stk' := []) (mem' := fm g tp bt a b) (by intro _ _ _; eq_refl) ?_
  exact loop 478 0 (by omega) a (fun _ _ => rfl) (fun _ _ => rfl) (fun i hi => absurd hi (Nat.not_lt_zero i))
theorem fr_restores4210 : ∃ (v : Option Value) (mem' : fx_M), (fun R => ∃ a' : Nat → Nat → Int32, fm_Rs a a' 4210 ∧ R = (none, fm g tp bt a' b)) (v, mem') ∧ fr_T 1 326 [.ref 0, .int 4210] (fm g tp bt a b) v mem' := by
  refine fe_meth (F := fun R => ∃ a' : Nat → Nat → Int32, fm_Rs a a' 4210 ∧ R = (none, fm g tp bt a' b)) (M := gk_m326) (by rfl) (by rfl) ?_
  have loop : ∀ (r k : Nat), k + r = 478 → ∀ a' : Nat → Nat → Int32, (∀ t, t ≠ 1 → a' t = a t) → (∀ i, k ≤ i → a' 1 i = a 1 i) → (∀ i, i < k → a' 1 i = a 1 (4210 + i)) → fe_R 0 gk_m326 2 [(2, .int (nI k)), (0, .ref 0), (1, .int 4210)] [] (fm g tp bt a' b) (fun R => ∃ a' : Nat → Nat → Int32, fm_Rs a a' 4210 ∧ R = (none, fm g tp bt a' b)) := by
    intro r
    induction r with
    | zero =>
      intro k hk a' h1 h2 h3
      obtain rfl : k = 478 := by omega
      refine fe_s 2 (pc' := 6) (lc' := [(2, .int (nI 478)), (0, .ref 0), (1, .int 4210)]) (stk' := [.int 478, .int (nI 478)]) (mem' := fm g tp bt a' b) (by intro _ _ _; eq_refl) ?_
      refine fe_s 1 (pc' := cond (fx_cb .ge (nI 478) 478) 29 9) (lc' := [(2, .int (nI 478)), (0, .ref 0), (1, .int 4210)]) (stk' := []) (mem' := fm g tp bt a' b) (by intro _ _ _; eq_refl) ?_
      rw [show (fx_cb .ge (nI 478) 478) = true from cb_geT (a := 478) (b := 478) (by omega) (by omega) (by omega)]
      dsimp only [cond]
      exact fe_ret ⟨a', ⟨h1, h2, h3⟩, rfl⟩ (by rfl) (by rfl) (by rfl)
    | succ r ih =>
      intro k hk a' h1 h2 h3
      refine fe_s 2 (pc' := 6) (lc' := [(2, .int (nI k)), (0, .ref 0), (1, .int 4210)]) (stk' := [.int 478, .int (nI k)]) (mem' := fm g tp bt a' b) (by intro _ _ _; eq_refl) ?_
      refine fe_s 1 (pc' := cond (fx_cb .ge (nI k) 478) 29 9) (lc' := [(2, .int (nI k)), (0, .ref 0), (1, .int 4210)]) (stk' := []) (mem' := fm g tp bt a' b) (by intro _ _ _; eq_refl) ?_
      rw [show (fx_cb .ge (nI k) 478) = false from cb_geF (a := k) (b := 478) (by omega) (by omega) (by omega)]
      dsimp only [cond]
      refine fe_s 8 (pc' := 21) (lc' := [(2, .int (nI k)), (0, .ref 0), (1, .int 4210)]) (stk' := [.int (4210 + (nI k)), .ref 1, .int (nI k), .ref 1]) (mem' := fm g tp bt a' b) (by intro _ _ _; eq_refl) ?_
      rw [show (4210 + (nI k) : Int32) = nI (4210 + k) from by simp only [show (4210 : Int32) = nI 4210 from rfl, nI_add, fm_mul]]
      refine fe_ldI (by rfl) (by rfl) (fx_inN (i := 4210 + k) (by omega) (by omega)) ?_
      rw [show Int32.toNatClampNeg (nI (4210 + k)) = 4210 + k from nI_clamp (by omega)]
      refine fe_stI (mem' := fm g tp bt (fm_u a' 1 (nI k : Int32).toNatClampNeg (a' 1 (4210 + k))) b) (by rfl) (by rfl) (fx_inN (i := k) (by omega) (by omega)) fm_si1 ?_
      rw [show Int32.toNatClampNeg (nI k) = k from nI_clamp (by omega)]
      refine fe_s 2 (pc' := 2) (lc' := [(2, .int ((nI k) + 1)), (0, .ref 0), (1, .int 4210)]) (stk' := []) (mem' := fm g tp bt (fm_u a' 1 (k) (a' 1 (4210 + k))) b) (by intro _ _ _; eq_refl) ?_
      rw [show ((nI k) + 1 : Int32) = nI (k + 1) from by simp only [show (1 : Int32) = nI 1 from rfl, nI_add, fm_mul]]
      refine ih (k + 1) (by omega) _ (fun t ht => by rw [fm_ut ht]; exact h1 t ht) (fun i hi => by rw [fm_u1, if_neg (by omega)]; exact h2 i (by omega)) (fun i hi => ?_)
      rw [fm_u1]
      by_cases e : i = k
      · rw [if_pos (by omega), h2 _ (by omega), e]
      · rw [if_neg (by omega)]; exact h3 i (by omega)
  refine fe_s 2 (pc' := 2) (lc' := [(2, .int 0), (0, .ref 0), (1, .int 4210)]) (stk' := []) (mem' := fm g tp bt a b) (by intro _ _ _; eq_refl) ?_
  exact loop 478 0 (by omega) a (fun _ _ => rfl) (fun _ _ => rfl) (fun i hi => absurd hi (Nat.not_lt_zero i))
theorem fr_restores5052 : ∃ (v : Option Value) (mem' : fx_M), (fun R => ∃ a' : Nat → Nat → Int32, fm_Rs a a' 5052 ∧ R = (none, fm g tp bt a' b)) (v, mem') ∧ fr_T 1 326 [.ref 0, .int 5052] (fm g tp bt a b) v mem' := by
  refine fe_meth (F := fun R => ∃ a' : Nat → Nat → Int32, fm_Rs a a' 5052 ∧ R = (none, fm g tp bt a' b)) (M := gk_m326) (by rfl) (by rfl) ?_
  have loop : ∀ (r k : Nat), k + r = 478 → ∀ a' : Nat → Nat → Int32, (∀ t, t ≠ 1 → a' t = a t) → (∀ i, k ≤ i → a' 1 i = a 1 i) → (∀ i, i < k → a' 1 i = a 1 (5052 + i)) → fe_R 0 gk_m326 2 [(2, .int (nI k)), (0, .ref 0), (1, .int 5052)] [] (fm g tp bt a' b) (fun R => ∃ a' : Nat → Nat → Int32, fm_Rs a a' 5052 ∧ R = (none, fm g tp bt a' b)) := by
    intro r
    induction r with
    | zero =>
      intro k hk a' h1 h2 h3
      obtain rfl : k = 478 := by omega
      refine fe_s 2 (pc' := 6) (lc' := [(2, .int (nI 478)), (0, .ref 0), (1, .int 5052)]) (stk' := [.int 478, .int (nI 478)]) (mem' := fm g tp bt a' b) (by intro _ _ _; eq_refl) ?_
      refine fe_s 1 (pc' := cond (fx_cb .ge (nI 478) 478) 29 9) (lc' := [(2, .int (nI 478)), (0, .ref 0), (1, .int 5052)]) (stk' := []) (mem' := fm g tp bt a' b) (by intro _ _ _; eq_refl) ?_
      rw [show (fx_cb .ge (nI 478) 478) = true from cb_geT (a := 478) (b := 478) (by omega) (by omega) (by omega)]
      dsimp only [cond]
      exact fe_ret ⟨a', ⟨h1, h2, h3⟩, rfl⟩ (by rfl) (by rfl) (by rfl)
    | succ r ih =>
      intro k hk a' h1 h2 h3
      refine fe_s 2 (pc' := 6) (lc' := [(2, .int (nI k)), (0, .ref 0), (1, .int 5052)]) (stk' := [.int 478, .int (nI k)]) (mem' := fm g tp bt a' b) (by intro _ _ _; eq_refl) ?_
      refine fe_s 1 (pc' := cond (fx_cb .ge (nI k) 478) 29 9) (lc' := [(2, .int (nI k)), (0, .ref 0), (1, .int 5052)]) (stk' := []) (mem' := fm g tp bt a' b) (by intro _ _ _; eq_refl) ?_
      rw [show (fx_cb .ge (nI k) 478) = false from cb_geF (a := k) (b := 478) (by omega) (by omega) (by omega)]
      dsimp only [cond]
      refine fe_s 8 (pc' := 21) (lc' := [(2, .int (nI k)), (0, .ref 0), (1, .int 5052)]) (stk' := [.int (5052 + (nI k)), .ref 1, .int (nI k), .ref 1]) (mem' := fm g tp bt a' b) (by intro _ _ _; eq_refl) ?_
      rw [show (5052 + (nI k) : Int32) = nI (5052 + k) from by simp only [show (5052 : Int32) = nI 5052 from rfl, nI_add, fm_mul]]
      refine fe_ldI (by rfl) (by rfl) (fx_inN (i := 5052 + k) (by omega) (by omega)) ?_
      rw [show Int32.toNatClampNeg (nI (5052 + k)) = 5052 + k from nI_clamp (by omega)]
      refine fe_stI (mem' := fm g tp bt (fm_u a' 1 (nI k : Int32).toNatClampNeg (a' 1 (5052 + k))) b) (by rfl) (by rfl) (fx_inN (i := k) (by omega) (by omega)) fm_si1 ?_
      rw [show Int32.toNatClampNeg (nI k) = k from nI_clamp (by omega)]
      refine fe_s 2 (pc' := 2) (lc' := [(2, .int ((nI k) + 1)), (0, .ref 0), (1, .int 5052)]) (stk' := []) (mem' := fm g tp bt (fm_u a' 1 (k) (a' 1 (5052 + k))) b) (by intro _ _ _; eq_refl) ?_
      rw [show ((nI k) + 1 : Int32) = nI (k + 1) from by simp only [show (1 : Int32) = nI 1 from rfl, nI_add, fm_mul]]
      refine ih (k + 1) (by omega) _ (fun t ht => by rw [fm_ut ht]; exact h1 t ht) (fun i hi => by rw [fm_u1, if_neg (by omega)]; exact h2 i (by omega)) (fun i hi => ?_)
      rw [fm_u1]
      by_cases e : i = k
      · rw [if_pos (by omega), h2 _ (by omega), e]
      · rw [if_neg (by omega)]; exact h3 i (by omega)
  refine fe_s 2 (pc' := 2) (lc' := [(2, .int 0), (0, .ref 0), (1, .int 5052)]) (stk' := []) (mem' := fm g tp bt a b) (by intro _ _ _; eq_refl) ?_
  exact loop 478 0 (by omega) a (fun _ _ => rfl) (fun _ _ => rfl) (fun i hi => absurd hi (Nat.not_lt_zero i))
theorem fr_isIceX {c : Int32} {NC : Nat} (eN : a 1 0 = nI NC) (hN : NC ≤ 10) : ∃ (r : Option Value) (mem' : fx_M), (fun R => ∃ z : Int32, (z = 0 ∨ z = 1 ∧ ∃ C, C < 10 ∧ c = nI C) ∧ R = (some (.int z), fm g tp bt a b)) (r, mem') ∧ fr_T 3 257 [.ref 0, .int c] (fm g tp bt a b) r mem' := by
  refine fe_meth (F := fun R => ∃ z : Int32, (z = 0 ∨ z = 1 ∧ ∃ C, C < 10 ∧ c = nI C) ∧ R = (some (.int z), fm g tp bt a b)) (M := gk_m257) (by rfl) (by rfl) ?_
  refine fe_s 3 (pc' := 3) (lc' := [(0, .ref 0), (1, .int c)]) (stk' := [.long (c.toInt64), .ref 0]) (mem' := fm g tp bt a b) (by intro _ _ _; eq_refl) ?_
  obtain ⟨v3, mem3, ⟨x3, hx3, hR3⟩, hfr3⟩ := fr_isCellX (c := c.toInt64) (g := g) (tp := tp) (bt := bt) (b := b) eN hN
  cases hR3
  refine fe_ivV hfr3 (by omega) (by rfl) (by rfl) (by rfl) (by rfl) (by rfl) (by rfl) ?_
  rcases hx3 with rfl | ⟨rfl, C3, hC3, e3⟩
  · refine fe_s 1 (pc' := cond (fx_cb .eq 0 0) 21 9) (lc' := [(0, .ref 0), (1, .int c)]) (stk' := []) (mem' := fm g tp bt a b) (by intro _ _ _; eq_refl) ?_
    rw [show (fx_cb .eq 0 0) = true from by decide]
    dsimp only [cond]
    refine fe_s 1 (pc' := 22) (lc' := [(0, .ref 0), (1, .int c)]) (stk' := [.int 0]) (mem' := fm g tp bt a b) (by intro _ _ _; eq_refl) ?_
    exact fe_ret ⟨_, Or.inl rfl, rfl⟩ (by rfl) (by rfl) (by rfl)
  · obtain rfl := fm_i64c e3 (by omega)
    refine fe_s 1 (pc' := cond (fx_cb .eq 1 0) 21 9) (lc' := [(0, .ref 0), (1, .int (nI C3))]) (stk' := []) (mem' := fm g tp bt a b) (by intro _ _ _; eq_refl) ?_
    rw [show (fx_cb .eq 1 0) = false from by decide]
    dsimp only [cond]
    refine fe_s 2 (pc' := 11) (lc' := [(0, .ref 0), (1, .int (nI C3))]) (stk' := [.int (nI C3), .ref 0]) (mem' := fm g tp bt a b) (by intro _ _ _; eq_refl) ?_
    obtain ⟨v1, z2, hv1⟩ := fq_isShore (C := C3) (g := g) (tp := tp) (bt := bt) (a := a) (b := b) (by omega)
    refine fe_ivV hv1 (by omega) (by rfl) (by rfl) (by rfl) (by rfl) (by rfl) (by rfl) ?_
    rcases z2 with rfl | rfl
    · refine fe_s 1 (pc' := cond (fx_cb .ne 0 0) 21 17) (lc' := [(0, .ref 0), (1, .int (nI C3))]) (stk' := []) (mem' := fm g tp bt a b) (by intro _ _ _; eq_refl) ?_
      rw [show (fx_cb .ne 0 0) = false from by decide]
      dsimp only [cond]
      refine fe_s 2 (pc' := 22) (lc' := [(0, .ref 0), (1, .int (nI C3))]) (stk' := [.int 1]) (mem' := fm g tp bt a b) (by intro _ _ _; eq_refl) ?_
      exact fe_ret ⟨_, Or.inr ⟨rfl, C3, by omega, rfl⟩, rfl⟩ (by rfl) (by rfl) (by rfl)
    · refine fe_s 1 (pc' := cond (fx_cb .ne 1 0) 21 17) (lc' := [(0, .ref 0), (1, .int (nI C3))]) (stk' := []) (mem' := fm g tp bt a b) (by intro _ _ _; eq_refl) ?_
      rw [show (fx_cb .ne 1 0) = true from by decide]
      dsimp only [cond]
      refine fe_s 1 (pc' := 22) (lc' := [(0, .ref 0), (1, .int (nI C3))]) (stk' := [.int 0]) (mem' := fm g tp bt a b) (by intro _ _ _; eq_refl) ?_
      exact fe_ret ⟨_, Or.inl rfl, rfl⟩ (by rfl) (by rfl) (by rfl)
end FKP
end MH6_3
section MH6_4
/-! ===== fx: steps; how long till; whether it holds ===== -/
section FRD
variable {g : Nat → Int32} {tp bt : Int64} {a0 a : Nat → Nat → Int32} {b : Nat → Nat → Int64}
theorem fr_step {n : Int32} (hBa : fm_B a) (hgb : fm_gb g) : ∃ (v : Option Value) (mem' : fx_M), (fm_PO g tp bt a b) (v, mem') ∧ fr_T 8 293 [.ref 0, .int n] (fm g tp bt a b) v mem' := by
  have hG := fm_G_rf hgb
  have hB := hBa
  obtain ⟨NC, hNC, eNC⟩ := fm_B_0 hB (i := 0) (n := 10) (by decide) rfl
  obtain ⟨NW, hNW, eNW⟩ := fm_B_0 hB (i := 1) (n := 8) (by decide) rfl
  obtain ⟨NG, hNG, eNG⟩ := fm_B_0 hB (i := 3) (n := 20) (by decide) rfl
  obtain ⟨T, hT9, eT⟩ := fm_T5 hB
  have hD : fm_D a a T := fm_D_rf hB eT (by omega)
  refine fe_meth (F := fm_PO g tp bt a b) (M := gk_m293) (by rfl) (by rfl) ?_
  refine fe_s 4 (pc' := 6) (lc' := [(0, .ref 0), (1, .int n)]) (stk' := [.long 20, .long (1 : Int64), .long (n.toInt64)]) (mem' := fm g tp bt a b) (by intro _ _ _; eq_refl) ?_
  obtain ⟨vf1, memf1, ⟨xf1, hxf1, hRf1⟩, hfrf1⟩ := fr_isFrom (v := n.toInt64) (l := (1 : Int64)) (m := 20) (mem := fm g tp bt a b)
  cases hRf1
  refine fe_ivS hfrf1 (by omega) (by rfl) (by rfl) (by rfl) (by rfl) (by rfl) ?_
  rcases hxf1 with ⟨rfl, -⟩ | ⟨rfl, hlf1, hmf1⟩
  · refine fe_s 1 (pc' := cond (fx_cb .ne 0 0) 18 12) (lc' := [(0, .ref 0), (1, .int n)]) (stk' := []) (mem' := fm g tp bt a b) (by intro _ _ _; eq_refl) ?_
    rw [show (fx_cb .ne 0 0) = false from by decide]
    dsimp only [cond]
    refine fe_s 2 (pc' := 14) (lc' := [(0, .ref 0), (1, .int n)]) (stk' := [.int 1, .ref 0]) (mem' := fm g tp bt a b) (by intro _ _ _; eq_refl) ?_
    refine fe_ivV (fr_refuse (x := 1)) (by omega) (by rfl) (by rfl) (by rfl) (by rfl) (by rfl) (by rfl) ?_
    exact fe_ret ⟨_, _, _, _, _, _, (fm_E_rf hBa), (fm_G_2 hG (by decide) (by decide)), (fun _ _ _ => rfl), rfl⟩ (by rfl) (by rfl) (by rfl)
  · obtain ⟨m, hm, rfl⟩ : ∃ qq, qq ≤ 20 ∧ n = nI qq := by
      rw [Int32.toInt_toInt64] at hlf1 hmf1
      rw [show (((20 : Int64)).toInt) = 20 from rfl] at hmf1
      rw [show (((1 : Int64)).toInt) = 1 from rfl] at hlf1
      exact nI_bd (n := 20) (by omega) hmf1
    have h1m : 1 ≤ m := by
      rw [Int32.toInt_toInt64, nI_i32 (by omega), show (((1 : Int64)).toInt) = 1 from rfl] at hlf1; omega
    refine fe_s 1 (pc' := cond (fx_cb .ne 1 0) 18 12) (lc' := [(0, .ref 0), (1, .int (nI m))]) (stk' := []) (mem' := fm g tp bt a b) (by intro _ _ _; eq_refl) ?_
    rw [show (fx_cb .ne 1 0) = true from by decide]
    dsimp only [cond]
    refine fe_s 3 (pc' := 23) (lc' := [(0, .ref 0), (1, .int (nI m))]) (stk' := [.int 5, .ref 1]) (mem' := fm g tp bt a b) (by intro _ _ _; eq_refl) ?_
    refine fe_ldI (by rfl) (by rfl) (fx_inN (i := 5) (by omega) (by omega)) ?_
    rw [show Int32.toNatClampNeg (5) = 5 from rfl]
    rw [show a 1 5 = nI T from hD.2.2.2.1]
    refine fe_s 3 (pc' := 29) (lc' := [(0, .ref 0), (1, .int (nI m))]) (stk' := [.int 9999, .int ((nI T) + (nI m))]) (mem' := fm g tp bt a b) (by intro _ _ _; eq_refl) ?_
    rw [show ((nI T) + (nI m) : Int32) = nI (T + m) from by simp only [nI_add, fm_mul]]
    refine fe_s 1 (pc' := cond (fx_cb .le (nI (T + m)) 9999) 38 32) (lc' := [(0, .ref 0), (1, .int (nI m))]) (stk' := []) (mem' := fm g tp bt a b) (by intro _ _ _; eq_refl) ?_
    by_cases h2 : (T + m) ≤ 9999
    · rw [show (fx_cb .le (nI (T + m)) 9999) = true from cb_leT (a := T + m) (b := 9999) (by omega) (by omega) (by omega)]
      dsimp only [cond]
      refine fe_s 4 (pc' := 42) (lc' := [(3, .int 0), (2, .int 0), (0, .ref 0), (1, .int (nI m))]) (stk' := []) (mem' := fm g tp bt a b) (by intro _ _ _; eq_refl) ?_
      have loop3 : ∀ (r i3 : Nat), i3 + r = m → ∀ (x2_3 : Int32), ∀ (a_3 : Nat → Nat → Int32) (T_3 : Nat), T_3 ≤ T + i3 → fm_D a a_3 T_3 → fe_R 7 gk_m293 42 [(3, .int (nI i3)), (2, .int x2_3), (0, .ref 0), (1, .int (nI m))] [] (fm g tp bt a_3 b) (fm_PO g tp bt a b) := by
        intro r
        induction r with
        | zero =>
          intro i3 hi3 x2_3 a_3 T_3 hT3 hD_3
          obtain rfl : m = i3 := by omega
          refine fe_s 2 (pc' := 44) (lc' := [(3, .int (nI m)), (2, .int x2_3), (0, .ref 0), (1, .int (nI m))]) (stk' := [.int (nI m), .int (nI m)]) (mem' := fm g tp bt a_3 b) (by intro _ _ _; eq_refl) ?_
          refine fe_s 1 (pc' := cond (fx_cb .ge (nI m) (nI m)) 60 47) (lc' := [(3, .int (nI m)), (2, .int x2_3), (0, .ref 0), (1, .int (nI m))]) (stk' := []) (mem' := fm g tp bt a_3 b) (by intro _ _ _; eq_refl) ?_
          rw [show (fx_cb .ge (nI m) (nI m)) = true from cb_geT (a := m) (b := m) (by omega) (by omega) (by omega)]
          dsimp only [cond]
          refine fe_s 2 (pc' := 62) (lc' := [(3, .int (nI m)), (2, .int x2_3), (0, .ref 0), (1, .int (nI m))]) (stk' := [.int x2_3, .ref 0]) (mem' := fm g tp bt a_3 b) (by intro _ _ _; eq_refl) ?_
          refine fe_ivV (fr_gives (x := x2_3)) (by omega) (by rfl) (by rfl) (by rfl) (by rfl) (by rfl) (by rfl) ?_
          exact fe_ret ⟨_, _, _, _, _, _, fm_E_D hB hD_3 (by omega), (fm_G_2 hG (by decide) (by decide)), (fun _ _ _ => rfl), rfl⟩ (by rfl) (by rfl) (by rfl)
        | succ r ih3 =>
          intro i3 hi3 x2_3 a_3 T_3 hT3 hD_3
          have hl3 : i3 < m := by omega
          refine fe_s 2 (pc' := 44) (lc' := [(3, .int (nI i3)), (2, .int x2_3), (0, .ref 0), (1, .int (nI m))]) (stk' := [.int (nI m), .int (nI i3)]) (mem' := fm g tp bt a_3 b) (by intro _ _ _; eq_refl) ?_
          refine fe_s 1 (pc' := cond (fx_cb .ge (nI i3) (nI m)) 60 47) (lc' := [(3, .int (nI i3)), (2, .int x2_3), (0, .ref 0), (1, .int (nI m))]) (stk' := []) (mem' := fm g tp bt a_3 b) (by intro _ _ _; eq_refl) ?_
          rw [show (fx_cb .ge (nI i3) (nI m)) = false from cb_geF (a := i3) (b := m) (by omega) (by omega) (by omega)]
          dsimp only [cond]
          refine fe_s 2 (pc' := 49) (lc' := [(3, .int (nI i3)), (2, .int x2_3), (0, .ref 0), (1, .int (nI m))]) (stk' := [.ref 0, .int x2_3]) (mem' := fm g tp bt a_3 b) (by intro _ _ _; eq_refl) ?_
          obtain ⟨vd4, memd4, ⟨xd4, ad4, hDd4, hRd4⟩, hfrd4⟩ := fr_goes (T := T_3) (g := g) (tp := tp) (bt := bt) (a := a_3) (b := b) hB hD_3 (by omega)
          cases hRd4
          refine fe_ivV hfrd4 (by omega) (by rfl) (by rfl) (by rfl) (by rfl) (by rfl) (by rfl) ?_
          refine fe_s 4 (pc' := 42) (lc' := [(3, .int ((nI i3) + 1)), (2, .int (x2_3 ||| xd4)), (0, .ref 0), (1, .int (nI m))]) (stk' := []) (mem' := fm g tp bt ad4 b) (by intro _ _ _; eq_refl) ?_
          rw [show ((nI i3) + 1 : Int32) = nI (i3 + 1) from by simp only [show (1 : Int32) = nI 1 from rfl, nI_add, fm_mul]]
          exact ih3 (i3 + 1) (by omega) _ ad4 (T_3 + 1) (by omega) hDd4
      exact loop3 (m) 0 (by omega) _ a T (by omega) hD
    · rw [show (fx_cb .le (nI (T + m)) 9999) = false from cb_leF (a := T + m) (b := 9999) (by omega) (by omega) (by omega)]
      dsimp only [cond]
      refine fe_s 2 (pc' := 34) (lc' := [(0, .ref 0), (1, .int (nI m))]) (stk' := [.int 4, .ref 0]) (mem' := fm g tp bt a b) (by intro _ _ _; eq_refl) ?_
      refine fe_ivV (fr_refuse (x := 4)) (by omega) (by rfl) (by rfl) (by rfl) (by rfl) (by rfl) (by rfl) ?_
      exact fe_ret ⟨_, _, _, _, _, _, (fm_E_rf hBa), (fm_G_2 hG (by decide) (by decide)), (fun _ _ _ => rfl), rfl⟩ (by rfl) (by rfl) (by rfl)
theorem fr_ready {c m : Int32} (hBa : fm_B a) (hgb : fm_gb g) : ∃ (v : Option Value) (mem' : fx_M), (fm_PO g tp bt a b) (v, mem') ∧ fr_T 9 328 [.ref 0, .int c, .int m] (fm g tp bt a b) v mem' := by
  have hG := fm_G_rf hgb
  obtain ⟨NCa, hNCa, eNCa⟩ := fm_B_0 hBa (i := 0) (n := 10) (by decide) rfl
  obtain ⟨NWa, hNWa, eNWa⟩ := fm_B_0 hBa (i := 1) (n := 8) (by decide) rfl
  refine fe_meth (F := fm_PO g tp bt a b) (M := gk_m328) (by rfl) (by rfl) ?_
  refine fe_s 2 (pc' := 2) (lc' := [(0, .ref 0), (1, .int c), (2, .int m)]) (stk' := [.int c, .ref 0]) (mem' := fm g tp bt a b) (by intro _ _ _; eq_refl) ?_
  obtain ⟨vj1, memj1, ⟨xj1, hxj1, hRj1⟩, hfrj1⟩ := fr_isIceX (c := c) (g := g) (tp := tp) (bt := bt) (b := b) eNCa hNCa
  cases hRj1
  refine fe_ivV hfrj1 (by omega) (by rfl) (by rfl) (by rfl) (by rfl) (by rfl) (by rfl) ?_
  rcases hxj1 with rfl | ⟨rfl, Cj1, hCj1, rfl⟩
  · refine fe_s 1 (pc' := cond (fx_cb .eq 0 0) 20 8) (lc' := [(0, .ref 0), (1, .int c), (2, .int m)]) (stk' := []) (mem' := fm g tp bt a b) (by intro _ _ _; eq_refl) ?_
    rw [show (fx_cb .eq 0 0) = true from by decide]
    dsimp only [cond]
    refine fe_s 2 (pc' := 22) (lc' := [(0, .ref 0), (1, .int c), (2, .int m)]) (stk' := [.int 1, .ref 0]) (mem' := fm g tp bt a b) (by intro _ _ _; eq_refl) ?_
    refine fe_ivV (fr_refuse (x := 1)) (by omega) (by rfl) (by rfl) (by rfl) (by rfl) (by rfl) (by rfl) ?_
    exact fe_ret ⟨_, _, _, _, _, _, (fm_E_rf hBa), (fm_G_2 hG (by decide) (by decide)), (fun _ _ _ => rfl), rfl⟩ (by rfl) (by rfl) (by rfl)
  · refine fe_s 1 (pc' := cond (fx_cb .eq 1 0) 20 8) (lc' := [(0, .ref 0), (1, .int (nI Cj1)), (2, .int m)]) (stk' := []) (mem' := fm g tp bt a b) (by intro _ _ _; eq_refl) ?_
    rw [show (fx_cb .eq 1 0) = false from by decide]
    dsimp only [cond]
    refine fe_s 4 (pc' := 14) (lc' := [(0, .ref 0), (1, .int (nI Cj1)), (2, .int m)]) (stk' := [.long 999, .long (0 : Int64), .long (m.toInt64)]) (mem' := fm g tp bt a b) (by intro _ _ _; eq_refl) ?_
    obtain ⟨vf2, memf2, ⟨xf2, hxf2, hRf2⟩, hfrf2⟩ := fr_isFrom (v := m.toInt64) (l := (0 : Int64)) (m := 999) (mem := fm g tp bt a b)
    cases hRf2
    refine fe_ivS hfrf2 (by omega) (by rfl) (by rfl) (by rfl) (by rfl) (by rfl) ?_
    rcases hxf2 with ⟨rfl, -⟩ | ⟨rfl, hlf2, hmf2⟩
    · refine fe_s 1 (pc' := cond (fx_cb .ne 0 0) 26 20) (lc' := [(0, .ref 0), (1, .int (nI Cj1)), (2, .int m)]) (stk' := []) (mem' := fm g tp bt a b) (by intro _ _ _; eq_refl) ?_
      rw [show (fx_cb .ne 0 0) = false from by decide]
      dsimp only [cond]
      refine fe_s 2 (pc' := 22) (lc' := [(0, .ref 0), (1, .int (nI Cj1)), (2, .int m)]) (stk' := [.int 1, .ref 0]) (mem' := fm g tp bt a b) (by intro _ _ _; eq_refl) ?_
      refine fe_ivV (fr_refuse (x := 1)) (by omega) (by rfl) (by rfl) (by rfl) (by rfl) (by rfl) (by rfl) ?_
      exact fe_ret ⟨_, _, _, _, _, _, (fm_E_rf hBa), (fm_G_2 hG (by decide) (by decide)), (fun _ _ _ => rfl), rfl⟩ (by rfl) (by rfl) (by rfl)
    · refine fe_s 1 (pc' := cond (fx_cb .ne 1 0) 26 20) (lc' := [(0, .ref 0), (1, .int (nI Cj1)), (2, .int m)]) (stk' := []) (mem' := fm g tp bt a b) (by intro _ _ _; eq_refl) ?_
      rw [show (fx_cb .ne 1 0) = true from by decide]
      dsimp only [cond]
      refine fe_s 2 (pc' := 30) (lc' := [(0, .ref 0), (1, .int (nI Cj1)), (2, .int m)]) (stk' := [.int 5052, .ref 0]) (mem' := fm g tp bt a b) (by intro _ _ _; eq_refl) ?_
      obtain ⟨vK, memK, ⟨a0, hK, hRK⟩, hfrK⟩ := fr_keeps5052 (g := g) (tp := tp) (bt := bt) (a := a) (b := b)
      cases hRK
      have hB : fm_B a0 := fm_kept hBa (by decide) hK
      obtain ⟨NC, hNC, eNC⟩ := fm_B_0 hB (i := 0) (n := 10) (by decide) rfl
      obtain ⟨NW, hNW, eNW⟩ := fm_B_0 hB (i := 1) (n := 8) (by decide) rfl
      obtain ⟨NG, hNG, eNG⟩ := fm_B_0 hB (i := 3) (n := 20) (by decide) rfl
      obtain ⟨T, hT9, eT⟩ := fm_T5 hB
      have hD : fm_D a0 a0 T := fm_D_rf hB eT (by omega)
      refine fe_ivV hfrK (by omega) (by rfl) (by rfl) (by rfl) (by rfl) (by rfl) (by rfl) ?_
      refine fe_s 1 (pc' := 34) (lc' := [(0, .ref 0), (1, .int (nI Cj1)), (2, .int m)]) (stk' := [.ref 0]) (mem' := fm g tp bt a0 b) (by intro _ _ _; eq_refl) ?_
      obtain ⟨vd3, memd3, ⟨ad3, hDd3, hRd3⟩, hfrd3⟩ := fr_stills (g := g) (tp := tp) (bt := bt) (a := a0) (b := b) hB hD
      cases hRd3
      refine fe_ivV hfrd3 (by omega) (by rfl) (by rfl) (by rfl) (by rfl) (by rfl) (by rfl) ?_
      refine fe_s 2 (pc' := 39) (lc' := [(3, .int 0), (0, .ref 0), (1, .int (nI Cj1)), (2, .int m)]) (stk' := []) (mem' := fm g tp bt ad3 b) (by intro _ _ _; eq_refl) ?_
      have loop4 : ∀ (r i4 : Nat), i4 + r = NW → ∀ a_4 : Nat → Nat → Int32, fm_D a0 a_4 T → fe_R 8 gk_m328 39 [(3, .int (nI i4)), (0, .ref 0), (1, .int (nI Cj1)), (2, .int m)] [] (fm g tp bt a_4 b) (fm_PO g tp bt a b) := by
        intro r
        induction r with
        | zero =>
          intro i4 hi4 a_4 hD_4
          obtain rfl : NW = i4 := by omega
          refine fe_s 4 (pc' := 45) (lc' := [(3, .int (nI NW)), (0, .ref 0), (1, .int (nI Cj1)), (2, .int m)]) (stk' := [.int 1, .ref 1, .int (nI NW)]) (mem' := fm g tp bt a_4 b) (by intro _ _ _; eq_refl) ?_
          refine fe_ldI (by rfl) (by rfl) (fx_inN (i := 1) (by omega) (by omega)) ?_
          rw [show Int32.toNatClampNeg (1) = 1 from rfl]
          rw [show a_4 1 1 = nI NW from (fm_D_h hD_4 (by decide) rfl).trans eNW]
          refine fe_s 1 (pc' := cond (fx_cb .ge (nI NW) (nI NW)) 67 49) (lc' := [(3, .int (nI NW)), (0, .ref 0), (1, .int (nI Cj1)), (2, .int m)]) (stk' := []) (mem' := fm g tp bt a_4 b) (by intro _ _ _; eq_refl) ?_
          rw [show (fx_cb .ge (nI NW) (nI NW)) = true from cb_geT (a := NW) (b := NW) (by omega) (by omega) (by omega)]
          dsimp only [cond]
          refine fe_s 2 (pc' := 69) (lc' := [(3, .int (nI NW)), (0, .ref 0), (1, .int (nI Cj1)), (2, .int m)]) (stk' := [.int (nI Cj1), .ref 0]) (mem' := fm g tp bt a_4 b) (by intro _ _ _; eq_refl) ?_
          obtain ⟨v5, z6, hv5⟩ := fq_isBroken (C := Cj1) (g := g) (tp := tp) (bt := bt) (a := a_4) (b := b) (by omega)
          refine fe_ivV hv5 (by omega) (by rfl) (by rfl) (by rfl) (by rfl) (by rfl) (by rfl) ?_
          rcases z6 with rfl | rfl
          · refine fe_s 1 (pc' := cond (fx_cb .eq 0 0) 80 75) (lc' := [(3, .int (nI NW)), (0, .ref 0), (1, .int (nI Cj1)), (2, .int m)]) (stk' := []) (mem' := fm g tp bt a_4 b) (by intro _ _ _; eq_refl) ?_
            rw [show (fx_cb .eq 0 0) = true from by decide]
            dsimp only [cond]
            refine fe_s 2 (pc' := 82) (lc' := [(3, .int 0), (0, .ref 0), (1, .int (nI Cj1)), (2, .int m)]) (stk' := []) (mem' := fm g tp bt a_4 b) (by intro _ _ _; eq_refl) ?_
            have loop7 : ∀ (r i7 : Nat), i7 + r = 21 → ∀ (a_7 : Nat → Nat → Int32) (T_7 : Nat), T_7 ≤ 9999 + i7 → fm_D a0 a_7 T_7 → fe_R 8 gk_m328 82 [(3, .int (nI i7)), (0, .ref 0), (1, .int (nI Cj1)), (2, .int m)] [] (fm g tp bt a_7 b) (fm_PO g tp bt a b) := by
              intro r
              induction r with
              | zero =>
                intro i7 hi7 a_7 T_7 hT7 hD_7
                obtain rfl : i7 = 21 := by omega
                refine fe_s 2 (pc' := 85) (lc' := [(3, .int (nI 21)), (0, .ref 0), (1, .int (nI Cj1)), (2, .int m)]) (stk' := [.int 20, .int (nI 21)]) (mem' := fm g tp bt a_7 b) (by intro _ _ _; eq_refl) ?_
                refine fe_s 1 (pc' := cond (fx_cb .gt (nI 21) 20) 108 88) (lc' := [(3, .int (nI 21)), (0, .ref 0), (1, .int (nI Cj1)), (2, .int m)]) (stk' := []) (mem' := fm g tp bt a_7 b) (by intro _ _ _; eq_refl) ?_
                rw [show (fx_cb .gt (nI 21) 20) = true from cb_gtT (a := 21) (b := 20) (by omega) (by omega) (by omega)]
                dsimp only [cond]
                refine fe_s 2 (pc' := 112) (lc' := [(3, .int (nI 21)), (0, .ref 0), (1, .int (nI Cj1)), (2, .int m)]) (stk' := [.int 5052, .ref 0]) (mem' := fm g tp bt a_7 b) (by intro _ _ _; eq_refl) ?_
                obtain ⟨vz8, memz8, ⟨az8, hSz8, hRz8⟩, hfrz8⟩ := fr_restores5052 (g := g) (tp := tp) (bt := bt) (a := a_7) (b := b)
                cases hRz8
                have hZz8 := fm_restd hB (by decide) hK hD_7 hSz8
                have hEz8 : fm_E a az8 := ⟨hZz8.1, fun t ht => hZz8.2.2 t (fm_okE_t ht), fun i hi => hZz8.2.1 i (by have := fm_st_n hi; omega)⟩
                refine fe_ivV hfrz8 (by omega) (by rfl) (by rfl) (by rfl) (by rfl) (by rfl) (by rfl) ?_
                refine fe_s 2 (pc' := 118) (lc' := [(3, .int (nI 21)), (0, .ref 0), (1, .int (nI Cj1)), (2, .int m)]) (stk' := [.int 20, .int (nI 21)]) (mem' := fm g tp bt az8 b) (by intro _ _ _; eq_refl) ?_
                refine fe_s 1 (pc' := cond (fx_cb .le (nI 21) 20) 130 121) (lc' := [(3, .int (nI 21)), (0, .ref 0), (1, .int (nI Cj1)), (2, .int m)]) (stk' := []) (mem' := fm g tp bt az8 b) (by intro _ _ _; eq_refl) ?_
                rw [show (fx_cb .le (nI 21) 20) = false from cb_leF (a := 21) (b := 20) (by omega) (by omega) (by omega)]
                dsimp only [cond]
                refine fe_s 2 (pc' := 124) (lc' := [(3, .int (nI 21)), (0, .ref 0), (1, .int (nI Cj1)), (2, .int m)]) (stk' := [.int 6, .ref 0]) (mem' := fm g tp bt az8 b) (by intro _ _ _; eq_refl) ?_
                refine fe_ivV (fr_refuse (x := 6)) (by omega) (by rfl) (by rfl) (by rfl) (by rfl) (by rfl) (by rfl) ?_
                refine fe_s 1 (pc' := 135) (lc' := [(3, .int (nI 21)), (0, .ref 0), (1, .int (nI Cj1)), (2, .int m)]) (stk' := [.int (-1)]) (mem' := fm (upd g 2 6) tp bt az8 b) (by intro _ _ _; eq_refl) ?_
                exact fe_ret ⟨_, _, _, _, _, _, hEz8, (fm_G_2 hG (by decide) (by decide)), (fun _ _ _ => rfl), rfl⟩ (by rfl) (by rfl) (by rfl)
              | succ r ih7 =>
                intro i7 hi7 a_7 T_7 hT7 hD_7
                have hl7 : i7 < 21 := by omega
                refine fe_s 2 (pc' := 85) (lc' := [(3, .int (nI i7)), (0, .ref 0), (1, .int (nI Cj1)), (2, .int m)]) (stk' := [.int 20, .int (nI i7)]) (mem' := fm g tp bt a_7 b) (by intro _ _ _; eq_refl) ?_
                refine fe_s 1 (pc' := cond (fx_cb .gt (nI i7) 20) 108 88) (lc' := [(3, .int (nI i7)), (0, .ref 0), (1, .int (nI Cj1)), (2, .int m)]) (stk' := []) (mem' := fm g tp bt a_7 b) (by intro _ _ _; eq_refl) ?_
                rw [show (fx_cb .gt (nI i7) 20) = false from cb_gtF (a := i7) (b := 20) (by omega) (by omega) (by omega)]
                dsimp only [cond]
                refine fe_s 2 (pc' := 90) (lc' := [(3, .int (nI i7)), (0, .ref 0), (1, .int (nI Cj1)), (2, .int m)]) (stk' := [.int (nI Cj1), .ref 0]) (mem' := fm g tp bt a_7 b) (by intro _ _ _; eq_refl) ?_
                obtain ⟨v9, hv9⟩ := fq_strengthOf (C := Cj1) (g := g) (tp := tp) (bt := bt) (a := a_7) (b := b) (fm_D_t hB hD_7) (by omega)
                refine fe_ivV hv9 (by omega) (by rfl) (by rfl) (by rfl) (by rfl) (by rfl) (by rfl) ?_
                refine fe_s 1 (pc' := 94) (lc' := [(3, .int (nI i7)), (0, .ref 0), (1, .int (nI Cj1)), (2, .int m)]) (stk' := [.int m, .int v9]) (mem' := fm g tp bt a_7 b) (by intro _ _ _; eq_refl) ?_
                refine fe_s 1 (pc' := cond (fx_cb .ge v9 m) 108 97) (lc' := [(3, .int (nI i7)), (0, .ref 0), (1, .int (nI Cj1)), (2, .int m)]) (stk' := []) (mem' := fm g tp bt a_7 b) (by intro _ _ _; eq_refl) ?_
                cases h10 : fx_cb .ge v9 m
                · refine fe_s 1 (pc' := 98) (lc' := [(3, .int (nI i7)), (0, .ref 0), (1, .int (nI Cj1)), (2, .int m)]) (stk' := [.ref 0]) (mem' := fm g tp bt a_7 b) (by intro _ _ _; eq_refl) ?_
                  obtain ⟨vd11, memd11, ⟨xd11, ad11, hDd11, hRd11⟩, hfrd11⟩ := fr_goes (T := T_7) (g := g) (tp := tp) (bt := bt) (a := a_7) (b := b) hB hD_7 (by omega)
                  cases hRd11
                  refine fe_ivV hfrd11 (by omega) (by rfl) (by rfl) (by rfl) (by rfl) (by rfl) (by rfl) ?_
                  refine fe_s 3 (pc' := 82) (lc' := [(3, .int ((nI i7) + 1)), (0, .ref 0), (1, .int (nI Cj1)), (2, .int m)]) (stk' := []) (mem' := fm g tp bt ad11 b) (by intro _ _ _; eq_refl) ?_
                  rw [show ((nI i7) + 1 : Int32) = nI (i7 + 1) from by simp only [show (1 : Int32) = nI 1 from rfl, nI_add, fm_mul]]
                  exact ih7 (i7 + 1) (by omega) ad11 (T_7 + 1) (by omega) hDd11
                · refine fe_s 2 (pc' := 112) (lc' := [(3, .int (nI i7)), (0, .ref 0), (1, .int (nI Cj1)), (2, .int m)]) (stk' := [.int 5052, .ref 0]) (mem' := fm g tp bt a_7 b) (by intro _ _ _; eq_refl) ?_
                  obtain ⟨vz12, memz12, ⟨az12, hSz12, hRz12⟩, hfrz12⟩ := fr_restores5052 (g := g) (tp := tp) (bt := bt) (a := a_7) (b := b)
                  cases hRz12
                  have hZz12 := fm_restd hB (by decide) hK hD_7 hSz12
                  have hEz12 : fm_E a az12 := ⟨hZz12.1, fun t ht => hZz12.2.2 t (fm_okE_t ht), fun i hi => hZz12.2.1 i (by have := fm_st_n hi; omega)⟩
                  refine fe_ivV hfrz12 (by omega) (by rfl) (by rfl) (by rfl) (by rfl) (by rfl) (by rfl) ?_
                  refine fe_s 2 (pc' := 118) (lc' := [(3, .int (nI i7)), (0, .ref 0), (1, .int (nI Cj1)), (2, .int m)]) (stk' := [.int 20, .int (nI i7)]) (mem' := fm g tp bt az12 b) (by intro _ _ _; eq_refl) ?_
                  refine fe_s 1 (pc' := cond (fx_cb .le (nI i7) 20) 130 121) (lc' := [(3, .int (nI i7)), (0, .ref 0), (1, .int (nI Cj1)), (2, .int m)]) (stk' := []) (mem' := fm g tp bt az12 b) (by intro _ _ _; eq_refl) ?_
                  rw [show (fx_cb .le (nI i7) 20) = true from cb_leT (a := i7) (b := 20) (by omega) (by omega) (by omega)]
                  dsimp only [cond]
                  refine fe_s 2 (pc' := 132) (lc' := [(3, .int (nI i7)), (0, .ref 0), (1, .int (nI Cj1)), (2, .int m)]) (stk' := [.int (nI i7), .ref 0]) (mem' := fm g tp bt az12 b) (by intro _ _ _; eq_refl) ?_
                  refine fe_ivV (fr_gives (x := nI i7)) (by omega) (by rfl) (by rfl) (by rfl) (by rfl) (by rfl) (by rfl) ?_
                  exact fe_ret ⟨_, _, _, _, _, _, hEz12, (fm_G_2 hG (by decide) (by decide)), (fun _ _ _ => rfl), rfl⟩ (by rfl) (by rfl) (by rfl)
            exact loop7 21 0 (by omega) a_4 T (by omega) hD_4
          · refine fe_s 1 (pc' := cond (fx_cb .eq 1 0) 80 75) (lc' := [(3, .int (nI NW)), (0, .ref 0), (1, .int (nI Cj1)), (2, .int m)]) (stk' := []) (mem' := fm g tp bt a_4 b) (by intro _ _ _; eq_refl) ?_
            rw [show (fx_cb .eq 1 0) = false from by decide]
            dsimp only [cond]
            refine fe_s 3 (pc' := 82) (lc' := [(3, .int 21), (0, .ref 0), (1, .int (nI Cj1)), (2, .int m)]) (stk' := []) (mem' := fm g tp bt a_4 b) (by intro _ _ _; eq_refl) ?_
            have loop13 : ∀ (r i13 : Nat), i13 + r = 21 → ∀ (a_13 : Nat → Nat → Int32) (T_13 : Nat), T_13 ≤ 9999 + i13 → fm_D a0 a_13 T_13 → fe_R 8 gk_m328 82 [(3, .int (nI i13)), (0, .ref 0), (1, .int (nI Cj1)), (2, .int m)] [] (fm g tp bt a_13 b) (fm_PO g tp bt a b) := by
              intro r
              induction r with
              | zero =>
                intro i13 hi13 a_13 T_13 hT13 hD_13
                obtain rfl : i13 = 21 := by omega
                refine fe_s 2 (pc' := 85) (lc' := [(3, .int (nI 21)), (0, .ref 0), (1, .int (nI Cj1)), (2, .int m)]) (stk' := [.int 20, .int (nI 21)]) (mem' := fm g tp bt a_13 b) (by intro _ _ _; eq_refl) ?_
                refine fe_s 1 (pc' := cond (fx_cb .gt (nI 21) 20) 108 88) (lc' := [(3, .int (nI 21)), (0, .ref 0), (1, .int (nI Cj1)), (2, .int m)]) (stk' := []) (mem' := fm g tp bt a_13 b) (by intro _ _ _; eq_refl) ?_
                rw [show (fx_cb .gt (nI 21) 20) = true from cb_gtT (a := 21) (b := 20) (by omega) (by omega) (by omega)]
                dsimp only [cond]
                refine fe_s 2 (pc' := 112) (lc' := [(3, .int (nI 21)), (0, .ref 0), (1, .int (nI Cj1)), (2, .int m)]) (stk' := [.int 5052, .ref 0]) (mem' := fm g tp bt a_13 b) (by intro _ _ _; eq_refl) ?_
                obtain ⟨vz14, memz14, ⟨az14, hSz14, hRz14⟩, hfrz14⟩ := fr_restores5052 (g := g) (tp := tp) (bt := bt) (a := a_13) (b := b)
                cases hRz14
                have hZz14 := fm_restd hB (by decide) hK hD_13 hSz14
                have hEz14 : fm_E a az14 := ⟨hZz14.1, fun t ht => hZz14.2.2 t (fm_okE_t ht), fun i hi => hZz14.2.1 i (by have := fm_st_n hi; omega)⟩
                refine fe_ivV hfrz14 (by omega) (by rfl) (by rfl) (by rfl) (by rfl) (by rfl) (by rfl) ?_
                refine fe_s 2 (pc' := 118) (lc' := [(3, .int (nI 21)), (0, .ref 0), (1, .int (nI Cj1)), (2, .int m)]) (stk' := [.int 20, .int (nI 21)]) (mem' := fm g tp bt az14 b) (by intro _ _ _; eq_refl) ?_
                refine fe_s 1 (pc' := cond (fx_cb .le (nI 21) 20) 130 121) (lc' := [(3, .int (nI 21)), (0, .ref 0), (1, .int (nI Cj1)), (2, .int m)]) (stk' := []) (mem' := fm g tp bt az14 b) (by intro _ _ _; eq_refl) ?_
                rw [show (fx_cb .le (nI 21) 20) = false from cb_leF (a := 21) (b := 20) (by omega) (by omega) (by omega)]
                dsimp only [cond]
                refine fe_s 2 (pc' := 124) (lc' := [(3, .int (nI 21)), (0, .ref 0), (1, .int (nI Cj1)), (2, .int m)]) (stk' := [.int 6, .ref 0]) (mem' := fm g tp bt az14 b) (by intro _ _ _; eq_refl) ?_
                refine fe_ivV (fr_refuse (x := 6)) (by omega) (by rfl) (by rfl) (by rfl) (by rfl) (by rfl) (by rfl) ?_
                refine fe_s 1 (pc' := 135) (lc' := [(3, .int (nI 21)), (0, .ref 0), (1, .int (nI Cj1)), (2, .int m)]) (stk' := [.int (-1)]) (mem' := fm (upd g 2 6) tp bt az14 b) (by intro _ _ _; eq_refl) ?_
                exact fe_ret ⟨_, _, _, _, _, _, hEz14, (fm_G_2 hG (by decide) (by decide)), (fun _ _ _ => rfl), rfl⟩ (by rfl) (by rfl) (by rfl)
              | succ r ih13 =>
                intro i13 hi13 a_13 T_13 hT13 hD_13
                have hl13 : i13 < 21 := by omega
                refine fe_s 2 (pc' := 85) (lc' := [(3, .int (nI i13)), (0, .ref 0), (1, .int (nI Cj1)), (2, .int m)]) (stk' := [.int 20, .int (nI i13)]) (mem' := fm g tp bt a_13 b) (by intro _ _ _; eq_refl) ?_
                refine fe_s 1 (pc' := cond (fx_cb .gt (nI i13) 20) 108 88) (lc' := [(3, .int (nI i13)), (0, .ref 0), (1, .int (nI Cj1)), (2, .int m)]) (stk' := []) (mem' := fm g tp bt a_13 b) (by intro _ _ _; eq_refl) ?_
                rw [show (fx_cb .gt (nI i13) 20) = false from cb_gtF (a := i13) (b := 20) (by omega) (by omega) (by omega)]
                dsimp only [cond]
                refine fe_s 2 (pc' := 90) (lc' := [(3, .int (nI i13)), (0, .ref 0), (1, .int (nI Cj1)), (2, .int m)]) (stk' := [.int (nI Cj1), .ref 0]) (mem' := fm g tp bt a_13 b) (by intro _ _ _; eq_refl) ?_
                obtain ⟨v15, hv15⟩ := fq_strengthOf (C := Cj1) (g := g) (tp := tp) (bt := bt) (a := a_13) (b := b) (fm_D_t hB hD_13) (by omega)
                refine fe_ivV hv15 (by omega) (by rfl) (by rfl) (by rfl) (by rfl) (by rfl) (by rfl) ?_
                refine fe_s 1 (pc' := 94) (lc' := [(3, .int (nI i13)), (0, .ref 0), (1, .int (nI Cj1)), (2, .int m)]) (stk' := [.int m, .int v15]) (mem' := fm g tp bt a_13 b) (by intro _ _ _; eq_refl) ?_
                refine fe_s 1 (pc' := cond (fx_cb .ge v15 m) 108 97) (lc' := [(3, .int (nI i13)), (0, .ref 0), (1, .int (nI Cj1)), (2, .int m)]) (stk' := []) (mem' := fm g tp bt a_13 b) (by intro _ _ _; eq_refl) ?_
                cases h16 : fx_cb .ge v15 m
                · refine fe_s 1 (pc' := 98) (lc' := [(3, .int (nI i13)), (0, .ref 0), (1, .int (nI Cj1)), (2, .int m)]) (stk' := [.ref 0]) (mem' := fm g tp bt a_13 b) (by intro _ _ _; eq_refl) ?_
                  obtain ⟨vd17, memd17, ⟨xd17, ad17, hDd17, hRd17⟩, hfrd17⟩ := fr_goes (T := T_13) (g := g) (tp := tp) (bt := bt) (a := a_13) (b := b) hB hD_13 (by omega)
                  cases hRd17
                  refine fe_ivV hfrd17 (by omega) (by rfl) (by rfl) (by rfl) (by rfl) (by rfl) (by rfl) ?_
                  refine fe_s 3 (pc' := 82) (lc' := [(3, .int ((nI i13) + 1)), (0, .ref 0), (1, .int (nI Cj1)), (2, .int m)]) (stk' := []) (mem' := fm g tp bt ad17 b) (by intro _ _ _; eq_refl) ?_
                  rw [show ((nI i13) + 1 : Int32) = nI (i13 + 1) from by simp only [show (1 : Int32) = nI 1 from rfl, nI_add, fm_mul]]
                  exact ih13 (i13 + 1) (by omega) ad17 (T_13 + 1) (by omega) hDd17
                · refine fe_s 2 (pc' := 112) (lc' := [(3, .int (nI i13)), (0, .ref 0), (1, .int (nI Cj1)), (2, .int m)]) (stk' := [.int 5052, .ref 0]) (mem' := fm g tp bt a_13 b) (by intro _ _ _; eq_refl) ?_
                  obtain ⟨vz18, memz18, ⟨az18, hSz18, hRz18⟩, hfrz18⟩ := fr_restores5052 (g := g) (tp := tp) (bt := bt) (a := a_13) (b := b)
                  cases hRz18
                  have hZz18 := fm_restd hB (by decide) hK hD_13 hSz18
                  have hEz18 : fm_E a az18 := ⟨hZz18.1, fun t ht => hZz18.2.2 t (fm_okE_t ht), fun i hi => hZz18.2.1 i (by have := fm_st_n hi; omega)⟩
                  refine fe_ivV hfrz18 (by omega) (by rfl) (by rfl) (by rfl) (by rfl) (by rfl) (by rfl) ?_
                  refine fe_s 2 (pc' := 118) (lc' := [(3, .int (nI i13)), (0, .ref 0), (1, .int (nI Cj1)), (2, .int m)]) (stk' := [.int 20, .int (nI i13)]) (mem' := fm g tp bt az18 b) (by intro _ _ _; eq_refl) ?_
                  refine fe_s 1 (pc' := cond (fx_cb .le (nI i13) 20) 130 121) (lc' := [(3, .int (nI i13)), (0, .ref 0), (1, .int (nI Cj1)), (2, .int m)]) (stk' := []) (mem' := fm g tp bt az18 b) (by intro _ _ _; eq_refl) ?_
                  rw [show (fx_cb .le (nI i13) 20) = true from cb_leT (a := i13) (b := 20) (by omega) (by omega) (by omega)]
                  dsimp only [cond]
                  refine fe_s 2 (pc' := 132) (lc' := [(3, .int (nI i13)), (0, .ref 0), (1, .int (nI Cj1)), (2, .int m)]) (stk' := [.int (nI i13), .ref 0]) (mem' := fm g tp bt az18 b) (by intro _ _ _; eq_refl) ?_
                  refine fe_ivV (fr_gives (x := nI i13)) (by omega) (by rfl) (by rfl) (by rfl) (by rfl) (by rfl) (by rfl) ?_
                  exact fe_ret ⟨_, _, _, _, _, _, hEz18, (fm_G_2 hG (by decide) (by decide)), (fun _ _ _ => rfl), rfl⟩ (by rfl) (by rfl) (by rfl)
            exact loop13 0 21 (by omega) a_4 T (by omega) hD_4
        | succ r ih4 =>
          intro i4 hi4 a_4 hD_4
          have hl4 : i4 < NW := by omega
          refine fe_s 4 (pc' := 45) (lc' := [(3, .int (nI i4)), (0, .ref 0), (1, .int (nI Cj1)), (2, .int m)]) (stk' := [.int 1, .ref 1, .int (nI i4)]) (mem' := fm g tp bt a_4 b) (by intro _ _ _; eq_refl) ?_
          refine fe_ldI (by rfl) (by rfl) (fx_inN (i := 1) (by omega) (by omega)) ?_
          rw [show Int32.toNatClampNeg (1) = 1 from rfl]
          rw [show a_4 1 1 = nI NW from (fm_D_h hD_4 (by decide) rfl).trans eNW]
          refine fe_s 1 (pc' := cond (fx_cb .ge (nI i4) (nI NW)) 67 49) (lc' := [(3, .int (nI i4)), (0, .ref 0), (1, .int (nI Cj1)), (2, .int m)]) (stk' := []) (mem' := fm g tp bt a_4 b) (by intro _ _ _; eq_refl) ?_
          rw [show (fx_cb .ge (nI i4) (nI NW)) = false from cb_geF (a := i4) (b := NW) (by omega) (by omega) (by omega)]
          dsimp only [cond]
          refine fe_s 3 (pc' := 54) (lc' := [(3, .int (nI i4)), (0, .ref 0), (1, .int (nI Cj1)), (2, .int m)]) (stk' := [.int (nI i4), .ref 1]) (mem' := fm g tp bt a_4 b) (by intro _ _ _; eq_refl) ?_
          refine fe_ivS fr_walkerRow (by omega) (by rfl) (by rfl) (by rfl) (by rfl) (by rfl) ?_
          rw [show (278 + 5 * (nI i4) : Int32) = nI (278 + (5 * i4)) from by simp only [show (278 : Int32) = nI 278 from rfl, show (5 : Int32) = nI 5 from rfl, nI_add, fm_mul]]
          refine fe_s 3 (pc' := 60) (lc' := [(3, .int (nI i4)), (0, .ref 0), (1, .int (nI Cj1)), (2, .int m)]) (stk' := [.int 1, .int ((nI (278 + (5 * i4))) + 2), .ref 1]) (mem' := fm g tp bt a_4 b) (by intro _ _ _; eq_refl) ?_
          rw [show ((nI (278 + (5 * i4))) + 2 : Int32) = nI ((278 + (5 * i4)) + 2) from by simp only [show (2 : Int32) = nI 2 from rfl, nI_add, fm_mul]]
          refine fe_stI (mem' := fm g tp bt (fm_u a_4 1 (nI ((278 + (5 * i4)) + 2) : Int32).toNatClampNeg 1) b) (by rfl) (by rfl) (fx_inN (i := (278 + (5 * i4)) + 2) (by omega) (by omega)) fm_si1 ?_
          rw [show Int32.toNatClampNeg (nI ((278 + (5 * i4)) + 2)) = (278 + (5 * i4)) + 2 from nI_clamp (by omega)]
          obtain ⟨at19, hat19⟩ : ∃ z, z = fm_u a_4 1 ((278 + (5 * i4)) + 2) 1 := ⟨_, rfl⟩
          rw [← hat19]
          have hDt19 : fm_D a0 at19 T := by rw [hat19, show (278 + (5 * i4)) + 2 = 280 + 5 * i4 by omega]; exact fm_Dw2 (X := 1) hD_4 (by omega) (by omega)
          refine fe_s 2 (pc' := 39) (lc' := [(3, .int ((nI i4) + 1)), (0, .ref 0), (1, .int (nI Cj1)), (2, .int m)]) (stk' := []) (mem' := fm g tp bt at19 b) (by intro _ _ _; eq_refl) ?_
          rw [show ((nI i4) + 1 : Int32) = nI (i4 + 1) from by simp only [show (1 : Int32) = nI 1 from rfl, nI_add, fm_mul]]
          exact ih4 (i4 + 1) (by omega) at19 hDt19
      exact loop4 (NW) 0 (by omega) ad3 hDd3
theorem fr_holds (hBa : fm_B a) (hgb : fm_gb g) : ∃ (v : Option Value) (mem' : fx_M), (fm_PO g tp bt a b) (v, mem') ∧ fr_T 9 336 [.ref 0] (fm g tp bt a b) v mem' := by
  have hG := fm_G_rf hgb
  refine fe_meth (F := fm_PO g tp bt a b) (M := gk_m336) (by rfl) (by rfl) ?_
  refine fe_s 2 (pc' := 4) (lc' := [(0, .ref 0)]) (stk' := [.int 5052, .ref 0]) (mem' := fm g tp bt a b) (by intro _ _ _; eq_refl) ?_
  obtain ⟨vK, memK, ⟨a0, hK, hRK⟩, hfrK⟩ := fr_keeps5052 (g := g) (tp := tp) (bt := bt) (a := a) (b := b)
  cases hRK
  have hB : fm_B a0 := fm_kept hBa (by decide) hK
  obtain ⟨NC, hNC, eNC⟩ := fm_B_0 hB (i := 0) (n := 10) (by decide) rfl
  obtain ⟨NW, hNW, eNW⟩ := fm_B_0 hB (i := 1) (n := 8) (by decide) rfl
  obtain ⟨NG, hNG, eNG⟩ := fm_B_0 hB (i := 3) (n := 20) (by decide) rfl
  obtain ⟨T, hT9, eT⟩ := fm_T5 hB
  have hD : fm_D a0 a0 T := fm_D_rf hB eT (by omega)
  refine fe_ivV hfrK (by omega) (by rfl) (by rfl) (by rfl) (by rfl) (by rfl) (by rfl) ?_
  refine fe_s 4 (pc' := 11) (lc' := [(2, .int 1), (1, .int 0), (0, .ref 0)]) (stk' := []) (mem' := fm g tp bt a0 b) (by intro _ _ _; eq_refl) ?_
  have loop1 : ∀ (r i1 : Nat), i1 + r = 21 → ∀ (x1_1 : Int32), ∀ (a_1 : Nat → Nat → Int32) (T_1 : Nat), T_1 ≤ 9999 + i1 → fm_D a0 a_1 T_1 → fe_R 8 gk_m336 11 [(2, .int (nI i1)), (1, .int x1_1), (0, .ref 0)] [] (fm g tp bt a_1 b) (fm_PO g tp bt a b) := by
    intro r
    induction r with
    | zero =>
      intro i1 hi1 x1_1 a_1 T_1 hT1 hD_1
      obtain rfl : i1 = 21 := by omega
      refine fe_s 2 (pc' := 14) (lc' := [(2, .int (nI 21)), (1, .int x1_1), (0, .ref 0)]) (stk' := [.int 20, .int (nI 21)]) (mem' := fm g tp bt a_1 b) (by intro _ _ _; eq_refl) ?_
      refine fe_s 1 (pc' := cond (fx_cb .gt (nI 21) 20) 48 17) (lc' := [(2, .int (nI 21)), (1, .int x1_1), (0, .ref 0)]) (stk' := []) (mem' := fm g tp bt a_1 b) (by intro _ _ _; eq_refl) ?_
      rw [show (fx_cb .gt (nI 21) 20) = true from cb_gtT (a := 21) (b := 20) (by omega) (by omega) (by omega)]
      dsimp only [cond]
      refine fe_s 2 (pc' := 52) (lc' := [(2, .int (nI 21)), (1, .int x1_1), (0, .ref 0)]) (stk' := [.int 5052, .ref 0]) (mem' := fm g tp bt a_1 b) (by intro _ _ _; eq_refl) ?_
      obtain ⟨vz2, memz2, ⟨az2, hSz2, hRz2⟩, hfrz2⟩ := fr_restores5052 (g := g) (tp := tp) (bt := bt) (a := a_1) (b := b)
      cases hRz2
      have hZz2 := fm_restd hB (by decide) hK hD_1 hSz2
      have hEz2 : fm_E a az2 := ⟨hZz2.1, fun t ht => hZz2.2.2 t (fm_okE_t ht), fun i hi => hZz2.2.1 i (by have := fm_st_n hi; omega)⟩
      refine fe_ivV hfrz2 (by omega) (by rfl) (by rfl) (by rfl) (by rfl) (by rfl) (by rfl) ?_
      refine fe_s 2 (pc' := 57) (lc' := [(2, .int (nI 21)), (1, .int x1_1), (0, .ref 0)]) (stk' := [.int x1_1, .ref 0]) (mem' := fm g tp bt az2 b) (by intro _ _ _; eq_refl) ?_
      refine fe_ivV (fr_gives (x := x1_1)) (by omega) (by rfl) (by rfl) (by rfl) (by rfl) (by rfl) (by rfl) ?_
      exact fe_ret ⟨_, _, _, _, _, _, hEz2, (fm_G_2 hG (by decide) (by decide)), (fun _ _ _ => rfl), rfl⟩ (by rfl) (by rfl) (by rfl)
    | succ r ih1 =>
      intro i1 hi1 x1_1 a_1 T_1 hT1 hD_1
      have hl1 : i1 < 21 := by omega
      refine fe_s 2 (pc' := 14) (lc' := [(2, .int (nI i1)), (1, .int x1_1), (0, .ref 0)]) (stk' := [.int 20, .int (nI i1)]) (mem' := fm g tp bt a_1 b) (by intro _ _ _; eq_refl) ?_
      refine fe_s 1 (pc' := cond (fx_cb .gt (nI i1) 20) 48 17) (lc' := [(2, .int (nI i1)), (1, .int x1_1), (0, .ref 0)]) (stk' := []) (mem' := fm g tp bt a_1 b) (by intro _ _ _; eq_refl) ?_
      rw [show (fx_cb .gt (nI i1) 20) = false from cb_gtF (a := i1) (b := 20) (by omega) (by omega) (by omega)]
      dsimp only [cond]
      refine fe_s 1 (pc' := 18) (lc' := [(2, .int (nI i1)), (1, .int x1_1), (0, .ref 0)]) (stk' := [.int x1_1]) (mem' := fm g tp bt a_1 b) (by intro _ _ _; eq_refl) ?_
      refine fe_s 1 (pc' := cond (fx_cb .ne x1_1 0) 48 21) (lc' := [(2, .int (nI i1)), (1, .int x1_1), (0, .ref 0)]) (stk' := []) (mem' := fm g tp bt a_1 b) (by intro _ _ _; eq_refl) ?_
      cases h3 : fx_cb .ne x1_1 0
      · refine fe_s 2 (pc' := 23) (lc' := [(2, .int (nI i1)), (1, .int x1_1), (0, .ref 0)]) (stk' := [.int 3, .ref 0]) (mem' := fm g tp bt a_1 b) (by intro _ _ _; eq_refl) ?_
        obtain ⟨vd4, memd4, ⟨xd4, ad4, hDd4, hRd4⟩, hfrd4⟩ := fr_setOf3 (g := g) (tp := tp) (bt := bt) (a := a_1) (b := b) hB hD_1
        cases hRd4
        refine fe_ivV hfrd4 (by omega) (by rfl) (by rfl) (by rfl) (by rfl) (by rfl) (by rfl) ?_
        refine fe_s 1 (pc' := cond (fx_cb .eq xd4 0) 48 29) (lc' := [(2, .int (nI i1)), (1, .int x1_1), (0, .ref 0)]) (stk' := []) (mem' := fm g tp bt ad4 b) (by intro _ _ _; eq_refl) ?_
        cases h5 : fx_cb .eq xd4 0
        · refine fe_s 1 (pc' := 30) (lc' := [(2, .int (nI i1)), (1, .int x1_1), (0, .ref 0)]) (stk' := [.ref 0]) (mem' := fm g tp bt ad4 b) (by intro _ _ _; eq_refl) ?_
          obtain ⟨vd6, memd6, ⟨xd6, ad6, hDd6, hRd6⟩, hfrd6⟩ := fr_goes (T := T_1) (g := g) (tp := tp) (bt := bt) (a := ad4) (b := b) hB hDd4 (by omega)
          cases hRd6
          refine fe_ivV hfrd6 (by omega) (by rfl) (by rfl) (by rfl) (by rfl) (by rfl) (by rfl) ?_
          refine fe_s 1 (pc' := cond (fx_cb .ne xd6 0) 40 36) (lc' := [(2, .int (nI i1)), (1, .int x1_1), (0, .ref 0)]) (stk' := []) (mem' := fm g tp bt ad6 b) (by intro _ _ _; eq_refl) ?_
          cases h7 : fx_cb .ne xd6 0
          · refine fe_s 5 (pc' := 11) (lc' := [(2, .int ((nI i1) + 1)), (1, .int 0), (0, .ref 0)]) (stk' := []) (mem' := fm g tp bt ad6 b) (by intro _ _ _; eq_refl) ?_
            rw [show ((nI i1) + 1 : Int32) = nI (i1 + 1) from by simp only [show (1 : Int32) = nI 1 from rfl, nI_add, fm_mul]]
            exact ih1 (i1 + 1) (by omega) _ ad6 (T_1 + 1) (by omega) hDd6
          · refine fe_s 4 (pc' := 11) (lc' := [(2, .int ((nI i1) + 1)), (1, .int (nI i1)), (0, .ref 0)]) (stk' := []) (mem' := fm g tp bt ad6 b) (by intro _ _ _; eq_refl) ?_
            rw [show ((nI i1) + 1 : Int32) = nI (i1 + 1) from by simp only [show (1 : Int32) = nI 1 from rfl, nI_add, fm_mul]]
            exact ih1 (i1 + 1) (by omega) _ ad6 (T_1 + 1) (by omega) hDd6
        · refine fe_s 2 (pc' := 52) (lc' := [(2, .int (nI i1)), (1, .int x1_1), (0, .ref 0)]) (stk' := [.int 5052, .ref 0]) (mem' := fm g tp bt ad4 b) (by intro _ _ _; eq_refl) ?_
          obtain ⟨vz8, memz8, ⟨az8, hSz8, hRz8⟩, hfrz8⟩ := fr_restores5052 (g := g) (tp := tp) (bt := bt) (a := ad4) (b := b)
          cases hRz8
          have hZz8 := fm_restd hB (by decide) hK hDd4 hSz8
          have hEz8 : fm_E a az8 := ⟨hZz8.1, fun t ht => hZz8.2.2 t (fm_okE_t ht), fun i hi => hZz8.2.1 i (by have := fm_st_n hi; omega)⟩
          refine fe_ivV hfrz8 (by omega) (by rfl) (by rfl) (by rfl) (by rfl) (by rfl) (by rfl) ?_
          refine fe_s 2 (pc' := 57) (lc' := [(2, .int (nI i1)), (1, .int x1_1), (0, .ref 0)]) (stk' := [.int x1_1, .ref 0]) (mem' := fm g tp bt az8 b) (by intro _ _ _; eq_refl) ?_
          refine fe_ivV (fr_gives (x := x1_1)) (by omega) (by rfl) (by rfl) (by rfl) (by rfl) (by rfl) (by rfl) ?_
          exact fe_ret ⟨_, _, _, _, _, _, hEz8, (fm_G_2 hG (by decide) (by decide)), (fun _ _ _ => rfl), rfl⟩ (by rfl) (by rfl) (by rfl)
      · refine fe_s 2 (pc' := 52) (lc' := [(2, .int (nI i1)), (1, .int x1_1), (0, .ref 0)]) (stk' := [.int 5052, .ref 0]) (mem' := fm g tp bt a_1 b) (by intro _ _ _; eq_refl) ?_
        obtain ⟨vz9, memz9, ⟨az9, hSz9, hRz9⟩, hfrz9⟩ := fr_restores5052 (g := g) (tp := tp) (bt := bt) (a := a_1) (b := b)
        cases hRz9
        have hZz9 := fm_restd hB (by decide) hK hD_1 hSz9
        have hEz9 : fm_E a az9 := ⟨hZz9.1, fun t ht => hZz9.2.2 t (fm_okE_t ht), fun i hi => hZz9.2.1 i (by have := fm_st_n hi; omega)⟩
        refine fe_ivV hfrz9 (by omega) (by rfl) (by rfl) (by rfl) (by rfl) (by rfl) (by rfl) ?_
        refine fe_s 2 (pc' := 57) (lc' := [(2, .int (nI i1)), (1, .int x1_1), (0, .ref 0)]) (stk' := [.int x1_1, .ref 0]) (mem' := fm g tp bt az9 b) (by intro _ _ _; eq_refl) ?_
        refine fe_ivV (fr_gives (x := x1_1)) (by omega) (by rfl) (by rfl) (by rfl) (by rfl) (by rfl) (by rfl) ?_
        exact fe_ret ⟨_, _, _, _, _, _, hEz9, (fm_G_2 hG (by decide) (by decide)), (fun _ _ _ => rfl), rfl⟩ (by rfl) (by rfl) (by rfl)
  exact loop1 (21 - 1) 1 (by omega) _ a0 T (by omega) hD
end FRD
end MH6_4
section MH6_5
/-! ===== fx: ways and what is left as it was ===== -/
theorem fm_D_ok9 {a0 a p : Nat → Nat → Int32} {T : Nat} (hD : fm_D a0 a T) (h : fm_ok9 a p) : fm_D a0 p T := by
  obtain ⟨d1, d2, d3, d4, d5, d6⟩ := hD
  have e1 : p 1 = a 1 := h.1 1 (by decide)
  refine ⟨fun t ht => ?_, fun i h5 hd => by rw [e1]; exact d2 i h5 hd, fun i hd => fm_bd_eq (d3 i hd) (by rw [e1]), by rw [e1]; exact d4, d5, fm_bfs_bd h.2⟩
  rw [h.1 t (fun e => by subst e; exact absurd ht (by decide))]
  exact d1 t ht
theorem fm_D_sent {a0 a q : Nat → Nat → Int32} {T W : Nat} (hD : fm_D a0 a T) (hW : W < 8) (h : fm_sent a q W) : fm_D a0 q T := by
  obtain ⟨d1, d2, d3, d4, d5, d6⟩ := hD
  obtain ⟨s1, s2, s3⟩ := h
  refine ⟨fun t ht => ?_, fun i h5 hd => ?_, fun i hd => ?_, ?_, d5, s2⟩
  · rw [s1 t (fun e => by subst e; exact absurd ht (by decide)) (fun e => by subst e; exact absurd ht (by decide))]
    exact d1 t ht
  · rcases s3 i with e | ⟨e1, e2, -⟩ | ⟨e1, -⟩
    · rw [e]; exact d2 i h5 hd
    · rw [(gm_at_0rt i (by omega) (by omega)).2] at hd; cases hd
    · rw [e1, (gm_at_0w3 W hW).2] at hd; cases hd
  · rcases s3 i with e | ⟨e1, e2, c, hc, e⟩ | ⟨e1, n, hn, e⟩
    · exact fm_bd_eq (d3 i hd) e
    · unfold fm_bd
      rw [(gm_at_0rt i (by omega) (by omega)).1, e, nI_i32 (by omega)]
      exact ⟨by show (0 : Int) ≤ _; omega, by show _ ≤ (9 : Int); omega⟩
    · unfold fm_bd
      rw [e, e1, (gm_at_0w3 W hW).1, nI_i32 (by omega)]
      exact ⟨by show (0 : Int) ≤ _; omega, by show _ ≤ (20 : Int); omega⟩
  · rcases s3 5 with e | ⟨e1, -⟩ | ⟨e1, -⟩
    · rw [e]; exact d4
    · omega
    · omega
theorem fm_shlP : ∀ NC, NC ≤ 10 → ∃ P, P ≤ 1024 ∧ ((1 : Int32) <<< (nI NC &&& 31)) = nI P := fun NC h => by
  have : ∀ n, n < 11 → ((1 : Int32) <<< (nI n &&& 31)) = nI (2 ^ n) ∧ 2 ^ n ≤ 1024 := by decide
  obtain ⟨h1, h2⟩ := this NC (by omega)
  exact ⟨_, h2, h1⟩
theorem fm_lshl : ∀ n, n < 11 → (((1 : Int64) <<< ((nI n).toInt64 &&& 63)) - 1).toInt = 2 ^ n - 1 := by decide
theorem fm_bits_dec (x : Int32) (h : ¬ x = 0) : (x &&& (x - 1)).toBitVec.toNat < x.toBitVec.toNat := by
  have h0 : 0 < x.toBitVec.toNat := by
    rcases Nat.eq_zero_or_pos x.toBitVec.toNat with e | e
    · exact absurd (Int32.toBitVec_inj.mp (BitVec.eq_of_toNat_eq (by rw [e]; rfl))) h
    · exact e
  have h1 : (x - 1).toBitVec.toNat = x.toBitVec.toNat - 1 := by
    rw [Int32.toBitVec_sub, BitVec.toNat_sub]
    have hl := x.toBitVec.isLt
    rw [show (1 : Int32).toBitVec.toNat = 1 from rfl]
    omega
  have h2 : (x &&& (x - 1)).toBitVec.toNat ≤ (x - 1).toBitVec.toNat := by
    rw [Int32.toBitVec_and, BitVec.toNat_and]
    exact Nat.and_le_right
  omega
/-- a WAY is hewn, or shut -/
theorem fm_B_hew {a : Nat → Nat → Int32} (hB : fm_B a) {o t : Nat} (ho : o < 10) (ht : t < 10) (hne : ¬ o = t) : fm_B (fm_u (fm_u a 1 (10 + 6 * o) (a 1 (10 + 6 * o) ^^^ ((1 : Int32) <<< (nI t &&& 31)))) 1 (10 + 6 * t) ((fm_u a 1 (10 + 6 * o) (a 1 (10 + 6 * o) ^^^ ((1 : Int32) <<< (nI t &&& 31)))) 1 (10 + 6 * t) ^^^ ((1 : Int32) <<< (nI o &&& 31)))) := by
  obtain ⟨h1, ⟨h2, h3⟩, h4⟩ := hB
  have gc : ∀ c, c < 10 → gm_at (10 + 6 * c) = (0, 1023) := by decide
  have hv : ∀ c, c < 10 → ∃ m, m < 1024 ∧ a 1 (10 + 6 * c) = nI m := fun c hc => by
    obtain ⟨m, hm, e⟩ := fm_bd_n (n := 1023) (h1 (10 + 6 * c) (by omega)) (gc c hc)
    exact ⟨m, by omega, e⟩
  obtain ⟨mo, hmo, eo⟩ := hv o ho
  obtain ⟨mt, hmt, et⟩ := hv t ht
  generalize hA : fm_u (fm_u a 1 (10 + 6 * o) (a 1 (10 + 6 * o) ^^^ ((1 : Int32) <<< (nI t &&& 31)))) 1 (10 + 6 * t) ((fm_u a 1 (10 + 6 * o) (a 1 (10 + 6 * o) ^^^ ((1 : Int32) <<< (nI t &&& 31)))) 1 (10 + 6 * t) ^^^ ((1 : Int32) <<< (nI o &&& 31))) = A
  have v : ∀ i, A 1 i = if i = 10 + 6 * t then nI (mt ^^^ 2 ^ o) else if i = 10 + 6 * o then nI (mo ^^^ 2 ^ t) else a 1 i := fun i => by
    rw [← hA, fm_u1, fm_u1, if_neg (show ¬ 10 + 6 * t = 10 + 6 * o by omega), et, fm_xor_nat mt hmt o ho, fm_u1, eo, fm_xor_nat mo hmo t ht]
  have vt : ∀ s, s ≠ 1 → A s = a s := fun s hs => by rw [← hA, fm_ut hs, fm_ut hs]
  have hw : ∀ c, c < 10 → ∃ m m2, m < 1024 ∧ m2 < 1024 ∧ a 1 (10 + 6 * c) = nI m ∧ A 1 (10 + 6 * c) = nI m2 ∧ ∀ d, d < 10 → m2.testBit d = (m.testBit d ^^ ((decide (c = o) && decide (d = t)) || (decide (c = t) && decide (d = o)))) := fun c hc => by
    by_cases e1 : c = t
    · subst e1
      refine ⟨mt, mt ^^^ 2 ^ o, hmt, fm_xor_lt hmt ho, et, by rw [v, if_pos rfl], fun d hd => ?_⟩
      rw [Nat.testBit_xor, Nat.testBit_two_pow, decide_eq_true (rfl : c = c), decide_eq_false (show ¬ c = o from fun z => hne z.symm), Bool.false_and, Bool.false_or, Bool.true_and]
      congr 1
      exact decide_eq_decide.mpr ⟨fun z => z.symm, fun z => z.symm⟩
    · by_cases e2 : c = o
      · subst e2
        refine ⟨mo, mo ^^^ 2 ^ t, hmo, fm_xor_lt hmo ht, eo, by rw [v, if_neg (by omega), if_pos rfl], fun d hd => ?_⟩
        rw [Nat.testBit_xor, Nat.testBit_two_pow, decide_eq_true (rfl : c = c), decide_eq_false e1, Bool.false_and, Bool.or_false, Bool.true_and]
        congr 1
        exact decide_eq_decide.mpr ⟨fun z => z.symm, fun z => z.symm⟩
      · obtain ⟨m, hm, em⟩ := hv c hc
        refine ⟨m, m, hm, hm, em, by rw [v, if_neg (by omega), if_neg (by omega), em], fun d hd => ?_⟩
        rw [decide_eq_false e1, decide_eq_false e2, Bool.false_and, Bool.false_and, Bool.or_false, Bool.xor_false]
  refine ⟨fun i hi => ?_, ⟨fun s hs c d hc hd => ?_, fun s hs n hn => ?_⟩, fun i hi => by rw [vt 9 (by decide)]; exact h4 i hi⟩
  · unfold fm_bd
    rw [v]
    split
    · next e => rw [e, gc t ht, nI_i32 (by have := fm_xor_lt hmt ho; omega)]; have := fm_xor_lt hmt ho; exact ⟨by show (0 : Int) ≤ _; omega, by show _ ≤ (1023 : Int); omega⟩
    · split
      · next e => rw [e, gc o ho, nI_i32 (by have := fm_xor_lt hmo ht; omega)]; have := fm_xor_lt hmo ht; exact ⟨by show (0 : Int) ≤ _; omega, by show _ ≤ (1023 : Int); omega⟩
      · exact h1 i hi
  · have h9 := h2 s hs c d hc hd
    rcases Nat.eq_zero_or_pos s with rfl | h0
    · rw [show 842 * 0 + 10 + 6 * c = 10 + 6 * c by omega, show 842 * 0 + 10 + 6 * d = 10 + 6 * d by omega] at h9 ⊢
      obtain ⟨m, m2, hm, hm2, f0, f1, f2⟩ := hw c hc
      obtain ⟨k, k2, hk, hk2, g0, g1, g2⟩ := hw d hd
      rw [f1, g1, fm_b_nat m2 hm2 d hd, fm_b_nat k2 hk2 c hc, f2 d hd, g2 c hc]
      rw [f0, g0, fm_b_nat m hm d hd, fm_b_nat k hk c hc] at h9
      have h10 : m.testBit d = k.testBit c := by
        cases h1 : m.testBit d <;> cases h2 : k.testBit c <;> first | rfl | (rw [h1, h2] at h9; exact absurd h9 (by decide))
      rw [h10]
      congr 2
      rw [Bool.or_comm (decide (c = o) && decide (d = t)), Bool.and_comm (decide (c = t)), Bool.and_comm (decide (c = o))]
    · rw [v, v, if_neg (by omega), if_neg (by omega), if_neg (by omega), if_neg (by omega)]; exact h9
  · rw [v, if_neg (by omega), if_neg (by omega)] at hn
    have := h3 s hs n hn
    rw [v, v, if_neg (by omega), if_neg (by omega), if_neg (by omega), if_neg (by omega)]; exact this
/-- a slot is taken over by another -/
def fm_cpy (a a' : Nat → Nat → Int32) (s d : Nat) : Prop := (∀ t, t ≠ 1 → a' t = a t) ∧ (∀ i, ¬ (842 * d ≤ i ∧ i < 842 * d + 842) → a' 1 i = a 1 i) ∧ ∀ k, k < 842 → a' 1 (842 * d + k) = a 1 (842 * s + k)
theorem gm_at_s4eq : ∀ s, s < 4 → ∀ k, k < 842 → gm_at (842 * s + k) = gm_at k := by decide +kernel
theorem fm_B_cpy {a a' : Nat → Nat → Int32} {s d : Nat} (hB : fm_B a) (hs : s < 4) (hd : d < 4) (h : fm_cpy a a' s d) : fm_B a' := by
  obtain ⟨h1, ⟨h2, h3⟩, h4⟩ := hB
  obtain ⟨c1, c2, c3⟩ := h
  refine ⟨fun i hi => ?_, ⟨fun z hz c e hc he => ?_, fun z hz n hn => ?_⟩, fun i hi => by rw [c1 9 (by decide)]; exact h4 i hi⟩
  · by_cases hi2 : 842 * d ≤ i ∧ i < 842 * d + 842
    · obtain ⟨k, rfl⟩ := Nat.exists_eq_add_of_le hi2.1
      have := h1 (842 * s + k) (by omega)
      unfold fm_bd at this ⊢
      rw [c3 k (by omega), gm_at_s4eq d hd k (by omega), ← gm_at_s4eq s hs k (by omega)]
      exact this
    · exact fm_bd_eq (h1 i hi) (c2 i hi2)
  · by_cases hz2 : z = d
    · subst hz2
      have := h2 s (by omega) c e hc he
      rw [show 842 * z + 10 + 6 * c = 842 * z + (10 + 6 * c) by omega, show 842 * z + 10 + 6 * e = 842 * z + (10 + 6 * e) by omega, c3 _ (by omega), c3 _ (by omega), ← Nat.add_assoc, ← Nat.add_assoc]
      exact this
    · rw [c2 _ (by omega), c2 _ (by omega)]; exact h2 z hz c e hc he
  · by_cases hz2 : z = d
    · subst hz2
      rw [c3 6 (by omega)] at hn
      have hn6 : (n : Int) < 60 := by
        have := (h1 (842 * s + 6) (by omega)).2
        rw [gm_at_s4eq s hs 6 (by omega), show gm_at 6 = (-1, 60) from rfl] at this
        have h60 : (a 1 (842 * s + 6)).toInt ≤ 60 := this
        omega
      have := h3 s hs n hn
      rw [show 842 * z + 478 + 6 * n = 842 * z + (478 + 6 * n) by omega, show 842 * z + 479 + 6 * n = 842 * z + (479 + 6 * n) by omega, c3 _ (by omega), c3 _ (by omega), ← Nat.add_assoc, ← Nat.add_assoc]
      exact this
    · rw [c2 _ (by omega)] at hn
      have hn6 : (n : Int) < 60 := by
        have := (h1 (842 * z + 6) (by omega)).2
        rw [gm_at_s4eq z hz 6 (by omega), show gm_at 6 = (-1, 60) from rfl] at this
        have h60 : (a 1 (842 * z + 6)).toInt ≤ 60 := this
        omega
      have := h3 z hz n hn
      rw [c2 _ (by omega), c2 _ (by omega)]; exact this
theorem fm_E_f9 {a p : Nat → Nat → Int32} (hB : fm_B a) (h : fm_f9 a p) : fm_E a p := ⟨fm_B_eq hB (fun i => by rw [h.1 1 (by decide)]) h.2, fun t ht => h.1 t (fun e => by subst e; exact absurd ht (by decide)), fun i _ => by rw [h.1 1 (by decide)]⟩
theorem fm_B_t {a : Nat → Nat → Int32} (hB : fm_B a) : fm_t a := by
  obtain ⟨T, h1, h2⟩ := fm_T5 hB
  exact fm_D_t hB (fm_D_rf hB h2 (by omega))
theorem fm_B_sym {a : Nat → Nat → Int32} (hB : fm_B a) : fm_sym a := by
  obtain ⟨T, h1, h2⟩ := fm_T5 hB
  exact fm_D_sym hB (fm_D_rf hB h2 (by omega))
section FPW
variable {g : Nat → Int32} {tp bt : Int64} {a : Nat → Nat → Int32} {b : Nat → Nat → Int64}
theorem fr_wayAtP {w c k : Int32} (hBa : fm_B a) (hgb : fm_gb g) : ∃ (v : Option Value) (mem' : fx_M), fm_PO g tp bt a b (v, mem') ∧ fr_T 8 311 [.ref 0, .int w, .int c, .int k] (fm g tp bt a b) v mem' := by
  obtain ⟨v, mem', ⟨x, s, p, h1, h2, h3, h4, hR⟩, hfr⟩ := fr_wayAt (g := g) (tp := tp) (bt := bt) (b := b) (w := w) (c := c) (k := k) (fm_B_t hBa) (fm_B_sym hBa) hBa.2.2
  exact ⟨v, mem', ⟨x, _, _, _, p, b, fm_E_f9 hBa h4, fm_G_2 (fm_G_rf hgb) h2 h3, fun _ _ _ => rfl, hR⟩, hfr⟩
theorem fr_surestAtP {w c k : Int32} (hBa : fm_B a) (hgb : fm_gb g) : ∃ (v : Option Value) (mem' : fx_M), fm_PO g tp bt a b (v, mem') ∧ fr_T 9 317 [.ref 0, .int w, .int c, .int k] (fm g tp bt a b) v mem' := by
  obtain ⟨v, mem', ⟨x, s, y, p, g', h1, h2, h3, h4, h5, hR⟩, hfr⟩ := fr_surestAt (g := g) (tp := tp) (bt := bt) (b := b) (w := w) (c := c) (k := k) (fm_B_t hBa) (fm_B_sym hBa) hBa.2.2
  refine ⟨v, mem', ⟨x, _, _, _, p, b, fm_E_f9 hBa h4, fm_G_2 ?_ h2 h3, fun _ _ _ => rfl, hR⟩, hfr⟩
  rcases h5 with rfl | rfl
  · exact fm_G_rf hgb
  · exact fm_G_f (fm_G_rf hgb) (Or.inl rfl)
end FPW
end MH6_5
