/-! ===== fx: a step of all ===== -/
section FGP
variable {g : Nat → Int32} {tp bt : Int64} {a0 a : Nat → Nat → Int32} {b : Nat → Nat → Int64}
set_option maxHeartbeats 16000000 in
set_option maxRecDepth 20000 in
theorem fr_goes {T : Nat} (hB : fm_B a0) (hD : fm_D a0 a T) (hT : T < 10030) : ∃ (v : Option Value) (mem' : fx_M), (fun R => ∃ (v : Int32) (a' : Nat → Nat → Int32), fm_D a0 a' (T + 1) ∧ R = (some (.int v), fm g tp bt a' b)) (v, mem') ∧ fr_T 6 285 [.ref 0] (fm g tp bt a b) v mem' := by
  obtain ⟨NC, hNC, eNC⟩ := fm_B_0 hB (i := 0) (n := 10) (by decide) rfl
  obtain ⟨NW, hNW, eNW⟩ := fm_B_0 hB (i := 1) (n := 8) (by decide) rfl
  obtain ⟨NG, hNG, eNG⟩ := fm_B_0 hB (i := 3) (n := 20) (by decide) rfl
  have hT9 := hD.2.2.2.2.1
  refine fe_meth (F := fun R => ∃ (v : Int32) (a' : Nat → Nat → Int32), fm_D a0 a' (T + 1) ∧ R = (some (.int v), fm g tp bt a' b)) (M := gk_m285) (by rfl) (by rfl) ?_
  refine fe_s 4 (pc' := 6) (lc' := [(0, .ref 0)]) (stk' := [.int 5, .ref 1, .int 5, .ref 1]) (mem' := fm g tp bt a b) (fun _ _ _ => rfl) ?_
  refine fe_ldI (by rfl) (by rfl) (fx_inN (i := 5) (by omega) (by omega)) ?_
  rw [show Int32.toNatClampNeg (5) = 5 from rfl]
  rw [show a 1 5 = nI T from hD.2.2.2.1]
  refine fe_s 2 (pc' := 9) (lc' := [(0, .ref 0)]) (stk' := [.int ((nI T) + 1), .int 5, .ref 1]) (mem' := fm g tp bt a b) (fun _ _ _ => rfl) ?_
  rw [show ((nI T) + 1 : Int32) = nI (T + 1) from by simp only [show (1 : Int32) = nI 1 from rfl, nI_add, fm_mul]]
  refine fe_stI (mem' := fm g tp bt (fm_u a 1 (5 : Int32).toNatClampNeg (nI (T + 1))) b) (by rfl) (by rfl) (fx_inN (i := 5) (by omega) (by omega)) fm_si1 ?_
  rw [show Int32.toNatClampNeg (5) = 5 from rfl]
  obtain ⟨at1, hat1⟩ : ∃ z, z = fm_u a 1 (5) (nI (T + 1)) := ⟨_, rfl⟩
  rw [← hat1]
  have hDt1 : fm_D a0 at1 (T + 1) := by rw [hat1]; exact fm_D_T hD (by omega)
  refine fe_s 2 (pc' := 12) (lc' := [(1, .int 0), (0, .ref 0)]) (stk' := []) (mem' := fm g tp bt at1 b) (fun _ _ _ => rfl) ?_
  have loop2 : ∀ (r i2 : Nat), i2 + r = NC → ∀ a_2 : Nat → Nat → Int32, fm_D a0 a_2 (T + 1) → fe_R 5 gk_m285 12 [(1, .int (nI i2)), (0, .ref 0)] [] (fm g tp bt a_2 b) (fun R => ∃ (v : Int32) (a' : Nat → Nat → Int32), fm_D a0 a' (T + 1) ∧ R = (some (.int v), fm g tp bt a' b)) := by
    intro r
    induction r with
    | zero =>
      intro i2 hi2 a_2 hD_2
      obtain rfl : NC = i2 := by omega
      refine fe_s 4 (pc' := 18) (lc' := [(1, .int (nI NC)), (0, .ref 0)]) (stk' := [.int 0, .ref 1, .int (nI NC)]) (mem' := fm g tp bt a_2 b) (fun _ _ _ => rfl) ?_
      refine fe_ldI (by rfl) (by rfl) (fx_inN (i := 0) (by omega) (by omega)) ?_
      rw [show Int32.toNatClampNeg (0) = 0 from rfl]
      rw [show a_2 1 0 = nI NC from (fm_D_h hD_2 (by decide) rfl).trans eNC]
      refine fe_s 1 (pc' := cond (fx_cb .ge (nI NC) (nI NC)) 51 22) (lc' := [(1, .int (nI NC)), (0, .ref 0)]) (stk' := []) (mem' := fm g tp bt a_2 b) (fun _ _ _ => rfl) ?_
      rw [show (fx_cb .ge (nI NC) (nI NC)) = true from cb_geT (a := NC) (b := NC) (by omega) (by omega) (by omega)]
      dsimp only [cond]
      refine fe_s 2 (pc' := 53) (lc' := [(1, .int 0), (0, .ref 0)]) (stk' := []) (mem' := fm g tp bt a_2 b) (fun _ _ _ => rfl) ?_
      have loop3 : ∀ (r i3 : Nat), i3 + r = NW → ∀ a_3 : Nat → Nat → Int32, fm_D a0 a_3 (T + 1) → fe_R 5 gk_m285 53 [(1, .int (nI i3)), (0, .ref 0)] [] (fm g tp bt a_3 b) (fun R => ∃ (v : Int32) (a' : Nat → Nat → Int32), fm_D a0 a' (T + 1) ∧ R = (some (.int v), fm g tp bt a' b)) := by
        intro r
        induction r with
        | zero =>
          intro i3 hi3 a_3 hD_3
          obtain rfl : NW = i3 := by omega
          refine fe_s 4 (pc' := 59) (lc' := [(1, .int (nI NW)), (0, .ref 0)]) (stk' := [.int 1, .ref 1, .int (nI NW)]) (mem' := fm g tp bt a_3 b) (fun _ _ _ => rfl) ?_
          refine fe_ldI (by rfl) (by rfl) (fx_inN (i := 1) (by omega) (by omega)) ?_
          rw [show Int32.toNatClampNeg (1) = 1 from rfl]
          rw [show a_3 1 1 = nI NW from (fm_D_h hD_3 (by decide) rfl).trans eNW]
          refine fe_s 1 (pc' := cond (fx_cb .ge (nI NW) (nI NW)) 82 63) (lc' := [(1, .int (nI NW)), (0, .ref 0)]) (stk' := []) (mem' := fm g tp bt a_3 b) (fun _ _ _ => rfl) ?_
          rw [show (fx_cb .ge (nI NW) (nI NW)) = true from cb_geT (a := NW) (b := NW) (by omega) (by omega) (by omega)]
          dsimp only [cond]
          refine fe_s 2 (pc' := 84) (lc' := [(1, .int 0), (0, .ref 0)]) (stk' := []) (mem' := fm g tp bt a_3 b) (fun _ _ _ => rfl) ?_
          have loop4 : ∀ (r i4 : Nat), i4 + r = NC → ∀ a_4 : Nat → Nat → Int32, fm_D a0 a_4 (T + 1) → fe_R 5 gk_m285 84 [(1, .int (nI i4)), (0, .ref 0)] [] (fm g tp bt a_4 b) (fun R => ∃ (v : Int32) (a' : Nat → Nat → Int32), fm_D a0 a' (T + 1) ∧ R = (some (.int v), fm g tp bt a' b)) := by
            intro r
            induction r with
            | zero =>
              intro i4 hi4 a_4 hD_4
              obtain rfl : NC = i4 := by omega
              refine fe_s 4 (pc' := 90) (lc' := [(1, .int (nI NC)), (0, .ref 0)]) (stk' := [.int 0, .ref 1, .int (nI NC)]) (mem' := fm g tp bt a_4 b) (fun _ _ _ => rfl) ?_
              refine fe_ldI (by rfl) (by rfl) (fx_inN (i := 0) (by omega) (by omega)) ?_
              rw [show Int32.toNatClampNeg (0) = 0 from rfl]
              rw [show a_4 1 0 = nI NC from (fm_D_h hD_4 (by decide) rfl).trans eNC]
              refine fe_s 1 (pc' := cond (fx_cb .ge (nI NC) (nI NC)) 163 94) (lc' := [(1, .int (nI NC)), (0, .ref 0)]) (stk' := []) (mem' := fm g tp bt a_4 b) (fun _ _ _ => rfl) ?_
              rw [show (fx_cb .ge (nI NC) (nI NC)) = true from cb_geT (a := NC) (b := NC) (by omega) (by omega) (by omega)]
              dsimp only [cond]
              refine fe_s 4 (pc' := 167) (lc' := [(2, .int 0), (1, .int 0), (0, .ref 0)]) (stk' := []) (mem' := fm g tp bt a_4 b) (fun _ _ _ => rfl) ?_
              have loop5 : ∀ (r i5 : Nat), i5 + r = NC → ∀ (x1_5 : Int32), ∀ a_5 : Nat → Nat → Int32, fm_D a0 a_5 (T + 1) → fe_R 5 gk_m285 167 [(2, .int (nI i5)), (1, .int x1_5), (0, .ref 0)] [] (fm g tp bt a_5 b) (fun R => ∃ (v : Int32) (a' : Nat → Nat → Int32), fm_D a0 a' (T + 1) ∧ R = (some (.int v), fm g tp bt a' b)) := by
                intro r
                induction r with
                | zero =>
                  intro i5 hi5 x1_5 a_5 hD_5
                  obtain rfl : NC = i5 := by omega
                  refine fe_s 4 (pc' := 173) (lc' := [(2, .int (nI NC)), (1, .int x1_5), (0, .ref 0)]) (stk' := [.int 0, .ref 1, .int (nI NC)]) (mem' := fm g tp bt a_5 b) (fun _ _ _ => rfl) ?_
                  refine fe_ldI (by rfl) (by rfl) (fx_inN (i := 0) (by omega) (by omega)) ?_
                  rw [show Int32.toNatClampNeg (0) = 0 from rfl]
                  rw [show a_5 1 0 = nI NC from (fm_D_h hD_5 (by decide) rfl).trans eNC]
                  refine fe_s 1 (pc' := cond (fx_cb .ge (nI NC) (nI NC)) 215 177) (lc' := [(2, .int (nI NC)), (1, .int x1_5), (0, .ref 0)]) (stk' := []) (mem' := fm g tp bt a_5 b) (fun _ _ _ => rfl) ?_
                  rw [show (fx_cb .ge (nI NC) (nI NC)) = true from cb_geT (a := NC) (b := NC) (by omega) (by omega) (by omega)]
                  dsimp only [cond]
                  refine fe_s 3 (pc' := 218) (lc' := [(2, .int (nI NC)), (1, .int x1_5), (0, .ref 0)]) (stk' := [.int 1, .ref 0, .int x1_5]) (mem' := fm g tp bt a_5 b) (fun _ _ _ => rfl) ?_
                  obtain ⟨vd6, memd6, ⟨xd6, ad6, hDd6, hRd6⟩, hfrd6⟩ := fr_setOf1 (g := g) (tp := tp) (bt := bt) (a := a_5) (b := b) hB hD_5
                  cases hRd6
                  refine fe_ivV hfrd6 (by omega) (by rfl) (by rfl) (by rfl) (by rfl) (by rfl) (by rfl) ?_
                  refine fe_s 6 (pc' := 227) (lc' := [(3, .int 0), (2, .int (x1_5 &&& (xd6 ^^^ (-1)))), (1, .int x1_5), (0, .ref 0)]) (stk' := []) (mem' := fm g tp bt ad6 b) (fun _ _ _ => rfl) ?_
                  have loop7 : ∀ (r i7 : Nat), i7 + r = NC → ∀ a_7 : Nat → Nat → Int32, fm_D a0 a_7 (T + 1) → fe_R 5 gk_m285 227 [(3, .int (nI i7)), (2, .int (x1_5 &&& (xd6 ^^^ (-1)))), (1, .int x1_5), (0, .ref 0)] [] (fm g tp bt a_7 b) (fun R => ∃ (v : Int32) (a' : Nat → Nat → Int32), fm_D a0 a' (T + 1) ∧ R = (some (.int v), fm g tp bt a' b)) := by
                    intro r
                    induction r with
                    | zero =>
                      intro i7 hi7 a_7 hD_7
                      obtain rfl : NC = i7 := by omega
                      refine fe_s 4 (pc' := 233) (lc' := [(3, .int (nI NC)), (2, .int (x1_5 &&& (xd6 ^^^ (-1)))), (1, .int x1_5), (0, .ref 0)]) (stk' := [.int 0, .ref 1, .int (nI NC)]) (mem' := fm g tp bt a_7 b) (fun _ _ _ => rfl) ?_
                      refine fe_ldI (by rfl) (by rfl) (fx_inN (i := 0) (by omega) (by omega)) ?_
                      rw [show Int32.toNatClampNeg (0) = 0 from rfl]
                      rw [show a_7 1 0 = nI NC from (fm_D_h hD_7 (by decide) rfl).trans eNC]
                      refine fe_s 1 (pc' := cond (fx_cb .ge (nI NC) (nI NC)) 257 237) (lc' := [(3, .int (nI NC)), (2, .int (x1_5 &&& (xd6 ^^^ (-1)))), (1, .int x1_5), (0, .ref 0)]) (stk' := []) (mem' := fm g tp bt a_7 b) (fun _ _ _ => rfl) ?_
                      rw [show (fx_cb .ge (nI NC) (nI NC)) = true from cb_geT (a := NC) (b := NC) (by omega) (by omega) (by omega)]
                      dsimp only [cond]
                      refine fe_s 2 (pc' := 259) (lc' := [(3, .int 0), (2, .int (x1_5 &&& (xd6 ^^^ (-1)))), (1, .int x1_5), (0, .ref 0)]) (stk' := []) (mem' := fm g tp bt a_7 b) (fun _ _ _ => rfl) ?_
                      have loop8 : ∀ (r i8 : Nat), i8 + r = NC → ∀ a_8 : Nat → Nat → Int32, fm_D a0 a_8 (T + 1) → fe_R 5 gk_m285 259 [(3, .int (nI i8)), (2, .int (x1_5 &&& (xd6 ^^^ (-1)))), (1, .int x1_5), (0, .ref 0)] [] (fm g tp bt a_8 b) (fun R => ∃ (v : Int32) (a' : Nat → Nat → Int32), fm_D a0 a' (T + 1) ∧ R = (some (.int v), fm g tp bt a' b)) := by
                        intro r
                        induction r with
                        | zero =>
                          intro i8 hi8 a_8 hD_8
                          obtain rfl : NC = i8 := by omega
                          refine fe_s 4 (pc' := 265) (lc' := [(3, .int (nI NC)), (2, .int (x1_5 &&& (xd6 ^^^ (-1)))), (1, .int x1_5), (0, .ref 0)]) (stk' := [.int 0, .ref 1, .int (nI NC)]) (mem' := fm g tp bt a_8 b) (fun _ _ _ => rfl) ?_
                          refine fe_ldI (by rfl) (by rfl) (fx_inN (i := 0) (by omega) (by omega)) ?_
                          rw [show Int32.toNatClampNeg (0) = 0 from rfl]
                          rw [show a_8 1 0 = nI NC from (fm_D_h hD_8 (by decide) rfl).trans eNC]
                          refine fe_s 1 (pc' := cond (fx_cb .ge (nI NC) (nI NC)) 322 269) (lc' := [(3, .int (nI NC)), (2, .int (x1_5 &&& (xd6 ^^^ (-1)))), (1, .int x1_5), (0, .ref 0)]) (stk' := []) (mem' := fm g tp bt a_8 b) (fun _ _ _ => rfl) ?_
                          rw [show (fx_cb .ge (nI NC) (nI NC)) = true from cb_geT (a := NC) (b := NC) (by omega) (by omega) (by omega)]
                          dsimp only [cond]
                          refine fe_s 1 (pc' := 323) (lc' := [(3, .int (nI NC)), (2, .int (x1_5 &&& (xd6 ^^^ (-1)))), (1, .int x1_5), (0, .ref 0)]) (stk' := [.int (x1_5 &&& (xd6 ^^^ (-1)))]) (mem' := fm g tp bt a_8 b) (fun _ _ _ => rfl) ?_
                          exact fe_ret ⟨_, _, hD_8, rfl⟩ (by rfl) (by rfl) (by rfl)
                        | succ r ih8 =>
                          intro i8 hi8 a_8 hD_8
                          have hl8 : i8 < NC := by omega
                          refine fe_s 4 (pc' := 265) (lc' := [(3, .int (nI i8)), (2, .int (x1_5 &&& (xd6 ^^^ (-1)))), (1, .int x1_5), (0, .ref 0)]) (stk' := [.int 0, .ref 1, .int (nI i8)]) (mem' := fm g tp bt a_8 b) (fun _ _ _ => rfl) ?_
                          refine fe_ldI (by rfl) (by rfl) (fx_inN (i := 0) (by omega) (by omega)) ?_
                          rw [show Int32.toNatClampNeg (0) = 0 from rfl]
                          rw [show a_8 1 0 = nI NC from (fm_D_h hD_8 (by decide) rfl).trans eNC]
                          refine fe_s 1 (pc' := cond (fx_cb .ge (nI i8) (nI NC)) 322 269) (lc' := [(3, .int (nI i8)), (2, .int (x1_5 &&& (xd6 ^^^ (-1)))), (1, .int x1_5), (0, .ref 0)]) (stk' := []) (mem' := fm g tp bt a_8 b) (fun _ _ _ => rfl) ?_
                          rw [show (fx_cb .ge (nI i8) (nI NC)) = false from cb_geF (a := i8) (b := NC) (by omega) (by omega) (by omega)]
                          dsimp only [cond]
                          refine fe_s 2 (pc' := 271) (lc' := [(3, .int (nI i8)), (2, .int (x1_5 &&& (xd6 ^^^ (-1)))), (1, .int x1_5), (0, .ref 0)]) (stk' := [.int (nI i8), .ref 0]) (mem' := fm g tp bt a_8 b) (fun _ _ _ => rfl) ?_
                          obtain ⟨v9, z10, hv9⟩ := fq_isIce (C := i8) (g := g) (tp := tp) (bt := bt) (a := a_8) (b := b) (fm_D_t hB hD_8) (by omega)
                          refine fe_ivV hv9 (by omega) (by rfl) (by rfl) (by rfl) (by rfl) (by rfl) (by rfl) ?_
                          rcases z10 with rfl | rfl
                          · refine fe_s 1 (pc' := cond (fx_cb .eq 0 0) 316 277) (lc' := [(3, .int (nI i8)), (2, .int (x1_5 &&& (xd6 ^^^ (-1)))), (1, .int x1_5), (0, .ref 0)]) (stk' := []) (mem' := fm g tp bt a_8 b) (fun _ _ _ => rfl) ?_
                            rw [show (fx_cb .eq 0 0) = true from by decide]
                            dsimp only [cond]
                            refine fe_s 2 (pc' := 259) (lc' := [(3, .int ((nI i8) + 1)), (2, .int (x1_5 &&& (xd6 ^^^ (-1)))), (1, .int x1_5), (0, .ref 0)]) (stk' := []) (mem' := fm g tp bt a_8 b) (fun _ _ _ => rfl) ?_
                            rw [show ((nI i8) + 1 : Int32) = nI (i8 + 1) from by simp only [show (1 : Int32) = nI 1 from rfl, nI_add, fm_mul]]
                            exact ih8 (i8 + 1) (by omega) a_8 hD_8
                          · refine fe_s 1 (pc' := cond (fx_cb .eq 1 0) 316 277) (lc' := [(3, .int (nI i8)), (2, .int (x1_5 &&& (xd6 ^^^ (-1)))), (1, .int x1_5), (0, .ref 0)]) (stk' := []) (mem' := fm g tp bt a_8 b) (fun _ _ _ => rfl) ?_
                            rw [show (fx_cb .eq 1 0) = false from by decide]
                            dsimp only [cond]
                            refine fe_s 2 (pc' := 279) (lc' := [(3, .int (nI i8)), (2, .int (x1_5 &&& (xd6 ^^^ (-1)))), (1, .int x1_5), (0, .ref 0)]) (stk' := [.int (nI i8), .ref 0]) (mem' := fm g tp bt a_8 b) (fun _ _ _ => rfl) ?_
                            obtain ⟨v11, z12, hv11⟩ := fq_isBroken (C := i8) (g := g) (tp := tp) (bt := bt) (a := a_8) (b := b) (by omega)
                            refine fe_ivV hv11 (by omega) (by rfl) (by rfl) (by rfl) (by rfl) (by rfl) (by rfl) ?_
                            rcases z12 with rfl | rfl
                            · refine fe_s 1 (pc' := cond (fx_cb .ne 0 0) 316 285) (lc' := [(3, .int (nI i8)), (2, .int (x1_5 &&& (xd6 ^^^ (-1)))), (1, .int x1_5), (0, .ref 0)]) (stk' := []) (mem' := fm g tp bt a_8 b) (fun _ _ _ => rfl) ?_
                              rw [show (fx_cb .ne 0 0) = false from by decide]
                              dsimp only [cond]
                              refine fe_s 3 (pc' := 290) (lc' := [(3, .int (nI i8)), (2, .int (x1_5 &&& (xd6 ^^^ (-1)))), (1, .int x1_5), (0, .ref 0)]) (stk' := [.int (nI i8), .ref 1]) (mem' := fm g tp bt a_8 b) (fun _ _ _ => rfl) ?_
                              refine fe_ivS fr_cellRow (by omega) (by rfl) (by rfl) (by rfl) (by rfl) (by rfl) ?_
                              rw [show (8 + 6 * (nI i8) : Int32) = nI (8 + (6 * i8)) from by simp only [show (8 : Int32) = nI 8 from rfl, show (6 : Int32) = nI 6 from rfl, nI_add, fm_mul]]
                              refine fe_s 5 (pc' := 300) (lc' := [(3, .int (nI i8)), (2, .int (x1_5 &&& (xd6 ^^^ (-1)))), (1, .int x1_5), (0, .ref 0)]) (stk' := [.int (nI i8), .ref 1, .int ((nI (8 + (6 * i8))) + 5), .ref 1]) (mem' := fm g tp bt a_8 b) (fun _ _ _ => rfl) ?_
                              rw [show ((nI (8 + (6 * i8))) + 5 : Int32) = nI ((8 + (6 * i8)) + 5) from by simp only [show (5 : Int32) = nI 5 from rfl, nI_add, fm_mul]]
                              refine fe_ivS fr_cellRow (by omega) (by rfl) (by rfl) (by rfl) (by rfl) (by rfl) ?_
                              rw [show (8 + 6 * (nI i8) : Int32) = nI (8 + (6 * i8)) from by simp only [show (8 : Int32) = nI 8 from rfl, show (6 : Int32) = nI 6 from rfl, nI_add, fm_mul]]
                              refine fe_s 2 (pc' := 305) (lc' := [(3, .int (nI i8)), (2, .int (x1_5 &&& (xd6 ^^^ (-1)))), (1, .int x1_5), (0, .ref 0)]) (stk' := [.int ((nI (8 + (6 * i8))) + 5), .ref 1, .int (nI ((8 + (6 * i8)) + 5)), .ref 1]) (mem' := fm g tp bt a_8 b) (fun _ _ _ => rfl) ?_
                              rw [show ((nI (8 + (6 * i8))) + 5 : Int32) = nI ((8 + (6 * i8)) + 5) from by simp only [show (5 : Int32) = nI 5 from rfl, nI_add, fm_mul]]
                              refine fe_ldI (by rfl) (by rfl) (fx_inN (i := (8 + (6 * i8)) + 5) (by omega) (by omega)) ?_
                              rw [show Int32.toNatClampNeg (nI ((8 + (6 * i8)) + 5)) = (8 + (6 * i8)) + 5 from nI_clamp (by omega)]
                              refine fe_s 3 (pc' := 309) (lc' := [(3, .int (nI i8)), (2, .int (x1_5 &&& (xd6 ^^^ (-1)))), (1, .int x1_5), (0, .ref 0)]) (stk' := [.int (-1), .int (nI i8), .ref 0, .int (a_8 1 ((8 + (6 * i8)) + 5)), .int (nI ((8 + (6 * i8)) + 5)), .ref 1]) (mem' := fm g tp bt a_8 b) (fun _ _ _ => rfl) ?_
                              obtain ⟨v13, hv13⟩ := fq_loadBut (C := i8) (w := (-1)) (g := g) (tp := tp) (bt := bt) (a := a_8) (b := b) (fm_D_t hB hD_8) (by omega)
                              refine fe_ivV hv13 (by omega) (by rfl) (by rfl) (by rfl) (by rfl) (by rfl) (by rfl) ?_
                              refine fe_s 1 (pc' := 315) (lc' := [(3, .int (nI i8)), (2, .int (x1_5 &&& (xd6 ^^^ (-1)))), (1, .int x1_5), (0, .ref 0)]) (stk' := [.int (if (a_8 1 ((8 + (6 * i8)) + 5)) < v13 then v13 else (a_8 1 ((8 + (6 * i8)) + 5))), .int (nI ((8 + (6 * i8)) + 5)), .ref 1]) (mem' := fm g tp bt a_8 b) (fun _ _ _ => rfl) ?_
                              refine fe_stI (mem' := fm g tp bt (fm_u a_8 1 (nI ((8 + (6 * i8)) + 5) : Int32).toNatClampNeg (if (a_8 1 ((8 + (6 * i8)) + 5)) < v13 then v13 else (a_8 1 ((8 + (6 * i8)) + 5)))) b) (by rfl) (by rfl) (fx_inN (i := (8 + (6 * i8)) + 5) (by omega) (by omega)) fm_si1 ?_
                              rw [show Int32.toNatClampNeg (nI ((8 + (6 * i8)) + 5)) = (8 + (6 * i8)) + 5 from nI_clamp (by omega)]
                              obtain ⟨at14, hat14⟩ : ∃ z, z = fm_u a_8 1 ((8 + (6 * i8)) + 5) (if (a_8 1 ((8 + (6 * i8)) + 5)) < v13 then v13 else (a_8 1 ((8 + (6 * i8)) + 5))) := ⟨_, rfl⟩
                              rw [← hat14]
                              have hDt14 : fm_D a0 at14 (T + 1) := by rw [hat14, show (8 + (6 * i8)) + 5 = 13 + 6 * i8 by omega]; exact fm_Dc5 hD_8 (by omega)
                              refine fe_s 2 (pc' := 259) (lc' := [(3, .int ((nI i8) + 1)), (2, .int (x1_5 &&& (xd6 ^^^ (-1)))), (1, .int x1_5), (0, .ref 0)]) (stk' := []) (mem' := fm g tp bt at14 b) (fun _ _ _ => rfl) ?_
                              rw [show ((nI i8) + 1 : Int32) = nI (i8 + 1) from by simp only [show (1 : Int32) = nI 1 from rfl, nI_add, fm_mul]]
                              exact ih8 (i8 + 1) (by omega) at14 hDt14
                            · refine fe_s 1 (pc' := cond (fx_cb .ne 1 0) 316 285) (lc' := [(3, .int (nI i8)), (2, .int (x1_5 &&& (xd6 ^^^ (-1)))), (1, .int x1_5), (0, .ref 0)]) (stk' := []) (mem' := fm g tp bt a_8 b) (fun _ _ _ => rfl) ?_
                              rw [show (fx_cb .ne 1 0) = true from by decide]
                              dsimp only [cond]
                              refine fe_s 2 (pc' := 259) (lc' := [(3, .int ((nI i8) + 1)), (2, .int (x1_5 &&& (xd6 ^^^ (-1)))), (1, .int x1_5), (0, .ref 0)]) (stk' := []) (mem' := fm g tp bt a_8 b) (fun _ _ _ => rfl) ?_
                              rw [show ((nI i8) + 1 : Int32) = nI (i8 + 1) from by simp only [show (1 : Int32) = nI 1 from rfl, nI_add, fm_mul]]
                              exact ih8 (i8 + 1) (by omega) a_8 hD_8
                      exact loop8 (NC) 0 (by omega) a_7 hD_7
                    | succ r ih7 =>
                      intro i7 hi7 a_7 hD_7
                      have hl7 : i7 < NC := by omega
                      refine fe_s 4 (pc' := 233) (lc' := [(3, .int (nI i7)), (2, .int (x1_5 &&& (xd6 ^^^ (-1)))), (1, .int x1_5), (0, .ref 0)]) (stk' := [.int 0, .ref 1, .int (nI i7)]) (mem' := fm g tp bt a_7 b) (fun _ _ _ => rfl) ?_
                      refine fe_ldI (by rfl) (by rfl) (fx_inN (i := 0) (by omega) (by omega)) ?_
                      rw [show Int32.toNatClampNeg (0) = 0 from rfl]
                      rw [show a_7 1 0 = nI NC from (fm_D_h hD_7 (by decide) rfl).trans eNC]
                      refine fe_s 1 (pc' := cond (fx_cb .ge (nI i7) (nI NC)) 257 237) (lc' := [(3, .int (nI i7)), (2, .int (x1_5 &&& (xd6 ^^^ (-1)))), (1, .int x1_5), (0, .ref 0)]) (stk' := []) (mem' := fm g tp bt a_7 b) (fun _ _ _ => rfl) ?_
                      rw [show (fx_cb .ge (nI i7) (nI NC)) = false from cb_geF (a := i7) (b := NC) (by omega) (by omega) (by omega)]
                      dsimp only [cond]
                      refine fe_s 3 (pc' := 240) (lc' := [(3, .int (nI i7)), (2, .int (x1_5 &&& (xd6 ^^^ (-1)))), (1, .int x1_5), (0, .ref 0)]) (stk' := [.int (nI i7), .int x1_5, .ref 0]) (mem' := fm g tp bt a_7 b) (fun _ _ _ => rfl) ?_
                      refine fe_ivV fr_isIn (by omega) (by rfl) (by rfl) (by rfl) (by rfl) (by rfl) (by rfl) ?_
                      rcases fm_b_01 x1_5 (nI i7) with q15 | q15
                      · rw [q15]
                        refine fe_s 1 (pc' := cond (fx_cb .eq 0 0) 251 246) (lc' := [(3, .int (nI i7)), (2, .int (x1_5 &&& (xd6 ^^^ (-1)))), (1, .int x1_5), (0, .ref 0)]) (stk' := []) (mem' := fm g tp bt a_7 b) (fun _ _ _ => rfl) ?_
                        rw [show (fx_cb .eq 0 0) = true from by decide]
                        dsimp only [cond]
                        refine fe_s 2 (pc' := 227) (lc' := [(3, .int ((nI i7) + 1)), (2, .int (x1_5 &&& (xd6 ^^^ (-1)))), (1, .int x1_5), (0, .ref 0)]) (stk' := []) (mem' := fm g tp bt a_7 b) (fun _ _ _ => rfl) ?_
                        rw [show ((nI i7) + 1 : Int32) = nI (i7 + 1) from by simp only [show (1 : Int32) = nI 1 from rfl, nI_add, fm_mul]]
                        exact ih7 (i7 + 1) (by omega) a_7 hD_7
                      · rw [q15]
                        refine fe_s 1 (pc' := cond (fx_cb .eq 1 0) 251 246) (lc' := [(3, .int (nI i7)), (2, .int (x1_5 &&& (xd6 ^^^ (-1)))), (1, .int x1_5), (0, .ref 0)]) (stk' := []) (mem' := fm g tp bt a_7 b) (fun _ _ _ => rfl) ?_
                        rw [show (fx_cb .eq 1 0) = false from by decide]
                        dsimp only [cond]
                        refine fe_s 2 (pc' := 248) (lc' := [(3, .int (nI i7)), (2, .int (x1_5 &&& (xd6 ^^^ (-1)))), (1, .int x1_5), (0, .ref 0)]) (stk' := [.int (nI i7), .ref 0]) (mem' := fm g tp bt a_7 b) (fun _ _ _ => rfl) ?_
                        obtain ⟨vd16, memd16, ⟨ad16, hDd16, hRd16⟩, hfrd16⟩ := fr_breaks (C := i7) (g := g) (tp := tp) (bt := bt) (a := a_7) (b := b) hB hD_7 (by omega)
                        cases hRd16
                        refine fe_ivV hfrd16 (by omega) (by rfl) (by rfl) (by rfl) (by rfl) (by rfl) (by rfl) ?_
                        refine fe_s 2 (pc' := 227) (lc' := [(3, .int ((nI i7) + 1)), (2, .int (x1_5 &&& (xd6 ^^^ (-1)))), (1, .int x1_5), (0, .ref 0)]) (stk' := []) (mem' := fm g tp bt ad16 b) (fun _ _ _ => rfl) ?_
                        rw [show ((nI i7) + 1 : Int32) = nI (i7 + 1) from by simp only [show (1 : Int32) = nI 1 from rfl, nI_add, fm_mul]]
                        exact ih7 (i7 + 1) (by omega) ad16 hDd16
                  exact loop7 (NC) 0 (by omega) ad6 hDd6
                | succ r ih5 =>
                  intro i5 hi5 x1_5 a_5 hD_5
                  have hl5 : i5 < NC := by omega
                  refine fe_s 4 (pc' := 173) (lc' := [(2, .int (nI i5)), (1, .int x1_5), (0, .ref 0)]) (stk' := [.int 0, .ref 1, .int (nI i5)]) (mem' := fm g tp bt a_5 b) (fun _ _ _ => rfl) ?_
                  refine fe_ldI (by rfl) (by rfl) (fx_inN (i := 0) (by omega) (by omega)) ?_
                  rw [show Int32.toNatClampNeg (0) = 0 from rfl]
                  rw [show a_5 1 0 = nI NC from (fm_D_h hD_5 (by decide) rfl).trans eNC]
                  refine fe_s 1 (pc' := cond (fx_cb .ge (nI i5) (nI NC)) 215 177) (lc' := [(2, .int (nI i5)), (1, .int x1_5), (0, .ref 0)]) (stk' := []) (mem' := fm g tp bt a_5 b) (fun _ _ _ => rfl) ?_
                  rw [show (fx_cb .ge (nI i5) (nI NC)) = false from cb_geF (a := i5) (b := NC) (by omega) (by omega) (by omega)]
                  dsimp only [cond]
                  refine fe_s 3 (pc' := 180) (lc' := [(2, .int (nI i5)), (1, .int x1_5), (0, .ref 0)]) (stk' := [.int (nI i5), .ref 0, .int x1_5]) (mem' := fm g tp bt a_5 b) (fun _ _ _ => rfl) ?_
                  obtain ⟨v17, z18, hv17⟩ := fq_isIce (C := i5) (g := g) (tp := tp) (bt := bt) (a := a_5) (b := b) (fm_D_t hB hD_5) (by omega)
                  refine fe_ivV hv17 (by omega) (by rfl) (by rfl) (by rfl) (by rfl) (by rfl) (by rfl) ?_
                  rcases z18 with rfl | rfl
                  · refine fe_s 1 (pc' := cond (fx_cb .eq 0 0) 206 186) (lc' := [(2, .int (nI i5)), (1, .int x1_5), (0, .ref 0)]) (stk' := [.int x1_5]) (mem' := fm g tp bt a_5 b) (fun _ _ _ => rfl) ?_
                    rw [show (fx_cb .eq 0 0) = true from by decide]
                    dsimp only [cond]
                    refine fe_s 5 (pc' := 167) (lc' := [(2, .int ((nI i5) + 1)), (1, .int (x1_5 ||| 0)), (0, .ref 0)]) (stk' := []) (mem' := fm g tp bt a_5 b) (fun _ _ _ => rfl) ?_
                    rw [show ((nI i5) + 1 : Int32) = nI (i5 + 1) from by simp only [show (1 : Int32) = nI 1 from rfl, nI_add, fm_mul]]
                    exact ih5 (i5 + 1) (by omega) _ a_5 hD_5
                  · refine fe_s 1 (pc' := cond (fx_cb .eq 1 0) 206 186) (lc' := [(2, .int (nI i5)), (1, .int x1_5), (0, .ref 0)]) (stk' := [.int x1_5]) (mem' := fm g tp bt a_5 b) (fun _ _ _ => rfl) ?_
                    rw [show (fx_cb .eq 1 0) = false from by decide]
                    dsimp only [cond]
                    refine fe_s 3 (pc' := 189) (lc' := [(2, .int (nI i5)), (1, .int x1_5), (0, .ref 0)]) (stk' := [.int (-1), .int (nI i5), .ref 0, .int x1_5]) (mem' := fm g tp bt a_5 b) (fun _ _ _ => rfl) ?_
                    obtain ⟨v19, hv19⟩ := fq_loadBut (C := i5) (w := (-1)) (g := g) (tp := tp) (bt := bt) (a := a_5) (b := b) (fm_D_t hB hD_5) (by omega)
                    refine fe_ivV hv19 (by omega) (by rfl) (by rfl) (by rfl) (by rfl) (by rfl) (by rfl) ?_
                    refine fe_s 2 (pc' := 194) (lc' := [(2, .int (nI i5)), (1, .int x1_5), (0, .ref 0)]) (stk' := [.int (nI i5), .ref 0, .int v19, .int x1_5]) (mem' := fm g tp bt a_5 b) (fun _ _ _ => rfl) ?_
                    obtain ⟨v20, hv20⟩ := fq_strengthOf (C := i5) (g := g) (tp := tp) (bt := bt) (a := a_5) (b := b) (fm_D_t hB hD_5) (by omega)
                    refine fe_ivV hv20 (by omega) (by rfl) (by rfl) (by rfl) (by rfl) (by rfl) (by rfl) ?_
                    refine fe_s 1 (pc' := cond (fx_cb .le v19 v20) 206 200) (lc' := [(2, .int (nI i5)), (1, .int x1_5), (0, .ref 0)]) (stk' := [.int x1_5]) (mem' := fm g tp bt a_5 b) (fun _ _ _ => rfl) ?_
                    cases h21 : fx_cb .le v19 v20
                    · refine fe_s 8 (pc' := 167) (lc' := [(2, .int ((nI i5) + 1)), (1, .int (x1_5 ||| ((1 : Int32) <<< ((nI i5) &&& 31)))), (0, .ref 0)]) (stk' := []) (mem' := fm g tp bt a_5 b) (fun _ _ _ => rfl) ?_
                      rw [show ((nI i5) + 1 : Int32) = nI (i5 + 1) from by simp only [show (1 : Int32) = nI 1 from rfl, nI_add, fm_mul]]
                      exact ih5 (i5 + 1) (by omega) _ a_5 hD_5
                    · refine fe_s 5 (pc' := 167) (lc' := [(2, .int ((nI i5) + 1)), (1, .int (x1_5 ||| 0)), (0, .ref 0)]) (stk' := []) (mem' := fm g tp bt a_5 b) (fun _ _ _ => rfl) ?_
                      rw [show ((nI i5) + 1 : Int32) = nI (i5 + 1) from by simp only [show (1 : Int32) = nI 1 from rfl, nI_add, fm_mul]]
                      exact ih5 (i5 + 1) (by omega) _ a_5 hD_5
              exact loop5 (NC) 0 (by omega) _ a_4 hD_4
            | succ r ih4 =>
              intro i4 hi4 a_4 hD_4
              have hl4 : i4 < NC := by omega
              refine fe_s 4 (pc' := 90) (lc' := [(1, .int (nI i4)), (0, .ref 0)]) (stk' := [.int 0, .ref 1, .int (nI i4)]) (mem' := fm g tp bt a_4 b) (fun _ _ _ => rfl) ?_
              refine fe_ldI (by rfl) (by rfl) (fx_inN (i := 0) (by omega) (by omega)) ?_
              rw [show Int32.toNatClampNeg (0) = 0 from rfl]
              rw [show a_4 1 0 = nI NC from (fm_D_h hD_4 (by decide) rfl).trans eNC]
              refine fe_s 1 (pc' := cond (fx_cb .ge (nI i4) (nI NC)) 163 94) (lc' := [(1, .int (nI i4)), (0, .ref 0)]) (stk' := []) (mem' := fm g tp bt a_4 b) (fun _ _ _ => rfl) ?_
              rw [show (fx_cb .ge (nI i4) (nI NC)) = false from cb_geF (a := i4) (b := NC) (by omega) (by omega) (by omega)]
              dsimp only [cond]
              refine fe_s 2 (pc' := 96) (lc' := [(1, .int (nI i4)), (0, .ref 0)]) (stk' := [.int (nI i4), .ref 0]) (mem' := fm g tp bt a_4 b) (fun _ _ _ => rfl) ?_
              obtain ⟨v22, z23, hv22⟩ := fq_isIce (C := i4) (g := g) (tp := tp) (bt := bt) (a := a_4) (b := b) (fm_D_t hB hD_4) (by omega)
              refine fe_ivV hv22 (by omega) (by rfl) (by rfl) (by rfl) (by rfl) (by rfl) (by rfl) ?_
              rcases z23 with rfl | rfl
              · refine fe_s 1 (pc' := cond (fx_cb .eq 0 0) 157 102) (lc' := [(1, .int (nI i4)), (0, .ref 0)]) (stk' := []) (mem' := fm g tp bt a_4 b) (fun _ _ _ => rfl) ?_
                rw [show (fx_cb .eq 0 0) = true from by decide]
                dsimp only [cond]
                refine fe_s 1 (pc' := 160) (lc' := [(1, .int ((nI i4) + 1)), (0, .ref 0)]) (stk' := []) (mem' := fm g tp bt a_4 b) (fun _ _ _ => rfl) ?_
                rw [show ((nI i4) + 1 : Int32) = nI (i4 + 1) from by simp only [show (1 : Int32) = nI 1 from rfl, nI_add, fm_mul]]
                refine fe_s 1 (pc' := fx_to 160 (-76)) (lc' := [(1, .int (nI (i4 + 1))), (0, .ref 0)]) (stk' := []) (mem' := fm g tp bt a_4 b) (fun _ _ _ => rfl) ?_
                rw [show fx_to 160 (-76) = 84 from by decide]
                exact ih4 (i4 + 1) (by omega) a_4 hD_4
              · refine fe_s 1 (pc' := cond (fx_cb .eq 1 0) 157 102) (lc' := [(1, .int (nI i4)), (0, .ref 0)]) (stk' := []) (mem' := fm g tp bt a_4 b) (fun _ _ _ => rfl) ?_
                rw [show (fx_cb .eq 1 0) = false from by decide]
                dsimp only [cond]
                refine fe_s 2 (pc' := 104) (lc' := [(1, .int (nI i4)), (0, .ref 0)]) (stk' := [.int (nI i4), .ref 0]) (mem' := fm g tp bt a_4 b) (fun _ _ _ => rfl) ?_
                obtain ⟨v24, z25, hv24⟩ := fq_isBroken (C := i4) (g := g) (tp := tp) (bt := bt) (a := a_4) (b := b) (by omega)
                refine fe_ivV hv24 (by omega) (by rfl) (by rfl) (by rfl) (by rfl) (by rfl) (by rfl) ?_
                rcases z25 with rfl | rfl
                · refine fe_s 1 (pc' := cond (fx_cb .ne 0 0) 157 110) (lc' := [(1, .int (nI i4)), (0, .ref 0)]) (stk' := []) (mem' := fm g tp bt a_4 b) (fun _ _ _ => rfl) ?_
                  rw [show (fx_cb .ne 0 0) = false from by decide]
                  dsimp only [cond]
                  refine fe_s 3 (pc' := 115) (lc' := [(1, .int (nI i4)), (0, .ref 0)]) (stk' := [.int (nI i4), .ref 1]) (mem' := fm g tp bt a_4 b) (fun _ _ _ => rfl) ?_
                  refine fe_ivS fr_cellRow (by omega) (by rfl) (by rfl) (by rfl) (by rfl) (by rfl) ?_
                  rw [show (8 + 6 * (nI i4) : Int32) = nI (8 + (6 * i4)) from by simp only [show (8 : Int32) = nI 8 from rfl, show (6 : Int32) = nI 6 from rfl, nI_add, fm_mul]]
                  refine fe_s 6 (pc' := 128) (lc' := [(1, .int (nI i4)), (0, .ref 0)]) (stk' := [.int (nI i4), .ref 1, .int 999, .int ((nI (8 + (6 * i4))) + 1), .ref 1]) (mem' := fm g tp bt a_4 b) (fun _ _ _ => rfl) ?_
                  rw [show ((nI (8 + (6 * i4))) + 1 : Int32) = nI ((8 + (6 * i4)) + 1) from by simp only [show (1 : Int32) = nI 1 from rfl, nI_add, fm_mul]]
                  refine fe_ivS fr_cellRow (by omega) (by rfl) (by rfl) (by rfl) (by rfl) (by rfl) ?_
                  rw [show (8 + 6 * (nI i4) : Int32) = nI (8 + (6 * i4)) from by simp only [show (8 : Int32) = nI 8 from rfl, show (6 : Int32) = nI 6 from rfl, nI_add, fm_mul]]
                  refine fe_s 2 (pc' := 133) (lc' := [(1, .int (nI i4)), (0, .ref 0)]) (stk' := [.int ((nI (8 + (6 * i4))) + 1), .ref 1, .int 999, .int (nI ((8 + (6 * i4)) + 1)), .ref 1]) (mem' := fm g tp bt a_4 b) (fun _ _ _ => rfl) ?_
                  rw [show ((nI (8 + (6 * i4))) + 1 : Int32) = nI ((8 + (6 * i4)) + 1) from by simp only [show (1 : Int32) = nI 1 from rfl, nI_add, fm_mul]]
                  refine fe_ldI (by rfl) (by rfl) (fx_inN (i := (8 + (6 * i4)) + 1) (by omega) (by omega)) ?_
                  rw [show Int32.toNatClampNeg (nI ((8 + (6 * i4)) + 1)) = (8 + (6 * i4)) + 1 from nI_clamp (by omega)]
                  refine fe_s 3 (pc' := 139) (lc' := [(1, .int (nI i4)), (0, .ref 0)]) (stk' := [.int 4, .ref 1, .int (a_4 1 ((8 + (6 * i4)) + 1)), .int 999, .int (nI ((8 + (6 * i4)) + 1)), .ref 1]) (mem' := fm g tp bt a_4 b) (fun _ _ _ => rfl) ?_
                  refine fe_ldI (by rfl) (by rfl) (fx_inN (i := 4) (by omega) (by omega)) ?_
                  rw [show Int32.toNatClampNeg (4) = 4 from rfl]
                  refine fe_s 5 (pc' := 147) (lc' := [(1, .int (nI i4)), (0, .ref 0)]) (stk' := [.int 3, .ref 1, .int (nI i4), .ref 0, .int (a_4 1 4), .int (a_4 1 ((8 + (6 * i4)) + 1)), .int 999, .int (nI ((8 + (6 * i4)) + 1)), .ref 1]) (mem' := fm g tp bt a_4 b) (fun _ _ _ => rfl) ?_
                  refine fe_ldI (by rfl) (by rfl) (fx_inN (i := 3) (by omega) (by omega)) ?_
                  rw [show Int32.toNatClampNeg (3) = 3 from rfl]
                  rw [show a_4 1 3 = nI NG from (fm_D_h hD_4 (by decide) rfl).trans eNG]
                  obtain ⟨v26, hv26⟩ := fq_cameAgo (C := i4) (S := NG) (g := g) (tp := tp) (bt := bt) (a := a_4) (b := b) (fm_D_t hB hD_4) (by omega) (by omega)
                  refine fe_ivV hv26 (by omega) (by rfl) (by rfl) (by rfl) (by rfl) (by rfl) (by rfl) ?_
                  refine fe_s 2 (pc' := 153) (lc' := [(1, .int (nI i4)), (0, .ref 0)]) (stk' := [.int ((a_4 1 ((8 + (6 * i4)) + 1)) + ((a_4 1 4) * v26)), .int 999, .int (nI ((8 + (6 * i4)) + 1)), .ref 1]) (mem' := fm g tp bt a_4 b) (fun _ _ _ => rfl) ?_
                  refine fe_s 1 (pc' := 156) (lc' := [(1, .int (nI i4)), (0, .ref 0)]) (stk' := [.int (if ((a_4 1 ((8 + (6 * i4)) + 1)) + ((a_4 1 4) * v26)) < 999 then ((a_4 1 ((8 + (6 * i4)) + 1)) + ((a_4 1 4) * v26)) else 999), .int (nI ((8 + (6 * i4)) + 1)), .ref 1]) (mem' := fm g tp bt a_4 b) (fun _ _ _ => rfl) ?_
                  refine fe_stI (mem' := fm g tp bt (fm_u a_4 1 (nI ((8 + (6 * i4)) + 1) : Int32).toNatClampNeg (if ((a_4 1 ((8 + (6 * i4)) + 1)) + ((a_4 1 4) * v26)) < 999 then ((a_4 1 ((8 + (6 * i4)) + 1)) + ((a_4 1 4) * v26)) else 999)) b) (by rfl) (by rfl) (fx_inN (i := (8 + (6 * i4)) + 1) (by omega) (by omega)) fm_si1 ?_
                  rw [show Int32.toNatClampNeg (nI ((8 + (6 * i4)) + 1)) = (8 + (6 * i4)) + 1 from nI_clamp (by omega)]
                  obtain ⟨at27, hat27⟩ : ∃ z, z = fm_u a_4 1 ((8 + (6 * i4)) + 1) (if ((a_4 1 ((8 + (6 * i4)) + 1)) + ((a_4 1 4) * v26)) < 999 then ((a_4 1 ((8 + (6 * i4)) + 1)) + ((a_4 1 4) * v26)) else 999) := ⟨_, rfl⟩
                  rw [← hat27]
                  have hDt27 : fm_D a0 at27 (T + 1) := by rw [hat27, show (8 + (6 * i4)) + 1 = 9 + 6 * i4 by omega]; exact fm_Dc1 hD_4 (by omega)
                  refine fe_s 1 (pc' := 160) (lc' := [(1, .int ((nI i4) + 1)), (0, .ref 0)]) (stk' := []) (mem' := fm g tp bt at27 b) (fun _ _ _ => rfl) ?_
                  rw [show ((nI i4) + 1 : Int32) = nI (i4 + 1) from by simp only [show (1 : Int32) = nI 1 from rfl, nI_add, fm_mul]]
                  refine fe_s 1 (pc' := fx_to 160 (-76)) (lc' := [(1, .int (nI (i4 + 1))), (0, .ref 0)]) (stk' := []) (mem' := fm g tp bt at27 b) (fun _ _ _ => rfl) ?_
                  rw [show fx_to 160 (-76) = 84 from by decide]
                  exact ih4 (i4 + 1) (by omega) at27 hDt27
                · refine fe_s 1 (pc' := cond (fx_cb .ne 1 0) 157 110) (lc' := [(1, .int (nI i4)), (0, .ref 0)]) (stk' := []) (mem' := fm g tp bt a_4 b) (fun _ _ _ => rfl) ?_
                  rw [show (fx_cb .ne 1 0) = true from by decide]
                  dsimp only [cond]
                  refine fe_s 1 (pc' := 160) (lc' := [(1, .int ((nI i4) + 1)), (0, .ref 0)]) (stk' := []) (mem' := fm g tp bt a_4 b) (fun _ _ _ => rfl) ?_
                  rw [show ((nI i4) + 1 : Int32) = nI (i4 + 1) from by simp only [show (1 : Int32) = nI 1 from rfl, nI_add, fm_mul]]
                  refine fe_s 1 (pc' := fx_to 160 (-76)) (lc' := [(1, .int (nI (i4 + 1))), (0, .ref 0)]) (stk' := []) (mem' := fm g tp bt a_4 b) (fun _ _ _ => rfl) ?_
                  rw [show fx_to 160 (-76) = 84 from by decide]
                  exact ih4 (i4 + 1) (by omega) a_4 hD_4
          exact loop4 (NC) 0 (by omega) a_3 hD_3
        | succ r ih3 =>
          intro i3 hi3 a_3 hD_3
          have hl3 : i3 < NW := by omega
          refine fe_s 4 (pc' := 59) (lc' := [(1, .int (nI i3)), (0, .ref 0)]) (stk' := [.int 1, .ref 1, .int (nI i3)]) (mem' := fm g tp bt a_3 b) (fun _ _ _ => rfl) ?_
          refine fe_ldI (by rfl) (by rfl) (fx_inN (i := 1) (by omega) (by omega)) ?_
          rw [show Int32.toNatClampNeg (1) = 1 from rfl]
          rw [show a_3 1 1 = nI NW from (fm_D_h hD_3 (by decide) rfl).trans eNW]
          refine fe_s 1 (pc' := cond (fx_cb .ge (nI i3) (nI NW)) 82 63) (lc' := [(1, .int (nI i3)), (0, .ref 0)]) (stk' := []) (mem' := fm g tp bt a_3 b) (fun _ _ _ => rfl) ?_
          rw [show (fx_cb .ge (nI i3) (nI NW)) = false from cb_geF (a := i3) (b := NW) (by omega) (by omega) (by omega)]
          dsimp only [cond]
          refine fe_s 2 (pc' := 65) (lc' := [(1, .int (nI i3)), (0, .ref 0)]) (stk' := [.int (nI i3), .ref 0]) (mem' := fm g tp bt a_3 b) (fun _ _ _ => rfl) ?_
          refine fe_ivV (fr_leftOfX (V := i3) (g := g) (tp := tp) (bt := bt) (a := a_3) (b := b) (by omega)) (by omega) (by rfl) (by rfl) (by rfl) (by rfl) (by rfl) (by rfl) ?_
          obtain ⟨l28, hl28, el28⟩ := fm_D_w3 hD_3 (W := i3) (by omega)
          rw [el28]
          refine fe_s 1 (pc' := cond (fx_cb .le (nI l28) 0) 76 71) (lc' := [(1, .int (nI i3)), (0, .ref 0)]) (stk' := []) (mem' := fm g tp bt a_3 b) (fun _ _ _ => rfl) ?_
          by_cases h29 : l28 ≤ 0
          · rw [show (fx_cb .le (nI l28) 0) = true from cb_leT (a := l28) (b := 0) (by omega) (by omega) (by omega)]
            dsimp only [cond]
            refine fe_s 2 (pc' := 53) (lc' := [(1, .int ((nI i3) + 1)), (0, .ref 0)]) (stk' := []) (mem' := fm g tp bt a_3 b) (fun _ _ _ => rfl) ?_
            rw [show ((nI i3) + 1 : Int32) = nI (i3 + 1) from by simp only [show (1 : Int32) = nI 1 from rfl, nI_add, fm_mul]]
            exact ih3 (i3 + 1) (by omega) a_3 hD_3
          · rw [show (fx_cb .le (nI l28) 0) = false from cb_leF (a := l28) (b := 0) (by omega) (by omega) (by omega)]
            dsimp only [cond]
            refine fe_s 2 (pc' := 73) (lc' := [(1, .int (nI i3)), (0, .ref 0)]) (stk' := [.int (nI i3), .ref 0]) (mem' := fm g tp bt a_3 b) (fun _ _ _ => rfl) ?_
            obtain ⟨vd30, memd30, ⟨ad30, hDd30, hRd30⟩, hfrd30⟩ := fr_walks (W := i3) (m := l28 - 1) (g := g) (tp := tp) (bt := bt) (a := a_3) (b := b) hB hD_3 (by omega) (by rw [show l28 - 1 + 1 = l28 by omega]; exact el28) (by omega)
            cases hRd30
            refine fe_ivV hfrd30 (by omega) (by rfl) (by rfl) (by rfl) (by rfl) (by rfl) (by rfl) ?_
            refine fe_s 2 (pc' := 53) (lc' := [(1, .int ((nI i3) + 1)), (0, .ref 0)]) (stk' := []) (mem' := fm g tp bt ad30 b) (fun _ _ _ => rfl) ?_
            rw [show ((nI i3) + 1 : Int32) = nI (i3 + 1) from by simp only [show (1 : Int32) = nI 1 from rfl, nI_add, fm_mul]]
            exact ih3 (i3 + 1) (by omega) ad30 hDd30
      exact loop3 (NW) 0 (by omega) a_2 hD_2
    | succ r ih2 =>
      intro i2 hi2 a_2 hD_2
      have hl2 : i2 < NC := by omega
      refine fe_s 4 (pc' := 18) (lc' := [(1, .int (nI i2)), (0, .ref 0)]) (stk' := [.int 0, .ref 1, .int (nI i2)]) (mem' := fm g tp bt a_2 b) (fun _ _ _ => rfl) ?_
      refine fe_ldI (by rfl) (by rfl) (fx_inN (i := 0) (by omega) (by omega)) ?_
      rw [show Int32.toNatClampNeg (0) = 0 from rfl]
      rw [show a_2 1 0 = nI NC from (fm_D_h hD_2 (by decide) rfl).trans eNC]
      refine fe_s 1 (pc' := cond (fx_cb .ge (nI i2) (nI NC)) 51 22) (lc' := [(1, .int (nI i2)), (0, .ref 0)]) (stk' := []) (mem' := fm g tp bt a_2 b) (fun _ _ _ => rfl) ?_
      rw [show (fx_cb .ge (nI i2) (nI NC)) = false from cb_geF (a := i2) (b := NC) (by omega) (by omega) (by omega)]
      dsimp only [cond]
      refine fe_s 10 (pc' := 38) (lc' := [(1, .int (nI i2)), (0, .ref 0)]) (stk' := [.int 5, .ref 1, .int (68 + (21 * (nI i2))), .ref 1]) (mem' := fm g tp bt a_2 b) (fun _ _ _ => rfl) ?_
      rw [show (68 + (21 * (nI i2)) : Int32) = nI (68 + (21 * i2)) from by simp only [show (68 : Int32) = nI 68 from rfl, show (21 : Int32) = nI 21 from rfl, nI_add, fm_mul]]
      refine fe_ldI (by rfl) (by rfl) (fx_inN (i := 5) (by omega) (by omega)) ?_
      rw [show Int32.toNatClampNeg (5) = 5 from rfl]
      rw [show a_2 1 5 = nI (T + 1) from hD_2.2.2.2.1]
      refine fe_s 4 (pc' := 44) (lc' := [(1, .int (nI i2)), (0, .ref 0)]) (stk' := [.int 0, .int ((nI (68 + (21 * i2))) + ((nI (T + 1)) - (nI (T + 1)) / 21 * 21)), .ref 1]) (mem' := fm g tp bt a_2 b) (fun _ _ _ => rfl) ?_
      rw [show ((nI (68 + (21 * i2))) + ((nI (T + 1)) - (nI (T + 1)) / 21 * 21) : Int32) = nI ((68 + (21 * i2)) + ((T + 1) % 21)) from by simp only [(show ((nI (T + 1)) - (nI (T + 1)) / 21 * 21 : Int32) = nI ((T + 1) % 21) from pk_rem (a := T + 1) (d := 21) (by omega) (by decide) (by decide)), nI_add, fm_mul]]
      refine fe_stI (mem' := fm g tp bt (fm_u a_2 1 (nI ((68 + (21 * i2)) + ((T + 1) % 21)) : Int32).toNatClampNeg 0) b) (by rfl) (by rfl) (fx_inN (i := (68 + (21 * i2)) + ((T + 1) % 21)) (by omega) (by omega)) fm_si1 ?_
      rw [show Int32.toNatClampNeg (nI ((68 + (21 * i2)) + ((T + 1) % 21))) = (68 + (21 * i2)) + ((T + 1) % 21) from nI_clamp (by omega)]
      obtain ⟨at31, hat31⟩ : ∃ z, z = fm_u a_2 1 ((68 + (21 * i2)) + ((T + 1) % 21)) 0 := ⟨_, rfl⟩
      rw [← hat31]
      have hDt31 : fm_D a0 at31 (T + 1) := by rw [hat31]; exact fm_Dcm hD_2 (by omega) (by omega)
      refine fe_s 2 (pc' := 12) (lc' := [(1, .int ((nI i2) + 1)), (0, .ref 0)]) (stk' := []) (mem' := fm g tp bt at31 b) (fun _ _ _ => rfl) ?_
      rw [show ((nI i2) + 1 : Int32) = nI (i2 + 1) from by simp only [show (1 : Int32) = nI 1 from rfl, nI_add, fm_mul]]
      exact ih2 (i2 + 1) (by omega) at31 hDt31
  exact loop2 (NC) 0 (by omega) at1 hDt1
theorem fr_stills {T : Nat} (hB : fm_B a0) (hD : fm_D a0 a T) : ∃ (v : Option Value) (mem' : fx_M), (fun R => ∃ a' : Nat → Nat → Int32, fm_D a0 a' T ∧ R = (none, fm g tp bt a' b)) (v, mem') ∧ fr_T 3 327 [.ref 0] (fm g tp bt a b) v mem' := by
  obtain ⟨NC, hNC, eNC⟩ := fm_B_0 hB (i := 0) (n := 10) (by decide) rfl
  obtain ⟨NW, hNW, eNW⟩ := fm_B_0 hB (i := 1) (n := 8) (by decide) rfl
  have hT9 := hD.2.2.2.2.1
  refine fe_meth (F := fun R => ∃ a' : Nat → Nat → Int32, fm_D a0 a' T ∧ R = (none, fm g tp bt a' b)) (M := gk_m327) (by rfl) (by rfl) ?_
  refine fe_s 2 (pc' := 2) (lc' := [(1, .int 0), (0, .ref 0)]) (stk' := []) (mem' := fm g tp bt a b) (fun _ _ _ => rfl) ?_
  have loop1 : ∀ (r i1 : Nat), i1 + r = NW → ∀ a_1 : Nat → Nat → Int32, fm_D a0 a_1 T → fe_R 2 gk_m327 2 [(1, .int (nI i1)), (0, .ref 0)] [] (fm g tp bt a_1 b) (fun R => ∃ a' : Nat → Nat → Int32, fm_D a0 a' T ∧ R = (none, fm g tp bt a' b)) := by
    intro r
    induction r with
    | zero =>
      intro i1 hi1 a_1 hD_1
      obtain rfl : NW = i1 := by omega
      refine fe_s 4 (pc' := 8) (lc' := [(1, .int (nI NW)), (0, .ref 0)]) (stk' := [.int 1, .ref 1, .int (nI NW)]) (mem' := fm g tp bt a_1 b) (fun _ _ _ => rfl) ?_
      refine fe_ldI (by rfl) (by rfl) (fx_inN (i := 1) (by omega) (by omega)) ?_
      rw [show Int32.toNatClampNeg (1) = 1 from rfl]
      rw [show a_1 1 1 = nI NW from (fm_D_h hD_1 (by decide) rfl).trans eNW]
      refine fe_s 1 (pc' := cond (fx_cb .ge (nI NW) (nI NW)) 30 12) (lc' := [(1, .int (nI NW)), (0, .ref 0)]) (stk' := []) (mem' := fm g tp bt a_1 b) (fun _ _ _ => rfl) ?_
      rw [show (fx_cb .ge (nI NW) (nI NW)) = true from cb_geT (a := NW) (b := NW) (by omega) (by omega) (by omega)]
      dsimp only [cond]
      exact fe_ret ⟨_, hD_1, rfl⟩ (by rfl) (by rfl) (by rfl)
    | succ r ih1 =>
      intro i1 hi1 a_1 hD_1
      have hl1 : i1 < NW := by omega
      refine fe_s 4 (pc' := 8) (lc' := [(1, .int (nI i1)), (0, .ref 0)]) (stk' := [.int 1, .ref 1, .int (nI i1)]) (mem' := fm g tp bt a_1 b) (fun _ _ _ => rfl) ?_
      refine fe_ldI (by rfl) (by rfl) (fx_inN (i := 1) (by omega) (by omega)) ?_
      rw [show Int32.toNatClampNeg (1) = 1 from rfl]
      rw [show a_1 1 1 = nI NW from (fm_D_h hD_1 (by decide) rfl).trans eNW]
      refine fe_s 1 (pc' := cond (fx_cb .ge (nI i1) (nI NW)) 30 12) (lc' := [(1, .int (nI i1)), (0, .ref 0)]) (stk' := []) (mem' := fm g tp bt a_1 b) (fun _ _ _ => rfl) ?_
      rw [show (fx_cb .ge (nI i1) (nI NW)) = false from cb_geF (a := i1) (b := NW) (by omega) (by omega) (by omega)]
      dsimp only [cond]
      refine fe_s 3 (pc' := 17) (lc' := [(1, .int (nI i1)), (0, .ref 0)]) (stk' := [.int (nI i1), .ref 1]) (mem' := fm g tp bt a_1 b) (fun _ _ _ => rfl) ?_
      refine fe_ivS fr_walkerRow (by omega) (by rfl) (by rfl) (by rfl) (by rfl) (by rfl) ?_
      rw [show (278 + 5 * (nI i1) : Int32) = nI (278 + (5 * i1)) from by simp only [show (278 : Int32) = nI 278 from rfl, show (5 : Int32) = nI 5 from rfl, nI_add, fm_mul]]
      refine fe_s 3 (pc' := 23) (lc' := [(1, .int (nI i1)), (0, .ref 0)]) (stk' := [.int 0, .int ((nI (278 + (5 * i1))) + 3), .ref 1]) (mem' := fm g tp bt a_1 b) (fun _ _ _ => rfl) ?_
      rw [show ((nI (278 + (5 * i1))) + 3 : Int32) = nI ((278 + (5 * i1)) + 3) from by simp only [show (3 : Int32) = nI 3 from rfl, nI_add, fm_mul]]
      refine fe_stI (mem' := fm g tp bt (fm_u a_1 1 (nI ((278 + (5 * i1)) + 3) : Int32).toNatClampNeg 0) b) (by rfl) (by rfl) (fx_inN (i := (278 + (5 * i1)) + 3) (by omega) (by omega)) fm_si1 ?_
      rw [show Int32.toNatClampNeg (nI ((278 + (5 * i1)) + 3)) = (278 + (5 * i1)) + 3 from nI_clamp (by omega)]
      obtain ⟨at2, hat2⟩ : ∃ z, z = fm_u a_1 1 ((278 + (5 * i1)) + 3) 0 := ⟨_, rfl⟩
      rw [← hat2]
      have hDt2 : fm_D a0 at2 T := by rw [hat2, show (278 + (5 * i1)) + 3 = 281 + 5 * i1 by omega]; exact fm_Dw3 (X := 0) hD_1 (by omega) (by omega)
      refine fe_s 2 (pc' := 2) (lc' := [(1, .int ((nI i1) + 1)), (0, .ref 0)]) (stk' := []) (mem' := fm g tp bt at2 b) (fun _ _ _ => rfl) ?_
      rw [show ((nI i1) + 1 : Int32) = nI (i1 + 1) from by simp only [show (1 : Int32) = nI 1 from rfl, nI_add, fm_mul]]
      exact ih1 (i1 + 1) (by omega) at2 hDt2
  exact loop1 (NW) 0 (by omega) a hD
theorem fr_freezes {T : Nat} {n : Int32} (hB : fm_B a0) (hD : fm_D a0 a T) : ∃ (v : Option Value) (mem' : fx_M), (fun R => ∃ (v : Int32) (a' : Nat → Nat → Int32), fm_D a0 a' T ∧ R = (some (.int v), fm g tp bt a' b)) (v, mem') ∧ fr_T 4 294 [.ref 0, .int n] (fm g tp bt a b) v mem' := by
  obtain ⟨NC, hNC, eNC⟩ := fm_B_0 hB (i := 0) (n := 10) (by decide) rfl
  obtain ⟨NW, hNW, eNW⟩ := fm_B_0 hB (i := 1) (n := 8) (by decide) rfl
  have hT9 := hD.2.2.2.2.1
  refine fe_meth (F := fun R => ∃ (v : Int32) (a' : Nat → Nat → Int32), fm_D a0 a' T ∧ R = (some (.int v), fm g tp bt a' b)) (M := gk_m294) (by rfl) (by rfl) ?_
  refine fe_s 4 (pc' := 4) (lc' := [(3, .int 0), (2, .int 0), (0, .ref 0), (1, .int n)]) (stk' := []) (mem' := fm g tp bt a b) (fun _ _ _ => rfl) ?_
  have loop1 : ∀ (r i1 : Nat), i1 + r = NC → ∀ (x2_1 : Int32), ∀ a_1 : Nat → Nat → Int32, fm_D a0 a_1 T → fe_R 3 gk_m294 4 [(3, .int (nI i1)), (2, .int x2_1), (0, .ref 0), (1, .int n)] [] (fm g tp bt a_1 b) (fun R => ∃ (v : Int32) (a' : Nat → Nat → Int32), fm_D a0 a' T ∧ R = (some (.int v), fm g tp bt a' b)) := by
    intro r
    induction r with
    | zero =>
      intro i1 hi1 x2_1 a_1 hD_1
      obtain rfl : NC = i1 := by omega
      refine fe_s 4 (pc' := 10) (lc' := [(3, .int (nI NC)), (2, .int x2_1), (0, .ref 0), (1, .int n)]) (stk' := [.int 0, .ref 1, .int (nI NC)]) (mem' := fm g tp bt a_1 b) (fun _ _ _ => rfl) ?_
      refine fe_ldI (by rfl) (by rfl) (fx_inN (i := 0) (by omega) (by omega)) ?_
      rw [show Int32.toNatClampNeg (0) = 0 from rfl]
      rw [show a_1 1 0 = nI NC from (fm_D_h hD_1 (by decide) rfl).trans eNC]
      refine fe_s 1 (pc' := cond (fx_cb .ge (nI NC) (nI NC)) 89 14) (lc' := [(3, .int (nI NC)), (2, .int x2_1), (0, .ref 0), (1, .int n)]) (stk' := []) (mem' := fm g tp bt a_1 b) (fun _ _ _ => rfl) ?_
      rw [show (fx_cb .ge (nI NC) (nI NC)) = true from cb_geT (a := NC) (b := NC) (by omega) (by omega) (by omega)]
      dsimp only [cond]
      refine fe_s 1 (pc' := 90) (lc' := [(3, .int (nI NC)), (2, .int x2_1), (0, .ref 0), (1, .int n)]) (stk' := [.int x2_1]) (mem' := fm g tp bt a_1 b) (fun _ _ _ => rfl) ?_
      exact fe_ret ⟨_, _, hD_1, rfl⟩ (by rfl) (by rfl) (by rfl)
    | succ r ih1 =>
      intro i1 hi1 x2_1 a_1 hD_1
      have hl1 : i1 < NC := by omega
      refine fe_s 4 (pc' := 10) (lc' := [(3, .int (nI i1)), (2, .int x2_1), (0, .ref 0), (1, .int n)]) (stk' := [.int 0, .ref 1, .int (nI i1)]) (mem' := fm g tp bt a_1 b) (fun _ _ _ => rfl) ?_
      refine fe_ldI (by rfl) (by rfl) (fx_inN (i := 0) (by omega) (by omega)) ?_
      rw [show Int32.toNatClampNeg (0) = 0 from rfl]
      rw [show a_1 1 0 = nI NC from (fm_D_h hD_1 (by decide) rfl).trans eNC]
      refine fe_s 1 (pc' := cond (fx_cb .ge (nI i1) (nI NC)) 89 14) (lc' := [(3, .int (nI i1)), (2, .int x2_1), (0, .ref 0), (1, .int n)]) (stk' := []) (mem' := fm g tp bt a_1 b) (fun _ _ _ => rfl) ?_
      rw [show (fx_cb .ge (nI i1) (nI NC)) = false from cb_geF (a := i1) (b := NC) (by omega) (by omega) (by omega)]
      dsimp only [cond]
      refine fe_s 2 (pc' := 16) (lc' := [(3, .int (nI i1)), (2, .int x2_1), (0, .ref 0), (1, .int n)]) (stk' := [.int (nI i1), .ref 0]) (mem' := fm g tp bt a_1 b) (fun _ _ _ => rfl) ?_
      obtain ⟨v2, z3, hv2⟩ := fq_isShore (C := i1) (g := g) (tp := tp) (bt := bt) (a := a_1) (b := b) (by omega)
      refine fe_ivV hv2 (by omega) (by rfl) (by rfl) (by rfl) (by rfl) (by rfl) (by rfl) ?_
      rcases z3 with rfl | rfl
      · refine fe_s 1 (pc' := cond (fx_cb .eq 0 0) 25 22) (lc' := [(3, .int (nI i1)), (2, .int x2_1), (0, .ref 0), (1, .int n)]) (stk' := []) (mem' := fm g tp bt a_1 b) (fun _ _ _ => rfl) ?_
        rw [show (fx_cb .eq 0 0) = true from by decide]
        dsimp only [cond]
        refine fe_s 3 (pc' := 28) (lc' := [(3, .int (nI i1)), (2, .int x2_1), (0, .ref 0), (1, .int n)]) (stk' := [.int (nI i1), .ref 0, .int x2_1]) (mem' := fm g tp bt a_1 b) (fun _ _ _ => rfl) ?_
        obtain ⟨v4, z5, hv4⟩ := fq_isBroken (C := i1) (g := g) (tp := tp) (bt := bt) (a := a_1) (b := b) (by omega)
        refine fe_ivV hv4 (by omega) (by rfl) (by rfl) (by rfl) (by rfl) (by rfl) (by rfl) ?_
        rcases z5 with rfl | rfl
        · refine fe_s 1 (pc' := cond (fx_cb .eq 0 0) 38 34) (lc' := [(3, .int (nI i1)), (2, .int x2_1), (0, .ref 0), (1, .int n)]) (stk' := [.int x2_1]) (mem' := fm g tp bt a_1 b) (fun _ _ _ => rfl) ?_
          rw [show (fx_cb .eq 0 0) = true from by decide]
          dsimp only [cond]
          refine fe_s 6 (pc' := 46) (lc' := [(2, .int (x2_1 + 0)), (3, .int (nI i1)), (0, .ref 0), (1, .int n)]) (stk' := [.int (nI i1), .ref 1]) (mem' := fm g tp bt a_1 b) (fun _ _ _ => rfl) ?_
          refine fe_ivS fr_cellRow (by omega) (by rfl) (by rfl) (by rfl) (by rfl) (by rfl) ?_
          rw [show (8 + 6 * (nI i1) : Int32) = nI (8 + (6 * i1)) from by simp only [show (8 : Int32) = nI 8 from rfl, show (6 : Int32) = nI 6 from rfl, nI_add, fm_mul]]
          refine fe_s 3 (pc' := 52) (lc' := [(2, .int (x2_1 + 0)), (3, .int (nI i1)), (0, .ref 0), (1, .int n)]) (stk' := [.int 0, .int ((nI (8 + (6 * i1))) + 4), .ref 1]) (mem' := fm g tp bt a_1 b) (fun _ _ _ => rfl) ?_
          rw [show ((nI (8 + (6 * i1))) + 4 : Int32) = nI ((8 + (6 * i1)) + 4) from by simp only [show (4 : Int32) = nI 4 from rfl, nI_add, fm_mul]]
          refine fe_stI (mem' := fm g tp bt (fm_u a_1 1 (nI ((8 + (6 * i1)) + 4) : Int32).toNatClampNeg 0) b) (by rfl) (by rfl) (fx_inN (i := (8 + (6 * i1)) + 4) (by omega) (by omega)) fm_si1 ?_
          rw [show Int32.toNatClampNeg (nI ((8 + (6 * i1)) + 4)) = (8 + (6 * i1)) + 4 from nI_clamp (by omega)]
          obtain ⟨at6, hat6⟩ : ∃ z, z = fm_u a_1 1 ((8 + (6 * i1)) + 4) 0 := ⟨_, rfl⟩
          rw [← hat6]
          have hDt6 : fm_D a0 at6 T := by rw [hat6, show (8 + (6 * i1)) + 4 = 12 + 6 * i1 by omega]; exact fm_Dc4 (X := 0) hD_1 (by omega) (by omega)
          refine fe_s 3 (pc' := 58) (lc' := [(2, .int (x2_1 + 0)), (3, .int (nI i1)), (0, .ref 0), (1, .int n)]) (stk' := [.int (nI i1), .ref 1]) (mem' := fm g tp bt at6 b) (fun _ _ _ => rfl) ?_
          refine fe_ivS fr_cellRow (by omega) (by rfl) (by rfl) (by rfl) (by rfl) (by rfl) ?_
          rw [show (8 + 6 * (nI i1) : Int32) = nI (8 + (6 * i1)) from by simp only [show (8 : Int32) = nI 8 from rfl, show (6 : Int32) = nI 6 from rfl, nI_add, fm_mul]]
          refine fe_s 6 (pc' := 71) (lc' := [(2, .int (x2_1 + 0)), (3, .int (nI i1)), (0, .ref 0), (1, .int n)]) (stk' := [.int (nI i1), .ref 1, .int 999, .int ((nI (8 + (6 * i1))) + 1), .ref 1]) (mem' := fm g tp bt at6 b) (fun _ _ _ => rfl) ?_
          rw [show ((nI (8 + (6 * i1))) + 1 : Int32) = nI ((8 + (6 * i1)) + 1) from by simp only [show (1 : Int32) = nI 1 from rfl, nI_add, fm_mul]]
          refine fe_ivS fr_cellRow (by omega) (by rfl) (by rfl) (by rfl) (by rfl) (by rfl) ?_
          rw [show (8 + 6 * (nI i1) : Int32) = nI (8 + (6 * i1)) from by simp only [show (8 : Int32) = nI 8 from rfl, show (6 : Int32) = nI 6 from rfl, nI_add, fm_mul]]
          refine fe_s 2 (pc' := 76) (lc' := [(2, .int (x2_1 + 0)), (3, .int (nI i1)), (0, .ref 0), (1, .int n)]) (stk' := [.int ((nI (8 + (6 * i1))) + 1), .ref 1, .int 999, .int (nI ((8 + (6 * i1)) + 1)), .ref 1]) (mem' := fm g tp bt at6 b) (fun _ _ _ => rfl) ?_
          rw [show ((nI (8 + (6 * i1))) + 1 : Int32) = nI ((8 + (6 * i1)) + 1) from by simp only [show (1 : Int32) = nI 1 from rfl, nI_add, fm_mul]]
          refine fe_ldI (by rfl) (by rfl) (fx_inN (i := (8 + (6 * i1)) + 1) (by omega) (by omega)) ?_
          rw [show Int32.toNatClampNeg (nI ((8 + (6 * i1)) + 1)) = (8 + (6 * i1)) + 1 from nI_clamp (by omega)]
          refine fe_s 2 (pc' := 79) (lc' := [(2, .int (x2_1 + 0)), (3, .int (nI i1)), (0, .ref 0), (1, .int n)]) (stk' := [.int ((at6 1 ((8 + (6 * i1)) + 1)) + n), .int 999, .int (nI ((8 + (6 * i1)) + 1)), .ref 1]) (mem' := fm g tp bt at6 b) (fun _ _ _ => rfl) ?_
          refine fe_s 1 (pc' := 82) (lc' := [(2, .int (x2_1 + 0)), (3, .int (nI i1)), (0, .ref 0), (1, .int n)]) (stk' := [.int (if ((at6 1 ((8 + (6 * i1)) + 1)) + n) < 999 then ((at6 1 ((8 + (6 * i1)) + 1)) + n) else 999), .int (nI ((8 + (6 * i1)) + 1)), .ref 1]) (mem' := fm g tp bt at6 b) (fun _ _ _ => rfl) ?_
          refine fe_stI (mem' := fm g tp bt (fm_u at6 1 (nI ((8 + (6 * i1)) + 1) : Int32).toNatClampNeg (if ((at6 1 ((8 + (6 * i1)) + 1)) + n) < 999 then ((at6 1 ((8 + (6 * i1)) + 1)) + n) else 999)) b) (by rfl) (by rfl) (fx_inN (i := (8 + (6 * i1)) + 1) (by omega) (by omega)) fm_si1 ?_
          rw [show Int32.toNatClampNeg (nI ((8 + (6 * i1)) + 1)) = (8 + (6 * i1)) + 1 from nI_clamp (by omega)]
          obtain ⟨at7, hat7⟩ : ∃ z, z = fm_u at6 1 ((8 + (6 * i1)) + 1) (if ((at6 1 ((8 + (6 * i1)) + 1)) + n) < 999 then ((at6 1 ((8 + (6 * i1)) + 1)) + n) else 999) := ⟨_, rfl⟩
          rw [← hat7]
          have hDt7 : fm_D a0 at7 T := by rw [hat7, show (8 + (6 * i1)) + 1 = 9 + 6 * i1 by omega]; exact fm_Dc1 hDt6 (by omega)
          refine fe_s 1 (pc' := 86) (lc' := [(3, .int ((nI i1) + 1)), (2, .int (x2_1 + 0)), (0, .ref 0), (1, .int n)]) (stk' := []) (mem' := fm g tp bt at7 b) (fun _ _ _ => rfl) ?_
          rw [show ((nI i1) + 1 : Int32) = nI (i1 + 1) from by simp only [show (1 : Int32) = nI 1 from rfl, nI_add, fm_mul]]
          refine fe_s 1 (pc' := fx_to 86 (-82)) (lc' := [(3, .int (nI (i1 + 1))), (2, .int (x2_1 + 0)), (0, .ref 0), (1, .int n)]) (stk' := []) (mem' := fm g tp bt at7 b) (fun _ _ _ => rfl) ?_
          rw [show fx_to 86 (-82) = 4 from by decide]
          exact ih1 (i1 + 1) (by omega) _ at7 hDt7
        · refine fe_s 1 (pc' := cond (fx_cb .eq 1 0) 38 34) (lc' := [(3, .int (nI i1)), (2, .int x2_1), (0, .ref 0), (1, .int n)]) (stk' := [.int x2_1]) (mem' := fm g tp bt a_1 b) (fun _ _ _ => rfl) ?_
          rw [show (fx_cb .eq 1 0) = false from by decide]
          dsimp only [cond]
          refine fe_s 7 (pc' := 46) (lc' := [(2, .int (x2_1 + 1)), (3, .int (nI i1)), (0, .ref 0), (1, .int n)]) (stk' := [.int (nI i1), .ref 1]) (mem' := fm g tp bt a_1 b) (fun _ _ _ => rfl) ?_
          refine fe_ivS fr_cellRow (by omega) (by rfl) (by rfl) (by rfl) (by rfl) (by rfl) ?_
          rw [show (8 + 6 * (nI i1) : Int32) = nI (8 + (6 * i1)) from by simp only [show (8 : Int32) = nI 8 from rfl, show (6 : Int32) = nI 6 from rfl, nI_add, fm_mul]]
          refine fe_s 3 (pc' := 52) (lc' := [(2, .int (x2_1 + 1)), (3, .int (nI i1)), (0, .ref 0), (1, .int n)]) (stk' := [.int 0, .int ((nI (8 + (6 * i1))) + 4), .ref 1]) (mem' := fm g tp bt a_1 b) (fun _ _ _ => rfl) ?_
          rw [show ((nI (8 + (6 * i1))) + 4 : Int32) = nI ((8 + (6 * i1)) + 4) from by simp only [show (4 : Int32) = nI 4 from rfl, nI_add, fm_mul]]
          refine fe_stI (mem' := fm g tp bt (fm_u a_1 1 (nI ((8 + (6 * i1)) + 4) : Int32).toNatClampNeg 0) b) (by rfl) (by rfl) (fx_inN (i := (8 + (6 * i1)) + 4) (by omega) (by omega)) fm_si1 ?_
          rw [show Int32.toNatClampNeg (nI ((8 + (6 * i1)) + 4)) = (8 + (6 * i1)) + 4 from nI_clamp (by omega)]
          obtain ⟨at8, hat8⟩ : ∃ z, z = fm_u a_1 1 ((8 + (6 * i1)) + 4) 0 := ⟨_, rfl⟩
          rw [← hat8]
          have hDt8 : fm_D a0 at8 T := by rw [hat8, show (8 + (6 * i1)) + 4 = 12 + 6 * i1 by omega]; exact fm_Dc4 (X := 0) hD_1 (by omega) (by omega)
          refine fe_s 3 (pc' := 58) (lc' := [(2, .int (x2_1 + 1)), (3, .int (nI i1)), (0, .ref 0), (1, .int n)]) (stk' := [.int (nI i1), .ref 1]) (mem' := fm g tp bt at8 b) (fun _ _ _ => rfl) ?_
          refine fe_ivS fr_cellRow (by omega) (by rfl) (by rfl) (by rfl) (by rfl) (by rfl) ?_
          rw [show (8 + 6 * (nI i1) : Int32) = nI (8 + (6 * i1)) from by simp only [show (8 : Int32) = nI 8 from rfl, show (6 : Int32) = nI 6 from rfl, nI_add, fm_mul]]
          refine fe_s 6 (pc' := 71) (lc' := [(2, .int (x2_1 + 1)), (3, .int (nI i1)), (0, .ref 0), (1, .int n)]) (stk' := [.int (nI i1), .ref 1, .int 999, .int ((nI (8 + (6 * i1))) + 1), .ref 1]) (mem' := fm g tp bt at8 b) (fun _ _ _ => rfl) ?_
          rw [show ((nI (8 + (6 * i1))) + 1 : Int32) = nI ((8 + (6 * i1)) + 1) from by simp only [show (1 : Int32) = nI 1 from rfl, nI_add, fm_mul]]
          refine fe_ivS fr_cellRow (by omega) (by rfl) (by rfl) (by rfl) (by rfl) (by rfl) ?_
          rw [show (8 + 6 * (nI i1) : Int32) = nI (8 + (6 * i1)) from by simp only [show (8 : Int32) = nI 8 from rfl, show (6 : Int32) = nI 6 from rfl, nI_add, fm_mul]]
          refine fe_s 2 (pc' := 76) (lc' := [(2, .int (x2_1 + 1)), (3, .int (nI i1)), (0, .ref 0), (1, .int n)]) (stk' := [.int ((nI (8 + (6 * i1))) + 1), .ref 1, .int 999, .int (nI ((8 + (6 * i1)) + 1)), .ref 1]) (mem' := fm g tp bt at8 b) (fun _ _ _ => rfl) ?_
          rw [show ((nI (8 + (6 * i1))) + 1 : Int32) = nI ((8 + (6 * i1)) + 1) from by simp only [show (1 : Int32) = nI 1 from rfl, nI_add, fm_mul]]
          refine fe_ldI (by rfl) (by rfl) (fx_inN (i := (8 + (6 * i1)) + 1) (by omega) (by omega)) ?_
          rw [show Int32.toNatClampNeg (nI ((8 + (6 * i1)) + 1)) = (8 + (6 * i1)) + 1 from nI_clamp (by omega)]
          refine fe_s 2 (pc' := 79) (lc' := [(2, .int (x2_1 + 1)), (3, .int (nI i1)), (0, .ref 0), (1, .int n)]) (stk' := [.int ((at8 1 ((8 + (6 * i1)) + 1)) + n), .int 999, .int (nI ((8 + (6 * i1)) + 1)), .ref 1]) (mem' := fm g tp bt at8 b) (fun _ _ _ => rfl) ?_
          refine fe_s 1 (pc' := 82) (lc' := [(2, .int (x2_1 + 1)), (3, .int (nI i1)), (0, .ref 0), (1, .int n)]) (stk' := [.int (if ((at8 1 ((8 + (6 * i1)) + 1)) + n) < 999 then ((at8 1 ((8 + (6 * i1)) + 1)) + n) else 999), .int (nI ((8 + (6 * i1)) + 1)), .ref 1]) (mem' := fm g tp bt at8 b) (fun _ _ _ => rfl) ?_
          refine fe_stI (mem' := fm g tp bt (fm_u at8 1 (nI ((8 + (6 * i1)) + 1) : Int32).toNatClampNeg (if ((at8 1 ((8 + (6 * i1)) + 1)) + n) < 999 then ((at8 1 ((8 + (6 * i1)) + 1)) + n) else 999)) b) (by rfl) (by rfl) (fx_inN (i := (8 + (6 * i1)) + 1) (by omega) (by omega)) fm_si1 ?_
          rw [show Int32.toNatClampNeg (nI ((8 + (6 * i1)) + 1)) = (8 + (6 * i1)) + 1 from nI_clamp (by omega)]
          obtain ⟨at9, hat9⟩ : ∃ z, z = fm_u at8 1 ((8 + (6 * i1)) + 1) (if ((at8 1 ((8 + (6 * i1)) + 1)) + n) < 999 then ((at8 1 ((8 + (6 * i1)) + 1)) + n) else 999) := ⟨_, rfl⟩
          rw [← hat9]
          have hDt9 : fm_D a0 at9 T := by rw [hat9, show (8 + (6 * i1)) + 1 = 9 + 6 * i1 by omega]; exact fm_Dc1 hDt8 (by omega)
          refine fe_s 1 (pc' := 86) (lc' := [(3, .int ((nI i1) + 1)), (2, .int (x2_1 + 1)), (0, .ref 0), (1, .int n)]) (stk' := []) (mem' := fm g tp bt at9 b) (fun _ _ _ => rfl) ?_
          rw [show ((nI i1) + 1 : Int32) = nI (i1 + 1) from by simp only [show (1 : Int32) = nI 1 from rfl, nI_add, fm_mul]]
          refine fe_s 1 (pc' := fx_to 86 (-82)) (lc' := [(3, .int (nI (i1 + 1))), (2, .int (x2_1 + 1)), (0, .ref 0), (1, .int n)]) (stk' := []) (mem' := fm g tp bt at9 b) (fun _ _ _ => rfl) ?_
          rw [show fx_to 86 (-82) = 4 from by decide]
          exact ih1 (i1 + 1) (by omega) _ at9 hDt9
      · refine fe_s 1 (pc' := cond (fx_cb .eq 1 0) 25 22) (lc' := [(3, .int (nI i1)), (2, .int x2_1), (0, .ref 0), (1, .int n)]) (stk' := []) (mem' := fm g tp bt a_1 b) (fun _ _ _ => rfl) ?_
        rw [show (fx_cb .eq 1 0) = false from by decide]
        dsimp only [cond]
        refine fe_s 2 (pc' := 86) (lc' := [(3, .int ((nI i1) + 1)), (2, .int x2_1), (0, .ref 0), (1, .int n)]) (stk' := []) (mem' := fm g tp bt a_1 b) (fun _ _ _ => rfl) ?_
        rw [show ((nI i1) + 1 : Int32) = nI (i1 + 1) from by simp only [show (1 : Int32) = nI 1 from rfl, nI_add, fm_mul]]
        refine fe_s 1 (pc' := fx_to 86 (-82)) (lc' := [(3, .int (nI (i1 + 1))), (2, .int x2_1), (0, .ref 0), (1, .int n)]) (stk' := []) (mem' := fm g tp bt a_1 b) (fun _ _ _ => rfl) ?_
        rw [show fx_to 86 (-82) = 4 from by decide]
        exact ih1 (i1 + 1) (by omega) _ a_1 hD_1
  exact loop1 (NC) 0 (by omega) _ a hD
theorem fr_thaws {T : Nat} {n : Int32} (hB : fm_B a0) (hD : fm_D a0 a T) : ∃ (v : Option Value) (mem' : fx_M), (fun R => ∃ (v : Int32) (a' : Nat → Nat → Int32), fm_D a0 a' T ∧ R = (some (.int v), fm g tp bt a' b)) (v, mem') ∧ fr_T 7 295 [.ref 0, .int n] (fm g tp bt a b) v mem' := by
  obtain ⟨NC, hNC, eNC⟩ := fm_B_0 hB (i := 0) (n := 10) (by decide) rfl
  obtain ⟨NW, hNW, eNW⟩ := fm_B_0 hB (i := 1) (n := 8) (by decide) rfl
  have hT9 := hD.2.2.2.2.1
  refine fe_meth (F := fun R => ∃ (v : Int32) (a' : Nat → Nat → Int32), fm_D a0 a' T ∧ R = (some (.int v), fm g tp bt a' b)) (M := gk_m295) (by rfl) (by rfl) ?_
  refine fe_s 4 (pc' := 4) (lc' := [(3, .int 0), (2, .int 0), (0, .ref 0), (1, .int n)]) (stk' := []) (mem' := fm g tp bt a b) (fun _ _ _ => rfl) ?_
  have loop1 : ∀ (r i1 : Nat), i1 + r = NC → ∀ (x2_1 : Int32), ∀ a_1 : Nat → Nat → Int32, fm_D a0 a_1 T → fe_R 6 gk_m295 4 [(3, .int (nI i1)), (2, .int x2_1), (0, .ref 0), (1, .int n)] [] (fm g tp bt a_1 b) (fun R => ∃ (v : Int32) (a' : Nat → Nat → Int32), fm_D a0 a' T ∧ R = (some (.int v), fm g tp bt a' b)) := by
    intro r
    induction r with
    | zero =>
      intro i1 hi1 x2_1 a_1 hD_1
      obtain rfl : NC = i1 := by omega
      refine fe_s 4 (pc' := 10) (lc' := [(3, .int (nI NC)), (2, .int x2_1), (0, .ref 0), (1, .int n)]) (stk' := [.int 0, .ref 1, .int (nI NC)]) (mem' := fm g tp bt a_1 b) (fun _ _ _ => rfl) ?_
      refine fe_ldI (by rfl) (by rfl) (fx_inN (i := 0) (by omega) (by omega)) ?_
      rw [show Int32.toNatClampNeg (0) = 0 from rfl]
      rw [show a_1 1 0 = nI NC from (fm_D_h hD_1 (by decide) rfl).trans eNC]
      refine fe_s 1 (pc' := cond (fx_cb .ge (nI NC) (nI NC)) 75 14) (lc' := [(3, .int (nI NC)), (2, .int x2_1), (0, .ref 0), (1, .int n)]) (stk' := []) (mem' := fm g tp bt a_1 b) (fun _ _ _ => rfl) ?_
      rw [show (fx_cb .ge (nI NC) (nI NC)) = true from cb_geT (a := NC) (b := NC) (by omega) (by omega) (by omega)]
      dsimp only [cond]
      refine fe_s 1 (pc' := 76) (lc' := [(3, .int (nI NC)), (2, .int x2_1), (0, .ref 0), (1, .int n)]) (stk' := [.int x2_1]) (mem' := fm g tp bt a_1 b) (fun _ _ _ => rfl) ?_
      exact fe_ret ⟨_, _, hD_1, rfl⟩ (by rfl) (by rfl) (by rfl)
    | succ r ih1 =>
      intro i1 hi1 x2_1 a_1 hD_1
      have hl1 : i1 < NC := by omega
      refine fe_s 4 (pc' := 10) (lc' := [(3, .int (nI i1)), (2, .int x2_1), (0, .ref 0), (1, .int n)]) (stk' := [.int 0, .ref 1, .int (nI i1)]) (mem' := fm g tp bt a_1 b) (fun _ _ _ => rfl) ?_
      refine fe_ldI (by rfl) (by rfl) (fx_inN (i := 0) (by omega) (by omega)) ?_
      rw [show Int32.toNatClampNeg (0) = 0 from rfl]
      rw [show a_1 1 0 = nI NC from (fm_D_h hD_1 (by decide) rfl).trans eNC]
      refine fe_s 1 (pc' := cond (fx_cb .ge (nI i1) (nI NC)) 75 14) (lc' := [(3, .int (nI i1)), (2, .int x2_1), (0, .ref 0), (1, .int n)]) (stk' := []) (mem' := fm g tp bt a_1 b) (fun _ _ _ => rfl) ?_
      rw [show (fx_cb .ge (nI i1) (nI NC)) = false from cb_geF (a := i1) (b := NC) (by omega) (by omega) (by omega)]
      dsimp only [cond]
      refine fe_s 2 (pc' := 16) (lc' := [(3, .int (nI i1)), (2, .int x2_1), (0, .ref 0), (1, .int n)]) (stk' := [.int (nI i1), .ref 0]) (mem' := fm g tp bt a_1 b) (fun _ _ _ => rfl) ?_
      obtain ⟨v2, z3, hv2⟩ := fq_isShore (C := i1) (g := g) (tp := tp) (bt := bt) (a := a_1) (b := b) (by omega)
      refine fe_ivV hv2 (by omega) (by rfl) (by rfl) (by rfl) (by rfl) (by rfl) (by rfl) ?_
      rcases z3 with rfl | rfl
      · refine fe_s 1 (pc' := cond (fx_cb .eq 0 0) 25 22) (lc' := [(3, .int (nI i1)), (2, .int x2_1), (0, .ref 0), (1, .int n)]) (stk' := []) (mem' := fm g tp bt a_1 b) (fun _ _ _ => rfl) ?_
        rw [show (fx_cb .eq 0 0) = true from by decide]
        dsimp only [cond]
        refine fe_s 3 (pc' := 30) (lc' := [(3, .int (nI i1)), (2, .int x2_1), (0, .ref 0), (1, .int n)]) (stk' := [.int (nI i1), .ref 1]) (mem' := fm g tp bt a_1 b) (fun _ _ _ => rfl) ?_
        refine fe_ivS fr_cellRow (by omega) (by rfl) (by rfl) (by rfl) (by rfl) (by rfl) ?_
        rw [show (8 + 6 * (nI i1) : Int32) = nI (8 + (6 * i1)) from by simp only [show (8 : Int32) = nI 8 from rfl, show (6 : Int32) = nI 6 from rfl, nI_add, fm_mul]]
        refine fe_s 6 (pc' := 41) (lc' := [(3, .int (nI i1)), (2, .int x2_1), (0, .ref 0), (1, .int n)]) (stk' := [.int (nI i1), .ref 1, .int 0, .int ((nI (8 + (6 * i1))) + 1), .ref 1]) (mem' := fm g tp bt a_1 b) (fun _ _ _ => rfl) ?_
        rw [show ((nI (8 + (6 * i1))) + 1 : Int32) = nI ((8 + (6 * i1)) + 1) from by simp only [show (1 : Int32) = nI 1 from rfl, nI_add, fm_mul]]
        refine fe_ivS fr_cellRow (by omega) (by rfl) (by rfl) (by rfl) (by rfl) (by rfl) ?_
        rw [show (8 + 6 * (nI i1) : Int32) = nI (8 + (6 * i1)) from by simp only [show (8 : Int32) = nI 8 from rfl, show (6 : Int32) = nI 6 from rfl, nI_add, fm_mul]]
        refine fe_s 2 (pc' := 46) (lc' := [(3, .int (nI i1)), (2, .int x2_1), (0, .ref 0), (1, .int n)]) (stk' := [.int ((nI (8 + (6 * i1))) + 1), .ref 1, .int 0, .int (nI ((8 + (6 * i1)) + 1)), .ref 1]) (mem' := fm g tp bt a_1 b) (fun _ _ _ => rfl) ?_
        rw [show ((nI (8 + (6 * i1))) + 1 : Int32) = nI ((8 + (6 * i1)) + 1) from by simp only [show (1 : Int32) = nI 1 from rfl, nI_add, fm_mul]]
        refine fe_ldI (by rfl) (by rfl) (fx_inN (i := (8 + (6 * i1)) + 1) (by omega) (by omega)) ?_
        rw [show Int32.toNatClampNeg (nI ((8 + (6 * i1)) + 1)) = (8 + (6 * i1)) + 1 from nI_clamp (by omega)]
        refine fe_s 2 (pc' := 49) (lc' := [(3, .int (nI i1)), (2, .int x2_1), (0, .ref 0), (1, .int n)]) (stk' := [.int ((a_1 1 ((8 + (6 * i1)) + 1)) - n), .int 0, .int (nI ((8 + (6 * i1)) + 1)), .ref 1]) (mem' := fm g tp bt a_1 b) (fun _ _ _ => rfl) ?_
        refine fe_s 1 (pc' := 52) (lc' := [(3, .int (nI i1)), (2, .int x2_1), (0, .ref 0), (1, .int n)]) (stk' := [.int (if 0 < ((a_1 1 ((8 + (6 * i1)) + 1)) - n) then ((a_1 1 ((8 + (6 * i1)) + 1)) - n) else 0), .int (nI ((8 + (6 * i1)) + 1)), .ref 1]) (mem' := fm g tp bt a_1 b) (fun _ _ _ => rfl) ?_
        refine fe_stI (mem' := fm g tp bt (fm_u a_1 1 (nI ((8 + (6 * i1)) + 1) : Int32).toNatClampNeg (if 0 < ((a_1 1 ((8 + (6 * i1)) + 1)) - n) then ((a_1 1 ((8 + (6 * i1)) + 1)) - n) else 0)) b) (by rfl) (by rfl) (fx_inN (i := (8 + (6 * i1)) + 1) (by omega) (by omega)) fm_si1 ?_
        rw [show Int32.toNatClampNeg (nI ((8 + (6 * i1)) + 1)) = (8 + (6 * i1)) + 1 from nI_clamp (by omega)]
        obtain ⟨at4, hat4⟩ : ∃ z, z = fm_u a_1 1 ((8 + (6 * i1)) + 1) (if 0 < ((a_1 1 ((8 + (6 * i1)) + 1)) - n) then ((a_1 1 ((8 + (6 * i1)) + 1)) - n) else 0) := ⟨_, rfl⟩
        rw [← hat4]
        have hDt4 : fm_D a0 at4 T := by rw [hat4, show (8 + (6 * i1)) + 1 = 9 + 6 * i1 by omega]; exact fm_Dc1 hD_1 (by omega)
        refine fe_s 3 (pc' := 56) (lc' := [(3, .int (nI i1)), (2, .int x2_1), (0, .ref 0), (1, .int n)]) (stk' := [.int (nI i1), .ref 0, .int x2_1]) (mem' := fm g tp bt at4 b) (fun _ _ _ => rfl) ?_
        obtain ⟨v5, hv5⟩ := fq_strengthOf (C := i1) (g := g) (tp := tp) (bt := bt) (a := at4) (b := b) (fm_D_t hB hDt4) (by omega)
        refine fe_ivV hv5 (by omega) (by rfl) (by rfl) (by rfl) (by rfl) (by rfl) (by rfl) ?_
        refine fe_s 1 (pc' := cond (fx_cb .ne v5 0) 66 62) (lc' := [(3, .int (nI i1)), (2, .int x2_1), (0, .ref 0), (1, .int n)]) (stk' := [.int x2_1]) (mem' := fm g tp bt at4 b) (fun _ _ _ => rfl) ?_
        cases h6 : fx_cb .ne v5 0
        · refine fe_s 5 (pc' := 72) (lc' := [(3, .int ((nI i1) + 1)), (2, .int (x2_1 + 1)), (0, .ref 0), (1, .int n)]) (stk' := []) (mem' := fm g tp bt at4 b) (fun _ _ _ => rfl) ?_
          rw [show ((nI i1) + 1 : Int32) = nI (i1 + 1) from by simp only [show (1 : Int32) = nI 1 from rfl, nI_add, fm_mul]]
          refine fe_s 1 (pc' := fx_to 72 (-68)) (lc' := [(3, .int (nI (i1 + 1))), (2, .int (x2_1 + 1)), (0, .ref 0), (1, .int n)]) (stk' := []) (mem' := fm g tp bt at4 b) (fun _ _ _ => rfl) ?_
          rw [show fx_to 72 (-68) = 4 from by decide]
          exact ih1 (i1 + 1) (by omega) _ at4 hDt4
        · refine fe_s 4 (pc' := 72) (lc' := [(3, .int ((nI i1) + 1)), (2, .int (x2_1 + 0)), (0, .ref 0), (1, .int n)]) (stk' := []) (mem' := fm g tp bt at4 b) (fun _ _ _ => rfl) ?_
          rw [show ((nI i1) + 1 : Int32) = nI (i1 + 1) from by simp only [show (1 : Int32) = nI 1 from rfl, nI_add, fm_mul]]
          refine fe_s 1 (pc' := fx_to 72 (-68)) (lc' := [(3, .int (nI (i1 + 1))), (2, .int (x2_1 + 0)), (0, .ref 0), (1, .int n)]) (stk' := []) (mem' := fm g tp bt at4 b) (fun _ _ _ => rfl) ?_
          rw [show fx_to 72 (-68) = 4 from by decide]
          exact ih1 (i1 + 1) (by omega) _ at4 hDt4
      · refine fe_s 1 (pc' := cond (fx_cb .eq 1 0) 25 22) (lc' := [(3, .int (nI i1)), (2, .int x2_1), (0, .ref 0), (1, .int n)]) (stk' := []) (mem' := fm g tp bt a_1 b) (fun _ _ _ => rfl) ?_
        rw [show (fx_cb .eq 1 0) = false from by decide]
        dsimp only [cond]
        refine fe_s 2 (pc' := 72) (lc' := [(3, .int ((nI i1) + 1)), (2, .int x2_1), (0, .ref 0), (1, .int n)]) (stk' := []) (mem' := fm g tp bt a_1 b) (fun _ _ _ => rfl) ?_
        rw [show ((nI i1) + 1 : Int32) = nI (i1 + 1) from by simp only [show (1 : Int32) = nI 1 from rfl, nI_add, fm_mul]]
        refine fe_s 1 (pc' := fx_to 72 (-68)) (lc' := [(3, .int (nI (i1 + 1))), (2, .int x2_1), (0, .ref 0), (1, .int n)]) (stk' := []) (mem' := fm g tp bt a_1 b) (fun _ _ _ => rfl) ?_
        rw [show fx_to 72 (-68) = 4 from by decide]
        exact ih1 (i1 + 1) (by omega) _ a_1 hD_1
  exact loop1 (NC) 0 (by omega) _ a hD
end FGP
