/-! ===== fx: walking: a step of all ===== -/
section F4902_sets
variable {g : Nat → Int32} {tp bt : Int64} {a0 a : Nat → Nat → Int32} {b : Nat → Nat → Int64}
theorem fr_setOf2 {T : Nat} (hB : fm_B a0) (hD : fm_D a0 a T) : ∃ (v : Option Value) (mem' : fx_M), (fun R => ∃ (v : Int32) (a' : Nat → Nat → Int32), fm_D a0 a' T ∧ R = (some (.int v), fm g tp bt a' b)) (v, mem') ∧ fr_T 4 273 [.ref 0, .int 2] (fm g tp bt a b) v mem' := by
  obtain ⟨NC, hNC, eNC⟩ := fm_B_0 hB (i := 0) (n := 10) (by decide) rfl
  obtain ⟨NW, hNW, eNW⟩ := fm_B_0 hB (i := 1) (n := 8) (by decide) rfl
  have hT9 := hD.2.2.2.2.1
  refine fe_meth (F := fun R => ∃ (v : Int32) (a' : Nat → Nat → Int32), fm_D a0 a' T ∧ R = (some (.int v), fm g tp bt a' b)) (M := gk_m273) (by rfl) (by rfl) ?_
  refine fe_s 4 (pc' := 4) (lc' := [(3, .int 0), (2, .int 0), (0, .ref 0), (1, .int 2)]) (stk' := []) (mem' := fm g tp bt a b) (fun _ _ _ => rfl) ?_
  have loop1 : ∀ (r i1 : Nat), i1 + r = NC → ∀ (x2_1 : Int32), ∀ a_1 : Nat → Nat → Int32, fm_D a0 a_1 T → fe_R 3 gk_m273 4 [(3, .int (nI i1)), (2, .int x2_1), (0, .ref 0), (1, .int 2)] [] (fm g tp bt a_1 b) (fun R => ∃ (v : Int32) (a' : Nat → Nat → Int32), fm_D a0 a' T ∧ R = (some (.int v), fm g tp bt a' b)) := by
    intro r
    induction r with
    | zero =>
      intro i1 hi1 x2_1 a_1 hD_1
      obtain rfl : NC = i1 := by omega
      refine fe_s 4 (pc' := 10) (lc' := [(3, .int (nI NC)), (2, .int x2_1), (0, .ref 0), (1, .int 2)]) (stk' := [.int 0, .ref 1, .int (nI NC)]) (mem' := fm g tp bt a_1 b) (fun _ _ _ => rfl) ?_
      refine fe_ldI (by rfl) (by rfl) (fx_inN (i := 0) (by omega) (by omega)) ?_
      rw [show Int32.toNatClampNeg (0) = 0 from rfl]
      rw [show a_1 1 0 = nI NC from (fm_D_h hD_1 (by decide) rfl).trans eNC]
      refine fe_s 1 (pc' := cond (fx_cb .ge (nI NC) (nI NC)) 58 14) (lc' := [(3, .int (nI NC)), (2, .int x2_1), (0, .ref 0), (1, .int 2)]) (stk' := []) (mem' := fm g tp bt a_1 b) (fun _ _ _ => rfl) ?_
      rw [show (fx_cb .ge (nI NC) (nI NC)) = true from cb_geT (a := NC) (b := NC) (by omega) (by omega) (by omega)]
      dsimp only [cond]
      refine fe_s 2 (pc' := 60) (lc' := [(3, .int 0), (2, .int x2_1), (0, .ref 0), (1, .int 2)]) (stk' := []) (mem' := fm g tp bt a_1 b) (fun _ _ _ => rfl) ?_
      have loop2 : ∀ (r i2 : Nat), i2 + r = NW → ∀ (x2_2 : Int32), ∀ a_2 : Nat → Nat → Int32, fm_D a0 a_2 T → fe_R 3 gk_m273 60 [(3, .int (nI i2)), (2, .int x2_2), (0, .ref 0), (1, .int 2)] [] (fm g tp bt a_2 b) (fun R => ∃ (v : Int32) (a' : Nat → Nat → Int32), fm_D a0 a' T ∧ R = (some (.int v), fm g tp bt a' b)) := by
        intro r
        induction r with
        | zero =>
          intro i2 hi2 x2_2 a_2 hD_2
          obtain rfl : NW = i2 := by omega
          refine fe_s 4 (pc' := 66) (lc' := [(3, .int (nI NW)), (2, .int x2_2), (0, .ref 0), (1, .int 2)]) (stk' := [.int 1, .ref 1, .int (nI NW)]) (mem' := fm g tp bt a_2 b) (fun _ _ _ => rfl) ?_
          refine fe_ldI (by rfl) (by rfl) (fx_inN (i := 1) (by omega) (by omega)) ?_
          rw [show Int32.toNatClampNeg (1) = 1 from rfl]
          rw [show a_2 1 1 = nI NW from (fm_D_h hD_2 (by decide) rfl).trans eNW]
          refine fe_s 1 (pc' := cond (fx_cb .ge (nI NW) (nI NW)) 115 70) (lc' := [(3, .int (nI NW)), (2, .int x2_2), (0, .ref 0), (1, .int 2)]) (stk' := []) (mem' := fm g tp bt a_2 b) (fun _ _ _ => rfl) ?_
          rw [show (fx_cb .ge (nI NW) (nI NW)) = true from cb_geT (a := NW) (b := NW) (by omega) (by omega) (by omega)]
          dsimp only [cond]
          refine fe_s 1 (pc' := 116) (lc' := [(3, .int (nI NW)), (2, .int x2_2), (0, .ref 0), (1, .int 2)]) (stk' := [.int x2_2]) (mem' := fm g tp bt a_2 b) (fun _ _ _ => rfl) ?_
          exact fe_ret ⟨_, _, hD_2, rfl⟩ (by rfl) (by rfl) (by rfl)
        | succ r ih2 =>
          intro i2 hi2 x2_2 a_2 hD_2
          have hl2 : i2 < NW := by omega
          refine fe_s 4 (pc' := 66) (lc' := [(3, .int (nI i2)), (2, .int x2_2), (0, .ref 0), (1, .int 2)]) (stk' := [.int 1, .ref 1, .int (nI i2)]) (mem' := fm g tp bt a_2 b) (fun _ _ _ => rfl) ?_
          refine fe_ldI (by rfl) (by rfl) (fx_inN (i := 1) (by omega) (by omega)) ?_
          rw [show Int32.toNatClampNeg (1) = 1 from rfl]
          rw [show a_2 1 1 = nI NW from (fm_D_h hD_2 (by decide) rfl).trans eNW]
          refine fe_s 1 (pc' := cond (fx_cb .ge (nI i2) (nI NW)) 115 70) (lc' := [(3, .int (nI i2)), (2, .int x2_2), (0, .ref 0), (1, .int 2)]) (stk' := []) (mem' := fm g tp bt a_2 b) (fun _ _ _ => rfl) ?_
          rw [show (fx_cb .ge (nI i2) (nI NW)) = false from cb_geF (a := i2) (b := NW) (by omega) (by omega) (by omega)]
          dsimp only [cond]
          refine fe_s 2 (pc' := 72) (lc' := [(3, .int (nI i2)), (2, .int x2_2), (0, .ref 0), (1, .int 2)]) (stk' := [.int 1, .int 2]) (mem' := fm g tp bt a_2 b) (fun _ _ _ => rfl) ?_
          refine fe_s 1 (pc' := cond (fx_cb .le 2 1) 115 75) (lc' := [(3, .int (nI i2)), (2, .int x2_2), (0, .ref 0), (1, .int 2)]) (stk' := []) (mem' := fm g tp bt a_2 b) (fun _ _ _ => rfl) ?_
          rw [show (fx_cb .le 2 1) = false from by decide]
          dsimp only [cond]
          refine fe_s 3 (pc' := 78) (lc' := [(3, .int (nI i2)), (2, .int x2_2), (0, .ref 0), (1, .int 2)]) (stk' := [.int 2, .int 2, .int x2_2]) (mem' := fm g tp bt a_2 b) (fun _ _ _ => rfl) ?_
          refine fe_s 1 (pc' := cond (fx_cb .ne 2 2) 92 81) (lc' := [(3, .int (nI i2)), (2, .int x2_2), (0, .ref 0), (1, .int 2)]) (stk' := [.int x2_2]) (mem' := fm g tp bt a_2 b) (fun _ _ _ => rfl) ?_
          rw [show (fx_cb .ne 2 2) = false from by decide]
          dsimp only [cond]
          refine fe_s 2 (pc' := 83) (lc' := [(3, .int (nI i2)), (2, .int x2_2), (0, .ref 0), (1, .int 2)]) (stk' := [.int (nI i2), .ref 0, .int x2_2]) (mem' := fm g tp bt a_2 b) (fun _ _ _ => rfl) ?_
          obtain ⟨v3, z4, hv3⟩ := fq_isWet (V := i2) (g := g) (tp := tp) (bt := bt) (a := a_2) (b := b) (by omega)
          refine fe_ivV hv3 (by omega) (by rfl) (by rfl) (by rfl) (by rfl) (by rfl) (by rfl) ?_
          rcases z4 with rfl | rfl
          · refine fe_s 1 (pc' := cond (fx_cb .eq 0 0) 106 89) (lc' := [(3, .int (nI i2)), (2, .int x2_2), (0, .ref 0), (1, .int 2)]) (stk' := [.int x2_2]) (mem' := fm g tp bt a_2 b) (fun _ _ _ => rfl) ?_
            rw [show (fx_cb .eq 0 0) = true from by decide]
            dsimp only [cond]
            refine fe_s 5 (pc' := 60) (lc' := [(3, .int ((nI i2) + 1)), (2, .int (x2_2 ||| 0)), (0, .ref 0), (1, .int 2)]) (stk' := []) (mem' := fm g tp bt a_2 b) (fun _ _ _ => rfl) ?_
            rw [show ((nI i2) + 1 : Int32) = nI (i2 + 1) from by simp only [show (1 : Int32) = nI 1 from rfl, nI_add, fm_mul]]
            exact ih2 (i2 + 1) (by omega) _ a_2 hD_2
          · refine fe_s 1 (pc' := cond (fx_cb .eq 1 0) 106 89) (lc' := [(3, .int (nI i2)), (2, .int x2_2), (0, .ref 0), (1, .int 2)]) (stk' := [.int x2_2]) (mem' := fm g tp bt a_2 b) (fun _ _ _ => rfl) ?_
            rw [show (fx_cb .eq 1 0) = false from by decide]
            dsimp only [cond]
            refine fe_s 9 (pc' := 60) (lc' := [(3, .int ((nI i2) + 1)), (2, .int (x2_2 ||| ((1 : Int32) <<< ((nI i2) &&& 31)))), (0, .ref 0), (1, .int 2)]) (stk' := []) (mem' := fm g tp bt a_2 b) (fun _ _ _ => rfl) ?_
            rw [show ((nI i2) + 1 : Int32) = nI (i2 + 1) from by simp only [show (1 : Int32) = nI 1 from rfl, nI_add, fm_mul]]
            exact ih2 (i2 + 1) (by omega) _ a_2 hD_2
      exact loop2 (NW) 0 (by omega) _ a_1 hD_1
    | succ r ih1 =>
      intro i1 hi1 x2_1 a_1 hD_1
      have hl1 : i1 < NC := by omega
      refine fe_s 4 (pc' := 10) (lc' := [(3, .int (nI i1)), (2, .int x2_1), (0, .ref 0), (1, .int 2)]) (stk' := [.int 0, .ref 1, .int (nI i1)]) (mem' := fm g tp bt a_1 b) (fun _ _ _ => rfl) ?_
      refine fe_ldI (by rfl) (by rfl) (fx_inN (i := 0) (by omega) (by omega)) ?_
      rw [show Int32.toNatClampNeg (0) = 0 from rfl]
      rw [show a_1 1 0 = nI NC from (fm_D_h hD_1 (by decide) rfl).trans eNC]
      refine fe_s 1 (pc' := cond (fx_cb .ge (nI i1) (nI NC)) 58 14) (lc' := [(3, .int (nI i1)), (2, .int x2_1), (0, .ref 0), (1, .int 2)]) (stk' := []) (mem' := fm g tp bt a_1 b) (fun _ _ _ => rfl) ?_
      rw [show (fx_cb .ge (nI i1) (nI NC)) = false from cb_geF (a := i1) (b := NC) (by omega) (by omega) (by omega)]
      dsimp only [cond]
      refine fe_s 2 (pc' := 16) (lc' := [(3, .int (nI i1)), (2, .int x2_1), (0, .ref 0), (1, .int 2)]) (stk' := [.int 2, .int 2]) (mem' := fm g tp bt a_1 b) (fun _ _ _ => rfl) ?_
      refine fe_s 1 (pc' := cond (fx_cb .ge 2 2) 58 19) (lc' := [(3, .int (nI i1)), (2, .int x2_1), (0, .ref 0), (1, .int 2)]) (stk' := []) (mem' := fm g tp bt a_1 b) (fun _ _ _ => rfl) ?_
      rw [show (fx_cb .ge 2 2) = true from by decide]
      dsimp only [cond]
      refine fe_s 2 (pc' := 60) (lc' := [(3, .int 0), (2, .int x2_1), (0, .ref 0), (1, .int 2)]) (stk' := []) (mem' := fm g tp bt a_1 b) (fun _ _ _ => rfl) ?_
      have loop5 : ∀ (r i5 : Nat), i5 + r = NW → ∀ (x2_5 : Int32), ∀ a_5 : Nat → Nat → Int32, fm_D a0 a_5 T → fe_R 3 gk_m273 60 [(3, .int (nI i5)), (2, .int x2_5), (0, .ref 0), (1, .int 2)] [] (fm g tp bt a_5 b) (fun R => ∃ (v : Int32) (a' : Nat → Nat → Int32), fm_D a0 a' T ∧ R = (some (.int v), fm g tp bt a' b)) := by
        intro r
        induction r with
        | zero =>
          intro i5 hi5 x2_5 a_5 hD_5
          obtain rfl : NW = i5 := by omega
          refine fe_s 4 (pc' := 66) (lc' := [(3, .int (nI NW)), (2, .int x2_5), (0, .ref 0), (1, .int 2)]) (stk' := [.int 1, .ref 1, .int (nI NW)]) (mem' := fm g tp bt a_5 b) (fun _ _ _ => rfl) ?_
          refine fe_ldI (by rfl) (by rfl) (fx_inN (i := 1) (by omega) (by omega)) ?_
          rw [show Int32.toNatClampNeg (1) = 1 from rfl]
          rw [show a_5 1 1 = nI NW from (fm_D_h hD_5 (by decide) rfl).trans eNW]
          refine fe_s 1 (pc' := cond (fx_cb .ge (nI NW) (nI NW)) 115 70) (lc' := [(3, .int (nI NW)), (2, .int x2_5), (0, .ref 0), (1, .int 2)]) (stk' := []) (mem' := fm g tp bt a_5 b) (fun _ _ _ => rfl) ?_
          rw [show (fx_cb .ge (nI NW) (nI NW)) = true from cb_geT (a := NW) (b := NW) (by omega) (by omega) (by omega)]
          dsimp only [cond]
          refine fe_s 1 (pc' := 116) (lc' := [(3, .int (nI NW)), (2, .int x2_5), (0, .ref 0), (1, .int 2)]) (stk' := [.int x2_5]) (mem' := fm g tp bt a_5 b) (fun _ _ _ => rfl) ?_
          exact fe_ret ⟨_, _, hD_5, rfl⟩ (by rfl) (by rfl) (by rfl)
        | succ r ih5 =>
          intro i5 hi5 x2_5 a_5 hD_5
          have hl5 : i5 < NW := by omega
          refine fe_s 4 (pc' := 66) (lc' := [(3, .int (nI i5)), (2, .int x2_5), (0, .ref 0), (1, .int 2)]) (stk' := [.int 1, .ref 1, .int (nI i5)]) (mem' := fm g tp bt a_5 b) (fun _ _ _ => rfl) ?_
          refine fe_ldI (by rfl) (by rfl) (fx_inN (i := 1) (by omega) (by omega)) ?_
          rw [show Int32.toNatClampNeg (1) = 1 from rfl]
          rw [show a_5 1 1 = nI NW from (fm_D_h hD_5 (by decide) rfl).trans eNW]
          refine fe_s 1 (pc' := cond (fx_cb .ge (nI i5) (nI NW)) 115 70) (lc' := [(3, .int (nI i5)), (2, .int x2_5), (0, .ref 0), (1, .int 2)]) (stk' := []) (mem' := fm g tp bt a_5 b) (fun _ _ _ => rfl) ?_
          rw [show (fx_cb .ge (nI i5) (nI NW)) = false from cb_geF (a := i5) (b := NW) (by omega) (by omega) (by omega)]
          dsimp only [cond]
          refine fe_s 2 (pc' := 72) (lc' := [(3, .int (nI i5)), (2, .int x2_5), (0, .ref 0), (1, .int 2)]) (stk' := [.int 1, .int 2]) (mem' := fm g tp bt a_5 b) (fun _ _ _ => rfl) ?_
          refine fe_s 1 (pc' := cond (fx_cb .le 2 1) 115 75) (lc' := [(3, .int (nI i5)), (2, .int x2_5), (0, .ref 0), (1, .int 2)]) (stk' := []) (mem' := fm g tp bt a_5 b) (fun _ _ _ => rfl) ?_
          rw [show (fx_cb .le 2 1) = false from by decide]
          dsimp only [cond]
          refine fe_s 3 (pc' := 78) (lc' := [(3, .int (nI i5)), (2, .int x2_5), (0, .ref 0), (1, .int 2)]) (stk' := [.int 2, .int 2, .int x2_5]) (mem' := fm g tp bt a_5 b) (fun _ _ _ => rfl) ?_
          refine fe_s 1 (pc' := cond (fx_cb .ne 2 2) 92 81) (lc' := [(3, .int (nI i5)), (2, .int x2_5), (0, .ref 0), (1, .int 2)]) (stk' := [.int x2_5]) (mem' := fm g tp bt a_5 b) (fun _ _ _ => rfl) ?_
          rw [show (fx_cb .ne 2 2) = false from by decide]
          dsimp only [cond]
          refine fe_s 2 (pc' := 83) (lc' := [(3, .int (nI i5)), (2, .int x2_5), (0, .ref 0), (1, .int 2)]) (stk' := [.int (nI i5), .ref 0, .int x2_5]) (mem' := fm g tp bt a_5 b) (fun _ _ _ => rfl) ?_
          obtain ⟨v6, z7, hv6⟩ := fq_isWet (V := i5) (g := g) (tp := tp) (bt := bt) (a := a_5) (b := b) (by omega)
          refine fe_ivV hv6 (by omega) (by rfl) (by rfl) (by rfl) (by rfl) (by rfl) (by rfl) ?_
          rcases z7 with rfl | rfl
          · refine fe_s 1 (pc' := cond (fx_cb .eq 0 0) 106 89) (lc' := [(3, .int (nI i5)), (2, .int x2_5), (0, .ref 0), (1, .int 2)]) (stk' := [.int x2_5]) (mem' := fm g tp bt a_5 b) (fun _ _ _ => rfl) ?_
            rw [show (fx_cb .eq 0 0) = true from by decide]
            dsimp only [cond]
            refine fe_s 5 (pc' := 60) (lc' := [(3, .int ((nI i5) + 1)), (2, .int (x2_5 ||| 0)), (0, .ref 0), (1, .int 2)]) (stk' := []) (mem' := fm g tp bt a_5 b) (fun _ _ _ => rfl) ?_
            rw [show ((nI i5) + 1 : Int32) = nI (i5 + 1) from by simp only [show (1 : Int32) = nI 1 from rfl, nI_add, fm_mul]]
            exact ih5 (i5 + 1) (by omega) _ a_5 hD_5
          · refine fe_s 1 (pc' := cond (fx_cb .eq 1 0) 106 89) (lc' := [(3, .int (nI i5)), (2, .int x2_5), (0, .ref 0), (1, .int 2)]) (stk' := [.int x2_5]) (mem' := fm g tp bt a_5 b) (fun _ _ _ => rfl) ?_
            rw [show (fx_cb .eq 1 0) = false from by decide]
            dsimp only [cond]
            refine fe_s 9 (pc' := 60) (lc' := [(3, .int ((nI i5) + 1)), (2, .int (x2_5 ||| ((1 : Int32) <<< ((nI i5) &&& 31)))), (0, .ref 0), (1, .int 2)]) (stk' := []) (mem' := fm g tp bt a_5 b) (fun _ _ _ => rfl) ?_
            rw [show ((nI i5) + 1 : Int32) = nI (i5 + 1) from by simp only [show (1 : Int32) = nI 1 from rfl, nI_add, fm_mul]]
            exact ih5 (i5 + 1) (by omega) _ a_5 hD_5
      exact loop5 (NW) 0 (by omega) _ a_1 hD_1
  exact loop1 (NC) 0 (by omega) _ a hD
theorem fr_setOf3 {T : Nat} (hB : fm_B a0) (hD : fm_D a0 a T) : ∃ (v : Option Value) (mem' : fx_M), (fun R => ∃ (v : Int32) (a' : Nat → Nat → Int32), fm_D a0 a' T ∧ R = (some (.int v), fm g tp bt a' b)) (v, mem') ∧ fr_T 4 273 [.ref 0, .int 3] (fm g tp bt a b) v mem' := by
  obtain ⟨NC, hNC, eNC⟩ := fm_B_0 hB (i := 0) (n := 10) (by decide) rfl
  obtain ⟨NW, hNW, eNW⟩ := fm_B_0 hB (i := 1) (n := 8) (by decide) rfl
  have hT9 := hD.2.2.2.2.1
  refine fe_meth (F := fun R => ∃ (v : Int32) (a' : Nat → Nat → Int32), fm_D a0 a' T ∧ R = (some (.int v), fm g tp bt a' b)) (M := gk_m273) (by rfl) (by rfl) ?_
  refine fe_s 4 (pc' := 4) (lc' := [(3, .int 0), (2, .int 0), (0, .ref 0), (1, .int 3)]) (stk' := []) (mem' := fm g tp bt a b) (fun _ _ _ => rfl) ?_
  have loop1 : ∀ (r i1 : Nat), i1 + r = NC → ∀ (x2_1 : Int32), ∀ a_1 : Nat → Nat → Int32, fm_D a0 a_1 T → fe_R 3 gk_m273 4 [(3, .int (nI i1)), (2, .int x2_1), (0, .ref 0), (1, .int 3)] [] (fm g tp bt a_1 b) (fun R => ∃ (v : Int32) (a' : Nat → Nat → Int32), fm_D a0 a' T ∧ R = (some (.int v), fm g tp bt a' b)) := by
    intro r
    induction r with
    | zero =>
      intro i1 hi1 x2_1 a_1 hD_1
      obtain rfl : NC = i1 := by omega
      refine fe_s 4 (pc' := 10) (lc' := [(3, .int (nI NC)), (2, .int x2_1), (0, .ref 0), (1, .int 3)]) (stk' := [.int 0, .ref 1, .int (nI NC)]) (mem' := fm g tp bt a_1 b) (fun _ _ _ => rfl) ?_
      refine fe_ldI (by rfl) (by rfl) (fx_inN (i := 0) (by omega) (by omega)) ?_
      rw [show Int32.toNatClampNeg (0) = 0 from rfl]
      rw [show a_1 1 0 = nI NC from (fm_D_h hD_1 (by decide) rfl).trans eNC]
      refine fe_s 1 (pc' := cond (fx_cb .ge (nI NC) (nI NC)) 58 14) (lc' := [(3, .int (nI NC)), (2, .int x2_1), (0, .ref 0), (1, .int 3)]) (stk' := []) (mem' := fm g tp bt a_1 b) (fun _ _ _ => rfl) ?_
      rw [show (fx_cb .ge (nI NC) (nI NC)) = true from cb_geT (a := NC) (b := NC) (by omega) (by omega) (by omega)]
      dsimp only [cond]
      refine fe_s 2 (pc' := 60) (lc' := [(3, .int 0), (2, .int x2_1), (0, .ref 0), (1, .int 3)]) (stk' := []) (mem' := fm g tp bt a_1 b) (fun _ _ _ => rfl) ?_
      have loop2 : ∀ (r i2 : Nat), i2 + r = NW → ∀ (x2_2 : Int32), ∀ a_2 : Nat → Nat → Int32, fm_D a0 a_2 T → fe_R 3 gk_m273 60 [(3, .int (nI i2)), (2, .int x2_2), (0, .ref 0), (1, .int 3)] [] (fm g tp bt a_2 b) (fun R => ∃ (v : Int32) (a' : Nat → Nat → Int32), fm_D a0 a' T ∧ R = (some (.int v), fm g tp bt a' b)) := by
        intro r
        induction r with
        | zero =>
          intro i2 hi2 x2_2 a_2 hD_2
          obtain rfl : NW = i2 := by omega
          refine fe_s 4 (pc' := 66) (lc' := [(3, .int (nI NW)), (2, .int x2_2), (0, .ref 0), (1, .int 3)]) (stk' := [.int 1, .ref 1, .int (nI NW)]) (mem' := fm g tp bt a_2 b) (fun _ _ _ => rfl) ?_
          refine fe_ldI (by rfl) (by rfl) (fx_inN (i := 1) (by omega) (by omega)) ?_
          rw [show Int32.toNatClampNeg (1) = 1 from rfl]
          rw [show a_2 1 1 = nI NW from (fm_D_h hD_2 (by decide) rfl).trans eNW]
          refine fe_s 1 (pc' := cond (fx_cb .ge (nI NW) (nI NW)) 115 70) (lc' := [(3, .int (nI NW)), (2, .int x2_2), (0, .ref 0), (1, .int 3)]) (stk' := []) (mem' := fm g tp bt a_2 b) (fun _ _ _ => rfl) ?_
          rw [show (fx_cb .ge (nI NW) (nI NW)) = true from cb_geT (a := NW) (b := NW) (by omega) (by omega) (by omega)]
          dsimp only [cond]
          refine fe_s 1 (pc' := 116) (lc' := [(3, .int (nI NW)), (2, .int x2_2), (0, .ref 0), (1, .int 3)]) (stk' := [.int x2_2]) (mem' := fm g tp bt a_2 b) (fun _ _ _ => rfl) ?_
          exact fe_ret ⟨_, _, hD_2, rfl⟩ (by rfl) (by rfl) (by rfl)
        | succ r ih2 =>
          intro i2 hi2 x2_2 a_2 hD_2
          have hl2 : i2 < NW := by omega
          refine fe_s 4 (pc' := 66) (lc' := [(3, .int (nI i2)), (2, .int x2_2), (0, .ref 0), (1, .int 3)]) (stk' := [.int 1, .ref 1, .int (nI i2)]) (mem' := fm g tp bt a_2 b) (fun _ _ _ => rfl) ?_
          refine fe_ldI (by rfl) (by rfl) (fx_inN (i := 1) (by omega) (by omega)) ?_
          rw [show Int32.toNatClampNeg (1) = 1 from rfl]
          rw [show a_2 1 1 = nI NW from (fm_D_h hD_2 (by decide) rfl).trans eNW]
          refine fe_s 1 (pc' := cond (fx_cb .ge (nI i2) (nI NW)) 115 70) (lc' := [(3, .int (nI i2)), (2, .int x2_2), (0, .ref 0), (1, .int 3)]) (stk' := []) (mem' := fm g tp bt a_2 b) (fun _ _ _ => rfl) ?_
          rw [show (fx_cb .ge (nI i2) (nI NW)) = false from cb_geF (a := i2) (b := NW) (by omega) (by omega) (by omega)]
          dsimp only [cond]
          refine fe_s 2 (pc' := 72) (lc' := [(3, .int (nI i2)), (2, .int x2_2), (0, .ref 0), (1, .int 3)]) (stk' := [.int 1, .int 3]) (mem' := fm g tp bt a_2 b) (fun _ _ _ => rfl) ?_
          refine fe_s 1 (pc' := cond (fx_cb .le 3 1) 115 75) (lc' := [(3, .int (nI i2)), (2, .int x2_2), (0, .ref 0), (1, .int 3)]) (stk' := []) (mem' := fm g tp bt a_2 b) (fun _ _ _ => rfl) ?_
          rw [show (fx_cb .le 3 1) = false from by decide]
          dsimp only [cond]
          refine fe_s 3 (pc' := 78) (lc' := [(3, .int (nI i2)), (2, .int x2_2), (0, .ref 0), (1, .int 3)]) (stk' := [.int 2, .int 3, .int x2_2]) (mem' := fm g tp bt a_2 b) (fun _ _ _ => rfl) ?_
          refine fe_s 1 (pc' := cond (fx_cb .ne 3 2) 92 81) (lc' := [(3, .int (nI i2)), (2, .int x2_2), (0, .ref 0), (1, .int 3)]) (stk' := [.int x2_2]) (mem' := fm g tp bt a_2 b) (fun _ _ _ => rfl) ?_
          rw [show (fx_cb .ne 3 2) = true from by decide]
          dsimp only [cond]
          refine fe_s 2 (pc' := 94) (lc' := [(3, .int (nI i2)), (2, .int x2_2), (0, .ref 0), (1, .int 3)]) (stk' := [.int (nI i2), .ref 0, .int x2_2]) (mem' := fm g tp bt a_2 b) (fun _ _ _ => rfl) ?_
          refine fe_ivV (fr_leftOfX (V := i2) (g := g) (tp := tp) (bt := bt) (a := a_2) (b := b) (by omega)) (by omega) (by rfl) (by rfl) (by rfl) (by rfl) (by rfl) (by rfl) ?_
          obtain ⟨l3, hl3, el3⟩ := fm_D_w3 hD_2 (W := i2) (by omega)
          rw [el3]
          refine fe_s 1 (pc' := cond (fx_cb .le (nI l3) 0) 106 100) (lc' := [(3, .int (nI i2)), (2, .int x2_2), (0, .ref 0), (1, .int 3)]) (stk' := [.int x2_2]) (mem' := fm g tp bt a_2 b) (fun _ _ _ => rfl) ?_
          by_cases h4 : l3 ≤ 0
          · rw [show (fx_cb .le (nI l3) 0) = true from cb_leT (a := l3) (b := 0) (by omega) (by omega) (by omega)]
            dsimp only [cond]
            refine fe_s 5 (pc' := 60) (lc' := [(3, .int ((nI i2) + 1)), (2, .int (x2_2 ||| 0)), (0, .ref 0), (1, .int 3)]) (stk' := []) (mem' := fm g tp bt a_2 b) (fun _ _ _ => rfl) ?_
            rw [show ((nI i2) + 1 : Int32) = nI (i2 + 1) from by simp only [show (1 : Int32) = nI 1 from rfl, nI_add, fm_mul]]
            exact ih2 (i2 + 1) (by omega) _ a_2 hD_2
          · rw [show (fx_cb .le (nI l3) 0) = false from cb_leF (a := l3) (b := 0) (by omega) (by omega) (by omega)]
            dsimp only [cond]
            refine fe_s 8 (pc' := 60) (lc' := [(3, .int ((nI i2) + 1)), (2, .int (x2_2 ||| ((1 : Int32) <<< ((nI i2) &&& 31)))), (0, .ref 0), (1, .int 3)]) (stk' := []) (mem' := fm g tp bt a_2 b) (fun _ _ _ => rfl) ?_
            rw [show ((nI i2) + 1 : Int32) = nI (i2 + 1) from by simp only [show (1 : Int32) = nI 1 from rfl, nI_add, fm_mul]]
            exact ih2 (i2 + 1) (by omega) _ a_2 hD_2
      exact loop2 (NW) 0 (by omega) _ a_1 hD_1
    | succ r ih1 =>
      intro i1 hi1 x2_1 a_1 hD_1
      have hl1 : i1 < NC := by omega
      refine fe_s 4 (pc' := 10) (lc' := [(3, .int (nI i1)), (2, .int x2_1), (0, .ref 0), (1, .int 3)]) (stk' := [.int 0, .ref 1, .int (nI i1)]) (mem' := fm g tp bt a_1 b) (fun _ _ _ => rfl) ?_
      refine fe_ldI (by rfl) (by rfl) (fx_inN (i := 0) (by omega) (by omega)) ?_
      rw [show Int32.toNatClampNeg (0) = 0 from rfl]
      rw [show a_1 1 0 = nI NC from (fm_D_h hD_1 (by decide) rfl).trans eNC]
      refine fe_s 1 (pc' := cond (fx_cb .ge (nI i1) (nI NC)) 58 14) (lc' := [(3, .int (nI i1)), (2, .int x2_1), (0, .ref 0), (1, .int 3)]) (stk' := []) (mem' := fm g tp bt a_1 b) (fun _ _ _ => rfl) ?_
      rw [show (fx_cb .ge (nI i1) (nI NC)) = false from cb_geF (a := i1) (b := NC) (by omega) (by omega) (by omega)]
      dsimp only [cond]
      refine fe_s 2 (pc' := 16) (lc' := [(3, .int (nI i1)), (2, .int x2_1), (0, .ref 0), (1, .int 3)]) (stk' := [.int 2, .int 3]) (mem' := fm g tp bt a_1 b) (fun _ _ _ => rfl) ?_
      refine fe_s 1 (pc' := cond (fx_cb .ge 3 2) 58 19) (lc' := [(3, .int (nI i1)), (2, .int x2_1), (0, .ref 0), (1, .int 3)]) (stk' := []) (mem' := fm g tp bt a_1 b) (fun _ _ _ => rfl) ?_
      rw [show (fx_cb .ge 3 2) = true from by decide]
      dsimp only [cond]
      refine fe_s 2 (pc' := 60) (lc' := [(3, .int 0), (2, .int x2_1), (0, .ref 0), (1, .int 3)]) (stk' := []) (mem' := fm g tp bt a_1 b) (fun _ _ _ => rfl) ?_
      have loop5 : ∀ (r i5 : Nat), i5 + r = NW → ∀ (x2_5 : Int32), ∀ a_5 : Nat → Nat → Int32, fm_D a0 a_5 T → fe_R 3 gk_m273 60 [(3, .int (nI i5)), (2, .int x2_5), (0, .ref 0), (1, .int 3)] [] (fm g tp bt a_5 b) (fun R => ∃ (v : Int32) (a' : Nat → Nat → Int32), fm_D a0 a' T ∧ R = (some (.int v), fm g tp bt a' b)) := by
        intro r
        induction r with
        | zero =>
          intro i5 hi5 x2_5 a_5 hD_5
          obtain rfl : NW = i5 := by omega
          refine fe_s 4 (pc' := 66) (lc' := [(3, .int (nI NW)), (2, .int x2_5), (0, .ref 0), (1, .int 3)]) (stk' := [.int 1, .ref 1, .int (nI NW)]) (mem' := fm g tp bt a_5 b) (fun _ _ _ => rfl) ?_
          refine fe_ldI (by rfl) (by rfl) (fx_inN (i := 1) (by omega) (by omega)) ?_
          rw [show Int32.toNatClampNeg (1) = 1 from rfl]
          rw [show a_5 1 1 = nI NW from (fm_D_h hD_5 (by decide) rfl).trans eNW]
          refine fe_s 1 (pc' := cond (fx_cb .ge (nI NW) (nI NW)) 115 70) (lc' := [(3, .int (nI NW)), (2, .int x2_5), (0, .ref 0), (1, .int 3)]) (stk' := []) (mem' := fm g tp bt a_5 b) (fun _ _ _ => rfl) ?_
          rw [show (fx_cb .ge (nI NW) (nI NW)) = true from cb_geT (a := NW) (b := NW) (by omega) (by omega) (by omega)]
          dsimp only [cond]
          refine fe_s 1 (pc' := 116) (lc' := [(3, .int (nI NW)), (2, .int x2_5), (0, .ref 0), (1, .int 3)]) (stk' := [.int x2_5]) (mem' := fm g tp bt a_5 b) (fun _ _ _ => rfl) ?_
          exact fe_ret ⟨_, _, hD_5, rfl⟩ (by rfl) (by rfl) (by rfl)
        | succ r ih5 =>
          intro i5 hi5 x2_5 a_5 hD_5
          have hl5 : i5 < NW := by omega
          refine fe_s 4 (pc' := 66) (lc' := [(3, .int (nI i5)), (2, .int x2_5), (0, .ref 0), (1, .int 3)]) (stk' := [.int 1, .ref 1, .int (nI i5)]) (mem' := fm g tp bt a_5 b) (fun _ _ _ => rfl) ?_
          refine fe_ldI (by rfl) (by rfl) (fx_inN (i := 1) (by omega) (by omega)) ?_
          rw [show Int32.toNatClampNeg (1) = 1 from rfl]
          rw [show a_5 1 1 = nI NW from (fm_D_h hD_5 (by decide) rfl).trans eNW]
          refine fe_s 1 (pc' := cond (fx_cb .ge (nI i5) (nI NW)) 115 70) (lc' := [(3, .int (nI i5)), (2, .int x2_5), (0, .ref 0), (1, .int 3)]) (stk' := []) (mem' := fm g tp bt a_5 b) (fun _ _ _ => rfl) ?_
          rw [show (fx_cb .ge (nI i5) (nI NW)) = false from cb_geF (a := i5) (b := NW) (by omega) (by omega) (by omega)]
          dsimp only [cond]
          refine fe_s 2 (pc' := 72) (lc' := [(3, .int (nI i5)), (2, .int x2_5), (0, .ref 0), (1, .int 3)]) (stk' := [.int 1, .int 3]) (mem' := fm g tp bt a_5 b) (fun _ _ _ => rfl) ?_
          refine fe_s 1 (pc' := cond (fx_cb .le 3 1) 115 75) (lc' := [(3, .int (nI i5)), (2, .int x2_5), (0, .ref 0), (1, .int 3)]) (stk' := []) (mem' := fm g tp bt a_5 b) (fun _ _ _ => rfl) ?_
          rw [show (fx_cb .le 3 1) = false from by decide]
          dsimp only [cond]
          refine fe_s 3 (pc' := 78) (lc' := [(3, .int (nI i5)), (2, .int x2_5), (0, .ref 0), (1, .int 3)]) (stk' := [.int 2, .int 3, .int x2_5]) (mem' := fm g tp bt a_5 b) (fun _ _ _ => rfl) ?_
          refine fe_s 1 (pc' := cond (fx_cb .ne 3 2) 92 81) (lc' := [(3, .int (nI i5)), (2, .int x2_5), (0, .ref 0), (1, .int 3)]) (stk' := [.int x2_5]) (mem' := fm g tp bt a_5 b) (fun _ _ _ => rfl) ?_
          rw [show (fx_cb .ne 3 2) = true from by decide]
          dsimp only [cond]
          refine fe_s 2 (pc' := 94) (lc' := [(3, .int (nI i5)), (2, .int x2_5), (0, .ref 0), (1, .int 3)]) (stk' := [.int (nI i5), .ref 0, .int x2_5]) (mem' := fm g tp bt a_5 b) (fun _ _ _ => rfl) ?_
          refine fe_ivV (fr_leftOfX (V := i5) (g := g) (tp := tp) (bt := bt) (a := a_5) (b := b) (by omega)) (by omega) (by rfl) (by rfl) (by rfl) (by rfl) (by rfl) (by rfl) ?_
          obtain ⟨l6, hl6, el6⟩ := fm_D_w3 hD_5 (W := i5) (by omega)
          rw [el6]
          refine fe_s 1 (pc' := cond (fx_cb .le (nI l6) 0) 106 100) (lc' := [(3, .int (nI i5)), (2, .int x2_5), (0, .ref 0), (1, .int 3)]) (stk' := [.int x2_5]) (mem' := fm g tp bt a_5 b) (fun _ _ _ => rfl) ?_
          by_cases h7 : l6 ≤ 0
          · rw [show (fx_cb .le (nI l6) 0) = true from cb_leT (a := l6) (b := 0) (by omega) (by omega) (by omega)]
            dsimp only [cond]
            refine fe_s 5 (pc' := 60) (lc' := [(3, .int ((nI i5) + 1)), (2, .int (x2_5 ||| 0)), (0, .ref 0), (1, .int 3)]) (stk' := []) (mem' := fm g tp bt a_5 b) (fun _ _ _ => rfl) ?_
            rw [show ((nI i5) + 1 : Int32) = nI (i5 + 1) from by simp only [show (1 : Int32) = nI 1 from rfl, nI_add, fm_mul]]
            exact ih5 (i5 + 1) (by omega) _ a_5 hD_5
          · rw [show (fx_cb .le (nI l6) 0) = false from cb_leF (a := l6) (b := 0) (by omega) (by omega) (by omega)]
            dsimp only [cond]
            refine fe_s 8 (pc' := 60) (lc' := [(3, .int ((nI i5) + 1)), (2, .int (x2_5 ||| ((1 : Int32) <<< ((nI i5) &&& 31)))), (0, .ref 0), (1, .int 3)]) (stk' := []) (mem' := fm g tp bt a_5 b) (fun _ _ _ => rfl) ?_
            rw [show ((nI i5) + 1 : Int32) = nI (i5 + 1) from by simp only [show (1 : Int32) = nI 1 from rfl, nI_add, fm_mul]]
            exact ih5 (i5 + 1) (by omega) _ a_5 hD_5
      exact loop5 (NW) 0 (by omega) _ a_1 hD_1
  exact loop1 (NC) 0 (by omega) _ a hD
end F4902_sets
