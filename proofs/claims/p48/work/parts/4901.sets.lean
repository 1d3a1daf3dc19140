/-! ===== fx: walking: a step of all ===== -/
section F4901_sets
variable {g : Nat → Int32} {tp bt : Int64} {a0 a : Nat → Nat → Int32} {b : Nat → Nat → Int64}
theorem fr_setOf0 {T : Nat} (hB : fm_B a0) (hD : fm_D a0 a T) : ∃ (v : Option Value) (mem' : fx_M), (fun R => ∃ (v : Int32) (a' : Nat → Nat → Int32), fm_D a0 a' T ∧ R = (some (.int v), fm g tp bt a' b)) (v, mem') ∧ fr_T 4 273 [.ref 0, .int 0] (fm g tp bt a b) v mem' := by
  obtain ⟨NC, hNC, eNC⟩ := fm_B_0 hB (i := 0) (n := 10) (by decide) rfl
  obtain ⟨NW, hNW, eNW⟩ := fm_B_0 hB (i := 1) (n := 8) (by decide) rfl
  have hT9 := hD.2.2.2.2.1
  refine fe_meth (F := fun R => ∃ (v : Int32) (a' : Nat → Nat → Int32), fm_D a0 a' T ∧ R = (some (.int v), fm g tp bt a' b)) (M := gk_m273) (by rfl) (by rfl) ?_
  refine fe_s 4 (pc' := 4) (lc' := [(3, .int 0), (2, .int 0), (0, .ref 0), (1, .int 0)]) (stk' := []) (mem' := fm g tp bt a b) (fun _ _ _ => rfl) ?_
  have loop1 : ∀ (r i1 : Nat), i1 + r = NC → ∀ (x2_1 : Int32), ∀ a_1 : Nat → Nat → Int32, fm_D a0 a_1 T → fe_R 3 gk_m273 4 [(3, .int (nI i1)), (2, .int x2_1), (0, .ref 0), (1, .int 0)] [] (fm g tp bt a_1 b) (fun R => ∃ (v : Int32) (a' : Nat → Nat → Int32), fm_D a0 a' T ∧ R = (some (.int v), fm g tp bt a' b)) := by
    intro r
    induction r with
    | zero =>
      intro i1 hi1 x2_1 a_1 hD_1
      obtain rfl : NC = i1 := by omega
      refine fe_s 4 (pc' := 10) (lc' := [(3, .int (nI NC)), (2, .int x2_1), (0, .ref 0), (1, .int 0)]) (stk' := [.int 0, .ref 1, .int (nI NC)]) (mem' := fm g tp bt a_1 b) (fun _ _ _ => rfl) ?_
      refine fe_ldI (by rfl) (by rfl) (fx_inN (i := 0) (by omega) (by omega)) ?_
      rw [show Int32.toNatClampNeg (0) = 0 from rfl]
      rw [show a_1 1 0 = nI NC from (fm_D_h hD_1 (by decide) rfl).trans eNC]
      refine fe_s 1 (pc' := cond (fx_cb .ge (nI NC) (nI NC)) 58 14) (lc' := [(3, .int (nI NC)), (2, .int x2_1), (0, .ref 0), (1, .int 0)]) (stk' := []) (mem' := fm g tp bt a_1 b) (fun _ _ _ => rfl) ?_
      rw [show (fx_cb .ge (nI NC) (nI NC)) = true from cb_geT (a := NC) (b := NC) (by omega) (by omega) (by omega)]
      dsimp only [cond]
      refine fe_s 2 (pc' := 60) (lc' := [(3, .int 0), (2, .int x2_1), (0, .ref 0), (1, .int 0)]) (stk' := []) (mem' := fm g tp bt a_1 b) (fun _ _ _ => rfl) ?_
      have loop2 : ∀ (r i2 : Nat), i2 + r = NW → ∀ (x2_2 : Int32), ∀ a_2 : Nat → Nat → Int32, fm_D a0 a_2 T → fe_R 3 gk_m273 60 [(3, .int (nI i2)), (2, .int x2_2), (0, .ref 0), (1, .int 0)] [] (fm g tp bt a_2 b) (fun R => ∃ (v : Int32) (a' : Nat → Nat → Int32), fm_D a0 a' T ∧ R = (some (.int v), fm g tp bt a' b)) := by
        intro r
        induction r with
        | zero =>
          intro i2 hi2 x2_2 a_2 hD_2
          obtain rfl : NW = i2 := by omega
          refine fe_s 4 (pc' := 66) (lc' := [(3, .int (nI NW)), (2, .int x2_2), (0, .ref 0), (1, .int 0)]) (stk' := [.int 1, .ref 1, .int (nI NW)]) (mem' := fm g tp bt a_2 b) (fun _ _ _ => rfl) ?_
          refine fe_ldI (by rfl) (by rfl) (fx_inN (i := 1) (by omega) (by omega)) ?_
          rw [show Int32.toNatClampNeg (1) = 1 from rfl]
          rw [show a_2 1 1 = nI NW from (fm_D_h hD_2 (by decide) rfl).trans eNW]
          refine fe_s 1 (pc' := cond (fx_cb .ge (nI NW) (nI NW)) 115 70) (lc' := [(3, .int (nI NW)), (2, .int x2_2), (0, .ref 0), (1, .int 0)]) (stk' := []) (mem' := fm g tp bt a_2 b) (fun _ _ _ => rfl) ?_
          rw [show (fx_cb .ge (nI NW) (nI NW)) = true from cb_geT (a := NW) (b := NW) (by omega) (by omega) (by omega)]
          dsimp only [cond]
          refine fe_s 1 (pc' := 116) (lc' := [(3, .int (nI NW)), (2, .int x2_2), (0, .ref 0), (1, .int 0)]) (stk' := [.int x2_2]) (mem' := fm g tp bt a_2 b) (fun _ _ _ => rfl) ?_
          exact fe_ret ⟨_, _, hD_2, rfl⟩ (by rfl) (by rfl) (by rfl)
        | succ r ih2 =>
          intro i2 hi2 x2_2 a_2 hD_2
          have hl2 : i2 < NW := by omega
          refine fe_s 4 (pc' := 66) (lc' := [(3, .int (nI i2)), (2, .int x2_2), (0, .ref 0), (1, .int 0)]) (stk' := [.int 1, .ref 1, .int (nI i2)]) (mem' := fm g tp bt a_2 b) (fun _ _ _ => rfl) ?_
          refine fe_ldI (by rfl) (by rfl) (fx_inN (i := 1) (by omega) (by omega)) ?_
          rw [show Int32.toNatClampNeg (1) = 1 from rfl]
          rw [show a_2 1 1 = nI NW from (fm_D_h hD_2 (by decide) rfl).trans eNW]
          refine fe_s 1 (pc' := cond (fx_cb .ge (nI i2) (nI NW)) 115 70) (lc' := [(3, .int (nI i2)), (2, .int x2_2), (0, .ref 0), (1, .int 0)]) (stk' := []) (mem' := fm g tp bt a_2 b) (fun _ _ _ => rfl) ?_
          rw [show (fx_cb .ge (nI i2) (nI NW)) = false from cb_geF (a := i2) (b := NW) (by omega) (by omega) (by omega)]
          dsimp only [cond]
          refine fe_s 2 (pc' := 72) (lc' := [(3, .int (nI i2)), (2, .int x2_2), (0, .ref 0), (1, .int 0)]) (stk' := [.int 1, .int 0]) (mem' := fm g tp bt a_2 b) (fun _ _ _ => rfl) ?_
          refine fe_s 1 (pc' := cond (fx_cb .le 0 1) 115 75) (lc' := [(3, .int (nI i2)), (2, .int x2_2), (0, .ref 0), (1, .int 0)]) (stk' := []) (mem' := fm g tp bt a_2 b) (fun _ _ _ => rfl) ?_
          rw [show (fx_cb .le 0 1) = true from by decide]
          dsimp only [cond]
          refine fe_s 1 (pc' := 116) (lc' := [(3, .int (nI i2)), (2, .int x2_2), (0, .ref 0), (1, .int 0)]) (stk' := [.int x2_2]) (mem' := fm g tp bt a_2 b) (fun _ _ _ => rfl) ?_
          exact fe_ret ⟨_, _, hD_2, rfl⟩ (by rfl) (by rfl) (by rfl)
      exact loop2 (NW) 0 (by omega) _ a_1 hD_1
    | succ r ih1 =>
      intro i1 hi1 x2_1 a_1 hD_1
      have hl1 : i1 < NC := by omega
      refine fe_s 4 (pc' := 10) (lc' := [(3, .int (nI i1)), (2, .int x2_1), (0, .ref 0), (1, .int 0)]) (stk' := [.int 0, .ref 1, .int (nI i1)]) (mem' := fm g tp bt a_1 b) (fun _ _ _ => rfl) ?_
      refine fe_ldI (by rfl) (by rfl) (fx_inN (i := 0) (by omega) (by omega)) ?_
      rw [show Int32.toNatClampNeg (0) = 0 from rfl]
      rw [show a_1 1 0 = nI NC from (fm_D_h hD_1 (by decide) rfl).trans eNC]
      refine fe_s 1 (pc' := cond (fx_cb .ge (nI i1) (nI NC)) 58 14) (lc' := [(3, .int (nI i1)), (2, .int x2_1), (0, .ref 0), (1, .int 0)]) (stk' := []) (mem' := fm g tp bt a_1 b) (fun _ _ _ => rfl) ?_
      rw [show (fx_cb .ge (nI i1) (nI NC)) = false from cb_geF (a := i1) (b := NC) (by omega) (by omega) (by omega)]
      dsimp only [cond]
      refine fe_s 2 (pc' := 16) (lc' := [(3, .int (nI i1)), (2, .int x2_1), (0, .ref 0), (1, .int 0)]) (stk' := [.int 2, .int 0]) (mem' := fm g tp bt a_1 b) (fun _ _ _ => rfl) ?_
      refine fe_s 1 (pc' := cond (fx_cb .ge 0 2) 58 19) (lc' := [(3, .int (nI i1)), (2, .int x2_1), (0, .ref 0), (1, .int 0)]) (stk' := []) (mem' := fm g tp bt a_1 b) (fun _ _ _ => rfl) ?_
      rw [show (fx_cb .ge 0 2) = false from by decide]
      dsimp only [cond]
      refine fe_s 2 (pc' := 21) (lc' := [(3, .int (nI i1)), (2, .int x2_1), (0, .ref 0), (1, .int 0)]) (stk' := [.int 0, .int x2_1]) (mem' := fm g tp bt a_1 b) (fun _ _ _ => rfl) ?_
      refine fe_s 1 (pc' := cond (fx_cb .ne 0 0) 35 24) (lc' := [(3, .int (nI i1)), (2, .int x2_1), (0, .ref 0), (1, .int 0)]) (stk' := [.int x2_1]) (mem' := fm g tp bt a_1 b) (fun _ _ _ => rfl) ?_
      rw [show (fx_cb .ne 0 0) = false from by decide]
      dsimp only [cond]
      refine fe_s 2 (pc' := 26) (lc' := [(3, .int (nI i1)), (2, .int x2_1), (0, .ref 0), (1, .int 0)]) (stk' := [.int (nI i1), .ref 0, .int x2_1]) (mem' := fm g tp bt a_1 b) (fun _ _ _ => rfl) ?_
      obtain ⟨v3, z4, hv3⟩ := fq_isShore (C := i1) (g := g) (tp := tp) (bt := bt) (a := a_1) (b := b) (by omega)
      refine fe_ivV hv3 (by omega) (by rfl) (by rfl) (by rfl) (by rfl) (by rfl) (by rfl) ?_
      rcases z4 with rfl | rfl
      · refine fe_s 1 (pc' := cond (fx_cb .eq 0 0) 49 32) (lc' := [(3, .int (nI i1)), (2, .int x2_1), (0, .ref 0), (1, .int 0)]) (stk' := [.int x2_1]) (mem' := fm g tp bt a_1 b) (fun _ _ _ => rfl) ?_
        rw [show (fx_cb .eq 0 0) = true from by decide]
        dsimp only [cond]
        refine fe_s 5 (pc' := 4) (lc' := [(3, .int ((nI i1) + 1)), (2, .int (x2_1 ||| 0)), (0, .ref 0), (1, .int 0)]) (stk' := []) (mem' := fm g tp bt a_1 b) (fun _ _ _ => rfl) ?_
        rw [show ((nI i1) + 1 : Int32) = nI (i1 + 1) from by simp only [show (1 : Int32) = nI 1 from rfl, nI_add, fm_mul]]
        exact ih1 (i1 + 1) (by omega) _ a_1 hD_1
      · refine fe_s 1 (pc' := cond (fx_cb .eq 1 0) 49 32) (lc' := [(3, .int (nI i1)), (2, .int x2_1), (0, .ref 0), (1, .int 0)]) (stk' := [.int x2_1]) (mem' := fm g tp bt a_1 b) (fun _ _ _ => rfl) ?_
        rw [show (fx_cb .eq 1 0) = false from by decide]
        dsimp only [cond]
        refine fe_s 9 (pc' := 4) (lc' := [(3, .int ((nI i1) + 1)), (2, .int (x2_1 ||| ((1 : Int32) <<< ((nI i1) &&& 31)))), (0, .ref 0), (1, .int 0)]) (stk' := []) (mem' := fm g tp bt a_1 b) (fun _ _ _ => rfl) ?_
        rw [show ((nI i1) + 1 : Int32) = nI (i1 + 1) from by simp only [show (1 : Int32) = nI 1 from rfl, nI_add, fm_mul]]
        exact ih1 (i1 + 1) (by omega) _ a_1 hD_1
  exact loop1 (NC) 0 (by omega) _ a hD
theorem fr_setOf1 {T : Nat} (hB : fm_B a0) (hD : fm_D a0 a T) : ∃ (v : Option Value) (mem' : fx_M), (fun R => ∃ (v : Int32) (a' : Nat → Nat → Int32), fm_D a0 a' T ∧ R = (some (.int v), fm g tp bt a' b)) (v, mem') ∧ fr_T 4 273 [.ref 0, .int 1] (fm g tp bt a b) v mem' := by
  obtain ⟨NC, hNC, eNC⟩ := fm_B_0 hB (i := 0) (n := 10) (by decide) rfl
  obtain ⟨NW, hNW, eNW⟩ := fm_B_0 hB (i := 1) (n := 8) (by decide) rfl
  have hT9 := hD.2.2.2.2.1
  refine fe_meth (F := fun R => ∃ (v : Int32) (a' : Nat → Nat → Int32), fm_D a0 a' T ∧ R = (some (.int v), fm g tp bt a' b)) (M := gk_m273) (by rfl) (by rfl) ?_
  refine fe_s 4 (pc' := 4) (lc' := [(3, .int 0), (2, .int 0), (0, .ref 0), (1, .int 1)]) (stk' := []) (mem' := fm g tp bt a b) (fun _ _ _ => rfl) ?_
  have loop1 : ∀ (r i1 : Nat), i1 + r = NC → ∀ (x2_1 : Int32), ∀ a_1 : Nat → Nat → Int32, fm_D a0 a_1 T → fe_R 3 gk_m273 4 [(3, .int (nI i1)), (2, .int x2_1), (0, .ref 0), (1, .int 1)] [] (fm g tp bt a_1 b) (fun R => ∃ (v : Int32) (a' : Nat → Nat → Int32), fm_D a0 a' T ∧ R = (some (.int v), fm g tp bt a' b)) := by
    intro r
    induction r with
    | zero =>
      intro i1 hi1 x2_1 a_1 hD_1
      obtain rfl : NC = i1 := by omega
      refine fe_s 4 (pc' := 10) (lc' := [(3, .int (nI NC)), (2, .int x2_1), (0, .ref 0), (1, .int 1)]) (stk' := [.int 0, .ref 1, .int (nI NC)]) (mem' := fm g tp bt a_1 b) (fun _ _ _ => rfl) ?_
      refine fe_ldI (by rfl) (by rfl) (fx_inN (i := 0) (by omega) (by omega)) ?_
      rw [show Int32.toNatClampNeg (0) = 0 from rfl]
      rw [show a_1 1 0 = nI NC from (fm_D_h hD_1 (by decide) rfl).trans eNC]
      refine fe_s 1 (pc' := cond (fx_cb .ge (nI NC) (nI NC)) 58 14) (lc' := [(3, .int (nI NC)), (2, .int x2_1), (0, .ref 0), (1, .int 1)]) (stk' := []) (mem' := fm g tp bt a_1 b) (fun _ _ _ => rfl) ?_
      rw [show (fx_cb .ge (nI NC) (nI NC)) = true from cb_geT (a := NC) (b := NC) (by omega) (by omega) (by omega)]
      dsimp only [cond]
      refine fe_s 2 (pc' := 60) (lc' := [(3, .int 0), (2, .int x2_1), (0, .ref 0), (1, .int 1)]) (stk' := []) (mem' := fm g tp bt a_1 b) (fun _ _ _ => rfl) ?_
      have loop2 : ∀ (r i2 : Nat), i2 + r = NW → ∀ (x2_2 : Int32), ∀ a_2 : Nat → Nat → Int32, fm_D a0 a_2 T → fe_R 3 gk_m273 60 [(3, .int (nI i2)), (2, .int x2_2), (0, .ref 0), (1, .int 1)] [] (fm g tp bt a_2 b) (fun R => ∃ (v : Int32) (a' : Nat → Nat → Int32), fm_D a0 a' T ∧ R = (some (.int v), fm g tp bt a' b)) := by
        intro r
        induction r with
        | zero =>
          intro i2 hi2 x2_2 a_2 hD_2
          obtain rfl : NW = i2 := by omega
          refine fe_s 4 (pc' := 66) (lc' := [(3, .int (nI NW)), (2, .int x2_2), (0, .ref 0), (1, .int 1)]) (stk' := [.int 1, .ref 1, .int (nI NW)]) (mem' := fm g tp bt a_2 b) (fun _ _ _ => rfl) ?_
          refine fe_ldI (by rfl) (by rfl) (fx_inN (i := 1) (by omega) (by omega)) ?_
          rw [show Int32.toNatClampNeg (1) = 1 from rfl]
          rw [show a_2 1 1 = nI NW from (fm_D_h hD_2 (by decide) rfl).trans eNW]
          refine fe_s 1 (pc' := cond (fx_cb .ge (nI NW) (nI NW)) 115 70) (lc' := [(3, .int (nI NW)), (2, .int x2_2), (0, .ref 0), (1, .int 1)]) (stk' := []) (mem' := fm g tp bt a_2 b) (fun _ _ _ => rfl) ?_
          rw [show (fx_cb .ge (nI NW) (nI NW)) = true from cb_geT (a := NW) (b := NW) (by omega) (by omega) (by omega)]
          dsimp only [cond]
          refine fe_s 1 (pc' := 116) (lc' := [(3, .int (nI NW)), (2, .int x2_2), (0, .ref 0), (1, .int 1)]) (stk' := [.int x2_2]) (mem' := fm g tp bt a_2 b) (fun _ _ _ => rfl) ?_
          exact fe_ret ⟨_, _, hD_2, rfl⟩ (by rfl) (by rfl) (by rfl)
        | succ r ih2 =>
          intro i2 hi2 x2_2 a_2 hD_2
          have hl2 : i2 < NW := by omega
          refine fe_s 4 (pc' := 66) (lc' := [(3, .int (nI i2)), (2, .int x2_2), (0, .ref 0), (1, .int 1)]) (stk' := [.int 1, .ref 1, .int (nI i2)]) (mem' := fm g tp bt a_2 b) (fun _ _ _ => rfl) ?_
          refine fe_ldI (by rfl) (by rfl) (fx_inN (i := 1) (by omega) (by omega)) ?_
          rw [show Int32.toNatClampNeg (1) = 1 from rfl]
          rw [show a_2 1 1 = nI NW from (fm_D_h hD_2 (by decide) rfl).trans eNW]
          refine fe_s 1 (pc' := cond (fx_cb .ge (nI i2) (nI NW)) 115 70) (lc' := [(3, .int (nI i2)), (2, .int x2_2), (0, .ref 0), (1, .int 1)]) (stk' := []) (mem' := fm g tp bt a_2 b) (fun _ _ _ => rfl) ?_
          rw [show (fx_cb .ge (nI i2) (nI NW)) = false from cb_geF (a := i2) (b := NW) (by omega) (by omega) (by omega)]
          dsimp only [cond]
          refine fe_s 2 (pc' := 72) (lc' := [(3, .int (nI i2)), (2, .int x2_2), (0, .ref 0), (1, .int 1)]) (stk' := [.int 1, .int 1]) (mem' := fm g tp bt a_2 b) (fun _ _ _ => rfl) ?_
          refine fe_s 1 (pc' := cond (fx_cb .le 1 1) 115 75) (lc' := [(3, .int (nI i2)), (2, .int x2_2), (0, .ref 0), (1, .int 1)]) (stk' := []) (mem' := fm g tp bt a_2 b) (fun _ _ _ => rfl) ?_
          rw [show (fx_cb .le 1 1) = true from by decide]
          dsimp only [cond]
          refine fe_s 1 (pc' := 116) (lc' := [(3, .int (nI i2)), (2, .int x2_2), (0, .ref 0), (1, .int 1)]) (stk' := [.int x2_2]) (mem' := fm g tp bt a_2 b) (fun _ _ _ => rfl) ?_
          exact fe_ret ⟨_, _, hD_2, rfl⟩ (by rfl) (by rfl) (by rfl)
      exact loop2 (NW) 0 (by omega) _ a_1 hD_1
    | succ r ih1 =>
      intro i1 hi1 x2_1 a_1 hD_1
      have hl1 : i1 < NC := by omega
      refine fe_s 4 (pc' := 10) (lc' := [(3, .int (nI i1)), (2, .int x2_1), (0, .ref 0), (1, .int 1)]) (stk' := [.int 0, .ref 1, .int (nI i1)]) (mem' := fm g tp bt a_1 b) (fun _ _ _ => rfl) ?_
      refine fe_ldI (by rfl) (by rfl) (fx_inN (i := 0) (by omega) (by omega)) ?_
      rw [show Int32.toNatClampNeg (0) = 0 from rfl]
      rw [show a_1 1 0 = nI NC from (fm_D_h hD_1 (by decide) rfl).trans eNC]
      refine fe_s 1 (pc' := cond (fx_cb .ge (nI i1) (nI NC)) 58 14) (lc' := [(3, .int (nI i1)), (2, .int x2_1), (0, .ref 0), (1, .int 1)]) (stk' := []) (mem' := fm g tp bt a_1 b) (fun _ _ _ => rfl) ?_
      rw [show (fx_cb .ge (nI i1) (nI NC)) = false from cb_geF (a := i1) (b := NC) (by omega) (by omega) (by omega)]
      dsimp only [cond]
      refine fe_s 2 (pc' := 16) (lc' := [(3, .int (nI i1)), (2, .int x2_1), (0, .ref 0), (1, .int 1)]) (stk' := [.int 2, .int 1]) (mem' := fm g tp bt a_1 b) (fun _ _ _ => rfl) ?_
      refine fe_s 1 (pc' := cond (fx_cb .ge 1 2) 58 19) (lc' := [(3, .int (nI i1)), (2, .int x2_1), (0, .ref 0), (1, .int 1)]) (stk' := []) (mem' := fm g tp bt a_1 b) (fun _ _ _ => rfl) ?_
      rw [show (fx_cb .ge 1 2) = false from by decide]
      dsimp only [cond]
      refine fe_s 2 (pc' := 21) (lc' := [(3, .int (nI i1)), (2, .int x2_1), (0, .ref 0), (1, .int 1)]) (stk' := [.int 1, .int x2_1]) (mem' := fm g tp bt a_1 b) (fun _ _ _ => rfl) ?_
      refine fe_s 1 (pc' := cond (fx_cb .ne 1 0) 35 24) (lc' := [(3, .int (nI i1)), (2, .int x2_1), (0, .ref 0), (1, .int 1)]) (stk' := [.int x2_1]) (mem' := fm g tp bt a_1 b) (fun _ _ _ => rfl) ?_
      rw [show (fx_cb .ne 1 0) = true from by decide]
      dsimp only [cond]
      refine fe_s 2 (pc' := 37) (lc' := [(3, .int (nI i1)), (2, .int x2_1), (0, .ref 0), (1, .int 1)]) (stk' := [.int (nI i1), .ref 0, .int x2_1]) (mem' := fm g tp bt a_1 b) (fun _ _ _ => rfl) ?_
      obtain ⟨v3, z4, hv3⟩ := fq_isBroken (C := i1) (g := g) (tp := tp) (bt := bt) (a := a_1) (b := b) (by omega)
      refine fe_ivV hv3 (by omega) (by rfl) (by rfl) (by rfl) (by rfl) (by rfl) (by rfl) ?_
      rcases z4 with rfl | rfl
      · refine fe_s 1 (pc' := cond (fx_cb .eq 0 0) 49 43) (lc' := [(3, .int (nI i1)), (2, .int x2_1), (0, .ref 0), (1, .int 1)]) (stk' := [.int x2_1]) (mem' := fm g tp bt a_1 b) (fun _ _ _ => rfl) ?_
        rw [show (fx_cb .eq 0 0) = true from by decide]
        dsimp only [cond]
        refine fe_s 5 (pc' := 4) (lc' := [(3, .int ((nI i1) + 1)), (2, .int (x2_1 ||| 0)), (0, .ref 0), (1, .int 1)]) (stk' := []) (mem' := fm g tp bt a_1 b) (fun _ _ _ => rfl) ?_
        rw [show ((nI i1) + 1 : Int32) = nI (i1 + 1) from by simp only [show (1 : Int32) = nI 1 from rfl, nI_add, fm_mul]]
        exact ih1 (i1 + 1) (by omega) _ a_1 hD_1
      · refine fe_s 1 (pc' := cond (fx_cb .eq 1 0) 49 43) (lc' := [(3, .int (nI i1)), (2, .int x2_1), (0, .ref 0), (1, .int 1)]) (stk' := [.int x2_1]) (mem' := fm g tp bt a_1 b) (fun _ _ _ => rfl) ?_
        rw [show (fx_cb .eq 1 0) = false from by decide]
        dsimp only [cond]
        refine fe_s 8 (pc' := 4) (lc' := [(3, .int ((nI i1) + 1)), (2, .int (x2_1 ||| ((1 : Int32) <<< ((nI i1) &&& 31)))), (0, .ref 0), (1, .int 1)]) (stk' := []) (mem' := fm g tp bt a_1 b) (fun _ _ _ => rfl) ?_
        rw [show ((nI i1) + 1 : Int32) = nI (i1 + 1) from by simp only [show (1 : Int32) = nI 1 from rfl, nI_add, fm_mul]]
        exact ih1 (i1 + 1) (by omega) _ a_1 hD_1
  exact loop1 (NC) 0 (by omega) _ a hD
end F4901_sets
