/-! ===== the class: way, beside, hew, weigh, exact ===== -/
section CEX
variable {g : Nat → Nat → Int32} {l : Nat → Nat → Int64} {a : Nat → Nat → Int32} {b : Nat → Nat → Int64} {R : fx_M}
theorem hl_cell {c : Int32} : hr_T 1 34 [.ref 15, .int c] (cm g l a b R) (some (.int (if inN (g 15 8) c then 1 else 0))) (cm g l a b R) := by
  refine hr_meth (by rfl) (by rfl) ?_
  refine hr_s 1 (pc' := 1) (lc' := [(0, .ref 15), (1, .int c)]) (stk' := [.int c]) (mem' := cm g l a b R) (by intro _ _ _; eq_refl) ?_
  refine hr_s 1 (pc' := cond (fx_cb .lt c 0) 16 4) (lc' := [(0, .ref 15), (1, .int c)]) (stk' := []) (mem' := cm g l a b R) (by intro _ _ _; eq_refl) ?_
  cases h1 : fx_cb .lt c 0
  · have p1 : (0 : Int) ≤ c.toInt := tc_ltF h1
    refine hr_s 3 (pc' := 9) (lc' := [(0, .ref 15), (1, .int c)]) (stk' := [.int (g 15 8), .int c]) (mem' := cm g l a b R) (by intro _ _ _; eq_refl) ?_
    refine hr_s 1 (pc' := cond (fx_cb .ge c (g 15 8)) 16 12) (lc' := [(0, .ref 15), (1, .int c)]) (stk' := []) (mem' := cm g l a b R) (by intro _ _ _; eq_refl) ?_
    cases h2 : fx_cb .ge c (g 15 8)
    · rw [if_pos (show inN (g 15 8) c from ⟨p1, tc_geF h2⟩)]
      refine hr_s 2 (pc' := 17) (lc' := [(0, .ref 15), (1, .int c)]) (stk' := [.int 1]) (mem' := cm g l a b R) (by intro _ _ _; eq_refl) ?_
      exact hr_ret (by rfl) (by rfl) (by rfl)
    · rw [if_neg (show ¬ inN (g 15 8) c from fun z => by have := z.2; have := tc_ge h2; omega)]
      refine hr_s 1 (pc' := 17) (lc' := [(0, .ref 15), (1, .int c)]) (stk' := [.int 0]) (mem' := cm g l a b R) (by intro _ _ _; eq_refl) ?_
      exact hr_ret (by rfl) (by rfl) (by rfl)
  · rw [if_neg (show ¬ inN (g 15 8) c from fun z => by have := z.1; have h : c.toInt < (0 : Int) := tc_lt h1; omega)]
    refine hr_s 1 (pc' := 17) (lc' := [(0, .ref 15), (1, .int c)]) (stk' := [.int 0]) (mem' := cm g l a b R) (by intro _ _ _; eq_refl) ?_
    exact hr_ret (by rfl) (by rfl) (by rfl)
theorem hl_has {c : Int32} : hr_T 1 3 [.ref 26, .int c] (cm g l a b R) (some (.int (if inN (g 26 7) c then 1 else 0))) (cm g l a b R) := by
  refine hr_meth (by rfl) (by rfl) ?_
  refine hr_s 1 (pc' := 1) (lc' := [(0, .ref 26), (1, .int c)]) (stk' := [.int c]) (mem' := cm g l a b R) (by intro _ _ _; eq_refl) ?_
  refine hr_s 1 (pc' := cond (fx_cb .lt c 0) 16 4) (lc' := [(0, .ref 26), (1, .int c)]) (stk' := []) (mem' := cm g l a b R) (by intro _ _ _; eq_refl) ?_
  cases h1 : fx_cb .lt c 0
  · have p1 : (0 : Int) ≤ c.toInt := tc_ltF h1
    refine hr_s 3 (pc' := 9) (lc' := [(0, .ref 26), (1, .int c)]) (stk' := [.int (g 26 7), .int c]) (mem' := cm g l a b R) (by intro _ _ _; eq_refl) ?_
    refine hr_s 1 (pc' := cond (fx_cb .ge c (g 26 7)) 16 12) (lc' := [(0, .ref 26), (1, .int c)]) (stk' := []) (mem' := cm g l a b R) (by intro _ _ _; eq_refl) ?_
    cases h2 : fx_cb .ge c (g 26 7)
    · rw [if_pos (show inN (g 26 7) c from ⟨p1, tc_geF h2⟩)]
      refine hr_s 2 (pc' := 17) (lc' := [(0, .ref 26), (1, .int c)]) (stk' := [.int 1]) (mem' := cm g l a b R) (by intro _ _ _; eq_refl) ?_
      exact hr_ret (by rfl) (by rfl) (by rfl)
    · rw [if_neg (show ¬ inN (g 26 7) c from fun z => by have := z.2; have := tc_ge h2; omega)]
      refine hr_s 1 (pc' := 17) (lc' := [(0, .ref 26), (1, .int c)]) (stk' := [.int 0]) (mem' := cm g l a b R) (by intro _ _ _; eq_refl) ?_
      exact hr_ret (by rfl) (by rfl) (by rfl)
  · rw [if_neg (show ¬ inN (g 26 7) c from fun z => by have := z.1; have h : c.toInt < (0 : Int) := tc_lt h1; omega)]
    refine hr_s 1 (pc' := 17) (lc' := [(0, .ref 26), (1, .int c)]) (stk' := [.int 0]) (mem' := cm g l a b R) (by intro _ _ _; eq_refl) ?_
    exact hr_ret (by rfl) (by rfl) (by rfl)
theorem hl_two {x y : Int32} : hr_T 2 37 [.ref 15, .int x, .int y] (cm g l a b R) (some (.int (if twoN (g 15 8) x y then 1 else 0))) (cm g l a b R) := by
  refine hr_meth (by rfl) (by rfl) ?_
  refine hr_s 2 (pc' := 2) (lc' := [(0, .ref 15), (1, .int x), (2, .int y)]) (stk' := [.int x, .ref 15]) (mem' := cm g l a b R) (by intro _ _ _; eq_refl) ?_
  refine hr_ivV hl_cell (by omega) (by rfl) (by rfl) (by rfl) (by rfl) (by rfl) (by rfl) ?_
  by_cases h1 : inN (g 15 8) x
  · rw [if_pos h1]
    refine hr_s 1 (pc' := cond (fx_cb .eq 1 0) 25 8) (lc' := [(0, .ref 15), (1, .int x), (2, .int y)]) (stk' := []) (mem' := cm g l a b R) (by intro _ _ _; eq_refl) ?_
    rw [show fx_cb .eq 1 0 = false from by decide]
    dsimp only [cond]
    refine hr_s 2 (pc' := 10) (lc' := [(0, .ref 15), (1, .int x), (2, .int y)]) (stk' := [.int y, .ref 15]) (mem' := cm g l a b R) (by intro _ _ _; eq_refl) ?_
    refine hr_ivV hl_cell (by omega) (by rfl) (by rfl) (by rfl) (by rfl) (by rfl) (by rfl) ?_
    by_cases h2 : inN (g 15 8) y
    · rw [if_pos h2]
      refine hr_s 1 (pc' := cond (fx_cb .eq 1 0) 25 16) (lc' := [(0, .ref 15), (1, .int x), (2, .int y)]) (stk' := []) (mem' := cm g l a b R) (by intro _ _ _; eq_refl) ?_
      rw [show fx_cb .eq 1 0 = false from by decide]
      dsimp only [cond]
      refine hr_s 2 (pc' := 18) (lc' := [(0, .ref 15), (1, .int x), (2, .int y)]) (stk' := [.int y, .int x]) (mem' := cm g l a b R) (by intro _ _ _; eq_refl) ?_
      by_cases h3 : x = y
      · rw [if_neg (show ¬ twoN (g 15 8) x y from fun z => z.2.2 h3)]
        refine hr_s 1 (pc' := cond (fx_cb .eq x y) 25 21) (lc' := [(0, .ref 15), (1, .int x), (2, .int y)]) (stk' := []) (mem' := cm g l a b R) (by intro _ _ _; eq_refl) ?_
        rw [show fx_cb .eq x y = true from decide_eq_true h3]
        dsimp only [cond]
        refine hr_s 1 (pc' := 26) (lc' := [(0, .ref 15), (1, .int x), (2, .int y)]) (stk' := [.int 0]) (mem' := cm g l a b R) (by intro _ _ _; eq_refl) ?_
        exact hr_ret (by rfl) (by rfl) (by rfl)
      · rw [if_pos (show twoN (g 15 8) x y from ⟨h1, h2, h3⟩)]
        refine hr_s 1 (pc' := cond (fx_cb .eq x y) 25 21) (lc' := [(0, .ref 15), (1, .int x), (2, .int y)]) (stk' := []) (mem' := cm g l a b R) (by intro _ _ _; eq_refl) ?_
        rw [show fx_cb .eq x y = false from decide_eq_false h3]
        dsimp only [cond]
        refine hr_s 2 (pc' := 26) (lc' := [(0, .ref 15), (1, .int x), (2, .int y)]) (stk' := [.int 1]) (mem' := cm g l a b R) (by intro _ _ _; eq_refl) ?_
        exact hr_ret (by rfl) (by rfl) (by rfl)
    · rw [if_neg h2, if_neg (show ¬ twoN (g 15 8) x y from fun z => h2 z.2.1)]
      refine hr_s 1 (pc' := cond (fx_cb .eq 0 0) 25 16) (lc' := [(0, .ref 15), (1, .int x), (2, .int y)]) (stk' := []) (mem' := cm g l a b R) (by intro _ _ _; eq_refl) ?_
      rw [show fx_cb .eq 0 0 = true from by decide]
      dsimp only [cond]
      refine hr_s 1 (pc' := 26) (lc' := [(0, .ref 15), (1, .int x), (2, .int y)]) (stk' := [.int 0]) (mem' := cm g l a b R) (by intro _ _ _; eq_refl) ?_
      exact hr_ret (by rfl) (by rfl) (by rfl)
  · rw [if_neg h1, if_neg (show ¬ twoN (g 15 8) x y from fun z => h1 z.1)]
    refine hr_s 1 (pc' := cond (fx_cb .eq 0 0) 25 8) (lc' := [(0, .ref 15), (1, .int x), (2, .int y)]) (stk' := []) (mem' := cm g l a b R) (by intro _ _ _; eq_refl) ?_
    rw [show fx_cb .eq 0 0 = true from by decide]
    dsimp only [cond]
    refine hr_s 1 (pc' := 26) (lc' := [(0, .ref 15), (1, .int x), (2, .int y)]) (stk' := [.int 0]) (mem' := cm g l a b R) (by intro _ _ _; eq_refl) ?_
    exact hr_ret (by rfl) (by rfl) (by rfl)
theorem hl_wayF {x y : Int32} (h : ¬ twoN (g 15 8) x y) : hr_T 3 142 [.ref 0, .int x, .int y] (cm g l a b R) (some (.int (-1))) (cm (fm_u g 0 0 1) l a b R) := by
  refine hr_meth (by rfl) (by rfl) ?_
  refine hr_s 4 (pc' := 6) (lc' := [(0, .ref 0), (1, .int x), (2, .int y)]) (stk' := [.int y, .int x, .ref 15]) (mem' := cm g l a b R) (by intro _ _ _; eq_refl) ?_
  refine hr_ivV hl_two (by omega) (by rfl) (by rfl) (by rfl) (by rfl) (by rfl) (by rfl) ?_
  rw [if_neg h]
  refine hr_s 1 (pc' := cond (fx_cb .ne 0 0) 18 12) (lc' := [(0, .ref 0), (1, .int x), (2, .int y)]) (stk' := []) (mem' := cm g l a b R) (by intro _ _ _; eq_refl) ?_
  rw [show fx_cb .ne 0 0 = false from by decide]
  dsimp only [cond]
  refine hr_s 2 (pc' := 14) (lc' := [(0, .ref 0), (1, .int x), (2, .int y)]) (stk' := [.int 1, .ref 0]) (mem' := cm g l a b R) (by intro _ _ _; eq_refl) ?_
  refine hr_ivV ha_refuse (by omega) (by rfl) (by rfl) (by rfl) (by rfl) (by rfl) (by rfl) ?_
  exact hr_ret (by rfl) (by rfl) (by rfl)
theorem hl_wayT {X : Nat} {y : Int32} (hX : X < 10) (h : twoN (g 15 8) (nI X) y) : hr_T 3 142 [.ref 0, .int (nI X), .int y] (cm g l a b R) (some (.int ((a 17 X >>> (y &&& 31)) &&& 1))) (cm (fm_u g 0 0 0) l a b R) := by
  refine hr_meth (by rfl) (by rfl) ?_
  refine hr_s 4 (pc' := 6) (lc' := [(0, .ref 0), (1, .int (nI X)), (2, .int y)]) (stk' := [.int y, .int (nI X), .ref 15]) (mem' := cm g l a b R) (by intro _ _ _; eq_refl) ?_
  refine hr_ivV hl_two (by omega) (by rfl) (by rfl) (by rfl) (by rfl) (by rfl) (by rfl) ?_
  rw [if_pos h]
  refine hr_s 1 (pc' := cond (fx_cb .ne 1 0) 18 12) (lc' := [(0, .ref 0), (1, .int (nI X)), (2, .int y)]) (stk' := []) (mem' := cm g l a b R) (by intro _ _ _; eq_refl) ?_
  rw [show fx_cb .ne 1 0 = true from by decide]
  dsimp only [cond]
  refine hr_s 5 (pc' := 27) (lc' := [(0, .ref 0), (1, .int (nI X)), (2, .int y)]) (stk' := [.int (nI X), .ref 17, .ref 0]) (mem' := cm g l a b R) (by intro _ _ _; eq_refl) ?_
  refine hr_ldI (by rfl) (by rfl) (fx_inN (i := X) (by omega) (by omega)) ?_
  rw [show Int32.toNatClampNeg (nI X) = X from nI_clamp (by omega)]
  refine hr_s 4 (pc' := 32) (lc' := [(0, .ref 0), (1, .int (nI X)), (2, .int y)]) (stk' := [.int ((a 17 X >>> (y &&& 31)) &&& 1), .ref 0]) (mem' := cm g l a b R) (by intro _ _ _; eq_refl) ?_
  refine hr_ivV ha_answer (by omega) (by rfl) (by rfl) (by rfl) (by rfl) (by rfl) (by rfl) ?_
  exact hr_ret (by rfl) (by rfl) (by rfl)
theorem hl_besF {x y : Int32} (h : ¬ twoN (g 15 8) x y) : hr_T 3 143 [.ref 0, .int x, .int y] (cm g l a b R) (some (.int (-1))) (cm (fm_u g 0 0 1) l a b R) := by
  refine hr_meth (by rfl) (by rfl) ?_
  refine hr_s 4 (pc' := 6) (lc' := [(0, .ref 0), (1, .int x), (2, .int y)]) (stk' := [.int y, .int x, .ref 15]) (mem' := cm g l a b R) (by intro _ _ _; eq_refl) ?_
  refine hr_ivV hl_two (by omega) (by rfl) (by rfl) (by rfl) (by rfl) (by rfl) (by rfl) ?_
  rw [if_neg h]
  refine hr_s 1 (pc' := cond (fx_cb .ne 0 0) 18 12) (lc' := [(0, .ref 0), (1, .int x), (2, .int y)]) (stk' := []) (mem' := cm g l a b R) (by intro _ _ _; eq_refl) ?_
  rw [show fx_cb .ne 0 0 = false from by decide]
  dsimp only [cond]
  refine hr_s 2 (pc' := 14) (lc' := [(0, .ref 0), (1, .int x), (2, .int y)]) (stk' := [.int 1, .ref 0]) (mem' := cm g l a b R) (by intro _ _ _; eq_refl) ?_
  refine hr_ivV ha_refuse (by omega) (by rfl) (by rfl) (by rfl) (by rfl) (by rfl) (by rfl) ?_
  exact hr_ret (by rfl) (by rfl) (by rfl)
theorem hl_besT {X : Nat} {y : Int32} (hX : X < 10) (h : twoN (g 15 8) (nI X) y) : hr_T 3 143 [.ref 0, .int (nI X), .int y] (cm g l a b R) (some (.int ((a 18 X >>> (y &&& 31)) &&& 1))) (cm (fm_u g 0 0 0) l a b R) := by
  refine hr_meth (by rfl) (by rfl) ?_
  refine hr_s 4 (pc' := 6) (lc' := [(0, .ref 0), (1, .int (nI X)), (2, .int y)]) (stk' := [.int y, .int (nI X), .ref 15]) (mem' := cm g l a b R) (by intro _ _ _; eq_refl) ?_
  refine hr_ivV hl_two (by omega) (by rfl) (by rfl) (by rfl) (by rfl) (by rfl) (by rfl) ?_
  rw [if_pos h]
  refine hr_s 1 (pc' := cond (fx_cb .ne 1 0) 18 12) (lc' := [(0, .ref 0), (1, .int (nI X)), (2, .int y)]) (stk' := []) (mem' := cm g l a b R) (by intro _ _ _; eq_refl) ?_
  rw [show fx_cb .ne 1 0 = true from by decide]
  dsimp only [cond]
  refine hr_s 5 (pc' := 27) (lc' := [(0, .ref 0), (1, .int (nI X)), (2, .int y)]) (stk' := [.int (nI X), .ref 18, .ref 0]) (mem' := cm g l a b R) (by intro _ _ _; eq_refl) ?_
  refine hr_ldI (by rfl) (by rfl) (fx_inN (i := X) (by omega) (by omega)) ?_
  rw [show Int32.toNatClampNeg (nI X) = X from nI_clamp (by omega)]
  refine hr_s 4 (pc' := 32) (lc' := [(0, .ref 0), (1, .int (nI X)), (2, .int y)]) (stk' := [.int ((a 18 X >>> (y &&& 31)) &&& 1), .ref 0]) (mem' := cm g l a b R) (by intro _ _ _; eq_refl) ?_
  refine hr_ivV ha_answer (by omega) (by rfl) (by rfl) (by rfl) (by rfl) (by rfl) (by rfl) ?_
  exact hr_ret (by rfl) (by rfl) (by rfl)
theorem hl_deny {x : Int32} : hr_T 1 189 [.ref 0, .int x] (cm g l a b R) (some (.int 0)) (cm (fm_u g 0 0 x) l a b R) := by
  refine hr_meth (by rfl) (by rfl) ?_
  refine hr_s 4 (pc' := 6) (lc' := [(0, .ref 0), (1, .int x)]) (stk' := [.int 0]) (mem' := cm (fm_u g 0 0 x) l a b R) (by intro _ _ _; eq_refl) ?_
  exact hr_ret (by rfl) (by rfl) (by rfl)
theorem hl_agree : hr_T 1 188 [.ref 0] (cm g l a b R) (some (.int 1)) (cm (fm_u g 0 0 0) l a b R) := by
  refine hr_meth (by rfl) (by rfl) ?_
  refine hr_s 4 (pc' := 6) (lc' := [(0, .ref 0)]) (stk' := [.int 1]) (mem' := cm (fm_u g 0 0 0) l a b R) (by intro _ _ _; eq_refl) ?_
  exact hr_ret (by rfl) (by rfl) (by rfl)
theorem hl_hewF {x y z : Int32} (h : ¬ twoN (g 15 8) x y) : hr_T 3 154 [.ref 0, .int x, .int y, .int z] (cm g l a b R) (some (.int 0)) (cm (fm_u g 0 0 1) l a b R) := by
  refine hr_meth (by rfl) (by rfl) ?_
  refine hr_s 4 (pc' := 6) (lc' := [(0, .ref 0), (1, .int x), (2, .int y), (3, .int z)]) (stk' := [.int y, .int x, .ref 15]) (mem' := cm g l a b R) (by intro _ _ _; eq_refl) ?_
  refine hr_ivV hl_two (by omega) (by rfl) (by rfl) (by rfl) (by rfl) (by rfl) (by rfl) ?_
  rw [if_neg h]
  refine hr_s 1 (pc' := cond (fx_cb .ne 0 0) 18 12) (lc' := [(0, .ref 0), (1, .int x), (2, .int y), (3, .int z)]) (stk' := []) (mem' := cm g l a b R) (by intro _ _ _; eq_refl) ?_
  rw [show fx_cb .ne 0 0 = false from by decide]
  dsimp only [cond]
  refine hr_s 2 (pc' := 14) (lc' := [(0, .ref 0), (1, .int x), (2, .int y), (3, .int z)]) (stk' := [.int 1, .ref 0]) (mem' := cm g l a b R) (by intro _ _ _; eq_refl) ?_
  refine hr_ivV hl_deny (by omega) (by rfl) (by rfl) (by rfl) (by rfl) (by rfl) (by rfl) ?_
  exact hr_ret (by rfl) (by rfl) (by rfl)
theorem hl_hewE {X Y : Nat} {z : Int32} (hX : X < 10) (hY : Y < 10) (h : twoN (g 15 8) (nI X) (nI Y)) (hz : ((a 17 X >>> (nI Y &&& 31)) &&& 1) = z) : hr_T 3 154 [.ref 0, .int (nI X), .int (nI Y), .int z] (cm g l a b R) (some (.int 0)) (cm (fm_u g 0 0 7) l a b R) := by
  refine hr_meth (by rfl) (by rfl) ?_
  refine hr_s 4 (pc' := 6) (lc' := [(0, .ref 0), (1, .int (nI X)), (2, .int (nI Y)), (3, .int z)]) (stk' := [.int (nI Y), .int (nI X), .ref 15]) (mem' := cm g l a b R) (by intro _ _ _; eq_refl) ?_
  refine hr_ivV hl_two (by omega) (by rfl) (by rfl) (by rfl) (by rfl) (by rfl) (by rfl) ?_
  rw [if_pos h]
  refine hr_s 1 (pc' := cond (fx_cb .ne 1 0) 18 12) (lc' := [(0, .ref 0), (1, .int (nI X)), (2, .int (nI Y)), (3, .int z)]) (stk' := []) (mem' := cm g l a b R) (by intro _ _ _; eq_refl) ?_
  rw [show fx_cb .ne 1 0 = true from by decide]
  dsimp only [cond]
  refine hr_s 4 (pc' := 26) (lc' := [(0, .ref 0), (1, .int (nI X)), (2, .int (nI Y)), (3, .int z)]) (stk' := [.int (nI X), .ref 17]) (mem' := cm g l a b R) (by intro _ _ _; eq_refl) ?_
  refine hr_ldI (by rfl) (by rfl) (fx_inN (i := X) (by omega) (by omega)) ?_
  rw [show Int32.toNatClampNeg (nI X) = X from nI_clamp (by omega)]
  refine hr_s 4 (pc' := 31) (lc' := [(0, .ref 0), (1, .int (nI X)), (2, .int (nI Y)), (3, .int z)]) (stk' := [.int ((a 17 X >>> (nI Y &&& 31)) &&& 1)]) (mem' := cm g l a b R) (by intro _ _ _; eq_refl) ?_
  have e0 : (if ((a 17 X >>> (nI Y &&& 31)) &&& 1) = 0 then (0 : Int32) else 1) = ((a 17 X >>> (nI Y &&& 31)) &&& 1) := by
    rw [bi_v _ (show Y < 32 by omega)]
    by_cases e : (a 17 X).toBitVec.getLsbD Y = true
    · rw [if_pos e]; rfl
    · rw [if_neg e]; rfl
  by_cases e : ((a 17 X >>> (nI Y &&& 31)) &&& 1) = 0
  · rw [e] at hz
    subst hz
    refine hr_s 1 (pc' := cond (fx_cb .eq ((a 17 X >>> (nI Y &&& 31)) &&& 1) 0) 38 34) (lc' := [(0, .ref 0), (1, .int (nI X)), (2, .int (nI Y)), (3, .int 0)]) (stk' := []) (mem' := cm g l a b R) (by intro _ _ _; eq_refl) ?_
    rw [show fx_cb .eq ((a 17 X >>> (nI Y &&& 31)) &&& 1) 0 = true from decide_eq_true e]
    dsimp only [cond]
    refine hr_s 1 (pc' := 39) (lc' := [(0, .ref 0), (1, .int (nI X)), (2, .int (nI Y)), (3, .int 0)]) (stk' := [.int 0]) (mem' := cm g l a b R) (by intro _ _ _; eq_refl) ?_
    refine hr_s 3 (pc' := 44) (lc' := [(4, .int 0), (0, .ref 0), (1, .int (nI X)), (2, .int (nI Y)), (3, .int 0)]) (stk' := [.int 0, .int 0]) (mem' := cm g l a b R) (by intro _ _ _; eq_refl) ?_
    refine hr_s 1 (pc' := cond (fx_cb .ne 0 0) 54 47) (lc' := [(4, .int 0), (0, .ref 0), (1, .int (nI X)), (2, .int (nI Y)), (3, .int 0)]) (stk' := []) (mem' := cm g l a b R) (by intro _ _ _; eq_refl) ?_
    rw [show fx_cb .ne 0 0 = false from by decide]
    dsimp only [cond]
    refine hr_s 2 (pc' := 50) (lc' := [(4, .int 0), (0, .ref 0), (1, .int (nI X)), (2, .int (nI Y)), (3, .int 0)]) (stk' := [.int 7, .ref 0]) (mem' := cm g l a b R) (by intro _ _ _; eq_refl) ?_
    refine hr_ivV hl_deny (by omega) (by rfl) (by rfl) (by rfl) (by rfl) (by rfl) (by rfl) ?_
    exact hr_ret (by rfl) (by rfl) (by rfl)
  · have e1 : ((a 17 X >>> (nI Y &&& 31)) &&& 1) = 1 := by rw [if_neg e] at e0; exact e0.symm
    rw [e1] at hz
    subst hz
    refine hr_s 1 (pc' := cond (fx_cb .eq ((a 17 X >>> (nI Y &&& 31)) &&& 1) 0) 38 34) (lc' := [(0, .ref 0), (1, .int (nI X)), (2, .int (nI Y)), (3, .int 1)]) (stk' := []) (mem' := cm g l a b R) (by intro _ _ _; eq_refl) ?_
    rw [show fx_cb .eq ((a 17 X >>> (nI Y &&& 31)) &&& 1) 0 = false from decide_eq_false e]
    dsimp only [cond]
    refine hr_s 2 (pc' := 39) (lc' := [(0, .ref 0), (1, .int (nI X)), (2, .int (nI Y)), (3, .int 1)]) (stk' := [.int 1]) (mem' := cm g l a b R) (by intro _ _ _; eq_refl) ?_
    refine hr_s 3 (pc' := 44) (lc' := [(4, .int 1), (0, .ref 0), (1, .int (nI X)), (2, .int (nI Y)), (3, .int 1)]) (stk' := [.int 1, .int 1]) (mem' := cm g l a b R) (by intro _ _ _; eq_refl) ?_
    refine hr_s 1 (pc' := cond (fx_cb .ne 1 1) 54 47) (lc' := [(4, .int 1), (0, .ref 0), (1, .int (nI X)), (2, .int (nI Y)), (3, .int 1)]) (stk' := []) (mem' := cm g l a b R) (by intro _ _ _; eq_refl) ?_
    rw [show fx_cb .ne 1 1 = false from by decide]
    dsimp only [cond]
    refine hr_s 2 (pc' := 50) (lc' := [(4, .int 1), (0, .ref 0), (1, .int (nI X)), (2, .int (nI Y)), (3, .int 1)]) (stk' := [.int 7, .ref 0]) (mem' := cm g l a b R) (by intro _ _ _; eq_refl) ?_
    refine hr_ivV hl_deny (by omega) (by rfl) (by rfl) (by rfl) (by rfl) (by rfl) (by rfl) ?_
    exact hr_ret (by rfl) (by rfl) (by rfl)
theorem hl_hewT {X Y : Nat} {z : Int32} (hX : X < 10) (hY : Y < 10) (h : twoN (g 15 8) (nI X) (nI Y)) (hz : ¬ ((a 17 X >>> (nI Y &&& 31)) &&& 1) = z) : hr_T 3 154 [.ref 0, .int (nI X), .int (nI Y), .int z] (cm g l a b R) (some (.int 1)) (cm (fm_u g 0 0 0) l (fm_u (fm_u a 17 X (a 17 X ^^^ ((1 : Int32) <<< (nI Y &&& 31)))) 17 Y ((fm_u a 17 X (a 17 X ^^^ ((1 : Int32) <<< (nI Y &&& 31)))) 17 Y ^^^ ((1 : Int32) <<< (nI X &&& 31)))) b R) := by
  refine hr_meth (by rfl) (by rfl) ?_
  refine hr_s 4 (pc' := 6) (lc' := [(0, .ref 0), (1, .int (nI X)), (2, .int (nI Y)), (3, .int z)]) (stk' := [.int (nI Y), .int (nI X), .ref 15]) (mem' := cm g l a b R) (by intro _ _ _; eq_refl) ?_
  refine hr_ivV hl_two (by omega) (by rfl) (by rfl) (by rfl) (by rfl) (by rfl) (by rfl) ?_
  rw [if_pos h]
  refine hr_s 1 (pc' := cond (fx_cb .ne 1 0) 18 12) (lc' := [(0, .ref 0), (1, .int (nI X)), (2, .int (nI Y)), (3, .int z)]) (stk' := []) (mem' := cm g l a b R) (by intro _ _ _; eq_refl) ?_
  rw [show fx_cb .ne 1 0 = true from by decide]
  dsimp only [cond]
  refine hr_s 4 (pc' := 26) (lc' := [(0, .ref 0), (1, .int (nI X)), (2, .int (nI Y)), (3, .int z)]) (stk' := [.int (nI X), .ref 17]) (mem' := cm g l a b R) (by intro _ _ _; eq_refl) ?_
  refine hr_ldI (by rfl) (by rfl) (fx_inN (i := X) (by omega) (by omega)) ?_
  rw [show Int32.toNatClampNeg (nI X) = X from nI_clamp (by omega)]
  refine hr_s 4 (pc' := 31) (lc' := [(0, .ref 0), (1, .int (nI X)), (2, .int (nI Y)), (3, .int z)]) (stk' := [.int ((a 17 X >>> (nI Y &&& 31)) &&& 1)]) (mem' := cm g l a b R) (by intro _ _ _; eq_refl) ?_
  have e0 : (if ((a 17 X >>> (nI Y &&& 31)) &&& 1) = 0 then (0 : Int32) else 1) = ((a 17 X >>> (nI Y &&& 31)) &&& 1) := by
    rw [bi_v _ (show Y < 32 by omega)]
    by_cases e : (a 17 X).toBitVec.getLsbD Y = true
    · rw [if_pos e]; rfl
    · rw [if_neg e]; rfl
  have rest : ∀ v : Int32, hr_R 2 gk_m154 54 [(4, .int v), (0, .ref 0), (1, .int (nI X)), (2, .int (nI Y)), (3, .int z)] [] (cm g l a b R) (some (.int 1), cm (fm_u g 0 0 0) l (fm_u (fm_u a 17 X (a 17 X ^^^ ((1 : Int32) <<< (nI Y &&& 31)))) 17 Y ((fm_u a 17 X (a 17 X ^^^ ((1 : Int32) <<< (nI Y &&& 31)))) 17 Y ^^^ ((1 : Int32) <<< (nI X &&& 31)))) b R) := fun v => by
    refine hr_s 4 (pc' := 62) (lc' := [(4, .int v), (0, .ref 0), (1, .int (nI X)), (2, .int (nI Y)), (3, .int z)]) (stk' := [.int (nI X), .ref 17]) (mem' := cm g l a b R) (by intro _ _ _; eq_refl) ?_
    refine hr_s 1 (pc' := 63) (lc' := [(4, .int v), (0, .ref 0), (1, .int (nI X)), (2, .int (nI Y)), (3, .int z)]) (stk' := [.int (nI X), .ref 17, .int (nI X), .ref 17]) (mem' := cm g l a b R) (by intro _ _ _; eq_refl) ?_
    refine hr_ldI (by rfl) (by rfl) (fx_inN (i := X) (by omega) (by omega)) ?_
    rw [show Int32.toNatClampNeg (nI X) = X from nI_clamp (by omega)]
    refine hr_s 4 (pc' := 68) (lc' := [(4, .int v), (0, .ref 0), (1, .int (nI X)), (2, .int (nI Y)), (3, .int z)]) (stk' := [.int (a 17 X ^^^ ((1 : Int32) <<< (nI Y &&& 31))), .int (nI X), .ref 17]) (mem' := cm g l a b R) (by intro _ _ _; eq_refl) ?_
    refine hr_stI (mem' := cm g l (fm_u a 17 (nI X : Int32).toNatClampNeg (a 17 X ^^^ ((1 : Int32) <<< (nI Y &&& 31)))) b R) (by rfl) (by rfl) (fx_inN (i := X) (by omega) (by omega)) cm_si17 ?_
    rw [show Int32.toNatClampNeg (nI X) = X from nI_clamp (by omega)]
    refine hr_s 4 (pc' := 77) (lc' := [(4, .int v), (0, .ref 0), (1, .int (nI X)), (2, .int (nI Y)), (3, .int z)]) (stk' := [.int (nI Y), .ref 17]) (mem' := cm g l (fm_u a 17 X (a 17 X ^^^ ((1 : Int32) <<< (nI Y &&& 31)))) b R) (by intro _ _ _; eq_refl) ?_
    refine hr_s 1 (pc' := 78) (lc' := [(4, .int v), (0, .ref 0), (1, .int (nI X)), (2, .int (nI Y)), (3, .int z)]) (stk' := [.int (nI Y), .ref 17, .int (nI Y), .ref 17]) (mem' := cm g l (fm_u a 17 X (a 17 X ^^^ ((1 : Int32) <<< (nI Y &&& 31)))) b R) (by intro _ _ _; eq_refl) ?_
    refine hr_ldI (by rfl) (by rfl) (fx_inN (i := Y) (by omega) (by omega)) ?_
    rw [show Int32.toNatClampNeg (nI Y) = Y from nI_clamp (by omega)]
    refine hr_s 4 (pc' := 83) (lc' := [(4, .int v), (0, .ref 0), (1, .int (nI X)), (2, .int (nI Y)), (3, .int z)]) (stk' := [.int ((fm_u a 17 X (a 17 X ^^^ ((1 : Int32) <<< (nI Y &&& 31)))) 17 Y ^^^ ((1 : Int32) <<< (nI X &&& 31))), .int (nI Y), .ref 17]) (mem' := cm g l (fm_u a 17 X (a 17 X ^^^ ((1 : Int32) <<< (nI Y &&& 31)))) b R) (by intro _ _ _; eq_refl) ?_
    refine hr_stI (mem' := cm g l (fm_u (fm_u a 17 X (a 17 X ^^^ ((1 : Int32) <<< (nI Y &&& 31)))) 17 (nI Y : Int32).toNatClampNeg ((fm_u a 17 X (a 17 X ^^^ ((1 : Int32) <<< (nI Y &&& 31)))) 17 Y ^^^ ((1 : Int32) <<< (nI X &&& 31)))) b R) (by rfl) (by rfl) (fx_inN (i := Y) (by omega) (by omega)) cm_si17 ?_
    rw [show Int32.toNatClampNeg (nI Y) = Y from nI_clamp (by omega)]
    refine hr_s 1 (pc' := 85) (lc' := [(4, .int v), (0, .ref 0), (1, .int (nI X)), (2, .int (nI Y)), (3, .int z)]) (stk' := [.ref 0]) (mem' := cm g l (fm_u (fm_u a 17 X (a 17 X ^^^ ((1 : Int32) <<< (nI Y &&& 31)))) 17 Y ((fm_u a 17 X (a 17 X ^^^ ((1 : Int32) <<< (nI Y &&& 31)))) 17 Y ^^^ ((1 : Int32) <<< (nI X &&& 31)))) b R) (by intro _ _ _; eq_refl) ?_
    refine hr_ivV hl_agree (by omega) (by rfl) (by rfl) (by rfl) (by rfl) (by rfl) (by rfl) ?_
    exact hr_ret (by rfl) (by rfl) (by rfl)
  by_cases e : ((a 17 X >>> (nI Y &&& 31)) &&& 1) = 0
  · rw [e] at hz
    refine hr_s 1 (pc' := cond (fx_cb .eq ((a 17 X >>> (nI Y &&& 31)) &&& 1) 0) 38 34) (lc' := [(0, .ref 0), (1, .int (nI X)), (2, .int (nI Y)), (3, .int z)]) (stk' := []) (mem' := cm g l a b R) (by intro _ _ _; eq_refl) ?_
    rw [show fx_cb .eq ((a 17 X >>> (nI Y &&& 31)) &&& 1) 0 = true from decide_eq_true e]
    dsimp only [cond]
    refine hr_s 1 (pc' := 39) (lc' := [(0, .ref 0), (1, .int (nI X)), (2, .int (nI Y)), (3, .int z)]) (stk' := [.int 0]) (mem' := cm g l a b R) (by intro _ _ _; eq_refl) ?_
    refine hr_s 3 (pc' := 44) (lc' := [(4, .int 0), (0, .ref 0), (1, .int (nI X)), (2, .int (nI Y)), (3, .int z)]) (stk' := [.int z, .int 0]) (mem' := cm g l a b R) (by intro _ _ _; eq_refl) ?_
    refine hr_s 1 (pc' := cond (fx_cb .ne 0 z) 54 47) (lc' := [(4, .int 0), (0, .ref 0), (1, .int (nI X)), (2, .int (nI Y)), (3, .int z)]) (stk' := []) (mem' := cm g l a b R) (by intro _ _ _; eq_refl) ?_
    rw [show fx_cb .ne 0 z = true from by show (!decide ((0 : Int32) = z)) = true; rw [decide_eq_false hz]; rfl]
    dsimp only [cond]
    exact rest 0
  · have e1 : ((a 17 X >>> (nI Y &&& 31)) &&& 1) = 1 := by rw [if_neg e] at e0; exact e0.symm
    rw [e1] at hz
    refine hr_s 1 (pc' := cond (fx_cb .eq ((a 17 X >>> (nI Y &&& 31)) &&& 1) 0) 38 34) (lc' := [(0, .ref 0), (1, .int (nI X)), (2, .int (nI Y)), (3, .int z)]) (stk' := []) (mem' := cm g l a b R) (by intro _ _ _; eq_refl) ?_
    rw [show fx_cb .eq ((a 17 X >>> (nI Y &&& 31)) &&& 1) 0 = false from decide_eq_false e]
    dsimp only [cond]
    refine hr_s 2 (pc' := 39) (lc' := [(0, .ref 0), (1, .int (nI X)), (2, .int (nI Y)), (3, .int z)]) (stk' := [.int 1]) (mem' := cm g l a b R) (by intro _ _ _; eq_refl) ?_
    refine hr_s 3 (pc' := 44) (lc' := [(4, .int 1), (0, .ref 0), (1, .int (nI X)), (2, .int (nI Y)), (3, .int z)]) (stk' := [.int z, .int 1]) (mem' := cm g l a b R) (by intro _ _ _; eq_refl) ?_
    refine hr_s 1 (pc' := cond (fx_cb .ne 1 z) 54 47) (lc' := [(4, .int 1), (0, .ref 0), (1, .int (nI X)), (2, .int (nI Y)), (3, .int z)]) (stk' := []) (mem' := cm g l a b R) (by intro _ _ _; eq_refl) ?_
    rw [show fx_cb .ne 1 z = true from by show (!decide ((1 : Int32) = z)) = true; rw [decide_eq_false hz]; rfl]
    dsimp only [cond]
    exact rest 1
theorem hl_weiF {x y : Int32} (h : ¬ wgN (g 26 7) x y) : hr_T 2 153 [.ref 0, .int x, .int y] (cm g l a b R) (some (.int 0)) (cm (fm_u g 0 0 1) l a b R) := by
  refine hr_meth (by rfl) (by rfl) ?_
  refine hr_s 4 (pc' := 8) (lc' := [(0, .ref 0), (1, .int x), (2, .int y)]) (stk' := [.int x, .ref 26]) (mem' := cm g l a b R) (by intro _ _ _; eq_refl) ?_
  refine hr_ivV hl_has (by omega) (by rfl) (by rfl) (by rfl) (by rfl) (by rfl) (by rfl) ?_
  have bad : hr_R 1 gk_m153 25 [(0, .ref 0), (1, .int x), (2, .int y)] [] (cm g l a b R) (some (.int 0), cm (fm_u g 0 0 1) l a b R) := by
    refine hr_s 2 (pc' := 27) (lc' := [(0, .ref 0), (1, .int x), (2, .int y)]) (stk' := [.int 1, .ref 0]) (mem' := cm g l a b R) (by intro _ _ _; eq_refl) ?_
    refine hr_ivV hl_deny (by omega) (by rfl) (by rfl) (by rfl) (by rfl) (by rfl) (by rfl) ?_
    exact hr_ret (by rfl) (by rfl) (by rfl)
  by_cases h1 : inN (g 26 7) x
  · rw [if_pos h1]
    refine hr_s 1 (pc' := cond (fx_cb .eq 1 0) 25 14) (lc' := [(0, .ref 0), (1, .int x), (2, .int y)]) (stk' := []) (mem' := cm g l a b R) (by intro _ _ _; eq_refl) ?_
    rw [show fx_cb .eq 1 0 = false from by decide]
    dsimp only [cond]
    refine hr_s 2 (pc' := 16) (lc' := [(0, .ref 0), (1, .int x), (2, .int y)]) (stk' := [.int 1, .int y]) (mem' := cm g l a b R) (by intro _ _ _; eq_refl) ?_
    refine hr_s 1 (pc' := cond (fx_cb .lt y 1) 25 19) (lc' := [(0, .ref 0), (1, .int x), (2, .int y)]) (stk' := []) (mem' := cm g l a b R) (by intro _ _ _; eq_refl) ?_
    cases h2 : fx_cb .lt y 1
    · have p2 : (1 : Int) ≤ y.toInt := tc_ltF h2
      refine hr_s 2 (pc' := 22) (lc' := [(0, .ref 0), (1, .int x), (2, .int y)]) (stk' := [.int 99, .int y]) (mem' := cm g l a b R) (by intro _ _ _; eq_refl) ?_
      refine hr_s 1 (pc' := cond (fx_cb .le y 99) 31 25) (lc' := [(0, .ref 0), (1, .int x), (2, .int y)]) (stk' := []) (mem' := cm g l a b R) (by intro _ _ _; eq_refl) ?_
      cases h3 : fx_cb .le y 99
      · exact bad
      · have p3 : y.toInt ≤ (99 : Int) := tc_le h3
        exact absurd ⟨h1, p2, p3⟩ h
    · exact bad
  · rw [if_neg h1]
    refine hr_s 1 (pc' := cond (fx_cb .eq 0 0) 25 14) (lc' := [(0, .ref 0), (1, .int x), (2, .int y)]) (stk' := []) (mem' := cm g l a b R) (by intro _ _ _; eq_refl) ?_
    rw [show fx_cb .eq 0 0 = true from by decide]
    dsimp only [cond]
    exact bad
theorem hl_weiT {X : Nat} {y : Int32} (hX : X < 8) (h : wgN (g 26 7) (nI X) y) : hr_T 2 153 [.ref 0, .int (nI X), .int y] (cm g l a b R) (some (.int 1)) (cm (fm_u g 0 0 0) l (fm_u a 28 X y) b R) := by
  refine hr_meth (by rfl) (by rfl) ?_
  refine hr_s 4 (pc' := 8) (lc' := [(0, .ref 0), (1, .int (nI X)), (2, .int y)]) (stk' := [.int (nI X), .ref 26]) (mem' := cm g l a b R) (by intro _ _ _; eq_refl) ?_
  refine hr_ivV hl_has (by omega) (by rfl) (by rfl) (by rfl) (by rfl) (by rfl) (by rfl) ?_
  rw [if_pos h.1]
  refine hr_s 1 (pc' := cond (fx_cb .eq 1 0) 25 14) (lc' := [(0, .ref 0), (1, .int (nI X)), (2, .int y)]) (stk' := []) (mem' := cm g l a b R) (by intro _ _ _; eq_refl) ?_
  rw [show fx_cb .eq 1 0 = false from by decide]
  dsimp only [cond]
  refine hr_s 2 (pc' := 16) (lc' := [(0, .ref 0), (1, .int (nI X)), (2, .int y)]) (stk' := [.int 1, .int y]) (mem' := cm g l a b R) (by intro _ _ _; eq_refl) ?_
  refine hr_s 1 (pc' := cond (fx_cb .lt y 1) 25 19) (lc' := [(0, .ref 0), (1, .int (nI X)), (2, .int y)]) (stk' := []) (mem' := cm g l a b R) (by intro _ _ _; eq_refl) ?_
  rw [show fx_cb .lt y 1 = false from decide_eq_false (fun z => by have := Int32.lt_iff_toInt_lt.mp z; have h1 := h.2.1; have h2 : (1 : Int32).toInt = 1 := rfl; omega)]
  dsimp only [cond]
  refine hr_s 2 (pc' := 22) (lc' := [(0, .ref 0), (1, .int (nI X)), (2, .int y)]) (stk' := [.int 99, .int y]) (mem' := cm g l a b R) (by intro _ _ _; eq_refl) ?_
  refine hr_s 1 (pc' := cond (fx_cb .le y 99) 31 25) (lc' := [(0, .ref 0), (1, .int (nI X)), (2, .int y)]) (stk' := []) (mem' := cm g l a b R) (by intro _ _ _; eq_refl) ?_
  rw [show fx_cb .le y 99 = true from decide_eq_true (Int32.le_iff_toInt_le.mpr h.2.2)]
  dsimp only [cond]
  refine hr_s 6 (pc' := 43) (lc' := [(0, .ref 0), (1, .int (nI X)), (2, .int y)]) (stk' := [.int y, .int (nI X), .ref 28]) (mem' := cm g l a b R) (by intro _ _ _; eq_refl) ?_
  refine hr_stI (mem' := cm g l (fm_u a 28 (nI X : Int32).toNatClampNeg y) b R) (by rfl) (by rfl) (fx_inN (i := X) (by omega) (by omega)) cm_si28 ?_
  rw [show Int32.toNatClampNeg (nI X) = X from nI_clamp (by omega)]
  refine hr_s 1 (pc' := 45) (lc' := [(0, .ref 0), (1, .int (nI X)), (2, .int y)]) (stk' := [.ref 0]) (mem' := cm g l (fm_u a 28 X y) b R) (by intro _ _ _; eq_refl) ?_
  refine hr_ivV hl_agree (by omega) (by rfl) (by rfl) (by rfl) (by rfl) (by rfl) (by rfl) ?_
  exact hr_ret (by rfl) (by rfl) (by rfl)
end CEX
