/-! ===== the model: way, beside, hew, weigh, exact ===== -/
/-- a number of one of n -/
abbrev inN (n c : Int32) : Prop := 0 ≤ c.toInt ∧ c.toInt < n.toInt
/-- two of n -/
abbrev twoN (n x y : Int32) : Prop := inN n x ∧ inN n y ∧ ¬ x = y
theorem inN_nat {n c : Int32} {m : Nat} (hn : n.toInt ≤ m) (h : inN n c) : ∃ C, C < m ∧ c = nI C ∧ (C : Int) = c.toInt := by
  obtain ⟨h1, h2⟩ := h
  refine ⟨c.toInt.toNat, by omega, ?_, by omega⟩
  have hl := Int32.toInt_lt c
  apply Int32.toInt_inj.mp
  rw [nI_i32 (by omega)]
  omega
theorem z64 : (0 : Int64).toInt = 0 := by decide
theorem lgc_geT {x y : Int64} (h : fx_cb .ge (lg_cmp x y) 0 = true) : y.toInt ≤ x.toInt := by
  rcases rk_lgc x y with ⟨z, w⟩ | ⟨z, w⟩ | ⟨z, w⟩
  · omega
  · omega
  · rw [z] at h; exact absurd h (by decide)
theorem fb_eq {A : Int32} {Y : Nat} (h : Y < 32) : fm_b A (nI Y) = (A >>> (nI Y &&& 31)) &&& 1 := by
  unfold fm_b
  rw [bi_v _ h]
  by_cases e : A.toBitVec.getLsbD Y = true
  · rw [if_pos e]; rfl
  · rw [if_neg e]; rfl
section MEX
variable {g : Nat → Int32} {tp bt : Int64} {a : Nat → Nat → Int32} {b : Nat → Nat → Int64}
theorem ml_cell {c : Int32} : fr_T 1 255 [.ref 0, .long c.toInt64] (fm g tp bt a b) (some (.int (if inN (a 1 0) c then 1 else 0))) (fm g tp bt a b) := by
  refine fr_meth (by rfl) (by rfl) ?_
  refine fr_s 3 (pc' := 3) (lc' := [(0, .ref 0), (1, .long c.toInt64)]) (stk' := [.int (lg_cmp c.toInt64 (0 : Int64))]) (mem' := fm g tp bt a b) (by intro _ _ _; eq_refl) ?_
  refine fr_s 1 (pc' := cond (fx_cb .lt (lg_cmp c.toInt64 (0 : Int64)) 0) 22 6) (lc' := [(0, .ref 0), (1, .long c.toInt64)]) (stk' := []) (mem' := fm g tp bt a b) (by intro _ _ _; eq_refl) ?_
  cases h1 : fx_cb .lt (lg_cmp c.toInt64 (0 : Int64)) 0
  · have p1 := lgc_ltF h1
    rw [Int32.toInt_toInt64, z64] at p1
    refine fr_s 4 (pc' := 12) (lc' := [(0, .ref 0), (1, .long c.toInt64)]) (stk' := [.int 0, .ref 1, .long c.toInt64]) (mem' := fm g tp bt a b) (by intro _ _ _; eq_refl) ?_
    refine fr_ldI (by rfl) (by rfl) (fx_inN (i := 0) (by omega) (by omega)) ?_
    rw [show Int32.toNatClampNeg (0) = 0 from rfl]
    refine fr_s 2 (pc' := 15) (lc' := [(0, .ref 0), (1, .long c.toInt64)]) (stk' := [.int (lg_cmp c.toInt64 ((a 1 0).toInt64))]) (mem' := fm g tp bt a b) (by intro _ _ _; eq_refl) ?_
    refine fr_s 1 (pc' := cond (fx_cb .ge (lg_cmp c.toInt64 ((a 1 0).toInt64)) 0) 22 18) (lc' := [(0, .ref 0), (1, .long c.toInt64)]) (stk' := []) (mem' := fm g tp bt a b) (by intro _ _ _; eq_refl) ?_
    cases h2 : fx_cb .ge (lg_cmp c.toInt64 ((a 1 0).toInt64)) 0
    · have p2 := lgc_geF h2
      rw [Int32.toInt_toInt64, Int32.toInt_toInt64] at p2
      rw [if_pos (show inN (a 1 0) c from ⟨p1, p2⟩)]
      refine fr_s 2 (pc' := 23) (lc' := [(0, .ref 0), (1, .long c.toInt64)]) (stk' := [.int 1]) (mem' := fm g tp bt a b) (by intro _ _ _; eq_refl) ?_
      exact fr_ret (by rfl) (by rfl) (by rfl)
    · have p2 := lgc_geT h2
      rw [Int32.toInt_toInt64, Int32.toInt_toInt64] at p2
      rw [if_neg (show ¬ inN (a 1 0) c from fun z => by have := z.2; omega)]
      refine fr_s 1 (pc' := 23) (lc' := [(0, .ref 0), (1, .long c.toInt64)]) (stk' := [.int 0]) (mem' := fm g tp bt a b) (by intro _ _ _; eq_refl) ?_
      exact fr_ret (by rfl) (by rfl) (by rfl)
  · have p1 := lgc_ltT h1
    rw [Int32.toInt_toInt64, z64] at p1
    rw [if_neg (show ¬ inN (a 1 0) c from fun z => by have := z.1; omega)]
    refine fr_s 1 (pc' := 23) (lc' := [(0, .ref 0), (1, .long c.toInt64)]) (stk' := [.int 0]) (mem' := fm g tp bt a b) (by intro _ _ _; eq_refl) ?_
    exact fr_ret (by rfl) (by rfl) (by rfl)
theorem ml_two {x y : Int32} : fr_T 2 278 [.ref 0, .int x, .int y] (fm g tp bt a b) (some (.int (if twoN (a 1 0) x y then 1 else 0))) (fm g tp bt a b) := by
  refine fr_meth (by rfl) (by rfl) ?_
  refine fr_s 3 (pc' := 3) (lc' := [(0, .ref 0), (1, .int x), (2, .int y)]) (stk' := [.long x.toInt64, .ref 0]) (mem' := fm g tp bt a b) (by intro _ _ _; eq_refl) ?_
  refine fr_ivV ml_cell (by omega) (by rfl) (by rfl) (by rfl) (by rfl) (by rfl) (by rfl) ?_
  by_cases h1 : inN (a 1 0) x
  · rw [if_pos h1]
    refine fr_s 1 (pc' := cond (fx_cb .eq 1 0) 27 9) (lc' := [(0, .ref 0), (1, .int x), (2, .int y)]) (stk' := []) (mem' := fm g tp bt a b) (by intro _ _ _; eq_refl) ?_
    rw [show fx_cb .eq 1 0 = false from by decide]
    dsimp only [cond]
    refine fr_s 3 (pc' := 12) (lc' := [(0, .ref 0), (1, .int x), (2, .int y)]) (stk' := [.long y.toInt64, .ref 0]) (mem' := fm g tp bt a b) (by intro _ _ _; eq_refl) ?_
    refine fr_ivV ml_cell (by omega) (by rfl) (by rfl) (by rfl) (by rfl) (by rfl) (by rfl) ?_
    by_cases h2 : inN (a 1 0) y
    · rw [if_pos h2]
      refine fr_s 1 (pc' := cond (fx_cb .eq 1 0) 27 18) (lc' := [(0, .ref 0), (1, .int x), (2, .int y)]) (stk' := []) (mem' := fm g tp bt a b) (by intro _ _ _; eq_refl) ?_
      rw [show fx_cb .eq 1 0 = false from by decide]
      dsimp only [cond]
      refine fr_s 2 (pc' := 20) (lc' := [(0, .ref 0), (1, .int x), (2, .int y)]) (stk' := [.int y, .int x]) (mem' := fm g tp bt a b) (by intro _ _ _; eq_refl) ?_
      by_cases h3 : x = y
      · rw [if_neg (show ¬ twoN (a 1 0) x y from fun z => z.2.2 h3)]
        refine fr_s 1 (pc' := cond (fx_cb .eq x y) 27 23) (lc' := [(0, .ref 0), (1, .int x), (2, .int y)]) (stk' := []) (mem' := fm g tp bt a b) (by intro _ _ _; eq_refl) ?_
        rw [show fx_cb .eq x y = true from decide_eq_true h3]
        dsimp only [cond]
        refine fr_s 1 (pc' := 28) (lc' := [(0, .ref 0), (1, .int x), (2, .int y)]) (stk' := [.int 0]) (mem' := fm g tp bt a b) (by intro _ _ _; eq_refl) ?_
        exact fr_ret (by rfl) (by rfl) (by rfl)
      · rw [if_pos (show twoN (a 1 0) x y from ⟨h1, h2, h3⟩)]
        refine fr_s 1 (pc' := cond (fx_cb .eq x y) 27 23) (lc' := [(0, .ref 0), (1, .int x), (2, .int y)]) (stk' := []) (mem' := fm g tp bt a b) (by intro _ _ _; eq_refl) ?_
        rw [show fx_cb .eq x y = false from decide_eq_false h3]
        dsimp only [cond]
        refine fr_s 2 (pc' := 28) (lc' := [(0, .ref 0), (1, .int x), (2, .int y)]) (stk' := [.int 1]) (mem' := fm g tp bt a b) (by intro _ _ _; eq_refl) ?_
        exact fr_ret (by rfl) (by rfl) (by rfl)
    · rw [if_neg h2, if_neg (show ¬ twoN (a 1 0) x y from fun z => h2 z.2.1)]
      refine fr_s 1 (pc' := cond (fx_cb .eq 0 0) 27 18) (lc' := [(0, .ref 0), (1, .int x), (2, .int y)]) (stk' := []) (mem' := fm g tp bt a b) (by intro _ _ _; eq_refl) ?_
      rw [show fx_cb .eq 0 0 = true from by decide]
      dsimp only [cond]
      refine fr_s 1 (pc' := 28) (lc' := [(0, .ref 0), (1, .int x), (2, .int y)]) (stk' := [.int 0]) (mem' := fm g tp bt a b) (by intro _ _ _; eq_refl) ?_
      exact fr_ret (by rfl) (by rfl) (by rfl)
  · rw [if_neg h1, if_neg (show ¬ twoN (a 1 0) x y from fun z => h1 z.1)]
    refine fr_s 1 (pc' := cond (fx_cb .eq 0 0) 27 9) (lc' := [(0, .ref 0), (1, .int x), (2, .int y)]) (stk' := []) (mem' := fm g tp bt a b) (by intro _ _ _; eq_refl) ?_
    rw [show fx_cb .eq 0 0 = true from by decide]
    dsimp only [cond]
    refine fr_s 1 (pc' := 28) (lc' := [(0, .ref 0), (1, .int x), (2, .int y)]) (stk' := [.int 0]) (mem' := fm g tp bt a b) (by intro _ _ _; eq_refl) ?_
    exact fr_ret (by rfl) (by rfl) (by rfl)
theorem ml_wayF {x y : Int32} (h : ¬ twoN (a 1 0) x y) : fr_T 4 279 [.ref 0, .int x, .int y] (fm g tp bt a b) (some (.int (-1))) (fm (upd g 2 1) tp bt a b) := by
  refine fr_meth (by rfl) (by rfl) ?_
  refine fr_s 3 (pc' := 3) (lc' := [(0, .ref 0), (1, .int x), (2, .int y)]) (stk' := [.int y, .int x, .ref 0]) (mem' := fm g tp bt a b) (by intro _ _ _; eq_refl) ?_
  refine fr_ivV ml_two (by omega) (by rfl) (by rfl) (by rfl) (by rfl) (by rfl) (by rfl) ?_
  rw [if_neg h]
  refine fr_s 1 (pc' := cond (fx_cb .eq 0 0) 30 9) (lc' := [(0, .ref 0), (1, .int x), (2, .int y)]) (stk' := []) (mem' := fm g tp bt a b) (by intro _ _ _; eq_refl) ?_
  rw [show fx_cb .eq 0 0 = true from by decide]
  dsimp only [cond]
  refine fr_s 2 (pc' := 32) (lc' := [(0, .ref 0), (1, .int x), (2, .int y)]) (stk' := [.int 1, .ref 0]) (mem' := fm g tp bt a b) (by intro _ _ _; eq_refl) ?_
  refine fr_ivV (fr_refuse (x := 1)) (by omega) (by rfl) (by rfl) (by rfl) (by rfl) (by rfl) (by rfl) ?_
  exact fr_ret (by rfl) (by rfl) (by rfl)
theorem ml_wayT {X : Nat} {y : Int32} (hX : X < 10) (h : twoN (a 1 0) (nI X) y) : fr_T 4 279 [.ref 0, .int (nI X), .int y] (fm g tp bt a b) (some (.int (fm_b (a 1 (10 + 6 * X)) y))) (fm (upd g 2 0) tp bt a b) := by
  refine fr_meth (by rfl) (by rfl) ?_
  refine fr_s 3 (pc' := 3) (lc' := [(0, .ref 0), (1, .int (nI X)), (2, .int y)]) (stk' := [.int y, .int (nI X), .ref 0]) (mem' := fm g tp bt a b) (by intro _ _ _; eq_refl) ?_
  refine fr_ivV ml_two (by omega) (by rfl) (by rfl) (by rfl) (by rfl) (by rfl) (by rfl) ?_
  rw [if_pos h]
  refine fr_s 1 (pc' := cond (fx_cb .eq 1 0) 30 9) (lc' := [(0, .ref 0), (1, .int (nI X)), (2, .int y)]) (stk' := []) (mem' := fm g tp bt a b) (by intro _ _ _; eq_refl) ?_
  rw [show fx_cb .eq 1 0 = false from by decide]
  dsimp only [cond]
  refine fr_s 4 (pc' := 13) (lc' := [(0, .ref 0), (1, .int (nI X)), (2, .int y)]) (stk' := [.int y, .int (nI X), .ref 0, .ref 0]) (mem' := fm g tp bt a b) (by intro _ _ _; eq_refl) ?_
  refine fr_ivV (fr_isWay hX) (by omega) (by rfl) (by rfl) (by rfl) (by rfl) (by rfl) (by rfl) ?_
  rcases fm_b_01 (a 1 (10 + 6 * X)) y with e | e
  · rw [e]
    refine fr_s 1 (pc' := cond (fx_cb .eq 0 0) 23 19) (lc' := [(0, .ref 0), (1, .int (nI X)), (2, .int y)]) (stk' := [.ref 0]) (mem' := fm g tp bt a b) (by intro _ _ _; eq_refl) ?_
    rw [show fx_cb .eq 0 0 = true from by decide]
    dsimp only [cond]
    refine fr_s 1 (pc' := 24) (lc' := [(0, .ref 0), (1, .int (nI X)), (2, .int y)]) (stk' := [.int 0, .ref 0]) (mem' := fm g tp bt a b) (by intro _ _ _; eq_refl) ?_
    refine fr_ivV (fr_gives (x := 0)) (by omega) (by rfl) (by rfl) (by rfl) (by rfl) (by rfl) (by rfl) ?_
    refine fr_s 1 (pc' := 35) (lc' := [(0, .ref 0), (1, .int (nI X)), (2, .int y)]) (stk' := [.int 0]) (mem' := fm (upd g 2 0) tp bt a b) (by intro _ _ _; eq_refl) ?_
    exact fr_ret (by rfl) (by rfl) (by rfl)
  · rw [e]
    refine fr_s 1 (pc' := cond (fx_cb .eq 1 0) 23 19) (lc' := [(0, .ref 0), (1, .int (nI X)), (2, .int y)]) (stk' := [.ref 0]) (mem' := fm g tp bt a b) (by intro _ _ _; eq_refl) ?_
    rw [show fx_cb .eq 1 0 = false from by decide]
    dsimp only [cond]
    refine fr_s 2 (pc' := 24) (lc' := [(0, .ref 0), (1, .int (nI X)), (2, .int y)]) (stk' := [.int 1, .ref 0]) (mem' := fm g tp bt a b) (by intro _ _ _; eq_refl) ?_
    refine fr_ivV (fr_gives (x := 1)) (by omega) (by rfl) (by rfl) (by rfl) (by rfl) (by rfl) (by rfl) ?_
    refine fr_s 1 (pc' := 35) (lc' := [(0, .ref 0), (1, .int (nI X)), (2, .int y)]) (stk' := [.int 1]) (mem' := fm (upd g 2 0) tp bt a b) (by intro _ _ _; eq_refl) ?_
    exact fr_ret (by rfl) (by rfl) (by rfl)
theorem ml_besF {x y : Int32} (h : ¬ twoN (a 1 0) x y) : fr_T 4 280 [.ref 0, .int x, .int y] (fm g tp bt a b) (some (.int (-1))) (fm (upd g 2 1) tp bt a b) := by
  refine fr_meth (by rfl) (by rfl) ?_
  refine fr_s 3 (pc' := 3) (lc' := [(0, .ref 0), (1, .int x), (2, .int y)]) (stk' := [.int y, .int x, .ref 0]) (mem' := fm g tp bt a b) (by intro _ _ _; eq_refl) ?_
  refine fr_ivV ml_two (by omega) (by rfl) (by rfl) (by rfl) (by rfl) (by rfl) (by rfl) ?_
  rw [if_neg h]
  refine fr_s 1 (pc' := cond (fx_cb .eq 0 0) 40 9) (lc' := [(0, .ref 0), (1, .int x), (2, .int y)]) (stk' := []) (mem' := fm g tp bt a b) (by intro _ _ _; eq_refl) ?_
  rw [show fx_cb .eq 0 0 = true from by decide]
  dsimp only [cond]
  refine fr_s 2 (pc' := 42) (lc' := [(0, .ref 0), (1, .int x), (2, .int y)]) (stk' := [.int 1, .ref 0]) (mem' := fm g tp bt a b) (by intro _ _ _; eq_refl) ?_
  refine fr_ivV (fr_refuse (x := 1)) (by omega) (by rfl) (by rfl) (by rfl) (by rfl) (by rfl) (by rfl) ?_
  exact fr_ret (by rfl) (by rfl) (by rfl)
theorem ml_besT {X : Nat} {y : Int32} (hX : X < 10) (h : twoN (a 1 0) (nI X) y) : fr_T 4 280 [.ref 0, .int (nI X), .int y] (fm g tp bt a b) (some (.int (fm_b (a 1 (11 + 6 * X)) y))) (fm (upd g 2 0) tp bt a b) := by
  refine fr_meth (by rfl) (by rfl) ?_
  have e1 : 8 + 6 * nI X + 3 = nI (11 + 6 * X) := by
    rw [show (8 : Int32) = nI 8 from rfl, show (6 : Int32) = nI 6 from rfl, show (3 : Int32) = nI 3 from rfl, fm_mul, nI_add, nI_add]
    congr 1
    omega
  refine fr_s 3 (pc' := 3) (lc' := [(0, .ref 0), (1, .int (nI X)), (2, .int y)]) (stk' := [.int y, .int (nI X), .ref 0]) (mem' := fm g tp bt a b) (by intro _ _ _; eq_refl) ?_
  refine fr_ivV ml_two (by omega) (by rfl) (by rfl) (by rfl) (by rfl) (by rfl) (by rfl) ?_
  rw [if_pos h]
  refine fr_s 1 (pc' := cond (fx_cb .eq 1 0) 40 9) (lc' := [(0, .ref 0), (1, .int (nI X)), (2, .int y)]) (stk' := []) (mem' := fm g tp bt a b) (by intro _ _ _; eq_refl) ?_
  rw [show fx_cb .eq 1 0 = false from by decide]
  dsimp only [cond]
  refine fr_s 5 (pc' := 16) (lc' := [(0, .ref 0), (1, .int (nI X)), (2, .int y)]) (stk' := [.int (nI X), .ref 1, .ref 0, .ref 0]) (mem' := fm g tp bt a b) (by intro _ _ _; eq_refl) ?_
  refine fr_ivS fr_cellRow (by omega) (by rfl) (by rfl) (by rfl) (by rfl) (by rfl) ?_
  refine fr_s 2 (pc' := 21) (lc' := [(0, .ref 0), (1, .int (nI X)), (2, .int y)]) (stk' := [.int ((8 + 6 * nI X) + 3), .ref 1, .ref 0, .ref 0]) (mem' := fm g tp bt a b) (by intro _ _ _; eq_refl) ?_
  rw [e1]
  refine fr_ldI (by rfl) (by rfl) (fx_inN (by omega) (by omega)) ?_
  rw [nI_clamp (by omega)]
  refine fr_s 1 (pc' := 23) (lc' := [(0, .ref 0), (1, .int (nI X)), (2, .int y)]) (stk' := [.int y, .int (a 1 (11 + 6 * X)), .ref 0, .ref 0]) (mem' := fm g tp bt a b) (by intro _ _ _; eq_refl) ?_
  refine fr_ivV fr_isIn (by omega) (by rfl) (by rfl) (by rfl) (by rfl) (by rfl) (by rfl) ?_
  rcases fm_b_01 (a 1 (11 + 6 * X)) y with e | e
  · rw [e]
    refine fr_s 1 (pc' := cond (fx_cb .eq 0 0) 33 29) (lc' := [(0, .ref 0), (1, .int (nI X)), (2, .int y)]) (stk' := [.ref 0]) (mem' := fm g tp bt a b) (by intro _ _ _; eq_refl) ?_
    rw [show fx_cb .eq 0 0 = true from by decide]
    dsimp only [cond]
    refine fr_s 1 (pc' := 34) (lc' := [(0, .ref 0), (1, .int (nI X)), (2, .int y)]) (stk' := [.int 0, .ref 0]) (mem' := fm g tp bt a b) (by intro _ _ _; eq_refl) ?_
    refine fr_ivV (fr_gives (x := 0)) (by omega) (by rfl) (by rfl) (by rfl) (by rfl) (by rfl) (by rfl) ?_
    refine fr_s 1 (pc' := 45) (lc' := [(0, .ref 0), (1, .int (nI X)), (2, .int y)]) (stk' := [.int 0]) (mem' := fm (upd g 2 0) tp bt a b) (by intro _ _ _; eq_refl) ?_
    exact fr_ret (by rfl) (by rfl) (by rfl)
  · rw [e]
    refine fr_s 1 (pc' := cond (fx_cb .eq 1 0) 33 29) (lc' := [(0, .ref 0), (1, .int (nI X)), (2, .int y)]) (stk' := [.ref 0]) (mem' := fm g tp bt a b) (by intro _ _ _; eq_refl) ?_
    rw [show fx_cb .eq 1 0 = false from by decide]
    dsimp only [cond]
    refine fr_s 2 (pc' := 34) (lc' := [(0, .ref 0), (1, .int (nI X)), (2, .int y)]) (stk' := [.int 1, .ref 0]) (mem' := fm g tp bt a b) (by intro _ _ _; eq_refl) ?_
    refine fr_ivV (fr_gives (x := 1)) (by omega) (by rfl) (by rfl) (by rfl) (by rfl) (by rfl) (by rfl) ?_
    refine fr_s 1 (pc' := 45) (lc' := [(0, .ref 0), (1, .int (nI X)), (2, .int y)]) (stk' := [.int 1]) (mem' := fm (upd g 2 0) tp bt a b) (by intro _ _ _; eq_refl) ?_
    exact fr_ret (by rfl) (by rfl) (by rfl)
theorem ml_is0 : fr_T 1 206 [.ref 0, .int 0] (fm g tp bt a b) (some (.int 1)) (fm (upd g 2 0) tp bt a b) := by
  refine fr_meth (by rfl) (by rfl) ?_
  refine fr_s 4 (pc' := 6) (lc' := [(0, .ref 0), (1, .int 0)]) (stk' := [.int 0]) (mem' := fm (upd g 2 0) tp bt a b) (by intro _ _ _; eq_refl) ?_
  refine fr_s 1 (pc' := cond (fx_cb .ne 0 0) 13 9) (lc' := [(0, .ref 0), (1, .int 0)]) (stk' := []) (mem' := fm (upd g 2 0) tp bt a b) (by intro _ _ _; eq_refl) ?_
  rw [show fx_cb .ne 0 0 = false from by decide]
  dsimp only [cond]
  refine fr_s 2 (pc' := 14) (lc' := [(0, .ref 0), (1, .int 0)]) (stk' := [.int 1]) (mem' := fm (upd g 2 0) tp bt a b) (by intro _ _ _; eq_refl) ?_
  exact fr_ret (by rfl) (by rfl) (by rfl)
theorem ml_is1 : fr_T 1 206 [.ref 0, .int 1] (fm g tp bt a b) (some (.int 0)) (fm (upd g 2 1) tp bt a b) := by
  refine fr_meth (by rfl) (by rfl) ?_
  refine fr_s 4 (pc' := 6) (lc' := [(0, .ref 0), (1, .int 1)]) (stk' := [.int 1]) (mem' := fm (upd g 2 1) tp bt a b) (by intro _ _ _; eq_refl) ?_
  refine fr_s 1 (pc' := cond (fx_cb .ne 1 0) 13 9) (lc' := [(0, .ref 0), (1, .int 1)]) (stk' := []) (mem' := fm (upd g 2 1) tp bt a b) (by intro _ _ _; eq_refl) ?_
  rw [show fx_cb .ne 1 0 = true from by decide]
  dsimp only [cond]
  refine fr_s 1 (pc' := 14) (lc' := [(0, .ref 0), (1, .int 1)]) (stk' := [.int 0]) (mem' := fm (upd g 2 1) tp bt a b) (by intro _ _ _; eq_refl) ?_
  exact fr_ret (by rfl) (by rfl) (by rfl)
theorem ml_hewF {x y z : Int32} (h : ¬ twoN (a 1 0) x y) : fr_T 4 301 [.ref 0, .int x, .int y, .int z] (fm g tp bt a b) (some (.int 0)) (fm (upd g 2 1) tp bt a b) := by
  refine fr_meth (by rfl) (by rfl) ?_
  refine fr_s 3 (pc' := 3) (lc' := [(0, .ref 0), (1, .int x), (2, .int y), (3, .int z)]) (stk' := [.int y, .int x, .ref 0]) (mem' := fm g tp bt a b) (by intro _ _ _; eq_refl) ?_
  refine fr_ivV ml_two (by omega) (by rfl) (by rfl) (by rfl) (by rfl) (by rfl) (by rfl) ?_
  rw [if_neg h]
  refine fr_s 1 (pc' := cond (fx_cb .ne 0 0) 15 9) (lc' := [(0, .ref 0), (1, .int x), (2, .int y), (3, .int z)]) (stk' := []) (mem' := fm g tp bt a b) (by intro _ _ _; eq_refl) ?_
  rw [show fx_cb .ne 0 0 = false from by decide]
  dsimp only [cond]
  refine fr_s 2 (pc' := 11) (lc' := [(0, .ref 0), (1, .int x), (2, .int y), (3, .int z)]) (stk' := [.int 1, .ref 0]) (mem' := fm g tp bt a b) (by intro _ _ _; eq_refl) ?_
  refine fr_ivV ml_is1 (by omega) (by rfl) (by rfl) (by rfl) (by rfl) (by rfl) (by rfl) ?_
  exact fr_ret (by rfl) (by rfl) (by rfl)
theorem ml_hewE {X Y : Nat} {z : Int32} (hX : X < 10) (h : twoN (a 1 0) (nI X) (nI Y)) (hz : fm_b (a 1 (10 + 6 * X)) (nI Y) = z) : fr_T 4 301 [.ref 0, .int (nI X), .int (nI Y), .int z] (fm g tp bt a b) (some (.int 0)) (fm (upd g 2 7) tp bt a b) := by
  refine fr_meth (by rfl) (by rfl) ?_
  refine fr_s 3 (pc' := 3) (lc' := [(0, .ref 0), (1, .int (nI X)), (2, .int (nI Y)), (3, .int z)]) (stk' := [.int (nI Y), .int (nI X), .ref 0]) (mem' := fm g tp bt a b) (by intro _ _ _; eq_refl) ?_
  refine fr_ivV ml_two (by omega) (by rfl) (by rfl) (by rfl) (by rfl) (by rfl) (by rfl) ?_
  rw [if_pos h]
  refine fr_s 1 (pc' := cond (fx_cb .ne 1 0) 15 9) (lc' := [(0, .ref 0), (1, .int (nI X)), (2, .int (nI Y)), (3, .int z)]) (stk' := []) (mem' := fm g tp bt a b) (by intro _ _ _; eq_refl) ?_
  rw [show fx_cb .ne 1 0 = true from by decide]
  dsimp only [cond]
  refine fr_s 3 (pc' := 18) (lc' := [(0, .ref 0), (1, .int (nI X)), (2, .int (nI Y)), (3, .int z)]) (stk' := [.int (nI Y), .int (nI X), .ref 0]) (mem' := fm g tp bt a b) (by intro _ _ _; eq_refl) ?_
  refine fr_ivV (fr_isWay hX) (by omega) (by rfl) (by rfl) (by rfl) (by rfl) (by rfl) (by rfl) ?_
  refine fr_s 1 (pc' := 22) (lc' := [(0, .ref 0), (1, .int (nI X)), (2, .int (nI Y)), (3, .int z)]) (stk' := [.int z, .int (fm_b (a 1 (10 + 6 * X)) (nI Y))]) (mem' := fm g tp bt a b) (by intro _ _ _; eq_refl) ?_
  rw [hz]
  refine fr_s 1 (pc' := cond (fx_cb .ne z z) 32 25) (lc' := [(0, .ref 0), (1, .int (nI X)), (2, .int (nI Y)), (3, .int z)]) (stk' := []) (mem' := fm g tp bt a b) (by intro _ _ _; eq_refl) ?_
  rw [show fx_cb .ne z z = false from by show (!decide (z = z)) = false; rw [decide_eq_true rfl]; rfl]
  dsimp only [cond]
  refine fr_s 2 (pc' := 28) (lc' := [(0, .ref 0), (1, .int (nI X)), (2, .int (nI Y)), (3, .int z)]) (stk' := [.int 7, .ref 0]) (mem' := fm g tp bt a b) (by intro _ _ _; eq_refl) ?_
  refine fr_ivV fr_isx7 (by omega) (by rfl) (by rfl) (by rfl) (by rfl) (by rfl) (by rfl) ?_
  exact fr_ret (by rfl) (by rfl) (by rfl)
theorem ml_hewT {X Y : Nat} {z : Int32} (hX : X < 10) (hY : Y < 10) (h : twoN (a 1 0) (nI X) (nI Y)) (hz : ¬ fm_b (a 1 (10 + 6 * X)) (nI Y) = z) : fr_T 4 301 [.ref 0, .int (nI X), .int (nI Y), .int z] (fm g tp bt a b) (some (.int 1)) (fm (upd g 2 0) tp bt (fm_u (fm_u a 1 (10 + 6 * X) (a 1 (10 + 6 * X) ^^^ ((1 : Int32) <<< (nI Y &&& 31)))) 1 (10 + 6 * Y) ((fm_u a 1 (10 + 6 * X) (a 1 (10 + 6 * X) ^^^ ((1 : Int32) <<< (nI Y &&& 31)))) 1 (10 + 6 * Y) ^^^ ((1 : Int32) <<< (nI X &&& 31)))) b) := by
  refine fr_meth (by rfl) (by rfl) ?_
  have e1 : ∀ k : Nat, 8 + 6 * nI k + 2 = nI (10 + 6 * k) := fun k => by
    rw [show (8 : Int32) = nI 8 from rfl, show (6 : Int32) = nI 6 from rfl, show (2 : Int32) = nI 2 from rfl, fm_mul, nI_add, nI_add]
    congr 1
    omega
  refine fr_s 3 (pc' := 3) (lc' := [(0, .ref 0), (1, .int (nI X)), (2, .int (nI Y)), (3, .int z)]) (stk' := [.int (nI Y), .int (nI X), .ref 0]) (mem' := fm g tp bt a b) (by intro _ _ _; eq_refl) ?_
  refine fr_ivV ml_two (by omega) (by rfl) (by rfl) (by rfl) (by rfl) (by rfl) (by rfl) ?_
  rw [if_pos h]
  refine fr_s 1 (pc' := cond (fx_cb .ne 1 0) 15 9) (lc' := [(0, .ref 0), (1, .int (nI X)), (2, .int (nI Y)), (3, .int z)]) (stk' := []) (mem' := fm g tp bt a b) (by intro _ _ _; eq_refl) ?_
  rw [show fx_cb .ne 1 0 = true from by decide]
  dsimp only [cond]
  refine fr_s 3 (pc' := 18) (lc' := [(0, .ref 0), (1, .int (nI X)), (2, .int (nI Y)), (3, .int z)]) (stk' := [.int (nI Y), .int (nI X), .ref 0]) (mem' := fm g tp bt a b) (by intro _ _ _; eq_refl) ?_
  refine fr_ivV (fr_isWay hX) (by omega) (by rfl) (by rfl) (by rfl) (by rfl) (by rfl) (by rfl) ?_
  refine fr_s 1 (pc' := 22) (lc' := [(0, .ref 0), (1, .int (nI X)), (2, .int (nI Y)), (3, .int z)]) (stk' := [.int z, .int (fm_b (a 1 (10 + 6 * X)) (nI Y))]) (mem' := fm g tp bt a b) (by intro _ _ _; eq_refl) ?_
  refine fr_s 1 (pc' := cond (fx_cb .ne (fm_b (a 1 (10 + 6 * X)) (nI Y)) z) 32 25) (lc' := [(0, .ref 0), (1, .int (nI X)), (2, .int (nI Y)), (3, .int z)]) (stk' := []) (mem' := fm g tp bt a b) (by intro _ _ _; eq_refl) ?_
  rw [show fx_cb .ne (fm_b (a 1 (10 + 6 * X)) (nI Y)) z = true from by show (!decide (_ = z)) = true; rw [decide_eq_false hz]; rfl]
  dsimp only [cond]
  refine fr_s 3 (pc' := 37) (lc' := [(0, .ref 0), (1, .int (nI X)), (2, .int (nI Y)), (3, .int z)]) (stk' := [.int (nI X), .ref 1]) (mem' := fm g tp bt a b) (by intro _ _ _; eq_refl) ?_
  refine fr_ivS fr_cellRow (by omega) (by rfl) (by rfl) (by rfl) (by rfl) (by rfl) ?_
  refine fr_s 2 (pc' := 42) (lc' := [(0, .ref 0), (1, .int (nI X)), (2, .int (nI Y)), (3, .int z)]) (stk' := [.int ((8 + 6 * nI X) + 2), .ref 1]) (mem' := fm g tp bt a b) (by intro _ _ _; eq_refl) ?_
  rw [e1 X]
  refine fr_s 1 (pc' := 43) (lc' := [(0, .ref 0), (1, .int (nI X)), (2, .int (nI Y)), (3, .int z)]) (stk' := [.int (nI (10 + 6 * X)), .ref 1, .int (nI (10 + 6 * X)), .ref 1]) (mem' := fm g tp bt a b) (by intro _ _ _; eq_refl) ?_
  refine fr_ldI (by rfl) (by rfl) (fx_inN (i := (10 + 6 * X)) (by omega) (by omega)) ?_
  rw [show Int32.toNatClampNeg (nI (10 + 6 * X)) = (10 + 6 * X) from nI_clamp (by omega)]
  refine fr_s 4 (pc' := 48) (lc' := [(0, .ref 0), (1, .int (nI X)), (2, .int (nI Y)), (3, .int z)]) (stk' := [.int (a 1 (10 + 6 * X) ^^^ ((1 : Int32) <<< (nI Y &&& 31))), .int (nI (10 + 6 * X)), .ref 1]) (mem' := fm g tp bt a b) (by intro _ _ _; eq_refl) ?_
  refine fr_stI (mem' := fm g tp bt (fm_u a 1 (nI (10 + 6 * X) : Int32).toNatClampNeg (a 1 (10 + 6 * X) ^^^ ((1 : Int32) <<< (nI Y &&& 31)))) b) (by rfl) (by rfl) (fx_inN (i := (10 + 6 * X)) (by omega) (by omega)) fm_si1 ?_
  rw [show Int32.toNatClampNeg (nI (10 + 6 * X)) = (10 + 6 * X) from nI_clamp (by omega)]
  refine fr_s 3 (pc' := 54) (lc' := [(0, .ref 0), (1, .int (nI X)), (2, .int (nI Y)), (3, .int z)]) (stk' := [.int (nI Y), .ref 1]) (mem' := fm g tp bt (fm_u a 1 (10 + 6 * X) (a 1 (10 + 6 * X) ^^^ ((1 : Int32) <<< (nI Y &&& 31)))) b) (by intro _ _ _; eq_refl) ?_
  refine fr_ivS fr_cellRow (by omega) (by rfl) (by rfl) (by rfl) (by rfl) (by rfl) ?_
  refine fr_s 2 (pc' := 59) (lc' := [(0, .ref 0), (1, .int (nI X)), (2, .int (nI Y)), (3, .int z)]) (stk' := [.int ((8 + 6 * nI Y) + 2), .ref 1]) (mem' := fm g tp bt (fm_u a 1 (10 + 6 * X) (a 1 (10 + 6 * X) ^^^ ((1 : Int32) <<< (nI Y &&& 31)))) b) (by intro _ _ _; eq_refl) ?_
  rw [e1 Y]
  refine fr_s 1 (pc' := 60) (lc' := [(0, .ref 0), (1, .int (nI X)), (2, .int (nI Y)), (3, .int z)]) (stk' := [.int (nI (10 + 6 * Y)), .ref 1, .int (nI (10 + 6 * Y)), .ref 1]) (mem' := fm g tp bt (fm_u a 1 (10 + 6 * X) (a 1 (10 + 6 * X) ^^^ ((1 : Int32) <<< (nI Y &&& 31)))) b) (by intro _ _ _; eq_refl) ?_
  refine fr_ldI (by rfl) (by rfl) (fx_inN (i := (10 + 6 * Y)) (by omega) (by omega)) ?_
  rw [show Int32.toNatClampNeg (nI (10 + 6 * Y)) = (10 + 6 * Y) from nI_clamp (by omega)]
  refine fr_s 4 (pc' := 65) (lc' := [(0, .ref 0), (1, .int (nI X)), (2, .int (nI Y)), (3, .int z)]) (stk' := [.int ((fm_u a 1 (10 + 6 * X) (a 1 (10 + 6 * X) ^^^ ((1 : Int32) <<< (nI Y &&& 31)))) 1 (10 + 6 * Y) ^^^ ((1 : Int32) <<< (nI X &&& 31))), .int (nI (10 + 6 * Y)), .ref 1]) (mem' := fm g tp bt (fm_u a 1 (10 + 6 * X) (a 1 (10 + 6 * X) ^^^ ((1 : Int32) <<< (nI Y &&& 31)))) b) (by intro _ _ _; eq_refl) ?_
  refine fr_stI (mem' := fm g tp bt (fm_u (fm_u a 1 (10 + 6 * X) (a 1 (10 + 6 * X) ^^^ ((1 : Int32) <<< (nI Y &&& 31)))) 1 (nI (10 + 6 * Y) : Int32).toNatClampNeg ((fm_u a 1 (10 + 6 * X) (a 1 (10 + 6 * X) ^^^ ((1 : Int32) <<< (nI Y &&& 31)))) 1 (10 + 6 * Y) ^^^ ((1 : Int32) <<< (nI X &&& 31)))) b) (by rfl) (by rfl) (fx_inN (i := (10 + 6 * Y)) (by omega) (by omega)) fm_si1 ?_
  rw [show Int32.toNatClampNeg (nI (10 + 6 * Y)) = (10 + 6 * Y) from nI_clamp (by omega)]
  refine fr_s 2 (pc' := 68) (lc' := [(0, .ref 0), (1, .int (nI X)), (2, .int (nI Y)), (3, .int z)]) (stk' := [.int 0, .ref 0]) (mem' := fm g tp bt (fm_u (fm_u a 1 (10 + 6 * X) (a 1 (10 + 6 * X) ^^^ ((1 : Int32) <<< (nI Y &&& 31)))) 1 (10 + 6 * Y) ((fm_u a 1 (10 + 6 * X) (a 1 (10 + 6 * X) ^^^ ((1 : Int32) <<< (nI Y &&& 31)))) 1 (10 + 6 * Y) ^^^ ((1 : Int32) <<< (nI X &&& 31)))) b) (by intro _ _ _; eq_refl) ?_
  refine fr_ivV ml_is0 (by omega) (by rfl) (by rfl) (by rfl) (by rfl) (by rfl) (by rfl) ?_
  exact fr_ret (by rfl) (by rfl) (by rfl)
theorem ml_walk {x : Int32} : fr_T 1 258 [.ref 0, .int x] (fm g tp bt a b) (some (.int (if inN (a 1 1) x then 1 else 0))) (fm g tp bt a b) := by
  refine fr_meth (by rfl) (by rfl) ?_
  refine fr_s 1 (pc' := 1) (lc' := [(0, .ref 0), (1, .int x)]) (stk' := [.int x]) (mem' := fm g tp bt a b) (by intro _ _ _; eq_refl) ?_
  refine fr_s 1 (pc' := cond (fx_cb .lt x 0) 18 4) (lc' := [(0, .ref 0), (1, .int x)]) (stk' := []) (mem' := fm g tp bt a b) (by intro _ _ _; eq_refl) ?_
  cases h1 : fx_cb .lt x 0
  · have p1 : (0 : Int) ≤ x.toInt := tc_ltF h1
    refine fr_s 4 (pc' := 10) (lc' := [(0, .ref 0), (1, .int x)]) (stk' := [.int 1, .ref 1, .int x]) (mem' := fm g tp bt a b) (by intro _ _ _; eq_refl) ?_
    refine fr_ldI (by rfl) (by rfl) (fx_inN (i := 1) (by omega) (by omega)) ?_
    rw [show Int32.toNatClampNeg (1) = 1 from rfl]
    refine fr_s 1 (pc' := cond (fx_cb .ge x (a 1 1)) 18 14) (lc' := [(0, .ref 0), (1, .int x)]) (stk' := []) (mem' := fm g tp bt a b) (by intro _ _ _; eq_refl) ?_
    cases h2 : fx_cb .ge x (a 1 1)
    · rw [if_pos (show inN (a 1 1) x from ⟨p1, tc_geF h2⟩)]
      refine fr_s 2 (pc' := 19) (lc' := [(0, .ref 0), (1, .int x)]) (stk' := [.int 1]) (mem' := fm g tp bt a b) (by intro _ _ _; eq_refl) ?_
      exact fr_ret (by rfl) (by rfl) (by rfl)
    · rw [if_neg (show ¬ inN (a 1 1) x from fun z => by have := z.2; have := tc_ge h2; omega)]
      refine fr_s 1 (pc' := 19) (lc' := [(0, .ref 0), (1, .int x)]) (stk' := [.int 0]) (mem' := fm g tp bt a b) (by intro _ _ _; eq_refl) ?_
      exact fr_ret (by rfl) (by rfl) (by rfl)
  · rw [if_neg (show ¬ inN (a 1 1) x from fun z => by have := z.1; have h : x.toInt < (0 : Int) := tc_lt h1; omega)]
    refine fr_s 1 (pc' := 19) (lc' := [(0, .ref 0), (1, .int x)]) (stk' := [.int 0]) (mem' := fm g tp bt a b) (by intro _ _ _; eq_refl) ?_
    exact fr_ret (by rfl) (by rfl) (by rfl)
def wgN (n x y : Int32) : Prop := inN n x ∧ 1 ≤ y.toInt ∧ y.toInt ≤ 99
theorem ml_weiF {x y : Int32} (h : ¬ wgN (a 1 1) x y) : fr_T 2 300 [.ref 0, .int x, .int y] (fm g tp bt a b) (some (.int 0)) (fm (upd g 2 1) tp bt a b) := by
  refine fr_meth (by rfl) (by rfl) ?_
  refine fr_s 2 (pc' := 2) (lc' := [(0, .ref 0), (1, .int x), (2, .int y)]) (stk' := [.int x, .ref 0]) (mem' := fm g tp bt a b) (by intro _ _ _; eq_refl) ?_
  refine fr_ivV ml_walk (by omega) (by rfl) (by rfl) (by rfl) (by rfl) (by rfl) (by rfl) ?_
  by_cases h1 : inN (a 1 1) x
  · rw [if_pos h1]
    refine fr_s 1 (pc' := cond (fx_cb .eq 1 0) 20 8) (lc' := [(0, .ref 0), (1, .int x), (2, .int y)]) (stk' := []) (mem' := fm g tp bt a b) (by intro _ _ _; eq_refl) ?_
    rw [show fx_cb .eq 1 0 = false from by decide]
    dsimp only [cond]
    refine fr_s 4 (pc' := 14) (lc' := [(0, .ref 0), (1, .int x), (2, .int y)]) (stk' := [.long 99, .long 1, .long y.toInt64]) (mem' := fm g tp bt a b) (by intro _ _ _; eq_refl) ?_
    obtain ⟨vF, memF, ⟨zF, hzF, hRF⟩, hfF⟩ := fr_isFrom (v := y.toInt64) (l := 1) (m := 99) (mem := fm g tp bt a b)
    cases hRF
    refine fr_ivS hfF (by omega) (by rfl) (by rfl) (by rfl) (by rfl) (by rfl) ?_
    rcases hzF with ⟨rfl, hn⟩ | ⟨rfl, q1, q2⟩
    · skip
      refine fr_s 1 (pc' := cond (fx_cb .ne 0 0) 26 20) (lc' := [(0, .ref 0), (1, .int x), (2, .int y)]) (stk' := []) (mem' := fm g tp bt a b) (by intro _ _ _; eq_refl) ?_
      rw [show fx_cb .ne 0 0 = false from by decide]
      dsimp only [cond]
      refine fr_s 2 (pc' := 22) (lc' := [(0, .ref 0), (1, .int x), (2, .int y)]) (stk' := [.int 1, .ref 0]) (mem' := fm g tp bt a b) (by intro _ _ _; eq_refl) ?_
      refine fr_ivV ml_is1 (by omega) (by rfl) (by rfl) (by rfl) (by rfl) (by rfl) (by rfl) ?_
      exact fr_ret (by rfl) (by rfl) (by rfl)
    · rw [Int32.toInt_toInt64] at q1 q2
      exact absurd ⟨h1, q1, q2⟩ h
  · rw [if_neg h1]
    refine fr_s 1 (pc' := cond (fx_cb .eq 0 0) 20 8) (lc' := [(0, .ref 0), (1, .int x), (2, .int y)]) (stk' := []) (mem' := fm g tp bt a b) (by intro _ _ _; eq_refl) ?_
    rw [show fx_cb .eq 0 0 = true from by decide]
    dsimp only [cond]
    refine fr_s 2 (pc' := 22) (lc' := [(0, .ref 0), (1, .int x), (2, .int y)]) (stk' := [.int 1, .ref 0]) (mem' := fm g tp bt a b) (by intro _ _ _; eq_refl) ?_
    refine fr_ivV ml_is1 (by omega) (by rfl) (by rfl) (by rfl) (by rfl) (by rfl) (by rfl) ?_
    exact fr_ret (by rfl) (by rfl) (by rfl)
theorem ml_weiT {X : Nat} {y : Int32} (hX : X < 8) (h : wgN (a 1 1) (nI X) y) : fr_T 2 300 [.ref 0, .int (nI X), .int y] (fm g tp bt a b) (some (.int 1)) (fm (upd g 2 0) tp bt (fm_u a 1 (278 + 5 * X) y) b) := by
  refine fr_meth (by rfl) (by rfl) ?_
  have e1 : 278 + 5 * nI X = nI (278 + 5 * X) := by
    rw [show (278 : Int32) = nI 278 from rfl, show (5 : Int32) = nI 5 from rfl, fm_mul, nI_add]
  refine fr_s 2 (pc' := 2) (lc' := [(0, .ref 0), (1, .int (nI X)), (2, .int y)]) (stk' := [.int (nI X), .ref 0]) (mem' := fm g tp bt a b) (by intro _ _ _; eq_refl) ?_
  refine fr_ivV ml_walk (by omega) (by rfl) (by rfl) (by rfl) (by rfl) (by rfl) (by rfl) ?_
  rw [if_pos h.1]
  refine fr_s 1 (pc' := cond (fx_cb .eq 1 0) 20 8) (lc' := [(0, .ref 0), (1, .int (nI X)), (2, .int y)]) (stk' := []) (mem' := fm g tp bt a b) (by intro _ _ _; eq_refl) ?_
  rw [show fx_cb .eq 1 0 = false from by decide]
  dsimp only [cond]
  refine fr_s 4 (pc' := 14) (lc' := [(0, .ref 0), (1, .int (nI X)), (2, .int y)]) (stk' := [.long 99, .long 1, .long y.toInt64]) (mem' := fm g tp bt a b) (by intro _ _ _; eq_refl) ?_
  obtain ⟨vF, memF, ⟨zF, hzF, hRF⟩, hfF⟩ := fr_isFrom (v := y.toInt64) (l := 1) (m := 99) (mem := fm g tp bt a b)
  cases hRF
  refine fr_ivS hfF (by omega) (by rfl) (by rfl) (by rfl) (by rfl) (by rfl) ?_
  rcases hzF with ⟨rfl, hn⟩ | ⟨rfl, q1, q2⟩
  · rw [Int32.toInt_toInt64] at hn
    exact absurd ⟨h.2.1, h.2.2⟩ hn
  · skip
    refine fr_s 1 (pc' := cond (fx_cb .ne 1 0) 26 20) (lc' := [(0, .ref 0), (1, .int (nI X)), (2, .int y)]) (stk' := []) (mem' := fm g tp bt a b) (by intro _ _ _; eq_refl) ?_
    rw [show fx_cb .ne 1 0 = true from by decide]
    dsimp only [cond]
    refine fr_s 3 (pc' := 31) (lc' := [(0, .ref 0), (1, .int (nI X)), (2, .int y)]) (stk' := [.int (nI X), .ref 1]) (mem' := fm g tp bt a b) (by intro _ _ _; eq_refl) ?_
    refine fr_ivS fr_walkerRow (by omega) (by rfl) (by rfl) (by rfl) (by rfl) (by rfl) ?_
    rw [e1]
    refine fr_s 1 (pc' := 35) (lc' := [(0, .ref 0), (1, .int (nI X)), (2, .int y)]) (stk' := [.int y, .int (nI (278 + 5 * X)), .ref 1]) (mem' := fm g tp bt a b) (by intro _ _ _; eq_refl) ?_
    refine fr_stI (mem' := fm g tp bt (fm_u a 1 (nI (278 + 5 * X) : Int32).toNatClampNeg y) b) (by rfl) (by rfl) (fx_inN (i := 278 + 5 * X) (by omega) (by omega)) fm_si1 ?_
    rw [show Int32.toNatClampNeg (nI (278 + 5 * X)) = 278 + 5 * X from nI_clamp (by omega)]
    refine fr_s 2 (pc' := 38) (lc' := [(0, .ref 0), (1, .int (nI X)), (2, .int y)]) (stk' := [.int 0, .ref 0]) (mem' := fm g tp bt (fm_u a 1 (278 + 5 * X) y) b) (by intro _ _ _; eq_refl) ?_
    refine fr_ivV ml_is0 (by omega) (by rfl) (by rfl) (by rfl) (by rfl) (by rfl) (by rfl) ?_
    exact fr_ret (by rfl) (by rfl) (by rfl)
end MEX
