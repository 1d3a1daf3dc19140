/-! ===== the model's trays, exactly ===== -/
section MT
variable {g : Nat → Int32} {tp bt : Int64} {a : Nat → Nat → Int32} {b : Nat → Nat → Int64}
theorem ma_is0 : fr_T 1 206 [.ref 0, .int 0] (fm g tp bt a b) (some (.int 1)) (fm (upd g 2 0) tp bt a b) := by
  refine fr_meth (by rfl) (by rfl) ?_
  refine fr_s 7 (pc' := 14) (lc' := [(0, .ref 0), (1, .int 0)]) (stk' := [.int 1]) (mem' := fm (upd g 2 0) tp bt a b) (by intro _ _ _; eq_refl) ?_
  exact fr_ret (by rfl) (by rfl) (by rfl)
theorem ma_is1 : fr_T 1 206 [.ref 0, .int 1] (fm g tp bt a b) (some (.int 0)) (fm (upd g 2 1) tp bt a b) := by
  refine fr_meth (by rfl) (by rfl) ?_
  refine fr_s 6 (pc' := 14) (lc' := [(0, .ref 0), (1, .int 1)]) (stk' := [.int 0]) (mem' := fm (upd g 2 1) tp bt a b) (by intro _ _ _; eq_refl) ?_
  exact fr_ret (by rfl) (by rfl) (by rfl)
theorem ma_is2 : fr_T 1 206 [.ref 0, .int 2] (fm g tp bt a b) (some (.int 0)) (fm (upd g 2 2) tp bt a b) := by
  refine fr_meth (by rfl) (by rfl) ?_
  refine fr_s 6 (pc' := 14) (lc' := [(0, .ref 0), (1, .int 2)]) (stk' := [.int 0]) (mem' := fm (upd g 2 2) tp bt a b) (by intro _ _ _; eq_refl) ?_
  exact fr_ret (by rfl) (by rfl) (by rfl)
theorem ma_is3 : fr_T 1 206 [.ref 0, .int 3] (fm g tp bt a b) (some (.int 0)) (fm (upd g 2 3) tp bt a b) := by
  refine fr_meth (by rfl) (by rfl) ?_
  refine fr_s 6 (pc' := 14) (lc' := [(0, .ref 0), (1, .int 3)]) (stk' := [.int 0]) (mem' := fm (upd g 2 3) tp bt a b) (by intro _ _ _; eq_refl) ?_
  exact fr_ret (by rfl) (by rfl) (by rfl)
theorem ma_is8 : fr_T 1 206 [.ref 0, .int 8] (fm g tp bt a b) (some (.int 0)) (fm (upd g 2 8) tp bt a b) := by
  refine fr_meth (by rfl) (by rfl) ?_
  refine fr_s 6 (pc' := 14) (lc' := [(0, .ref 0), (1, .int 8)]) (stk' := [.int 0]) (mem' := fm (upd g 2 8) tp bt a b) (by intro _ _ _; eq_refl) ?_
  exact fr_ret (by rfl) (by rfl) (by rfl)
theorem tc_ne {x y : Int32} (h : fx_cb .ne x y = false) : x = y := by
  have h : (!decide (x = y)) = false := h
  rw [Bool.not_eq_false', decide_eq_true_eq] at h
  exact h
theorem tc_neT {x y : Int32} (h : fx_cb .ne x y = true) : ¬ x = y := by
  have h : (!decide (x = y)) = true := h
  rw [Bool.not_eq_true', decide_eq_false_iff_not] at h
  exact h
theorem ma_isTray {x : Int32} : ∃ (v : Option Value) (mem' : fx_M), (fun R1 => ∃ z : Int32, (z = 0 ∧ ¬ (0 ≤ x.toInt ∧ x.toInt < 4) ∨ z = 1 ∧ ∃ t, t < 4 ∧ x = nI t) ∧ R1 = (some (.int z), fm g tp bt a b)) (v, mem') ∧ fr_T 1 211 [.int x] (fm g tp bt a b) v mem' := by
  refine fe_meth (F := fun R1 => ∃ z : Int32, (z = 0 ∧ ¬ (0 ≤ x.toInt ∧ x.toInt < 4) ∨ z = 1 ∧ ∃ t, t < 4 ∧ x = nI t) ∧ R1 = (some (.int z), fm g tp bt a b)) (M := gk_m211) (by rfl) (by rfl) ?_
  refine fe_s 1 (pc' := 1) (lc' := [(0, .int x)]) (stk' := [.int x]) (mem' := fm g tp bt a b) (by intro _ _ _; eq_refl) ?_
  refine fe_s 1 (pc' := cond (fx_cb .lt x 0) 13 4) (lc' := [(0, .int x)]) (stk' := []) (mem' := fm g tp bt a b) (by intro _ _ _; eq_refl) ?_
  cases h1 : fx_cb .lt x 0
  · refine fe_s 2 (pc' := 6) (lc' := [(0, .int x)]) (stk' := [.int 4, .int x]) (mem' := fm g tp bt a b) (by intro _ _ _; eq_refl) ?_
    refine fe_s 1 (pc' := cond (fx_cb .ge x 4) 13 9) (lc' := [(0, .int x)]) (stk' := []) (mem' := fm g tp bt a b) (by intro _ _ _; eq_refl) ?_
    cases h2 : fx_cb .ge x 4
    · refine fe_s 2 (pc' := 14) (lc' := [(0, .int x)]) (stk' := [.int 1]) (mem' := fm g tp bt a b) (by intro _ _ _; eq_refl) ?_
      refine fe_ret ⟨1, Or.inr ⟨rfl, ?_⟩, rfl⟩ (by rfl) (by rfl) (by rfl)
      have q0 : (0 : Int) ≤ (x).toInt := tc_ltF h1
      have q1 : (x).toInt < 4 := tc_geF h2
      obtain ⟨t, ht, e⟩ := nI_bd (x := x) (n := 3) (by omega) (by omega)
      exact ⟨t, by omega, e⟩
    · refine fe_s 1 (pc' := 14) (lc' := [(0, .int x)]) (stk' := [.int 0]) (mem' := fm g tp bt a b) (by intro _ _ _; eq_refl) ?_
      refine fe_ret ⟨0, Or.inl ⟨rfl, fun z => ?_⟩, rfl⟩ (by rfl) (by rfl) (by rfl)
      have q0 : (0 : Int) ≤ (x).toInt := tc_ltF h1
      have q1 : (4 : Int) ≤ (x).toInt := tc_ge h2
      omega
  · refine fe_s 1 (pc' := 14) (lc' := [(0, .int x)]) (stk' := [.int 0]) (mem' := fm g tp bt a b) (by intro _ _ _; eq_refl) ?_
    refine fe_ret ⟨0, Or.inl ⟨rfl, fun z => ?_⟩, rfl⟩ (by rfl) (by rfl) (by rfl)
    have q0 : (x).toInt < 0 := tc_lt h1
    omega
theorem ma_cut {s : Int32} {v : Int64} {mem : fx_M} (h0 : 0 ≤ s.toInt) (h3 : s.toInt ≤ 3) : fr_T 1 212 [.long v, .int s] mem (some (.long (tc_cut s v))) mem := by
  obtain ⟨k, hk, rfl⟩ := nI_bd (x := s) (n := 3) h0 h3
  rcases (by omega : k = 0 ∨ k = 1 ∨ k = 2 ∨ k = 3) with rfl | rfl | rfl | rfl
  · refine fr_meth (by rfl) (by rfl) ?_
    refine fr_s 7 (pc' := 35) (lc' := [(0, .long v), (2, .int (nI 0))]) (stk' := [.long (tc_cut (nI 0) v)]) (mem' := mem) (by intro _ _ _; eq_refl) ?_
    exact fr_ret (by rfl) (by rfl) (by rfl)
  · refine fr_meth (by rfl) (by rfl) ?_
    refine fr_s 10 (pc' := 35) (lc' := [(0, .long v), (2, .int (nI 1))]) (stk' := [.long (tc_cut (nI 1) v)]) (mem' := mem) (by intro _ _ _; eq_refl) ?_
    exact fr_ret (by rfl) (by rfl) (by rfl)
  · refine fr_meth (by rfl) (by rfl) ?_
    refine fr_s 12 (pc' := 35) (lc' := [(0, .long v), (2, .int (nI 2))]) (stk' := [.long (tc_cut (nI 2) v)]) (mem' := mem) (by intro _ _ _; eq_refl) ?_
    exact fr_ret (by rfl) (by rfl) (by rfl)
  · refine fr_meth (by rfl) (by rfl) ?_
    refine fr_s 9 (pc' := 35) (lc' := [(0, .long v), (2, .int (nI 3))]) (stk' := [.long (tc_cut (nI 3) v)]) (mem' := mem) (by intro _ _ _; eq_refl) ?_
    exact fr_ret (by rfl) (by rfl) (by rfl)
theorem ma_place {x p : Int32} (hz : ∀ t, t < 4 → -1 ≤ (a 4 t).toInt ∧ (a 4 t).toInt ≤ 60) : ∃ (v : Option Value) (mem' : fx_M), (fun R1 => ∃ z : Int32, (z = 0 ∧ (∃ t P, t < 4 ∧ x = nI t ∧ p = nI P ∧ P < 60 ∧ (P : Int) < (a 4 t).toInt) ∨ (z = 1 ∨ z = 2 ∨ z = 3) ∧ ¬ tp_ok (a 4) x p) ∧ R1 = (some (.int z), fm g tp bt a b)) (v, mem') ∧ fr_T 2 214 [.ref 0, .int x, .int p] (fm g tp bt a b) v mem' := by
  refine fe_meth (F := fun R1 => ∃ z : Int32, (z = 0 ∧ (∃ t P, t < 4 ∧ x = nI t ∧ p = nI P ∧ P < 60 ∧ (P : Int) < (a 4 t).toInt) ∨ (z = 1 ∨ z = 2 ∨ z = 3) ∧ ¬ tp_ok (a 4) x p) ∧ R1 = (some (.int z), fm g tp bt a b)) (M := gk_m214) (by rfl) (by rfl) ?_
  refine fe_s 1 (pc' := 1) (lc' := [(0, .ref 0), (1, .int x), (2, .int p)]) (stk' := [.int x]) (mem' := fm g tp bt a b) (by intro _ _ _; eq_refl) ?_
  obtain ⟨vz1, memz1, ⟨xz1, hxz1, hRz1⟩, hfrz1⟩ := ma_isTray (x := x) (g := g) (tp := tp) (bt := bt) (a := a) (b := b)
  cases hRz1
  refine fe_ivS hfrz1 (by omega) (by rfl) (by rfl) (by rfl) (by rfl) (by rfl) ?_
  rcases hxz1 with ⟨rfl, not⟩ | ⟨rfl, t, ht, rfl⟩
  · refine fe_s 1 (pc' := cond (fx_cb .ne 0 0) 11 7) (lc' := [(0, .ref 0), (1, .int x), (2, .int p)]) (stk' := []) (mem' := fm g tp bt a b) (by intro _ _ _; eq_refl) ?_
    rw [show (fx_cb .ne 0 0) = false from by decide]
    dsimp only [cond]
    refine fe_s 2 (pc' := 44) (lc' := [(0, .ref 0), (1, .int x), (2, .int p)]) (stk' := [.int 1]) (mem' := fm g tp bt a b) (by intro _ _ _; eq_refl) ?_
    exact fe_ret ⟨1, Or.inr ⟨Or.inl rfl, tp_no1 not⟩, rfl⟩ (by rfl) (by rfl) (by rfl)
  · refine fe_s 1 (pc' := cond (fx_cb .ne 1 0) 11 7) (lc' := [(0, .ref 0), (1, .int (nI t)), (2, .int p)]) (stk' := []) (mem' := fm g tp bt a b) (by intro _ _ _; eq_refl) ?_
    rw [show (fx_cb .ne 1 0) = true from by decide]
    dsimp only [cond]
    refine fe_s 3 (pc' := 16) (lc' := [(0, .ref 0), (1, .int (nI t)), (2, .int p)]) (stk' := [.int (nI t), .ref 4]) (mem' := fm g tp bt a b) (by intro _ _ _; eq_refl) ?_
    refine fe_ldI (by rfl) (by rfl) (fx_inN (i := t) (by omega) (by omega)) ?_
    rw [show Int32.toNatClampNeg (nI t) = t from nI_clamp (by omega)]
    refine fe_s 1 (pc' := 18) (lc' := [(0, .ref 0), (1, .int (nI t)), (2, .int p)]) (stk' := [.int (-1), .int (a 4 t)]) (mem' := fm g tp bt a b) (by intro _ _ _; eq_refl) ?_
    refine fe_s 1 (pc' := cond (fx_cb .ne (a 4 t) (-1)) 25 21) (lc' := [(0, .ref 0), (1, .int (nI t)), (2, .int p)]) (stk' := []) (mem' := fm g tp bt a b) (by intro _ _ _; eq_refl) ?_
    cases h2 : fx_cb .ne (a 4 t) (-1)
    · refine fe_s 2 (pc' := 44) (lc' := [(0, .ref 0), (1, .int (nI t)), (2, .int p)]) (stk' := [.int 2]) (mem' := fm g tp bt a b) (by intro _ _ _; eq_refl) ?_
      have q0 : (a 4 t).toInt = (-1) := congrArg Int32.toInt (tc_ne h2)
      have hz1 := hz t ht
      exact fe_ret ⟨2, Or.inr ⟨Or.inr (Or.inl rfl), tp_no ht (fun z => by omega)⟩, rfl⟩ (by rfl) (by rfl) (by rfl)
    · refine fe_s 1 (pc' := 26) (lc' := [(0, .ref 0), (1, .int (nI t)), (2, .int p)]) (stk' := [.int p]) (mem' := fm g tp bt a b) (by intro _ _ _; eq_refl) ?_
      refine fe_s 1 (pc' := cond (fx_cb .lt p 0) 39 29) (lc' := [(0, .ref 0), (1, .int (nI t)), (2, .int p)]) (stk' := []) (mem' := fm g tp bt a b) (by intro _ _ _; eq_refl) ?_
      cases h3 : fx_cb .lt p 0
      · refine fe_s 4 (pc' := 35) (lc' := [(0, .ref 0), (1, .int (nI t)), (2, .int p)]) (stk' := [.int (nI t), .ref 4, .int p]) (mem' := fm g tp bt a b) (by intro _ _ _; eq_refl) ?_
        refine fe_ldI (by rfl) (by rfl) (fx_inN (i := t) (by omega) (by omega)) ?_
        rw [show Int32.toNatClampNeg (nI t) = t from nI_clamp (by omega)]
        refine fe_s 1 (pc' := cond (fx_cb .lt p (a 4 t)) 43 39) (lc' := [(0, .ref 0), (1, .int (nI t)), (2, .int p)]) (stk' := []) (mem' := fm g tp bt a b) (by intro _ _ _; eq_refl) ?_
        cases h4 : fx_cb .lt p (a 4 t)
        · refine fe_s 2 (pc' := 44) (lc' := [(0, .ref 0), (1, .int (nI t)), (2, .int p)]) (stk' := [.int 3]) (mem' := fm g tp bt a b) (by intro _ _ _; eq_refl) ?_
          have q0 : ¬ (a 4 t).toInt = (-1) := fun z => (tc_neT h2) (Int32.toInt_inj.mp z)
          have q1 : (0 : Int) ≤ (p).toInt := tc_ltF h3
          have q2 : (a 4 t).toInt ≤ (p).toInt := tc_ltF h4
          have hz1 := hz t ht
          exact fe_ret ⟨3, Or.inr ⟨Or.inr (Or.inr rfl), tp_no ht (fun z => by omega)⟩, rfl⟩ (by rfl) (by rfl) (by rfl)
        · refine fe_s 1 (pc' := 44) (lc' := [(0, .ref 0), (1, .int (nI t)), (2, .int p)]) (stk' := [.int 0]) (mem' := fm g tp bt a b) (by intro _ _ _; eq_refl) ?_
          have q0 : ¬ (a 4 t).toInt = (-1) := fun z => (tc_neT h2) (Int32.toInt_inj.mp z)
          have q1 : (0 : Int) ≤ (p).toInt := tc_ltF h3
          have q2 : (p).toInt < (a 4 t).toInt := tc_lt h4
          have hz1 := hz t ht
          obtain ⟨P, hP, rfl⟩ := nI_bd (x := p) (n := 59) (by omega) (by omega)
          have e1 := nI_i32 (n := P) (by omega)
          exact fe_ret ⟨0, Or.inl ⟨rfl, t, P, ht, rfl, rfl, by omega, by omega⟩, rfl⟩ (by rfl) (by rfl) (by rfl)
      · refine fe_s 2 (pc' := 44) (lc' := [(0, .ref 0), (1, .int (nI t)), (2, .int p)]) (stk' := [.int 3]) (mem' := fm g tp bt a b) (by intro _ _ _; eq_refl) ?_
        have q0 : ¬ (a 4 t).toInt = (-1) := fun z => (tc_neT h2) (Int32.toInt_inj.mp z)
        have q1 : (p).toInt < 0 := tc_lt h3
        have hz1 := hz t ht
        exact fe_ret ⟨3, Or.inr ⟨Or.inr (Or.inr rfl), tp_no ht (fun z => by omega)⟩, rfl⟩ (by rfl) (by rfl) (by rfl)
theorem ma_write {x p : Int32} {w : Int64} (hz : ∀ t, t < 4 → -1 ≤ (a 4 t).toInt ∧ (a 4 t).toInt ≤ 60) (hs : ∀ t, t < 4 → 0 ≤ (a 3 t).toInt ∧ (a 3 t).toInt ≤ 3) : ∃ (v : Option Value) (mem' : fx_M), (fun R1 => ∃ (z st : Int32) (b' : Nat → Nat → Int64), (0 ≤ st.toInt ∧ st.toInt ≤ 9) ∧ ((∃ t P, t < 4 ∧ x = nI t ∧ p = nI P ∧ P < 60 ∧ (P : Int) < (a 4 t).toInt ∧ z = 1 ∧ b' = fm_uf b 5 (vp_updL (b 5) (60 * t + P) (tc_cut (a 3 t) w))) ∨ ¬ tp_ok (a 4) x p ∧ z = 0 ∧ b' = b) ∧ R1 = (some (.int z), fm (upd g 2 st) tp bt a b')) (v, mem') ∧ fr_T 3 215 [.ref 0, .int x, .int p, .long w] (fm g tp bt a b) v mem' := by
  refine fe_meth (F := fun R1 => ∃ (z st : Int32) (b' : Nat → Nat → Int64), (0 ≤ st.toInt ∧ st.toInt ≤ 9) ∧ ((∃ t P, t < 4 ∧ x = nI t ∧ p = nI P ∧ P < 60 ∧ (P : Int) < (a 4 t).toInt ∧ z = 1 ∧ b' = fm_uf b 5 (vp_updL (b 5) (60 * t + P) (tc_cut (a 3 t) w))) ∨ ¬ tp_ok (a 4) x p ∧ z = 0 ∧ b' = b) ∧ R1 = (some (.int z), fm (upd g 2 st) tp bt a b')) (M := gk_m215) (by rfl) (by rfl) ?_
  refine fe_s 3 (pc' := 3) (lc' := [(0, .ref 0), (1, .int x), (2, .int p), (3, .long w)]) (stk' := [.int p, .int x, .ref 0]) (mem' := fm g tp bt a b) (by intro _ _ _; eq_refl) ?_
  obtain ⟨vz1, memz1, ⟨xz1, hxz1, hRz1⟩, hfrz1⟩ := ma_place (x := x) (p := p) (g := g) (tp := tp) (bt := bt) (a := a) (b := b) hz
  cases hRz1
  refine fe_ivV hfrz1 (by omega) (by rfl) (by rfl) (by rfl) (by rfl) (by rfl) (by rfl) ?_
  rcases hxz1 with ⟨rfl, t, P, ht, rfl, rfl, hP, hPz⟩ | ⟨rfl | rfl | rfl, nop⟩
  · refine fe_s 2 (pc' := 10) (lc' := [(5, .int 0), (0, .ref 0), (1, .int (nI t)), (2, .int (nI P)), (3, .long w)]) (stk' := [.int 0]) (mem' := fm g tp bt a b) (by intro _ _ _; eq_refl) ?_
    refine fe_s 1 (pc' := cond (fx_cb .ne 0 0) 34 13) (lc' := [(5, .int 0), (0, .ref 0), (1, .int (nI t)), (2, .int (nI P)), (3, .long w)]) (stk' := []) (mem' := fm g tp bt a b) (by intro _ _ _; eq_refl) ?_
    rw [show (fx_cb .ne 0 0) = false from by decide]
    dsimp only [cond]
    refine fe_s 11 (pc' := 29) (lc' := [(5, .int 0), (0, .ref 0), (1, .int (nI t)), (2, .int (nI P)), (3, .long w)]) (stk' := [.int (nI t), .ref 3, .long w, .int ((60 * (nI t)) + (nI P)), .ref 5]) (mem' := fm g tp bt a b) (by intro _ _ _; eq_refl) ?_
    rw [show ((60 * (nI t)) + (nI P) : Int32) = nI ((60 * t) + P) from by simp only [show (60 : Int32) = nI 60 from rfl, nI_add, fm_mul]]
    refine fe_ldI (by rfl) (by rfl) (fx_inN (i := t) (by omega) (by omega)) ?_
    rw [show Int32.toNatClampNeg (nI t) = t from nI_clamp (by omega)]
    refine fe_ivS (ma_cut (s := a 3 t) (v := w) (hs _ ht).1 (hs _ ht).2) (by omega) (by rfl) (by rfl) (by rfl) (by rfl) (by rfl) ?_
    refine fe_stL (mem' := fm g tp bt a (fm_uf b 5 (vp_updL (b 5) (nI ((60 * t) + P) : Int32).toNatClampNeg (tc_cut (a 3 t) w)))) (by rfl) (by rfl) (fx_inN (i := (60 * t) + P) (by omega) (by omega)) fm_sl5 ?_
    rw [show Int32.toNatClampNeg (nI ((60 * t) + P)) = (60 * t) + P from nI_clamp (by omega)]
    refine fe_s 2 (pc' := 37) (lc' := [(5, .int 0), (0, .ref 0), (1, .int (nI t)), (2, .int (nI P)), (3, .long w)]) (stk' := [.int 0, .ref 0]) (mem' := fm g tp bt a (fm_uf b 5 (vp_updL (b 5) ((60 * t) + P) (tc_cut (a 3 t) w)))) (by intro _ _ _; eq_refl) ?_
    refine fe_ivV ma_is0 (by omega) (by rfl) (by rfl) (by rfl) (by rfl) (by rfl) (by rfl) ?_
    exact fe_ret ⟨1, 0, _, by decide, Or.inl ⟨t, P, ht, rfl, rfl, hP, hPz, rfl, rfl⟩, rfl⟩ (by rfl) (by rfl) (by rfl)
  · refine fe_s 2 (pc' := 10) (lc' := [(5, .int 1), (0, .ref 0), (1, .int x), (2, .int p), (3, .long w)]) (stk' := [.int 1]) (mem' := fm g tp bt a b) (by intro _ _ _; eq_refl) ?_
    refine fe_s 1 (pc' := cond (fx_cb .ne 1 0) 34 13) (lc' := [(5, .int 1), (0, .ref 0), (1, .int x), (2, .int p), (3, .long w)]) (stk' := []) (mem' := fm g tp bt a b) (by intro _ _ _; eq_refl) ?_
    rw [show (fx_cb .ne 1 0) = true from by decide]
    dsimp only [cond]
    refine fe_s 2 (pc' := 37) (lc' := [(5, .int 1), (0, .ref 0), (1, .int x), (2, .int p), (3, .long w)]) (stk' := [.int 1, .ref 0]) (mem' := fm g tp bt a b) (by intro _ _ _; eq_refl) ?_
    refine fe_ivV ma_is1 (by omega) (by rfl) (by rfl) (by rfl) (by rfl) (by rfl) (by rfl) ?_
    exact fe_ret ⟨0, 1, _, by decide, Or.inr ⟨nop, rfl, rfl⟩, rfl⟩ (by rfl) (by rfl) (by rfl)
  · refine fe_s 2 (pc' := 10) (lc' := [(5, .int 2), (0, .ref 0), (1, .int x), (2, .int p), (3, .long w)]) (stk' := [.int 2]) (mem' := fm g tp bt a b) (by intro _ _ _; eq_refl) ?_
    refine fe_s 1 (pc' := cond (fx_cb .ne 2 0) 34 13) (lc' := [(5, .int 2), (0, .ref 0), (1, .int x), (2, .int p), (3, .long w)]) (stk' := []) (mem' := fm g tp bt a b) (by intro _ _ _; eq_refl) ?_
    rw [show (fx_cb .ne 2 0) = true from by decide]
    dsimp only [cond]
    refine fe_s 2 (pc' := 37) (lc' := [(5, .int 2), (0, .ref 0), (1, .int x), (2, .int p), (3, .long w)]) (stk' := [.int 2, .ref 0]) (mem' := fm g tp bt a b) (by intro _ _ _; eq_refl) ?_
    refine fe_ivV ma_is2 (by omega) (by rfl) (by rfl) (by rfl) (by rfl) (by rfl) (by rfl) ?_
    exact fe_ret ⟨0, 2, _, by decide, Or.inr ⟨nop, rfl, rfl⟩, rfl⟩ (by rfl) (by rfl) (by rfl)
  · refine fe_s 2 (pc' := 10) (lc' := [(5, .int 3), (0, .ref 0), (1, .int x), (2, .int p), (3, .long w)]) (stk' := [.int 3]) (mem' := fm g tp bt a b) (by intro _ _ _; eq_refl) ?_
    refine fe_s 1 (pc' := cond (fx_cb .ne 3 0) 34 13) (lc' := [(5, .int 3), (0, .ref 0), (1, .int x), (2, .int p), (3, .long w)]) (stk' := []) (mem' := fm g tp bt a b) (by intro _ _ _; eq_refl) ?_
    rw [show (fx_cb .ne 3 0) = true from by decide]
    dsimp only [cond]
    refine fe_s 2 (pc' := 37) (lc' := [(5, .int 3), (0, .ref 0), (1, .int x), (2, .int p), (3, .long w)]) (stk' := [.int 3, .ref 0]) (mem' := fm g tp bt a b) (by intro _ _ _; eq_refl) ?_
    refine fe_ivV ma_is3 (by omega) (by rfl) (by rfl) (by rfl) (by rfl) (by rfl) (by rfl) ?_
    exact fe_ret ⟨0, 3, _, by decide, Or.inr ⟨nop, rfl, rfl⟩, rfl⟩ (by rfl) (by rfl) (by rfl)
theorem ma_read {x p : Int32} (hz : ∀ t, t < 4 → -1 ≤ (a 4 t).toInt ∧ (a 4 t).toInt ≤ 60) : ∃ (v : Option Value) (mem' : fx_M), (fun R1 => ∃ (z : Int64) (st : Int32), (0 ≤ st.toInt ∧ st.toInt ≤ 9) ∧ ((∃ t P, t < 4 ∧ x = nI t ∧ p = nI P ∧ P < 60 ∧ (P : Int) < (a 4 t).toInt ∧ z = b 5 (60 * t + P)) ∨ ¬ tp_ok (a 4) x p ∧ z = -1) ∧ R1 = (some (.long z), fm (upd g 2 st) tp bt a b)) (v, mem') ∧ fr_T 3 216 [.ref 0, .int x, .int p] (fm g tp bt a b) v mem' := by
  refine fe_meth (F := fun R1 => ∃ (z : Int64) (st : Int32), (0 ≤ st.toInt ∧ st.toInt ≤ 9) ∧ ((∃ t P, t < 4 ∧ x = nI t ∧ p = nI P ∧ P < 60 ∧ (P : Int) < (a 4 t).toInt ∧ z = b 5 (60 * t + P)) ∨ ¬ tp_ok (a 4) x p ∧ z = -1) ∧ R1 = (some (.long z), fm (upd g 2 st) tp bt a b)) (M := gk_m216) (by rfl) (by rfl) ?_
  refine fe_s 4 (pc' := 4) (lc' := [(0, .ref 0), (1, .int x), (2, .int p)]) (stk' := [.int p, .int x, .ref 0, .ref 0]) (mem' := fm g tp bt a b) (by intro _ _ _; eq_refl) ?_
  obtain ⟨vz1, memz1, ⟨xz1, hxz1, hRz1⟩, hfrz1⟩ := ma_place (x := x) (p := p) (g := g) (tp := tp) (bt := bt) (a := a) (b := b) hz
  cases hRz1
  refine fe_ivV hfrz1 (by omega) (by rfl) (by rfl) (by rfl) (by rfl) (by rfl) (by rfl) ?_
  rcases hxz1 with ⟨rfl, t, P, ht, rfl, rfl, hP, hPz⟩ | ⟨rfl | rfl | rfl, nop⟩
  · refine fe_s 3 (pc' := 14) (lc' := [(0, .ref 0), (1, .int (nI t)), (2, .int (nI P))]) (stk' := [.int 0]) (mem' := fm (upd g 2 0) tp bt a b) (by intro _ _ _; eq_refl) ?_
    refine fe_s 1 (pc' := cond (fx_cb .le 0 0) 23 17) (lc' := [(0, .ref 0), (1, .int (nI t)), (2, .int (nI P))]) (stk' := []) (mem' := fm (upd g 2 0) tp bt a b) (by intro _ _ _; eq_refl) ?_
    rw [show (fx_cb .le 0 0) = true from by decide]
    dsimp only [cond]
    refine fe_s 7 (pc' := 33) (lc' := [(0, .ref 0), (1, .int (nI t)), (2, .int (nI P))]) (stk' := [.int ((60 * (nI t)) + (nI P)), .ref 5]) (mem' := fm (upd g 2 0) tp bt a b) (by intro _ _ _; eq_refl) ?_
    rw [show ((60 * (nI t)) + (nI P) : Int32) = nI ((60 * t) + P) from by simp only [show (60 : Int32) = nI 60 from rfl, nI_add, fm_mul]]
    refine fe_ldL (by rfl) (by rfl) (fx_inN (i := (60 * t) + P) (by omega) (by omega)) ?_
    rw [show Int32.toNatClampNeg (nI ((60 * t) + P)) = (60 * t) + P from nI_clamp (by omega)]
    exact fe_ret ⟨_, 0, by decide, Or.inl ⟨t, P, ht, rfl, rfl, hP, hPz, rfl⟩, rfl⟩ (by rfl) (by rfl) (by rfl)
  · refine fe_s 3 (pc' := 14) (lc' := [(0, .ref 0), (1, .int x), (2, .int p)]) (stk' := [.int 1]) (mem' := fm (upd g 2 1) tp bt a b) (by intro _ _ _; eq_refl) ?_
    refine fe_s 1 (pc' := cond (fx_cb .le 1 0) 23 17) (lc' := [(0, .ref 0), (1, .int x), (2, .int p)]) (stk' := []) (mem' := fm (upd g 2 1) tp bt a b) (by intro _ _ _; eq_refl) ?_
    rw [show (fx_cb .le 1 0) = false from by decide]
    dsimp only [cond]
    refine fe_s 2 (pc' := 34) (lc' := [(0, .ref 0), (1, .int x), (2, .int p)]) (stk' := [.long (-1)]) (mem' := fm (upd g 2 1) tp bt a b) (by intro _ _ _; eq_refl) ?_
    exact fe_ret ⟨_, 1, by decide, Or.inr ⟨nop, by rfl⟩, rfl⟩ (by rfl) (by rfl) (by rfl)
  · refine fe_s 3 (pc' := 14) (lc' := [(0, .ref 0), (1, .int x), (2, .int p)]) (stk' := [.int 2]) (mem' := fm (upd g 2 2) tp bt a b) (by intro _ _ _; eq_refl) ?_
    refine fe_s 1 (pc' := cond (fx_cb .le 2 0) 23 17) (lc' := [(0, .ref 0), (1, .int x), (2, .int p)]) (stk' := []) (mem' := fm (upd g 2 2) tp bt a b) (by intro _ _ _; eq_refl) ?_
    rw [show (fx_cb .le 2 0) = false from by decide]
    dsimp only [cond]
    refine fe_s 2 (pc' := 34) (lc' := [(0, .ref 0), (1, .int x), (2, .int p)]) (stk' := [.long (-1)]) (mem' := fm (upd g 2 2) tp bt a b) (by intro _ _ _; eq_refl) ?_
    exact fe_ret ⟨_, 2, by decide, Or.inr ⟨nop, by rfl⟩, rfl⟩ (by rfl) (by rfl) (by rfl)
  · refine fe_s 3 (pc' := 14) (lc' := [(0, .ref 0), (1, .int x), (2, .int p)]) (stk' := [.int 3]) (mem' := fm (upd g 2 3) tp bt a b) (by intro _ _ _; eq_refl) ?_
    refine fe_s 1 (pc' := cond (fx_cb .le 3 0) 23 17) (lc' := [(0, .ref 0), (1, .int x), (2, .int p)]) (stk' := []) (mem' := fm (upd g 2 3) tp bt a b) (by intro _ _ _; eq_refl) ?_
    rw [show (fx_cb .le 3 0) = false from by decide]
    dsimp only [cond]
    refine fe_s 2 (pc' := 34) (lc' := [(0, .ref 0), (1, .int x), (2, .int p)]) (stk' := [.long (-1)]) (mem' := fm (upd g 2 3) tp bt a b) (by intro _ _ _; eq_refl) ?_
    exact fe_ret ⟨_, 3, by decide, Or.inr ⟨nop, by rfl⟩, rfl⟩ (by rfl) (by rfl) (by rfl)
/-- k numbers from i on are 0 -/
def tm_f (f : Nat → Int64) (i k : Nat) : Nat → Int64 := fun j => if i ≤ j ∧ j < i + k then 0 else f j
theorem tm_f0 (f : Nat → Int64) (i : Nat) : tm_f f i 0 = f := funext (fun _ => if_neg (by omega))
theorem tm_fs (f : Nat → Int64) (i k : Nat) : vp_updL (tm_f f i k) (i + k) 0 = tm_f f i (k + 1) := by
  funext j
  unfold vp_updL tm_f
  by_cases h : j = i + k
  · rw [if_pos h, if_pos (by omega)]
  · rw [if_neg h]
    by_cases h2 : i ≤ j ∧ j < i + k
    · rw [if_pos h2, if_pos (by omega)]
    · rw [if_neg h2, if_neg (by omega)]
theorem fm_uf_id (b : Nat → Nat → Int64) (j : Nat) : fm_uf b j (b j) = b := by
  funext k
  unfold fm_uf
  by_cases h : k = j
  · rw [if_pos h, h]
  · rw [if_neg h]
theorem ma_tray {x s m : Int32} : ∃ (v : Option Value) (mem' : fx_M), (fun R1 => ∃ (z st : Int32) (a' : Nat → Nat → Int32) (b' : Nat → Nat → Int64), (0 ≤ st.toInt ∧ st.toInt ≤ 9) ∧ ((∃ t M, t < 4 ∧ M ≤ 60 ∧ x = nI t ∧ m = nI M ∧ ty_ok x s m ∧ z = 1 ∧ a' = fm_u (fm_u a 3 t s) 4 t m ∧ b' = fm_uf b 5 (tm_f (b 5) (60 * t) M)) ∨ ¬ ty_ok x s m ∧ z = 0 ∧ a' = a ∧ b' = b) ∧ R1 = (some (.int z), fm (upd g 2 st) tp bt a' b')) (v, mem') ∧ fr_T 2 213 [.ref 0, .int x, .int s, .int m] (fm g tp bt a b) v mem' := by
  refine fe_meth (F := fun R1 => ∃ (z st : Int32) (a' : Nat → Nat → Int32) (b' : Nat → Nat → Int64), (0 ≤ st.toInt ∧ st.toInt ≤ 9) ∧ ((∃ t M, t < 4 ∧ M ≤ 60 ∧ x = nI t ∧ m = nI M ∧ ty_ok x s m ∧ z = 1 ∧ a' = fm_u (fm_u a 3 t s) 4 t m ∧ b' = fm_uf b 5 (tm_f (b 5) (60 * t) M)) ∨ ¬ ty_ok x s m ∧ z = 0 ∧ a' = a ∧ b' = b) ∧ R1 = (some (.int z), fm (upd g 2 st) tp bt a' b')) (M := gk_m213) (by rfl) (by rfl) ?_
  refine fe_s 1 (pc' := 1) (lc' := [(0, .ref 0), (1, .int x), (2, .int s), (3, .int m)]) (stk' := [.int x]) (mem' := fm g tp bt a b) (by intro _ _ _; eq_refl) ?_
  obtain ⟨vz1, memz1, ⟨xz1, hxz1, hRz1⟩, hfrz1⟩ := ma_isTray (x := x) (g := g) (tp := tp) (bt := bt) (a := a) (b := b)
  cases hRz1
  refine fe_ivS hfrz1 (by omega) (by rfl) (by rfl) (by rfl) (by rfl) (by rfl) ?_
  rcases hxz1 with ⟨rfl, not⟩ | ⟨rfl, t, ht, rfl⟩
  · refine fe_s 1 (pc' := cond (fx_cb .eq 0 0) 26 7) (lc' := [(0, .ref 0), (1, .int x), (2, .int s), (3, .int m)]) (stk' := []) (mem' := fm g tp bt a b) (by intro _ _ _; eq_refl) ?_
    rw [show (fx_cb .eq 0 0) = true from by decide]
    dsimp only [cond]
    refine fe_s 2 (pc' := 28) (lc' := [(0, .ref 0), (1, .int x), (2, .int s), (3, .int m)]) (stk' := [.int 1, .ref 0]) (mem' := fm g tp bt a b) (by intro _ _ _; eq_refl) ?_
    refine fe_ivV ma_is1 (by omega) (by rfl) (by rfl) (by rfl) (by rfl) (by rfl) (by rfl) ?_
    refine fe_ret ⟨0, 1, _, _, by decide, Or.inr ⟨fun z => ?_, rfl, rfl, rfl⟩, rfl⟩ (by rfl) (by rfl) (by rfl)
    obtain ⟨⟨z1, z2⟩, ⟨z3, z4⟩, z5, z6⟩ := z
    first | omega | exact not ⟨z1, by omega⟩
  · refine fe_s 1 (pc' := cond (fx_cb .eq 1 0) 26 7) (lc' := [(0, .ref 0), (1, .int (nI t)), (2, .int s), (3, .int m)]) (stk' := []) (mem' := fm g tp bt a b) (by intro _ _ _; eq_refl) ?_
    rw [show (fx_cb .eq 1 0) = false from by decide]
    dsimp only [cond]
    refine fe_s 1 (pc' := 8) (lc' := [(0, .ref 0), (1, .int (nI t)), (2, .int s), (3, .int m)]) (stk' := [.int s]) (mem' := fm g tp bt a b) (by intro _ _ _; eq_refl) ?_
    refine fe_s 1 (pc' := cond (fx_cb .lt s 0) 26 11) (lc' := [(0, .ref 0), (1, .int (nI t)), (2, .int s), (3, .int m)]) (stk' := []) (mem' := fm g tp bt a b) (by intro _ _ _; eq_refl) ?_
    cases h2 : fx_cb .lt s 0
    · refine fe_s 2 (pc' := 13) (lc' := [(0, .ref 0), (1, .int (nI t)), (2, .int s), (3, .int m)]) (stk' := [.int 3, .int s]) (mem' := fm g tp bt a b) (by intro _ _ _; eq_refl) ?_
      refine fe_s 1 (pc' := cond (fx_cb .gt s 3) 26 16) (lc' := [(0, .ref 0), (1, .int (nI t)), (2, .int s), (3, .int m)]) (stk' := []) (mem' := fm g tp bt a b) (by intro _ _ _; eq_refl) ?_
      cases h3 : fx_cb .gt s 3
      · refine fe_s 1 (pc' := 17) (lc' := [(0, .ref 0), (1, .int (nI t)), (2, .int s), (3, .int m)]) (stk' := [.int m]) (mem' := fm g tp bt a b) (by intro _ _ _; eq_refl) ?_
        refine fe_s 1 (pc' := cond (fx_cb .lt m 0) 26 20) (lc' := [(0, .ref 0), (1, .int (nI t)), (2, .int s), (3, .int m)]) (stk' := []) (mem' := fm g tp bt a b) (by intro _ _ _; eq_refl) ?_
        cases h4 : fx_cb .lt m 0
        · refine fe_s 2 (pc' := 23) (lc' := [(0, .ref 0), (1, .int (nI t)), (2, .int s), (3, .int m)]) (stk' := [.int 60, .int m]) (mem' := fm g tp bt a b) (by intro _ _ _; eq_refl) ?_
          refine fe_s 1 (pc' := cond (fx_cb .le m 60) 32 26) (lc' := [(0, .ref 0), (1, .int (nI t)), (2, .int s), (3, .int m)]) (stk' := []) (mem' := fm g tp bt a b) (by intro _ _ _; eq_refl) ?_
          cases h5 : fx_cb .le m 60
          · refine fe_s 2 (pc' := 28) (lc' := [(0, .ref 0), (1, .int (nI t)), (2, .int s), (3, .int m)]) (stk' := [.int 1, .ref 0]) (mem' := fm g tp bt a b) (by intro _ _ _; eq_refl) ?_
            refine fe_ivV ma_is1 (by omega) (by rfl) (by rfl) (by rfl) (by rfl) (by rfl) (by rfl) ?_
            have q0 : (0 : Int) ≤ (s).toInt := tc_ltF h2
            have q1 : (s).toInt ≤ 3 := tc_gtF h3
            have q2 : (0 : Int) ≤ (m).toInt := tc_ltF h4
            have q3 : (60 : Int) < (m).toInt := tc_leF h5
            refine fe_ret ⟨0, 1, _, _, by decide, Or.inr ⟨fun z => ?_, rfl, rfl, rfl⟩, rfl⟩ (by rfl) (by rfl) (by rfl)
            obtain ⟨⟨z1, z2⟩, ⟨z3, z4⟩, z5, z6⟩ := z
            first | omega | exact not ⟨z1, by omega⟩
          · refine fe_s 4 (pc' := 38) (lc' := [(0, .ref 0), (1, .int (nI t)), (2, .int s), (3, .int m)]) (stk' := [.int s, .int (nI t), .ref 3]) (mem' := fm g tp bt a b) (by intro _ _ _; eq_refl) ?_
            refine fe_stI (mem' := fm g tp bt (fm_u a 3 (nI t : Int32).toNatClampNeg s) b) (by rfl) (by rfl) (fx_inN (i := t) (by omega) (by omega)) fm_si3 ?_
            rw [show Int32.toNatClampNeg (nI t) = t from nI_clamp (by omega)]
            refine fe_s 4 (pc' := 45) (lc' := [(0, .ref 0), (1, .int (nI t)), (2, .int s), (3, .int m)]) (stk' := [.int m, .int (nI t), .ref 4]) (mem' := fm g tp bt (fm_u a 3 t s) b) (by intro _ _ _; eq_refl) ?_
            refine fe_stI (mem' := fm g tp bt (fm_u (fm_u a 3 t s) 4 (nI t : Int32).toNatClampNeg m) b) (by rfl) (by rfl) (fx_inN (i := t) (by omega) (by omega)) fm_si4 ?_
            rw [show Int32.toNatClampNeg (nI t) = t from nI_clamp (by omega)]
            refine fe_s 2 (pc' := 49) (lc' := [(4, .int 0), (0, .ref 0), (1, .int (nI t)), (2, .int s), (3, .int m)]) (stk' := []) (mem' := fm g tp bt (fm_u (fm_u a 3 t s) 4 t m) b) (by intro _ _ _; eq_refl) ?_
            have q0 : (0 : Int) ≤ (s).toInt := tc_ltF h2
            have q1 : (s).toInt ≤ 3 := tc_gtF h3
            have q2 : (0 : Int) ≤ (m).toInt := tc_ltF h4
            have q3 : (m).toInt ≤ 60 := tc_le h5
            obtain ⟨M, hM, rfl⟩ := nI_bd (x := m) (n := 60) (by omega) (by omega)
            have e1 := nI_i32 (n := t) (by omega)
            have e2 := nI_i32 (n := M) (by omega)
            have loop : ∀ (r k : Nat), k + r = M → fe_R 1 gk_m213 49 [(4, .int (nI k)), (0, .ref 0), (1, .int (nI t)), (2, .int s), (3, .int (nI M))] [] (fm g tp bt (fm_u (fm_u a 3 t s) 4 t (nI M)) (fm_uf b 5 (tm_f (b 5) (60 * t) k))) (fun R1 => ∃ (z st : Int32) (a' : Nat → Nat → Int32) (b' : Nat → Nat → Int64), (0 ≤ st.toInt ∧ st.toInt ≤ 9) ∧ ((∃ t2 M2, t2 < 4 ∧ M2 ≤ 60 ∧ nI t = nI t2 ∧ nI M = nI M2 ∧ ty_ok (nI t) s (nI M) ∧ z = 1 ∧ a' = fm_u (fm_u a 3 t2 s) 4 t2 (nI M) ∧ b' = fm_uf b 5 (tm_f (b 5) (60 * t2) M2)) ∨ ¬ ty_ok (nI t) s (nI M) ∧ z = 0 ∧ a' = a ∧ b' = b) ∧ R1 = (some (.int z), fm (upd g 2 st) tp bt a' b')) := by
              intro r
              induction r with
              | zero =>
                intro k hk
                obtain rfl : k = M := by omega
                refine fe_s 3 (pc' := cond (fx_cb .ge (nI k) (nI k)) 74 55) (lc' := [(4, .int (nI k)), (0, .ref 0), (1, .int (nI t)), (2, .int s), (3, .int (nI k))]) (stk' := []) (mem' := fm g tp bt (fm_u (fm_u a 3 t s) 4 t (nI k)) (fm_uf b 5 (tm_f (b 5) (60 * t) k))) (by intro _ _ _; eq_refl) ?_
                rw [show (fx_cb .ge (nI k) (nI k)) = true from cb_geT (a := k) (b := k) (by omega) (by omega) (by omega)]
                dsimp only [cond]
                refine fe_s 2 (pc' := 76) (lc' := [(4, .int (nI k)), (0, .ref 0), (1, .int (nI t)), (2, .int s), (3, .int (nI k))]) (stk' := [.int 0, .ref 0]) (mem' := fm g tp bt (fm_u (fm_u a 3 t s) 4 t (nI k)) (fm_uf b 5 (tm_f (b 5) (60 * t) k))) (by intro _ _ _; eq_refl) ?_
                refine fe_ivV ma_is0 (by omega) (by rfl) (by rfl) (by rfl) (by rfl) (by rfl) (by rfl) ?_
                exact fe_ret ⟨1, 0, _, _, by decide, Or.inl ⟨t, k, ht, hM, rfl, rfl, ⟨⟨by omega, by omega⟩, ⟨by omega, by omega⟩, by omega, by omega⟩, rfl, rfl, rfl⟩, rfl⟩ (by rfl) (by rfl) (by rfl)
              | succ r ih =>
                intro k hk
                refine fe_s 3 (pc' := cond (fx_cb .ge (nI k) (nI M)) 74 55) (lc' := [(4, .int (nI k)), (0, .ref 0), (1, .int (nI t)), (2, .int s), (3, .int (nI M))]) (stk' := []) (mem' := fm g tp bt (fm_u (fm_u a 3 t s) 4 t (nI M)) (fm_uf b 5 (tm_f (b 5) (60 * t) k))) (by intro _ _ _; eq_refl) ?_
                rw [show (fx_cb .ge (nI k) (nI M)) = false from cb_geF (a := k) (b := M) (by omega) (by omega) (by omega)]
                dsimp only [cond]
                refine fe_s 8 (pc' := 67) (lc' := [(4, .int (nI k)), (0, .ref 0), (1, .int (nI t)), (2, .int s), (3, .int (nI M))]) (stk' := [.long 0, .int (60 * nI t + nI k), .ref 5]) (mem' := fm g tp bt (fm_u (fm_u a 3 t s) 4 t (nI M)) (fm_uf b 5 (tm_f (b 5) (60 * t) k))) (by intro _ _ _; eq_refl) ?_
                rw [show (60 * nI t + nI k : Int32) = nI (60 * t + k) from by simp only [show (60 : Int32) = nI 60 from rfl, nI_add, fm_mul]]
                refine fe_stL (mem' := fm g tp bt (fm_u (fm_u a 3 t s) 4 t (nI M)) (fm_uf (fm_uf b 5 (tm_f (b 5) (60 * t) k)) 5 (vp_updL (tm_f (b 5) (60 * t) k) (nI (60 * t + k)).toNatClampNeg 0))) (by rfl) (by rfl) (fx_inN (i := 60 * t + k) (by omega) (by omega)) fm_sl5 ?_
                rw [show Int32.toNatClampNeg (nI (60 * t + k)) = 60 * t + k from nI_clamp (by omega), tm_fs, fm_uf_uf]
                refine fe_s 2 (pc' := 49) (lc' := [(4, .int (nI k + 1)), (0, .ref 0), (1, .int (nI t)), (2, .int s), (3, .int (nI M))]) (stk' := []) (mem' := fm g tp bt (fm_u (fm_u a 3 t s) 4 t (nI M)) (fm_uf b 5 (tm_f (b 5) (60 * t) (k + 1)))) (by intro _ _ _; eq_refl) ?_
                rw [show nI k + 1 = nI (k + 1) from nI_add k 1]
                exact ih (k + 1) (by omega)
            have h0 := loop M 0 (by omega)
            rw [tm_f0, fm_uf_id] at h0
            refine fe_w (lc' := [(4, .int (nI 0)), (0, .ref 0), (1, .int (nI t)), (2, .int s), (3, .int (nI M))]) ⟨rfl, rfl, rfl, rfl, rfl, trivial⟩ (by show List.Nodup [4, 0, 1, 2, 3]; decide) (by show List.Nodup [4, 0, 1, 2, 3]; decide) h0
        · refine fe_s 2 (pc' := 28) (lc' := [(0, .ref 0), (1, .int (nI t)), (2, .int s), (3, .int m)]) (stk' := [.int 1, .ref 0]) (mem' := fm g tp bt a b) (by intro _ _ _; eq_refl) ?_
          refine fe_ivV ma_is1 (by omega) (by rfl) (by rfl) (by rfl) (by rfl) (by rfl) (by rfl) ?_
          have q0 : (0 : Int) ≤ (s).toInt := tc_ltF h2
          have q1 : (s).toInt ≤ 3 := tc_gtF h3
          have q2 : (m).toInt < 0 := tc_lt h4
          refine fe_ret ⟨0, 1, _, _, by decide, Or.inr ⟨fun z => ?_, rfl, rfl, rfl⟩, rfl⟩ (by rfl) (by rfl) (by rfl)
          obtain ⟨⟨z1, z2⟩, ⟨z3, z4⟩, z5, z6⟩ := z
          first | omega | exact not ⟨z1, by omega⟩
      · refine fe_s 2 (pc' := 28) (lc' := [(0, .ref 0), (1, .int (nI t)), (2, .int s), (3, .int m)]) (stk' := [.int 1, .ref 0]) (mem' := fm g tp bt a b) (by intro _ _ _; eq_refl) ?_
        refine fe_ivV ma_is1 (by omega) (by rfl) (by rfl) (by rfl) (by rfl) (by rfl) (by rfl) ?_
        have q0 : (0 : Int) ≤ (s).toInt := tc_ltF h2
        have q1 : (3 : Int) < (s).toInt := tc_gt h3
        refine fe_ret ⟨0, 1, _, _, by decide, Or.inr ⟨fun z => ?_, rfl, rfl, rfl⟩, rfl⟩ (by rfl) (by rfl) (by rfl)
        obtain ⟨⟨z1, z2⟩, ⟨z3, z4⟩, z5, z6⟩ := z
        first | omega | exact not ⟨z1, by omega⟩
    · refine fe_s 2 (pc' := 28) (lc' := [(0, .ref 0), (1, .int (nI t)), (2, .int s), (3, .int m)]) (stk' := [.int 1, .ref 0]) (mem' := fm g tp bt a b) (by intro _ _ _; eq_refl) ?_
      refine fe_ivV ma_is1 (by omega) (by rfl) (by rfl) (by rfl) (by rfl) (by rfl) (by rfl) ?_
      have q0 : (s).toInt < 0 := tc_lt h2
      refine fe_ret ⟨0, 1, _, _, by decide, Or.inr ⟨fun z => ?_, rfl, rfl, rfl⟩, rfl⟩ (by rfl) (by rfl) (by rfl)
      obtain ⟨⟨z1, z2⟩, ⟨z3, z4⟩, z5, z6⟩ := z
      first | omega | exact not ⟨z1, by omega⟩
theorem tp_sub {x y : Int32} (h : 0 ≤ y.toInt) (h2 : -1 ≤ x.toInt) : (x - y).toInt = x.toInt - y.toInt := by
  rw [Int32.toInt_sub]
  have a := Int32.le_toInt y
  have b := Int32.toInt_lt y
  have c := Int32.toInt_lt x
  exact Int.bmod_eq_of_le (by omega) (by omega)
theorem tpc_0 (f : Nat → Int64) (s d : Nat) : va_cpy f f s d 0 = f := funext (fun _ => if_neg (by omega))
theorem tpc_up (f : Nat → Int64) (s d k : Nat) (h : ¬ (d ≤ s + k ∧ s + k < d + k)) : vp_updL (va_cpy f f s d k) (d + k) (va_cpy f f s d k (s + k)) = va_cpy f f s d (k + 1) := by
  have e : va_cpy f f s d k (s + k) = f (s + k) := if_neg h
  rw [e]
  funext j
  unfold vp_updL va_cpy
  by_cases h1 : j = d + k
  · rw [if_pos h1, if_pos (by omega), h1, show d + k - d = k from by omega]
  · rw [if_neg h1]
    by_cases h2 : d ≤ j ∧ j < d + k
    · rw [if_pos h2, if_pos (by omega)]
    · rw [if_neg h2, if_neg (by omega)]
theorem tpc_dn (f : Nat → Int64) (s d n k : Nat) (hk : k < n) (h : ¬ (d + (n - k) ≤ s + (n - 1 - k) ∧ s + (n - 1 - k) < d + (n - k) + k)) : vp_updL (va_cpy f f (s + (n - k)) (d + (n - k)) k) (d + (n - 1 - k)) (va_cpy f f (s + (n - k)) (d + (n - k)) k (s + (n - 1 - k))) = va_cpy f f (s + (n - (k + 1))) (d + (n - (k + 1))) (k + 1) := by
  have e : va_cpy f f (s + (n - k)) (d + (n - k)) k (s + (n - 1 - k)) = f (s + (n - 1 - k)) := if_neg h
  rw [e]
  funext j
  unfold vp_updL va_cpy
  by_cases h1 : j = d + (n - 1 - k)
  · rw [if_pos h1, if_pos (by omega), h1, show s + (n - (k + 1)) + (d + (n - 1 - k) - (d + (n - (k + 1)))) = s + (n - 1 - k) from by omega]
  · rw [if_neg h1]
    by_cases h2 : d + (n - k) ≤ j ∧ j < d + (n - k) + k
    · rw [if_pos h2, if_pos (by omega), show s + (n - k) + (j - (d + (n - k))) = s + (n - (k + 1)) + (j - (d + (n - (k + 1)))) from by omega]
    · rw [if_neg h2, if_neg (by omega)]
theorem ma_pour {x p y q n : Int32} (hz : ∀ t, t < 4 → -1 ≤ (a 4 t).toInt ∧ (a 4 t).toInt ≤ 60) : ∃ (v : Option Value) (mem' : fx_M), (fun R1 => ∃ (z st : Int32) (b' : Nat → Nat → Int64), (0 ≤ st.toInt ∧ st.toInt ≤ 9) ∧ ((∃ t u P Q N, t < 4 ∧ u < 4 ∧ x = nI t ∧ y = nI u ∧ p = nI P ∧ q = nI Q ∧ n = nI N ∧ (P + N : Nat) ≤ (a 4 t).toInt ∧ (Q + N : Nat) ≤ (a 4 u).toInt ∧ a 3 t = a 3 u ∧ z = 1 ∧ b' = fm_uf b 5 (va_cpy (b 5) (b 5) (60 * t + P) (60 * u + Q) N)) ∨ ¬ pr_ok (a 4) (a 3) x p y q n ∧ z = 0 ∧ b' = b) ∧ R1 = (some (.int z), fm (upd g 2 st) tp bt a b')) (v, mem') ∧ fr_T 2 217 [.ref 0, .int x, .int p, .int y, .int q, .int n] (fm g tp bt a b) v mem' := by
  refine fe_meth (F := fun R1 => ∃ (z st : Int32) (b' : Nat → Nat → Int64), (0 ≤ st.toInt ∧ st.toInt ≤ 9) ∧ ((∃ t u P Q N, t < 4 ∧ u < 4 ∧ x = nI t ∧ y = nI u ∧ p = nI P ∧ q = nI Q ∧ n = nI N ∧ (P + N : Nat) ≤ (a 4 t).toInt ∧ (Q + N : Nat) ≤ (a 4 u).toInt ∧ a 3 t = a 3 u ∧ z = 1 ∧ b' = fm_uf b 5 (va_cpy (b 5) (b 5) (60 * t + P) (60 * u + Q) N)) ∨ ¬ pr_ok (a 4) (a 3) x p y q n ∧ z = 0 ∧ b' = b) ∧ R1 = (some (.int z), fm (upd g 2 st) tp bt a b')) (M := gk_m217) (by rfl) (by rfl) ?_
  refine fe_s 1 (pc' := 1) (lc' := [(0, .ref 0), (1, .int x), (2, .int p), (3, .int y), (4, .int q), (5, .int n)]) (stk' := [.int x]) (mem' := fm g tp bt a b) (by intro _ _ _; eq_refl) ?_
  obtain ⟨vz1, memz1, ⟨xz1, hxz1, hRz1⟩, hfrz1⟩ := ma_isTray (x := x) (g := g) (tp := tp) (bt := bt) (a := a) (b := b)
  cases hRz1
  refine fe_ivS hfrz1 (by omega) (by rfl) (by rfl) (by rfl) (by rfl) (by rfl) ?_
  rcases hxz1 with ⟨rfl, not⟩ | ⟨rfl, t, ht, rfl⟩
  · refine fe_s 1 (pc' := cond (fx_cb .eq 0 0) 28 7) (lc' := [(0, .ref 0), (1, .int x), (2, .int p), (3, .int y), (4, .int q), (5, .int n)]) (stk' := []) (mem' := fm g tp bt a b) (by intro _ _ _; eq_refl) ?_
    rw [show (fx_cb .eq 0 0) = true from by decide]
    dsimp only [cond]
    refine fe_s 2 (pc' := 30) (lc' := [(0, .ref 0), (1, .int x), (2, .int p), (3, .int y), (4, .int q), (5, .int n)]) (stk' := [.int 1, .ref 0]) (mem' := fm g tp bt a b) (by intro _ _ _; eq_refl) ?_
    refine fe_ivV ma_is1 (by omega) (by rfl) (by rfl) (by rfl) (by rfl) (by rfl) (by rfl) ?_
    exact fe_ret ⟨0, 1, _, by decide, Or.inr ⟨pr_no1 not, rfl, rfl⟩, rfl⟩ (by rfl) (by rfl) (by rfl)
  · refine fe_s 1 (pc' := cond (fx_cb .eq 1 0) 28 7) (lc' := [(0, .ref 0), (1, .int (nI t)), (2, .int p), (3, .int y), (4, .int q), (5, .int n)]) (stk' := []) (mem' := fm g tp bt a b) (by intro _ _ _; eq_refl) ?_
    rw [show (fx_cb .eq 1 0) = false from by decide]
    dsimp only [cond]
    refine fe_s 1 (pc' := 8) (lc' := [(0, .ref 0), (1, .int (nI t)), (2, .int p), (3, .int y), (4, .int q), (5, .int n)]) (stk' := [.int y]) (mem' := fm g tp bt a b) (by intro _ _ _; eq_refl) ?_
    obtain ⟨vz2, memz2, ⟨xz2, hxz2, hRz2⟩, hfrz2⟩ := ma_isTray (x := y) (g := g) (tp := tp) (bt := bt) (a := a) (b := b)
    cases hRz2
    refine fe_ivS hfrz2 (by omega) (by rfl) (by rfl) (by rfl) (by rfl) (by rfl) ?_
    rcases hxz2 with ⟨rfl, nou⟩ | ⟨rfl, u, hu, rfl⟩
    · refine fe_s 1 (pc' := cond (fx_cb .eq 0 0) 28 14) (lc' := [(0, .ref 0), (1, .int (nI t)), (2, .int p), (3, .int y), (4, .int q), (5, .int n)]) (stk' := []) (mem' := fm g tp bt a b) (by intro _ _ _; eq_refl) ?_
      rw [show (fx_cb .eq 0 0) = true from by decide]
      dsimp only [cond]
      refine fe_s 2 (pc' := 30) (lc' := [(0, .ref 0), (1, .int (nI t)), (2, .int p), (3, .int y), (4, .int q), (5, .int n)]) (stk' := [.int 1, .ref 0]) (mem' := fm g tp bt a b) (by intro _ _ _; eq_refl) ?_
      refine fe_ivV ma_is1 (by omega) (by rfl) (by rfl) (by rfl) (by rfl) (by rfl) (by rfl) ?_
      exact fe_ret ⟨0, 1, _, by decide, Or.inr ⟨pr_no2 nou, rfl, rfl⟩, rfl⟩ (by rfl) (by rfl) (by rfl)
    · refine fe_s 1 (pc' := cond (fx_cb .eq 1 0) 28 14) (lc' := [(0, .ref 0), (1, .int (nI t)), (2, .int p), (3, .int (nI u)), (4, .int q), (5, .int n)]) (stk' := []) (mem' := fm g tp bt a b) (by intro _ _ _; eq_refl) ?_
      rw [show (fx_cb .eq 1 0) = false from by decide]
      dsimp only [cond]
      refine fe_s 1 (pc' := 15) (lc' := [(0, .ref 0), (1, .int (nI t)), (2, .int p), (3, .int (nI u)), (4, .int q), (5, .int n)]) (stk' := [.int p]) (mem' := fm g tp bt a b) (by intro _ _ _; eq_refl) ?_
      refine fe_s 1 (pc' := cond (fx_cb .lt p 0) 28 18) (lc' := [(0, .ref 0), (1, .int (nI t)), (2, .int p), (3, .int (nI u)), (4, .int q), (5, .int n)]) (stk' := []) (mem' := fm g tp bt a b) (by intro _ _ _; eq_refl) ?_
      cases h3 : fx_cb .lt p 0
      · refine fe_s 1 (pc' := 20) (lc' := [(0, .ref 0), (1, .int (nI t)), (2, .int p), (3, .int (nI u)), (4, .int q), (5, .int n)]) (stk' := [.int q]) (mem' := fm g tp bt a b) (by intro _ _ _; eq_refl) ?_
        refine fe_s 1 (pc' := cond (fx_cb .lt q 0) 28 23) (lc' := [(0, .ref 0), (1, .int (nI t)), (2, .int p), (3, .int (nI u)), (4, .int q), (5, .int n)]) (stk' := []) (mem' := fm g tp bt a b) (by intro _ _ _; eq_refl) ?_
        cases h4 : fx_cb .lt q 0
        · refine fe_s 1 (pc' := 25) (lc' := [(0, .ref 0), (1, .int (nI t)), (2, .int p), (3, .int (nI u)), (4, .int q), (5, .int n)]) (stk' := [.int n]) (mem' := fm g tp bt a b) (by intro _ _ _; eq_refl) ?_
          refine fe_s 1 (pc' := cond (fx_cb .ge n 0) 34 28) (lc' := [(0, .ref 0), (1, .int (nI t)), (2, .int p), (3, .int (nI u)), (4, .int q), (5, .int n)]) (stk' := []) (mem' := fm g tp bt a b) (by intro _ _ _; eq_refl) ?_
          cases h5 : fx_cb .ge n 0
          · refine fe_s 2 (pc' := 30) (lc' := [(0, .ref 0), (1, .int (nI t)), (2, .int p), (3, .int (nI u)), (4, .int q), (5, .int n)]) (stk' := [.int 1, .ref 0]) (mem' := fm g tp bt a b) (by intro _ _ _; eq_refl) ?_
            refine fe_ivV ma_is1 (by omega) (by rfl) (by rfl) (by rfl) (by rfl) (by rfl) (by rfl) ?_
            have hzt := hz t ht
            have hzu := hz u hu
            have q0 : (0 : Int) ≤ (p).toInt := tc_ltF h3
            have q1 : (0 : Int) ≤ (q).toInt := tc_ltF h4
            have q2 : (n).toInt < 0 := tc_geF h5
            refine fe_ret ⟨0, 1, _, by decide, Or.inr ⟨pr_no ht hu (fun z => ?_), rfl, rfl⟩, rfl⟩ (by rfl) (by rfl) (by rfl)
            obtain ⟨z1, z2, z3, z4, z5, -, z7, z8⟩ := z
            have s1 := tp_sub (x := a 4 t) (y := p) (by omega) (by omega)
            have s2 := tp_sub (x := a 4 u) (y := q) (by omega) (by omega)
            omega
          · refine fe_s 3 (pc' := 39) (lc' := [(0, .ref 0), (1, .int (nI t)), (2, .int p), (3, .int (nI u)), (4, .int q), (5, .int n)]) (stk' := [.int (nI t), .ref 4]) (mem' := fm g tp bt a b) (by intro _ _ _; eq_refl) ?_
            refine fe_ldI (by rfl) (by rfl) (fx_inN (i := t) (by omega) (by omega)) ?_
            rw [show Int32.toNatClampNeg (nI t) = t from nI_clamp (by omega)]
            refine fe_s 1 (pc' := 41) (lc' := [(0, .ref 0), (1, .int (nI t)), (2, .int p), (3, .int (nI u)), (4, .int q), (5, .int n)]) (stk' := [.int (-1), .int (a 4 t)]) (mem' := fm g tp bt a b) (by intro _ _ _; eq_refl) ?_
            refine fe_s 1 (pc' := cond (fx_cb .eq (a 4 t) (-1)) 54 44) (lc' := [(0, .ref 0), (1, .int (nI t)), (2, .int p), (3, .int (nI u)), (4, .int q), (5, .int n)]) (stk' := []) (mem' := fm g tp bt a b) (by intro _ _ _; eq_refl) ?_
            cases h6 : fx_cb .eq (a 4 t) (-1)
            · refine fe_s 3 (pc' := 49) (lc' := [(0, .ref 0), (1, .int (nI t)), (2, .int p), (3, .int (nI u)), (4, .int q), (5, .int n)]) (stk' := [.int (nI u), .ref 4]) (mem' := fm g tp bt a b) (by intro _ _ _; eq_refl) ?_
              refine fe_ldI (by rfl) (by rfl) (fx_inN (i := u) (by omega) (by omega)) ?_
              rw [show Int32.toNatClampNeg (nI u) = u from nI_clamp (by omega)]
              refine fe_s 1 (pc' := 51) (lc' := [(0, .ref 0), (1, .int (nI t)), (2, .int p), (3, .int (nI u)), (4, .int q), (5, .int n)]) (stk' := [.int (-1), .int (a 4 u)]) (mem' := fm g tp bt a b) (by intro _ _ _; eq_refl) ?_
              refine fe_s 1 (pc' := cond (fx_cb .ne (a 4 u) (-1)) 60 54) (lc' := [(0, .ref 0), (1, .int (nI t)), (2, .int p), (3, .int (nI u)), (4, .int q), (5, .int n)]) (stk' := []) (mem' := fm g tp bt a b) (by intro _ _ _; eq_refl) ?_
              cases h7 : fx_cb .ne (a 4 u) (-1)
              · refine fe_s 2 (pc' := 56) (lc' := [(0, .ref 0), (1, .int (nI t)), (2, .int p), (3, .int (nI u)), (4, .int q), (5, .int n)]) (stk' := [.int 2, .ref 0]) (mem' := fm g tp bt a b) (by intro _ _ _; eq_refl) ?_
                refine fe_ivV ma_is2 (by omega) (by rfl) (by rfl) (by rfl) (by rfl) (by rfl) (by rfl) ?_
                have hzt := hz t ht
                have hzu := hz u hu
                have q0 : (0 : Int) ≤ (p).toInt := tc_ltF h3
                have q1 : (0 : Int) ≤ (q).toInt := tc_ltF h4
                have q2 : (0 : Int) ≤ (n).toInt := tc_ge h5
                have q3 : ¬ (a 4 t).toInt = (-1) := fun z => (of_decide_eq_false h6) (Int32.toInt_inj.mp z)
                have q4 : (a 4 u).toInt = (-1) := congrArg Int32.toInt (tc_ne h7)
                refine fe_ret ⟨0, 2, _, by decide, Or.inr ⟨pr_no ht hu (fun z => ?_), rfl, rfl⟩, rfl⟩ (by rfl) (by rfl) (by rfl)
                obtain ⟨z1, z2, z3, z4, z5, -, z7, z8⟩ := z
                have s1 := tp_sub (x := a 4 t) (y := p) (by omega) (by omega)
                have s2 := tp_sub (x := a 4 u) (y := q) (by omega) (by omega)
                omega
              · refine fe_s 3 (pc' := 65) (lc' := [(0, .ref 0), (1, .int (nI t)), (2, .int p), (3, .int (nI u)), (4, .int q), (5, .int n)]) (stk' := [.int (nI t), .ref 3]) (mem' := fm g tp bt a b) (by intro _ _ _; eq_refl) ?_
                refine fe_ldI (by rfl) (by rfl) (fx_inN (i := t) (by omega) (by omega)) ?_
                rw [show Int32.toNatClampNeg (nI t) = t from nI_clamp (by omega)]
                refine fe_s 3 (pc' := 71) (lc' := [(0, .ref 0), (1, .int (nI t)), (2, .int p), (3, .int (nI u)), (4, .int q), (5, .int n)]) (stk' := [.int (nI u), .ref 3, .int (a 3 t)]) (mem' := fm g tp bt a b) (by intro _ _ _; eq_refl) ?_
                refine fe_ldI (by rfl) (by rfl) (fx_inN (i := u) (by omega) (by omega)) ?_
                rw [show Int32.toNatClampNeg (nI u) = u from nI_clamp (by omega)]
                refine fe_s 1 (pc' := cond (fx_cb .eq (a 3 t) (a 3 u)) 82 75) (lc' := [(0, .ref 0), (1, .int (nI t)), (2, .int p), (3, .int (nI u)), (4, .int q), (5, .int n)]) (stk' := []) (mem' := fm g tp bt a b) (by intro _ _ _; eq_refl) ?_
                cases h8 : fx_cb .eq (a 3 t) (a 3 u)
                · refine fe_s 2 (pc' := 78) (lc' := [(0, .ref 0), (1, .int (nI t)), (2, .int p), (3, .int (nI u)), (4, .int q), (5, .int n)]) (stk' := [.int 8, .ref 0]) (mem' := fm g tp bt a b) (by intro _ _ _; eq_refl) ?_
                  refine fe_ivV ma_is8 (by omega) (by rfl) (by rfl) (by rfl) (by rfl) (by rfl) (by rfl) ?_
                  have hzt := hz t ht
                  have hzu := hz u hu
                  exact fe_ret ⟨0, 8, _, by decide, Or.inr ⟨pr_no ht hu (fun z => of_decide_eq_false h8 z.2.2.2.2.2.1), rfl, rfl⟩, rfl⟩ (by rfl) (by rfl) (by rfl)
                · refine fe_s 4 (pc' := 89) (lc' := [(0, .ref 0), (1, .int (nI t)), (2, .int p), (3, .int (nI u)), (4, .int q), (5, .int n)]) (stk' := [.int (nI t), .ref 4, .int n]) (mem' := fm g tp bt a b) (by intro _ _ _; eq_refl) ?_
                  refine fe_ldI (by rfl) (by rfl) (fx_inN (i := t) (by omega) (by omega)) ?_
                  rw [show Int32.toNatClampNeg (nI t) = t from nI_clamp (by omega)]
                  refine fe_s 2 (pc' := 92) (lc' := [(0, .ref 0), (1, .int (nI t)), (2, .int p), (3, .int (nI u)), (4, .int q), (5, .int n)]) (stk' := [.int ((a 4 t) - p), .int n]) (mem' := fm g tp bt a b) (by intro _ _ _; eq_refl) ?_
                  refine fe_s 1 (pc' := cond (fx_cb .gt n ((a 4 t) - p)) 109 95) (lc' := [(0, .ref 0), (1, .int (nI t)), (2, .int p), (3, .int (nI u)), (4, .int q), (5, .int n)]) (stk' := []) (mem' := fm g tp bt a b) (by intro _ _ _; eq_refl) ?_
                  cases h9 : fx_cb .gt n ((a 4 t) - p)
                  · refine fe_s 4 (pc' := 102) (lc' := [(0, .ref 0), (1, .int (nI t)), (2, .int p), (3, .int (nI u)), (4, .int q), (5, .int n)]) (stk' := [.int (nI u), .ref 4, .int n]) (mem' := fm g tp bt a b) (by intro _ _ _; eq_refl) ?_
                    refine fe_ldI (by rfl) (by rfl) (fx_inN (i := u) (by omega) (by omega)) ?_
                    rw [show Int32.toNatClampNeg (nI u) = u from nI_clamp (by omega)]
                    refine fe_s 2 (pc' := 106) (lc' := [(0, .ref 0), (1, .int (nI t)), (2, .int p), (3, .int (nI u)), (4, .int q), (5, .int n)]) (stk' := [.int ((a 4 u) - q), .int n]) (mem' := fm g tp bt a b) (by intro _ _ _; eq_refl) ?_
                    refine fe_s 1 (pc' := cond (fx_cb .le n ((a 4 u) - q)) 115 109) (lc' := [(0, .ref 0), (1, .int (nI t)), (2, .int p), (3, .int (nI u)), (4, .int q), (5, .int n)]) (stk' := []) (mem' := fm g tp bt a b) (by intro _ _ _; eq_refl) ?_
                    cases h10 : fx_cb .le n ((a 4 u) - q)
                    · refine fe_s 2 (pc' := 111) (lc' := [(0, .ref 0), (1, .int (nI t)), (2, .int p), (3, .int (nI u)), (4, .int q), (5, .int n)]) (stk' := [.int 3, .ref 0]) (mem' := fm g tp bt a b) (by intro _ _ _; eq_refl) ?_
                      refine fe_ivV ma_is3 (by omega) (by rfl) (by rfl) (by rfl) (by rfl) (by rfl) (by rfl) ?_
                      have hzt := hz t ht
                      have hzu := hz u hu
                      have q0 : (0 : Int) ≤ (p).toInt := tc_ltF h3
                      have q1 : (0 : Int) ≤ (q).toInt := tc_ltF h4
                      have q2 : (0 : Int) ≤ (n).toInt := tc_ge h5
                      have q3 : ¬ (a 4 t).toInt = (-1) := fun z => (of_decide_eq_false h6) (Int32.toInt_inj.mp z)
                      have q4 : ¬ (a 4 u).toInt = (-1) := fun z => (tc_neT h7) (Int32.toInt_inj.mp z)
                      have q6 : (n).toInt ≤ ((a 4 t) - p).toInt := tc_gtF h9
                      have q7 : ((a 4 u) - q).toInt < (n).toInt := tc_leF h10
                      refine fe_ret ⟨0, 3, _, by decide, Or.inr ⟨pr_no ht hu (fun z => ?_), rfl, rfl⟩, rfl⟩ (by rfl) (by rfl) (by rfl)
                      obtain ⟨z1, z2, z3, z4, z5, -, z7, z8⟩ := z
                      have s1 := tp_sub (x := a 4 t) (y := p) (by omega) (by omega)
                      have s2 := tp_sub (x := a 4 u) (y := q) (by omega) (by omega)
                      omega
                    · refine fe_s 2 (pc' := 118) (lc' := [(6, .int 0), (0, .ref 0), (1, .int (nI t)), (2, .int p), (3, .int (nI u)), (4, .int q), (5, .int n)]) (stk' := []) (mem' := fm g tp bt a b) (by intro _ _ _; eq_refl) ?_
                      have q0 : (0 : Int) ≤ (p).toInt := tc_ltF h3
                      have q1 : (0 : Int) ≤ (q).toInt := tc_ltF h4
                      have q2 : (0 : Int) ≤ (n).toInt := tc_ge h5
                      have q3 : ¬ (a 4 t).toInt = (-1) := fun z => (of_decide_eq_false h6) (Int32.toInt_inj.mp z)
                      have q4 : ¬ (a 4 u).toInt = (-1) := fun z => (tc_neT h7) (Int32.toInt_inj.mp z)
                      have q6 : (n).toInt ≤ ((a 4 t) - p).toInt := tc_gtF h9
                      have q7 : (n).toInt ≤ ((a 4 u) - q).toInt := tc_le h10
                      have hzt := hz t ht
                      have hzu := hz u hu
                      have s1 := tp_sub (x := a 4 t) (y := p) (by omega) (by omega)
                      have s2 := tp_sub (x := a 4 u) (y := q) (by omega) (by omega)
                      obtain ⟨P, hP, rfl⟩ := nI_bd (x := p) (n := 60) (by omega) (by omega)
                      have eP := nI_i32 (n := P) (by omega)
                      obtain ⟨Q, hQ, rfl⟩ := nI_bd (x := q) (n := 60) (by omega) (by omega)
                      have eQ := nI_i32 (n := Q) (by omega)
                      obtain ⟨N, hN, rfl⟩ := nI_bd (x := n) (n := 60) (by omega) (by omega)
                      have eN := nI_i32 (n := N) (by omega)
                      have ee := of_decide_eq_true h8
                      by_cases hpq : Q ≤ P
                      · have loop : ∀ (r k : Nat), k + r = N → fe_R 1 gk_m217 118 [(6, .int (nI k)), (0, .ref 0), (1, .int (nI t)), (2, .int (nI P)), (3, .int (nI u)), (4, .int (nI Q)), (5, .int (nI N))] [] (fm g tp bt a (fm_uf b 5 (va_cpy (b 5) (b 5) (60 * t + P) (60 * u + Q) k))) (fun R1 => ∃ (z st : Int32) (b' : Nat → Nat → Int64), (0 ≤ st.toInt ∧ st.toInt ≤ 9) ∧ ((∃ t2 u2 P2 Q2 N2, t2 < 4 ∧ u2 < 4 ∧ (nI t) = nI t2 ∧ (nI u) = nI u2 ∧ (nI P) = nI P2 ∧ (nI Q) = nI Q2 ∧ (nI N) = nI N2 ∧ (P2 + N2 : Nat) ≤ (a 4 t2).toInt ∧ (Q2 + N2 : Nat) ≤ (a 4 u2).toInt ∧ a 3 t2 = a 3 u2 ∧ z = 1 ∧ b' = fm_uf b 5 (va_cpy (b 5) (b 5) (60 * t2 + P2) (60 * u2 + Q2) N2)) ∨ ¬ pr_ok (a 4) (a 3) (nI t) (nI P) (nI u) (nI Q) (nI N) ∧ z = 0 ∧ b' = b) ∧ R1 = (some (.int z), fm (upd g 2 st) tp bt a b')) := by
                          intro r
                          induction r with
                          | zero =>
                            intro k hk
                            obtain rfl : k = N := by omega
                            refine fe_s 3 (pc' := cond (fx_cb .ge (nI k) (nI k)) 180 125) (lc' := [(6, .int (nI k)), (0, .ref 0), (1, .int (nI t)), (2, .int (nI P)), (3, .int (nI u)), (4, .int (nI Q)), (5, .int (nI k))]) (stk' := []) (mem' := fm g tp bt a (fm_uf b 5 (va_cpy (b 5) (b 5) (60 * t + P) (60 * u + Q) k))) (by intro _ _ _; eq_refl) ?_
                            rw [show (fx_cb .ge (nI k) (nI k)) = true from cb_geT (a := k) (b := k) (by omega) (by omega) (by omega)]
                            dsimp only [cond]
                            refine fe_s 2 (pc' := 182) (lc' := [(6, .int (nI k)), (0, .ref 0), (1, .int (nI t)), (2, .int (nI P)), (3, .int (nI u)), (4, .int (nI Q)), (5, .int (nI k))]) (stk' := [.int 0, .ref 0]) (mem' := fm g tp bt a (fm_uf b 5 (va_cpy (b 5) (b 5) (60 * t + P) (60 * u + Q) k))) (by intro _ _ _; eq_refl) ?_
                            refine fe_ivV ma_is0 (by omega) (by rfl) (by rfl) (by rfl) (by rfl) (by rfl) (by rfl) ?_
                            exact fe_ret ⟨1, 0, _, by decide, Or.inl ⟨t, u, P, Q, k, ht, hu, rfl, rfl, rfl, rfl, rfl, by omega, by omega, ee, rfl, rfl⟩, rfl⟩ (by rfl) (by rfl) (by rfl)
                          | succ r ih =>
                            intro k hk
                            refine fe_s 3 (pc' := cond (fx_cb .ge (nI k) (nI N)) 180 125) (lc' := [(6, .int (nI k)), (0, .ref 0), (1, .int (nI t)), (2, .int (nI P)), (3, .int (nI u)), (4, .int (nI Q)), (5, .int (nI N))]) (stk' := []) (mem' := fm g tp bt a (fm_uf b 5 (va_cpy (b 5) (b 5) (60 * t + P) (60 * u + Q) k))) (by intro _ _ _; eq_refl) ?_
                            rw [show (fx_cb .ge (nI k) (nI N)) = false from cb_geF (a := k) (b := N) (by omega) (by omega) (by omega)]
                            dsimp only [cond]
                            refine fe_s 3 (pc' := cond (fx_cb .ge (nI P) (nI Q)) 141 131) (lc' := [(6, .int (nI k)), (0, .ref 0), (1, .int (nI t)), (2, .int (nI P)), (3, .int (nI u)), (4, .int (nI Q)), (5, .int (nI N))]) (stk' := []) (mem' := fm g tp bt a (fm_uf b 5 (va_cpy (b 5) (b 5) (60 * t + P) (60 * u + Q) k))) (by intro _ _ _; eq_refl) ?_
                            rw [show (fx_cb .ge (nI P) (nI Q)) = true from cb_geT (a := P) (b := Q) (by omega) (by omega) (by omega)]
                            dsimp only [cond]
                            refine fe_s 20 (pc' := 172) (lc' := [(7, .int (nI k)), (6, .int (nI k)), (0, .ref 0), (1, .int (nI t)), (2, .int (nI P)), (3, .int (nI u)), (4, .int (nI Q)), (5, .int (nI N))]) (stk' := [.int (60 * nI t + nI P + nI k), .ref 5, .int (60 * nI u + nI Q + nI k), .ref 5]) (mem' := fm g tp bt a (fm_uf b 5 (va_cpy (b 5) (b 5) (60 * t + P) (60 * u + Q) k))) (by intro _ _ _; eq_refl) ?_
                            rw [show (60 * nI t + nI P + nI k : Int32) = nI (60 * t + P + k) from by simp only [show (60 : Int32) = nI 60 from rfl, nI_add, fm_mul], show (60 * nI u + nI Q + nI k : Int32) = nI (60 * u + Q + k) from by simp only [show (60 : Int32) = nI 60 from rfl, nI_add, fm_mul]]
                            refine fe_ldL (by rfl) (by rfl) (fx_inN (i := 60 * t + P + k) (by omega) (by omega)) ?_
                            rw [show Int32.toNatClampNeg (nI (60 * t + P + k)) = 60 * t + P + k from nI_clamp (by omega)]
                            show fe_R 1 gk_m217 173 _ [.long ((va_cpy (b 5) (b 5) (60 * t + P) (60 * u + Q) k) (60 * t + P + k)), .int (nI (60 * u + Q + k)), .ref 5] _ _
                            refine fe_stL (mem' := fm g tp bt a (fm_uf (fm_uf b 5 (va_cpy (b 5) (b 5) (60 * t + P) (60 * u + Q) k)) 5 (vp_updL (va_cpy (b 5) (b 5) (60 * t + P) (60 * u + Q) k) (nI (60 * u + Q + k)).toNatClampNeg ((va_cpy (b 5) (b 5) (60 * t + P) (60 * u + Q) k) (60 * t + P + k))))) (by rfl) (by rfl) (fx_inN (i := 60 * u + Q + k) (by omega) (by omega)) fm_sl5 ?_
                            rw [show Int32.toNatClampNeg (nI (60 * u + Q + k)) = 60 * u + Q + k from nI_clamp (by omega), tpc_up (b 5) (60 * t + P) (60 * u + Q) k (fun z => by omega), fm_uf_uf]
                            refine fe_s 2 (pc' := 118) (lc' := [(6, .int (nI k + 1)), (7, .int (nI k)), (0, .ref 0), (1, .int (nI t)), (2, .int (nI P)), (3, .int (nI u)), (4, .int (nI Q)), (5, .int (nI N))]) (stk' := []) (mem' := fm g tp bt a (fm_uf b 5 (va_cpy (b 5) (b 5) (60 * t + P) (60 * u + Q) (k + 1)))) (by intro _ _ _; eq_refl) ?_
                            rw [show nI k + 1 = nI (k + 1) from nI_add k 1]
                            exact fe_w (lc' := [(6, .int (nI (k + 1))), (0, .ref 0), (1, .int (nI t)), (2, .int (nI P)), (3, .int (nI u)), (4, .int (nI Q)), (5, .int (nI N))]) ⟨rfl, rfl, rfl, rfl, rfl, rfl, rfl, trivial⟩ (by show List.Nodup [6, 0, 1, 2, 3, 4, 5]; decide) (by show List.Nodup [6, 7, 0, 1, 2, 3, 4, 5]; decide) (ih (k + 1) (by omega))
                        have h0 := loop N 0 (by omega)
                        rw [tpc_0, fm_uf_id] at h0
                        refine fe_w (lc' := [(6, .int (nI 0)), (0, .ref 0), (1, .int (nI t)), (2, .int (nI P)), (3, .int (nI u)), (4, .int (nI Q)), (5, .int (nI N))]) ⟨rfl, rfl, rfl, rfl, rfl, rfl, rfl, trivial⟩ (by show List.Nodup [6, 0, 1, 2, 3, 4, 5]; decide) (by show List.Nodup [6, 0, 1, 2, 3, 4, 5]; decide) h0
                      · have loop : ∀ (r k : Nat), k + r = N → fe_R 1 gk_m217 118 [(6, .int (nI k)), (0, .ref 0), (1, .int (nI t)), (2, .int (nI P)), (3, .int (nI u)), (4, .int (nI Q)), (5, .int (nI N))] [] (fm g tp bt a (fm_uf b 5 (va_cpy (b 5) (b 5) (60 * t + P + (N - k)) (60 * u + Q + (N - k)) k))) (fun R1 => ∃ (z st : Int32) (b' : Nat → Nat → Int64), (0 ≤ st.toInt ∧ st.toInt ≤ 9) ∧ ((∃ t2 u2 P2 Q2 N2, t2 < 4 ∧ u2 < 4 ∧ (nI t) = nI t2 ∧ (nI u) = nI u2 ∧ (nI P) = nI P2 ∧ (nI Q) = nI Q2 ∧ (nI N) = nI N2 ∧ (P2 + N2 : Nat) ≤ (a 4 t2).toInt ∧ (Q2 + N2 : Nat) ≤ (a 4 u2).toInt ∧ a 3 t2 = a 3 u2 ∧ z = 1 ∧ b' = fm_uf b 5 (va_cpy (b 5) (b 5) (60 * t2 + P2) (60 * u2 + Q2) N2)) ∨ ¬ pr_ok (a 4) (a 3) (nI t) (nI P) (nI u) (nI Q) (nI N) ∧ z = 0 ∧ b' = b) ∧ R1 = (some (.int z), fm (upd g 2 st) tp bt a b')) := by
                          intro r
                          induction r with
                          | zero =>
                            intro k hk
                            obtain rfl : k = N := by omega
                            refine fe_s 3 (pc' := cond (fx_cb .ge (nI k) (nI k)) 180 125) (lc' := [(6, .int (nI k)), (0, .ref 0), (1, .int (nI t)), (2, .int (nI P)), (3, .int (nI u)), (4, .int (nI Q)), (5, .int (nI k))]) (stk' := []) (mem' := fm g tp bt a (fm_uf b 5 (va_cpy (b 5) (b 5) (60 * t + P + (k - k)) (60 * u + Q + (k - k)) k))) (by intro _ _ _; eq_refl) ?_
                            rw [show (fx_cb .ge (nI k) (nI k)) = true from cb_geT (a := k) (b := k) (by omega) (by omega) (by omega)]
                            dsimp only [cond]
                            refine fe_s 2 (pc' := 182) (lc' := [(6, .int (nI k)), (0, .ref 0), (1, .int (nI t)), (2, .int (nI P)), (3, .int (nI u)), (4, .int (nI Q)), (5, .int (nI k))]) (stk' := [.int 0, .ref 0]) (mem' := fm g tp bt a (fm_uf b 5 (va_cpy (b 5) (b 5) (60 * t + P + (k - k)) (60 * u + Q + (k - k)) k))) (by intro _ _ _; eq_refl) ?_
                            refine fe_ivV ma_is0 (by omega) (by rfl) (by rfl) (by rfl) (by rfl) (by rfl) (by rfl) ?_
                            rw [show k - k = 0 from Nat.sub_self k]
                            exact fe_ret ⟨1, 0, _, by decide, Or.inl ⟨t, u, P, Q, k, ht, hu, rfl, rfl, rfl, rfl, rfl, by omega, by omega, ee, rfl, rfl⟩, rfl⟩ (by rfl) (by rfl) (by rfl)
                          | succ r ih =>
                            intro k hk
                            refine fe_s 3 (pc' := cond (fx_cb .ge (nI k) (nI N)) 180 125) (lc' := [(6, .int (nI k)), (0, .ref 0), (1, .int (nI t)), (2, .int (nI P)), (3, .int (nI u)), (4, .int (nI Q)), (5, .int (nI N))]) (stk' := []) (mem' := fm g tp bt a (fm_uf b 5 (va_cpy (b 5) (b 5) (60 * t + P + (N - k)) (60 * u + Q + (N - k)) k))) (by intro _ _ _; eq_refl) ?_
                            rw [show (fx_cb .ge (nI k) (nI N)) = false from cb_geF (a := k) (b := N) (by omega) (by omega) (by omega)]
                            dsimp only [cond]
                            refine fe_s 3 (pc' := cond (fx_cb .ge (nI P) (nI Q)) 141 131) (lc' := [(6, .int (nI k)), (0, .ref 0), (1, .int (nI t)), (2, .int (nI P)), (3, .int (nI u)), (4, .int (nI Q)), (5, .int (nI N))]) (stk' := []) (mem' := fm g tp bt a (fm_uf b 5 (va_cpy (b 5) (b 5) (60 * t + P + (N - k)) (60 * u + Q + (N - k)) k))) (by intro _ _ _; eq_refl) ?_
                            rw [show (fx_cb .ge (nI P) (nI Q)) = false from cb_geF (a := P) (b := Q) (by omega) (by omega) (by omega)]
                            dsimp only [cond]
                            refine fe_s 25 (pc' := 172) (lc' := [(7, .int (nI N - 1 - nI k)), (6, .int (nI k)), (0, .ref 0), (1, .int (nI t)), (2, .int (nI P)), (3, .int (nI u)), (4, .int (nI Q)), (5, .int (nI N))]) (stk' := [.int (60 * nI t + nI P + (nI N - 1 - nI k)), .ref 5, .int (60 * nI u + nI Q + (nI N - 1 - nI k)), .ref 5]) (mem' := fm g tp bt a (fm_uf b 5 (va_cpy (b 5) (b 5) (60 * t + P + (N - k)) (60 * u + Q + (N - k)) k))) (by intro _ _ _; eq_refl) ?_
                            rw [show (nI N - 1 - nI k : Int32) = nI (N - 1 - k) from by rw [show (1 : Int32) = nI 1 from rfl, tg_sub2 (x := N) (y := 1) (by omega), tg_sub2 (x := N - 1) (y := k) (by omega)]]
                            rw [show (60 * nI t + nI P + nI (N - 1 - k) : Int32) = nI (60 * t + P + (N - 1 - k)) from by simp only [show (60 : Int32) = nI 60 from rfl, nI_add, fm_mul], show (60 * nI u + nI Q + nI (N - 1 - k) : Int32) = nI (60 * u + Q + (N - 1 - k)) from by simp only [show (60 : Int32) = nI 60 from rfl, nI_add, fm_mul]]
                            refine fe_ldL (by rfl) (by rfl) (fx_inN (i := 60 * t + P + (N - 1 - k)) (by omega) (by omega)) ?_
                            rw [show Int32.toNatClampNeg (nI (60 * t + P + (N - 1 - k))) = 60 * t + P + (N - 1 - k) from nI_clamp (by omega)]
                            show fe_R 1 gk_m217 173 _ [.long ((va_cpy (b 5) (b 5) (60 * t + P + (N - k)) (60 * u + Q + (N - k)) k) (60 * t + P + (N - 1 - k))), .int (nI (60 * u + Q + (N - 1 - k))), .ref 5] _ _
                            refine fe_stL (mem' := fm g tp bt a (fm_uf (fm_uf b 5 (va_cpy (b 5) (b 5) (60 * t + P + (N - k)) (60 * u + Q + (N - k)) k)) 5 (vp_updL (va_cpy (b 5) (b 5) (60 * t + P + (N - k)) (60 * u + Q + (N - k)) k) (nI (60 * u + Q + (N - 1 - k))).toNatClampNeg ((va_cpy (b 5) (b 5) (60 * t + P + (N - k)) (60 * u + Q + (N - k)) k) (60 * t + P + (N - 1 - k)))))) (by rfl) (by rfl) (fx_inN (i := 60 * u + Q + (N - 1 - k)) (by omega) (by omega)) fm_sl5 ?_
                            rw [show Int32.toNatClampNeg (nI (60 * u + Q + (N - 1 - k))) = 60 * u + Q + (N - 1 - k) from nI_clamp (by omega), tpc_dn (b 5) (60 * t + P) (60 * u + Q) N k (by omega) (fun z => by omega), fm_uf_uf]
                            refine fe_s 2 (pc' := 118) (lc' := [(6, .int (nI k + 1)), (7, .int (nI (N - 1 - k))), (0, .ref 0), (1, .int (nI t)), (2, .int (nI P)), (3, .int (nI u)), (4, .int (nI Q)), (5, .int (nI N))]) (stk' := []) (mem' := fm g tp bt a (fm_uf b 5 (va_cpy (b 5) (b 5) (60 * t + P + (N - (k + 1))) (60 * u + Q + (N - (k + 1))) (k + 1)))) (by intro _ _ _; eq_refl) ?_
                            rw [show nI k + 1 = nI (k + 1) from nI_add k 1]
                            exact fe_w (lc' := [(6, .int (nI (k + 1))), (0, .ref 0), (1, .int (nI t)), (2, .int (nI P)), (3, .int (nI u)), (4, .int (nI Q)), (5, .int (nI N))]) ⟨rfl, rfl, rfl, rfl, rfl, rfl, rfl, trivial⟩ (by show List.Nodup [6, 0, 1, 2, 3, 4, 5]; decide) (by show List.Nodup [6, 7, 0, 1, 2, 3, 4, 5]; decide) (ih (k + 1) (by omega))
                        have h0 := loop N 0 (by omega)
                        rw [tpc_0, fm_uf_id] at h0
                        refine fe_w (lc' := [(6, .int (nI 0)), (0, .ref 0), (1, .int (nI t)), (2, .int (nI P)), (3, .int (nI u)), (4, .int (nI Q)), (5, .int (nI N))]) ⟨rfl, rfl, rfl, rfl, rfl, rfl, rfl, trivial⟩ (by show List.Nodup [6, 0, 1, 2, 3, 4, 5]; decide) (by show List.Nodup [6, 0, 1, 2, 3, 4, 5]; decide) h0
                  · refine fe_s 2 (pc' := 111) (lc' := [(0, .ref 0), (1, .int (nI t)), (2, .int p), (3, .int (nI u)), (4, .int q), (5, .int n)]) (stk' := [.int 3, .ref 0]) (mem' := fm g tp bt a b) (by intro _ _ _; eq_refl) ?_
                    refine fe_ivV ma_is3 (by omega) (by rfl) (by rfl) (by rfl) (by rfl) (by rfl) (by rfl) ?_
                    have hzt := hz t ht
                    have hzu := hz u hu
                    have q0 : (0 : Int) ≤ (p).toInt := tc_ltF h3
                    have q1 : (0 : Int) ≤ (q).toInt := tc_ltF h4
                    have q2 : (0 : Int) ≤ (n).toInt := tc_ge h5
                    have q3 : ¬ (a 4 t).toInt = (-1) := fun z => (of_decide_eq_false h6) (Int32.toInt_inj.mp z)
                    have q4 : ¬ (a 4 u).toInt = (-1) := fun z => (tc_neT h7) (Int32.toInt_inj.mp z)
                    have q6 : ((a 4 t) - p).toInt < (n).toInt := tc_gt h9
                    refine fe_ret ⟨0, 3, _, by decide, Or.inr ⟨pr_no ht hu (fun z => ?_), rfl, rfl⟩, rfl⟩ (by rfl) (by rfl) (by rfl)
                    obtain ⟨z1, z2, z3, z4, z5, -, z7, z8⟩ := z
                    have s1 := tp_sub (x := a 4 t) (y := p) (by omega) (by omega)
                    have s2 := tp_sub (x := a 4 u) (y := q) (by omega) (by omega)
                    omega
            · refine fe_s 2 (pc' := 56) (lc' := [(0, .ref 0), (1, .int (nI t)), (2, .int p), (3, .int (nI u)), (4, .int q), (5, .int n)]) (stk' := [.int 2, .ref 0]) (mem' := fm g tp bt a b) (by intro _ _ _; eq_refl) ?_
              refine fe_ivV ma_is2 (by omega) (by rfl) (by rfl) (by rfl) (by rfl) (by rfl) (by rfl) ?_
              have hzt := hz t ht
              have hzu := hz u hu
              have q0 : (0 : Int) ≤ (p).toInt := tc_ltF h3
              have q1 : (0 : Int) ≤ (q).toInt := tc_ltF h4
              have q2 : (0 : Int) ≤ (n).toInt := tc_ge h5
              have q3 : (a 4 t).toInt = (-1) := congrArg Int32.toInt (of_decide_eq_true h6)
              refine fe_ret ⟨0, 2, _, by decide, Or.inr ⟨pr_no ht hu (fun z => ?_), rfl, rfl⟩, rfl⟩ (by rfl) (by rfl) (by rfl)
              obtain ⟨z1, z2, z3, z4, z5, -, z7, z8⟩ := z
              have s1 := tp_sub (x := a 4 t) (y := p) (by omega) (by omega)
              have s2 := tp_sub (x := a 4 u) (y := q) (by omega) (by omega)
              omega
        · refine fe_s 2 (pc' := 30) (lc' := [(0, .ref 0), (1, .int (nI t)), (2, .int p), (3, .int (nI u)), (4, .int q), (5, .int n)]) (stk' := [.int 1, .ref 0]) (mem' := fm g tp bt a b) (by intro _ _ _; eq_refl) ?_
          refine fe_ivV ma_is1 (by omega) (by rfl) (by rfl) (by rfl) (by rfl) (by rfl) (by rfl) ?_
          have hzt := hz t ht
          have hzu := hz u hu
          have q0 : (0 : Int) ≤ (p).toInt := tc_ltF h3
          have q1 : (q).toInt < 0 := tc_lt h4
          refine fe_ret ⟨0, 1, _, by decide, Or.inr ⟨pr_no ht hu (fun z => ?_), rfl, rfl⟩, rfl⟩ (by rfl) (by rfl) (by rfl)
          obtain ⟨z1, z2, z3, z4, z5, -, z7, z8⟩ := z
          have s1 := tp_sub (x := a 4 t) (y := p) (by omega) (by omega)
          have s2 := tp_sub (x := a 4 u) (y := q) (by omega) (by omega)
          omega
      · refine fe_s 2 (pc' := 30) (lc' := [(0, .ref 0), (1, .int (nI t)), (2, .int p), (3, .int (nI u)), (4, .int q), (5, .int n)]) (stk' := [.int 1, .ref 0]) (mem' := fm g tp bt a b) (by intro _ _ _; eq_refl) ?_
        refine fe_ivV ma_is1 (by omega) (by rfl) (by rfl) (by rfl) (by rfl) (by rfl) (by rfl) ?_
        have hzt := hz t ht
        have hzu := hz u hu
        have q0 : (p).toInt < 0 := tc_lt h3
        refine fe_ret ⟨0, 1, _, by decide, Or.inr ⟨pr_no ht hu (fun z => ?_), rfl, rfl⟩, rfl⟩ (by rfl) (by rfl) (by rfl)
        obtain ⟨z1, z2, z3, z4, z5, -, z7, z8⟩ := z
        have s1 := tp_sub (x := a 4 t) (y := p) (by omega) (by omega)
        have s2 := tp_sub (x := a 4 u) (y := q) (by omega) (by omega)
        omega
end MT
