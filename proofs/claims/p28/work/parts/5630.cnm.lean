/-! ===== the class's names looked up ===== -/
theorem lg_neT {x y : Int64} (h : ¬ x = y) : fx_cb .ne (lg_cmp x y) 0 = true := by
  cases e : fx_cb .ne (lg_cmp x y) 0
  · exact absurd (lg_cmp0 e) h
  · rfl
theorem lg_eqF {x y : Int64} (h : ¬ x = y) : fx_cb .eq (lg_cmp x y) 0 = false := by
  cases e : fx_cb .eq (lg_cmp x y) 0
  · rfl
  · exact absurd (lg_cmp_eT e) h
section CNM
variable {g : Nat → Nat → Int32} {l : Nat → Nat → Int64} {a : Nat → Nat → Int32} {b : Nat → Nat → Int64} {R : fx_M} {T : Nat → Nat} {n p : Nat}
variable {F : Int32} {P : Nat}
theorem ha_nam41 {x : Int64} {N : Nat} (h8 : g 41 8 = nI N) (hN : N ≤ 10) : ∃ v : Int32, hr_T 1 38 [.ref 41, .long x] (cm g l a b R) (some (.int v)) (cm g l a b R) ∧ sp_is (b 42) N x v := by
  have loop : ∀ (r k : Nat), k + r = N → (∀ j, j < k → ¬ b 42 j = x) → he_R 0 gk_m38 2 [(3, .int (nI k)), (0, .ref 41), (1, .long x)] [] (cm g l a b R) (fun R1 => ∃ v : Int32, sp_is (b 42) N x v ∧ R1 = (some (.int v), cm g l a b R)) := by
    intro r
    induction r with
    | zero =>
      intro k hk hno
      obtain rfl : k = N := by omega
      refine he_s 3 (pc' := 7) (lc' := [(3, .int (nI k)), (0, .ref 41), (1, .long x)]) (stk' := [.int (g 41 8), .int (nI k)]) (mem' := cm g l a b R) (by intro _ _ _; eq_refl) ?_
      rw [h8]
      refine he_s 1 (pc' := cond (fx_cb .ge (nI k) (nI k)) 29 10) (lc' := [(3, .int (nI k)), (0, .ref 41), (1, .long x)]) (stk' := []) (mem' := cm g l a b R) (by intro _ _ _; eq_refl) ?_
      rw [show (fx_cb .ge (nI k) (nI k)) = true from cb_geT (a := k) (b := k) (by omega) (by omega) (by omega)]
      dsimp only [cond]
      refine he_s 1 (pc' := 30) (lc' := [(3, .int (nI k)), (0, .ref 41), (1, .long x)]) (stk' := [.int (-1)]) (mem' := cm g l a b R) (by intro _ _ _; eq_refl) ?_
      exact he_ret ⟨-1, Or.inl ⟨rfl, hno⟩, rfl⟩ (by rfl) (by rfl) (by rfl)
    | succ r ih =>
      intro k hk hno
      refine he_s 3 (pc' := 7) (lc' := [(3, .int (nI k)), (0, .ref 41), (1, .long x)]) (stk' := [.int (g 41 8), .int (nI k)]) (mem' := cm g l a b R) (by intro _ _ _; eq_refl) ?_
      rw [h8]
      refine he_s 1 (pc' := cond (fx_cb .ge (nI k) (nI N)) 29 10) (lc' := [(3, .int (nI k)), (0, .ref 41), (1, .long x)]) (stk' := []) (mem' := cm g l a b R) (by intro _ _ _; eq_refl) ?_
      rw [show (fx_cb .ge (nI k) (nI N)) = false from cb_geF (a := k) (b := N) (by omega) (by omega) (by omega)]
      dsimp only [cond]
      refine he_s 3 (pc' := 15) (lc' := [(3, .int (nI k)), (0, .ref 41), (1, .long x)]) (stk' := [.int (nI k), .ref 42]) (mem' := cm g l a b R) (by intro _ _ _; eq_refl) ?_
      refine he_ldL (by rfl) (by rfl) (fx_inN (i := k) (by omega) (by omega)) ?_
      rw [nI_clamp (by omega)]
      refine he_s 2 (pc' := 18) (lc' := [(3, .int (nI k)), (0, .ref 41), (1, .long x)]) (stk' := [.int (lg_cmp (b 42 k) x)]) (mem' := cm g l a b R) (by intro _ _ _; eq_refl) ?_
      refine he_s 1 (pc' := cond (fx_cb .ne (lg_cmp (b 42 k) x) 0) 23 21) (lc' := [(3, .int (nI k)), (0, .ref 41), (1, .long x)]) (stk' := []) (mem' := cm g l a b R) (by intro _ _ _; eq_refl) ?_
      cases h : fx_cb .ne (lg_cmp (b 42 k) x) 0
      · dsimp only [cond]
        refine he_s 1 (pc' := 22) (lc' := [(3, .int (nI k)), (0, .ref 41), (1, .long x)]) (stk' := [.int (nI k)]) (mem' := cm g l a b R) (by intro _ _ _; eq_refl) ?_
        exact he_ret ⟨nI k, Or.inr ⟨k, by omega, rfl, lg_cmp0 h, hno⟩, rfl⟩ (by rfl) (by rfl) (by rfl)
      · dsimp only [cond]
        refine he_s 2 (pc' := 2) (lc' := [(3, .int (nI k + 1)), (0, .ref 41), (1, .long x)]) (stk' := []) (mem' := cm g l a b R) (by intro _ _ _; eq_refl) ?_
        rw [show nI k + 1 = nI (k + 1) from nI_add k 1]
        refine ih (k + 1) (by omega) (fun j hj => ?_)
        by_cases e : j = k
        · rw [e]; exact lg_cmp1 h
        · exact hno j (by omega)
  obtain ⟨v, mem', ⟨w, h1, hR1⟩, hr⟩ := he_meth (k := 0) (f := 38) (as := [.ref 41, .long x]) (mem := cm g l a b R) (F := fun R1 => ∃ v : Int32, sp_is (b 42) N x v ∧ R1 = (some (.int v), cm g l a b R)) (M := gk_m38) (by rfl) (by rfl) (by
    refine he_s 2 (pc' := 2) (lc' := [(3, .int 0), (0, .ref 41), (1, .long x)]) (stk' := []) (mem' := cm g l a b R) (by intro _ _ _; eq_refl) ?_
    exact loop N 0 (by omega) (fun j hj => absurd hj (by omega)))
  cases hR1
  exact ⟨w, hr, h1⟩
theorem ha_cnam41 {x : Int64} {N : Nat} (h8 : g 52 7 = nI N) (hN : N ≤ 8) : ∃ v : Int32, hr_T 1 5 [.ref 52, .long x] (cm g l a b R) (some (.int v)) (cm g l a b R) ∧ sp_is (b 53) N x v := by
  have loop : ∀ (r k : Nat), k + r = N → (∀ j, j < k → ¬ b 53 j = x) → he_R 0 gk_m5 2 [(3, .int (nI k)), (0, .ref 52), (1, .long x)] [] (cm g l a b R) (fun R1 => ∃ v : Int32, sp_is (b 53) N x v ∧ R1 = (some (.int v), cm g l a b R)) := by
    intro r
    induction r with
    | zero =>
      intro k hk hno
      obtain rfl : k = N := by omega
      refine he_s 3 (pc' := 7) (lc' := [(3, .int (nI k)), (0, .ref 52), (1, .long x)]) (stk' := [.int (g 52 7), .int (nI k)]) (mem' := cm g l a b R) (by intro _ _ _; eq_refl) ?_
      rw [h8]
      refine he_s 1 (pc' := cond (fx_cb .ge (nI k) (nI k)) 29 10) (lc' := [(3, .int (nI k)), (0, .ref 52), (1, .long x)]) (stk' := []) (mem' := cm g l a b R) (by intro _ _ _; eq_refl) ?_
      rw [show (fx_cb .ge (nI k) (nI k)) = true from cb_geT (a := k) (b := k) (by omega) (by omega) (by omega)]
      dsimp only [cond]
      refine he_s 1 (pc' := 30) (lc' := [(3, .int (nI k)), (0, .ref 52), (1, .long x)]) (stk' := [.int (-1)]) (mem' := cm g l a b R) (by intro _ _ _; eq_refl) ?_
      exact he_ret ⟨-1, Or.inl ⟨rfl, hno⟩, rfl⟩ (by rfl) (by rfl) (by rfl)
    | succ r ih =>
      intro k hk hno
      refine he_s 3 (pc' := 7) (lc' := [(3, .int (nI k)), (0, .ref 52), (1, .long x)]) (stk' := [.int (g 52 7), .int (nI k)]) (mem' := cm g l a b R) (by intro _ _ _; eq_refl) ?_
      rw [h8]
      refine he_s 1 (pc' := cond (fx_cb .ge (nI k) (nI N)) 29 10) (lc' := [(3, .int (nI k)), (0, .ref 52), (1, .long x)]) (stk' := []) (mem' := cm g l a b R) (by intro _ _ _; eq_refl) ?_
      rw [show (fx_cb .ge (nI k) (nI N)) = false from cb_geF (a := k) (b := N) (by omega) (by omega) (by omega)]
      dsimp only [cond]
      refine he_s 3 (pc' := 15) (lc' := [(3, .int (nI k)), (0, .ref 52), (1, .long x)]) (stk' := [.int (nI k), .ref 53]) (mem' := cm g l a b R) (by intro _ _ _; eq_refl) ?_
      refine he_ldL (by rfl) (by rfl) (fx_inN (i := k) (by omega) (by omega)) ?_
      rw [nI_clamp (by omega)]
      refine he_s 2 (pc' := 18) (lc' := [(3, .int (nI k)), (0, .ref 52), (1, .long x)]) (stk' := [.int (lg_cmp (b 53 k) x)]) (mem' := cm g l a b R) (by intro _ _ _; eq_refl) ?_
      refine he_s 1 (pc' := cond (fx_cb .ne (lg_cmp (b 53 k) x) 0) 23 21) (lc' := [(3, .int (nI k)), (0, .ref 52), (1, .long x)]) (stk' := []) (mem' := cm g l a b R) (by intro _ _ _; eq_refl) ?_
      cases h : fx_cb .ne (lg_cmp (b 53 k) x) 0
      · dsimp only [cond]
        refine he_s 1 (pc' := 22) (lc' := [(3, .int (nI k)), (0, .ref 52), (1, .long x)]) (stk' := [.int (nI k)]) (mem' := cm g l a b R) (by intro _ _ _; eq_refl) ?_
        exact he_ret ⟨nI k, Or.inr ⟨k, by omega, rfl, lg_cmp0 h, hno⟩, rfl⟩ (by rfl) (by rfl) (by rfl)
      · dsimp only [cond]
        refine he_s 2 (pc' := 2) (lc' := [(3, .int (nI k + 1)), (0, .ref 52), (1, .long x)]) (stk' := []) (mem' := cm g l a b R) (by intro _ _ _; eq_refl) ?_
        rw [show nI k + 1 = nI (k + 1) from nI_add k 1]
        refine ih (k + 1) (by omega) (fun j hj => ?_)
        by_cases e : j = k
        · rw [e]; exact lg_cmp1 h
        · exact hno j (by omega)
  obtain ⟨v, mem', ⟨w, h1, hR1⟩, hr⟩ := he_meth (k := 0) (f := 5) (as := [.ref 52, .long x]) (mem := cm g l a b R) (F := fun R1 => ∃ v : Int32, sp_is (b 53) N x v ∧ R1 = (some (.int v), cm g l a b R)) (M := gk_m5) (by rfl) (by rfl) (by
    refine he_s 2 (pc' := 2) (lc' := [(3, .int 0), (0, .ref 52), (1, .long x)]) (stk' := []) (mem' := cm g l a b R) (by intro _ _ _; eq_refl) ?_
    exact loop N 0 (by omega) (fun j hj => absurd hj (by omega)))
  cases hR1
  exact ⟨w, hr, h1⟩
theorem ha_nam15 {x : Int64} {N : Nat} (h8 : g 15 8 = nI N) (hN : N ≤ 10) : ∃ v : Int32, hr_T 1 38 [.ref 15, .long x] (cm g l a b R) (some (.int v)) (cm g l a b R) ∧ sp_is (b 16) N x v := by
  have loop : ∀ (r k : Nat), k + r = N → (∀ j, j < k → ¬ b 16 j = x) → he_R 0 gk_m38 2 [(3, .int (nI k)), (0, .ref 15), (1, .long x)] [] (cm g l a b R) (fun R1 => ∃ v : Int32, sp_is (b 16) N x v ∧ R1 = (some (.int v), cm g l a b R)) := by
    intro r
    induction r with
    | zero =>
      intro k hk hno
      obtain rfl : k = N := by omega
      refine he_s 3 (pc' := 7) (lc' := [(3, .int (nI k)), (0, .ref 15), (1, .long x)]) (stk' := [.int (g 15 8), .int (nI k)]) (mem' := cm g l a b R) (by intro _ _ _; eq_refl) ?_
      rw [h8]
      refine he_s 1 (pc' := cond (fx_cb .ge (nI k) (nI k)) 29 10) (lc' := [(3, .int (nI k)), (0, .ref 15), (1, .long x)]) (stk' := []) (mem' := cm g l a b R) (by intro _ _ _; eq_refl) ?_
      rw [show (fx_cb .ge (nI k) (nI k)) = true from cb_geT (a := k) (b := k) (by omega) (by omega) (by omega)]
      dsimp only [cond]
      refine he_s 1 (pc' := 30) (lc' := [(3, .int (nI k)), (0, .ref 15), (1, .long x)]) (stk' := [.int (-1)]) (mem' := cm g l a b R) (by intro _ _ _; eq_refl) ?_
      exact he_ret ⟨-1, Or.inl ⟨rfl, hno⟩, rfl⟩ (by rfl) (by rfl) (by rfl)
    | succ r ih =>
      intro k hk hno
      refine he_s 3 (pc' := 7) (lc' := [(3, .int (nI k)), (0, .ref 15), (1, .long x)]) (stk' := [.int (g 15 8), .int (nI k)]) (mem' := cm g l a b R) (by intro _ _ _; eq_refl) ?_
      rw [h8]
      refine he_s 1 (pc' := cond (fx_cb .ge (nI k) (nI N)) 29 10) (lc' := [(3, .int (nI k)), (0, .ref 15), (1, .long x)]) (stk' := []) (mem' := cm g l a b R) (by intro _ _ _; eq_refl) ?_
      rw [show (fx_cb .ge (nI k) (nI N)) = false from cb_geF (a := k) (b := N) (by omega) (by omega) (by omega)]
      dsimp only [cond]
      refine he_s 3 (pc' := 15) (lc' := [(3, .int (nI k)), (0, .ref 15), (1, .long x)]) (stk' := [.int (nI k), .ref 16]) (mem' := cm g l a b R) (by intro _ _ _; eq_refl) ?_
      refine he_ldL (by rfl) (by rfl) (fx_inN (i := k) (by omega) (by omega)) ?_
      rw [nI_clamp (by omega)]
      refine he_s 2 (pc' := 18) (lc' := [(3, .int (nI k)), (0, .ref 15), (1, .long x)]) (stk' := [.int (lg_cmp (b 16 k) x)]) (mem' := cm g l a b R) (by intro _ _ _; eq_refl) ?_
      refine he_s 1 (pc' := cond (fx_cb .ne (lg_cmp (b 16 k) x) 0) 23 21) (lc' := [(3, .int (nI k)), (0, .ref 15), (1, .long x)]) (stk' := []) (mem' := cm g l a b R) (by intro _ _ _; eq_refl) ?_
      cases h : fx_cb .ne (lg_cmp (b 16 k) x) 0
      · dsimp only [cond]
        refine he_s 1 (pc' := 22) (lc' := [(3, .int (nI k)), (0, .ref 15), (1, .long x)]) (stk' := [.int (nI k)]) (mem' := cm g l a b R) (by intro _ _ _; eq_refl) ?_
        exact he_ret ⟨nI k, Or.inr ⟨k, by omega, rfl, lg_cmp0 h, hno⟩, rfl⟩ (by rfl) (by rfl) (by rfl)
      · dsimp only [cond]
        refine he_s 2 (pc' := 2) (lc' := [(3, .int (nI k + 1)), (0, .ref 15), (1, .long x)]) (stk' := []) (mem' := cm g l a b R) (by intro _ _ _; eq_refl) ?_
        rw [show nI k + 1 = nI (k + 1) from nI_add k 1]
        refine ih (k + 1) (by omega) (fun j hj => ?_)
        by_cases e : j = k
        · rw [e]; exact lg_cmp1 h
        · exact hno j (by omega)
  obtain ⟨v, mem', ⟨w, h1, hR1⟩, hr⟩ := he_meth (k := 0) (f := 38) (as := [.ref 15, .long x]) (mem := cm g l a b R) (F := fun R1 => ∃ v : Int32, sp_is (b 16) N x v ∧ R1 = (some (.int v), cm g l a b R)) (M := gk_m38) (by rfl) (by rfl) (by
    refine he_s 2 (pc' := 2) (lc' := [(3, .int 0), (0, .ref 15), (1, .long x)]) (stk' := []) (mem' := cm g l a b R) (by intro _ _ _; eq_refl) ?_
    exact loop N 0 (by omega) (fun j hj => absurd hj (by omega)))
  cases hR1
  exact ⟨w, hr, h1⟩
theorem ha_cnam15 {x : Int64} {N : Nat} (h8 : g 26 7 = nI N) (hN : N ≤ 8) : ∃ v : Int32, hr_T 1 5 [.ref 26, .long x] (cm g l a b R) (some (.int v)) (cm g l a b R) ∧ sp_is (b 27) N x v := by
  have loop : ∀ (r k : Nat), k + r = N → (∀ j, j < k → ¬ b 27 j = x) → he_R 0 gk_m5 2 [(3, .int (nI k)), (0, .ref 26), (1, .long x)] [] (cm g l a b R) (fun R1 => ∃ v : Int32, sp_is (b 27) N x v ∧ R1 = (some (.int v), cm g l a b R)) := by
    intro r
    induction r with
    | zero =>
      intro k hk hno
      obtain rfl : k = N := by omega
      refine he_s 3 (pc' := 7) (lc' := [(3, .int (nI k)), (0, .ref 26), (1, .long x)]) (stk' := [.int (g 26 7), .int (nI k)]) (mem' := cm g l a b R) (by intro _ _ _; eq_refl) ?_
      rw [h8]
      refine he_s 1 (pc' := cond (fx_cb .ge (nI k) (nI k)) 29 10) (lc' := [(3, .int (nI k)), (0, .ref 26), (1, .long x)]) (stk' := []) (mem' := cm g l a b R) (by intro _ _ _; eq_refl) ?_
      rw [show (fx_cb .ge (nI k) (nI k)) = true from cb_geT (a := k) (b := k) (by omega) (by omega) (by omega)]
      dsimp only [cond]
      refine he_s 1 (pc' := 30) (lc' := [(3, .int (nI k)), (0, .ref 26), (1, .long x)]) (stk' := [.int (-1)]) (mem' := cm g l a b R) (by intro _ _ _; eq_refl) ?_
      exact he_ret ⟨-1, Or.inl ⟨rfl, hno⟩, rfl⟩ (by rfl) (by rfl) (by rfl)
    | succ r ih =>
      intro k hk hno
      refine he_s 3 (pc' := 7) (lc' := [(3, .int (nI k)), (0, .ref 26), (1, .long x)]) (stk' := [.int (g 26 7), .int (nI k)]) (mem' := cm g l a b R) (by intro _ _ _; eq_refl) ?_
      rw [h8]
      refine he_s 1 (pc' := cond (fx_cb .ge (nI k) (nI N)) 29 10) (lc' := [(3, .int (nI k)), (0, .ref 26), (1, .long x)]) (stk' := []) (mem' := cm g l a b R) (by intro _ _ _; eq_refl) ?_
      rw [show (fx_cb .ge (nI k) (nI N)) = false from cb_geF (a := k) (b := N) (by omega) (by omega) (by omega)]
      dsimp only [cond]
      refine he_s 3 (pc' := 15) (lc' := [(3, .int (nI k)), (0, .ref 26), (1, .long x)]) (stk' := [.int (nI k), .ref 27]) (mem' := cm g l a b R) (by intro _ _ _; eq_refl) ?_
      refine he_ldL (by rfl) (by rfl) (fx_inN (i := k) (by omega) (by omega)) ?_
      rw [nI_clamp (by omega)]
      refine he_s 2 (pc' := 18) (lc' := [(3, .int (nI k)), (0, .ref 26), (1, .long x)]) (stk' := [.int (lg_cmp (b 27 k) x)]) (mem' := cm g l a b R) (by intro _ _ _; eq_refl) ?_
      refine he_s 1 (pc' := cond (fx_cb .ne (lg_cmp (b 27 k) x) 0) 23 21) (lc' := [(3, .int (nI k)), (0, .ref 26), (1, .long x)]) (stk' := []) (mem' := cm g l a b R) (by intro _ _ _; eq_refl) ?_
      cases h : fx_cb .ne (lg_cmp (b 27 k) x) 0
      · dsimp only [cond]
        refine he_s 1 (pc' := 22) (lc' := [(3, .int (nI k)), (0, .ref 26), (1, .long x)]) (stk' := [.int (nI k)]) (mem' := cm g l a b R) (by intro _ _ _; eq_refl) ?_
        exact he_ret ⟨nI k, Or.inr ⟨k, by omega, rfl, lg_cmp0 h, hno⟩, rfl⟩ (by rfl) (by rfl) (by rfl)
      · dsimp only [cond]
        refine he_s 2 (pc' := 2) (lc' := [(3, .int (nI k + 1)), (0, .ref 26), (1, .long x)]) (stk' := []) (mem' := cm g l a b R) (by intro _ _ _; eq_refl) ?_
        rw [show nI k + 1 = nI (k + 1) from nI_add k 1]
        refine ih (k + 1) (by omega) (fun j hj => ?_)
        by_cases e : j = k
        · rw [e]; exact lg_cmp1 h
        · exact hno j (by omega)
  obtain ⟨v, mem', ⟨w, h1, hR1⟩, hr⟩ := he_meth (k := 0) (f := 5) (as := [.ref 26, .long x]) (mem := cm g l a b R) (F := fun R1 => ∃ v : Int32, sp_is (b 27) N x v ∧ R1 = (some (.int v), cm g l a b R)) (M := gk_m5) (by rfl) (by rfl) (by
    refine he_s 2 (pc' := 2) (lc' := [(3, .int 0), (0, .ref 26), (1, .long x)]) (stk' := []) (mem' := cm g l a b R) (by intro _ _ _; eq_refl) ?_
    exact loop N 0 (by omega) (fun j hj => absurd hj (by omega)))
  cases hR1
  exact ⟨w, hr, h1⟩
/-- names are so many, as they stand in the class's lake at o -/
def cn_L (o : Nat) (A : sp_A) (g : Nat → Nat → Int32) (b : Nat → Nat → Int64) : Prop := g o 8 = nI A.1.1.length ∧ A.1.1.length ≤ 10 ∧ g (o + 11) 7 = nI A.1.2.length ∧ A.1.2.length ≤ 8 ∧ sp_nC (b (o + 1)) (A.1.1.map Prod.fst) ∧ sp_nC (b (o + 12)) (A.1.2.map Prod.fst)
theorem cn_L_fr {o : Nat} {A : sp_A} {g' : Nat → Nat → Int32} {l' : Nat → Nat → Int64} (h : cn_L o A g b) (hf : cfr g l g' l') (h1 : o ≠ 9) (h2 : o + 11 ≠ 9) : cn_L o A g' b := ⟨(congrFun (hf.1 o h1) 8).trans h.1, h.2.1, (congrFun (hf.1 (o + 11) h2) 7).trans h.2.2.1, h.2.2.2⟩
theorem sp_is_b {f : Nat → Int64} {N : Nat} {x : Int64} {v : Int32} (h : sp_is f N x v) (hN : N < 1000) : -1 ≤ v.toInt ∧ v.toInt < (N : Int) := by
  rcases h with ⟨rfl, -⟩ | ⟨k, hk, rfl, -⟩
  · rw [show (-1 : Int32).toInt = -1 from by decide]; omega
  · rw [nI_i32 (by omega)]; omega
theorem sp_n1b {N : Nat} : -1 ≤ (-1 : Int32).toInt ∧ (-1 : Int32).toInt < (N : Int) := by
  rw [show (-1 : Int32).toInt = -1 from by decide]; omega
theorem ha_ch410 {A : sp_A} (hg : ctx a b T n) (hA : cn_L 41 A g b) (h : co g l T n p) : ∃ (v : Option Value) (mem' : fx_M), (fun R1 => ∃ (v : Int32) (g' : Nat → Nat → Int32), cfr g l g' l ∧ ((sp_nm T n p ∧ sp_iC A.1.1 (sp_wd T n p) < A.1.1.length ∧ v = nI (sp_iC A.1.1 (sp_wd T n p)) ∧ co g' l T n p) ∨ (sp_nm T n p ∧ ¬ sp_iC A.1.1 (sp_wd T n p) < A.1.1.length ∧ v = -1 ∧ cq g' l T n 3 (sp_s T n p)) ∨ (¬ sp_nm T n p ∧ v = -1 ∧ cq g' l T n (sp_m T n p) (sp_s T n p))) ∧ R1 = (some (.int v), cm g' l a b R)) (v, mem') ∧ hr_T 4 113 [.ref 9, .ref 41] (cm g l a b R) v mem' := by
  refine he_meth (F := fun R1 => ∃ (v : Int32) (g' : Nat → Nat → Int32), cfr g l g' l ∧ ((sp_nm T n p ∧ sp_iC A.1.1 (sp_wd T n p) < A.1.1.length ∧ v = nI (sp_iC A.1.1 (sp_wd T n p)) ∧ co g' l T n p) ∨ (sp_nm T n p ∧ ¬ sp_iC A.1.1 (sp_wd T n p) < A.1.1.length ∧ v = -1 ∧ cq g' l T n 3 (sp_s T n p)) ∨ (¬ sp_nm T n p ∧ v = -1 ∧ cq g' l T n (sp_m T n p) (sp_s T n p))) ∧ R1 = (some (.int v), cm g' l a b R)) (M := gk_m113) (by rfl) (by rfl) ?_
  refine he_s 1 (pc' := 1) (lc' := [(0, .ref 9), (1, .ref 41)]) (stk' := [.ref 9]) (mem' := cm g l a b R) (by intro _ _ _; eq_refl) ?_
  obtain ⟨vc1, memc1, ⟨xc1, gc1, frc1, hxc1, hRc1⟩, hrc1⟩ := ha_nh0 (R := R) hg h
  cases hRc1
  refine he_ivV hrc1 (by omega) (by rfl) (by rfl) (by rfl) (by rfl) (by rfl) (by rfl) ?_
  have hfc1 := cfr_tr cfr_rf frc1
  have hAc1 := cn_L_fr hA frc1 (by decide) (by decide)
  rcases hxc1 with ⟨nm, rfl, hmc1⟩ | ⟨nm, rfl, hmc1⟩
  · obtain ⟨lo1, lo2⟩ := sp_nm_lt h.1 nm
    have hpos : ¬ Int64.ofNat (sp_cd (sp_wd T n p)) = 0 := fun e => by
      have hl := sp_n_lt h.1 (Or.inl nm.1)
      have h1 := sp_cd_pos lo1 (fun y => by have := sp_wd_len (T := T) (n := n) (p := p); rw [y] at this; have : 0 = _ := this; omega)
      have := sp_i64 (sp_cd_63 lo1 lo2) (by decide) (show Int64.ofNat (sp_cd (sp_wd T n p)) = Int64.ofNat 0 from e)
      omega
    refine he_s 4 (pc' := 8) (lc' := [(2, .long (Int64.ofNat (sp_cd (sp_wd T n p)))), (0, .ref 9), (1, .ref 41)]) (stk' := [.int (lg_cmp (Int64.ofNat (sp_cd (sp_wd T n p))) 0)]) (mem' := cm gc1 l a b R) (by intro _ _ _; eq_refl) ?_
    refine he_s 1 (pc' := cond (fx_cb .ne (lg_cmp (Int64.ofNat (sp_cd (sp_wd T n p))) 0) 0) 15 11) (lc' := [(2, .long (Int64.ofNat (sp_cd (sp_wd T n p)))), (0, .ref 9), (1, .ref 41)]) (stk' := []) (mem' := cm gc1 l a b R) (by intro _ _ _; eq_refl) ?_
    rw [show (fx_cb .ne (lg_cmp (Int64.ofNat (sp_cd (sp_wd T n p))) 0) 0) = true from lg_neT hpos]
    dsimp only [cond]
    refine he_s 2 (pc' := 17) (lc' := [(2, .long (Int64.ofNat (sp_cd (sp_wd T n p)))), (0, .ref 9), (1, .ref 41)]) (stk' := [.long (Int64.ofNat (sp_cd (sp_wd T n p))), .ref 41]) (mem' := cm gc1 l a b R) (by intro _ _ _; eq_refl) ?_
    obtain ⟨wc2, hrc2, hic2⟩ := ha_nam41 (g := gc1) (l := l) (a := a) (b := b) (R := R) (x := Int64.ofNat (sp_cd (sp_wd T n p))) hAc1.1 hAc1.2.1
    refine he_ivV hrc2 (by omega) (by rfl) (by rfl) (by rfl) (by rfl) (by rfl) (by rfl) ?_
    have hzc2 := sp_fxC hAc1.2.2.2.2.1 lo1 lo2 (by rw [List.length_map]; exact hic2)
    rw [List.length_map, sp_iC_map] at hzc2
    rcases hzc2 with ⟨hz, rfl⟩ | ⟨hz, rfl⟩
    · refine he_s 2 (pc' := 24) (lc' := [(4, .int (-1)), (2, .long (Int64.ofNat (sp_cd (sp_wd T n p)))), (0, .ref 9), (1, .ref 41)]) (stk' := [.int (-1)]) (mem' := cm gc1 l a b R) (by intro _ _ _; eq_refl) ?_
      refine he_s 1 (pc' := cond (fx_cb .ge (-1) 0) 32 27) (lc' := [(4, .int (-1)), (2, .long (Int64.ofNat (sp_cd (sp_wd T n p)))), (0, .ref 9), (1, .ref 41)]) (stk' := []) (mem' := cm gc1 l a b R) (by intro _ _ _; eq_refl) ?_
      rw [show (fx_cb .ge (-1) 0) = false from by decide]
      dsimp only [cond]
      refine he_s 2 (pc' := 29) (lc' := [(4, .int (-1)), (2, .long (Int64.ofNat (sp_cd (sp_wd T n p)))), (0, .ref 9), (1, .ref 41)]) (stk' := [.int 3, .ref 9]) (mem' := cm gc1 l a b R) (by intro _ _ _; eq_refl) ?_
      obtain ⟨gc3, hrc3, hmc3, frc3⟩ := ha_fail (a := a) (b := b) (R := R) (x := 3) hmc1 (by decide)
      refine he_ivV hrc3 (by omega) (by rfl) (by rfl) (by rfl) (by rfl) (by rfl) (by rfl) ?_
      have hfc3 := cfr_tr hfc1 frc3
      refine he_s 1 (pc' := 34) (lc' := [(4, .int (-1)), (2, .long (Int64.ofNat (sp_cd (sp_wd T n p)))), (0, .ref 9), (1, .ref 41)]) (stk' := [.int (-1)]) (mem' := cm gc3 l a b R) (by intro _ _ _; eq_refl) ?_
      exact he_ret ⟨_, _, hfc3, Or.inr (Or.inl ⟨nm, by omega, rfl, hmc3⟩), rfl⟩ (by rfl) (by rfl) (by rfl)
    · have hz9 := hAc1.2.1
      refine he_s 2 (pc' := 24) (lc' := [(4, .int (nI (sp_iC A.1.1 (sp_wd T n p)))), (2, .long (Int64.ofNat (sp_cd (sp_wd T n p)))), (0, .ref 9), (1, .ref 41)]) (stk' := [.int (nI (sp_iC A.1.1 (sp_wd T n p)))]) (mem' := cm gc1 l a b R) (by intro _ _ _; eq_refl) ?_
      refine he_s 1 (pc' := cond (fx_cb .ge (nI (sp_iC A.1.1 (sp_wd T n p))) 0) 32 27) (lc' := [(4, .int (nI (sp_iC A.1.1 (sp_wd T n p)))), (2, .long (Int64.ofNat (sp_cd (sp_wd T n p)))), (0, .ref 9), (1, .ref 41)]) (stk' := []) (mem' := cm gc1 l a b R) (by intro _ _ _; eq_refl) ?_
      rw [show (fx_cb .ge (nI (sp_iC A.1.1 (sp_wd T n p))) 0) = true from cb_geT (a := (sp_iC A.1.1 (sp_wd T n p))) (b := 0) (by omega) (by omega) (by omega)]
      dsimp only [cond]
      refine he_s 1 (pc' := 34) (lc' := [(4, .int (nI (sp_iC A.1.1 (sp_wd T n p)))), (2, .long (Int64.ofNat (sp_cd (sp_wd T n p)))), (0, .ref 9), (1, .ref 41)]) (stk' := [.int (nI (sp_iC A.1.1 (sp_wd T n p)))]) (mem' := cm gc1 l a b R) (by intro _ _ _; eq_refl) ?_
      exact he_ret ⟨_, _, hfc1, Or.inl ⟨nm, hz, rfl, hmc1⟩, rfl⟩ (by rfl) (by rfl) (by rfl)
  · refine he_s 4 (pc' := 8) (lc' := [(2, .long 0), (0, .ref 9), (1, .ref 41)]) (stk' := [.int (lg_cmp 0 0)]) (mem' := cm gc1 l a b R) (by intro _ _ _; eq_refl) ?_
    refine he_s 1 (pc' := cond (fx_cb .ne (lg_cmp 0 0) 0) 15 11) (lc' := [(2, .long 0), (0, .ref 9), (1, .ref 41)]) (stk' := []) (mem' := cm gc1 l a b R) (by intro _ _ _; eq_refl) ?_
    rw [show (fx_cb .ne (lg_cmp 0 0) 0) = false from (by decide)]
    dsimp only [cond]
    refine he_s 4 (pc' := 24) (lc' := [(4, .int (-1)), (2, .long 0), (0, .ref 9), (1, .ref 41)]) (stk' := [.int (-1)]) (mem' := cm gc1 l a b R) (by intro _ _ _; eq_refl) ?_
    refine he_s 1 (pc' := cond (fx_cb .ge (-1) 0) 32 27) (lc' := [(4, .int (-1)), (2, .long 0), (0, .ref 9), (1, .ref 41)]) (stk' := []) (mem' := cm gc1 l a b R) (by intro _ _ _; eq_refl) ?_
    rw [show (fx_cb .ge (-1) 0) = false from by decide]
    dsimp only [cond]
    refine he_s 2 (pc' := 29) (lc' := [(4, .int (-1)), (2, .long 0), (0, .ref 9), (1, .ref 41)]) (stk' := [.int 3, .ref 9]) (mem' := cm gc1 l a b R) (by intro _ _ _; eq_refl) ?_
    refine he_ivV (ha_failq (a := a) (b := b) (R := R) (x := 3) hmc1) (by omega) (by rfl) (by rfl) (by rfl) (by rfl) (by rfl) (by rfl) ?_
    refine he_s 1 (pc' := 34) (lc' := [(4, .int (-1)), (2, .long 0), (0, .ref 9), (1, .ref 41)]) (stk' := [.int (-1)]) (mem' := cm gc1 l a b R) (by intro _ _ _; eq_refl) ?_
    exact he_ret ⟨_, _, hfc1, Or.inr (Or.inr ⟨nm, rfl, hmc1⟩), rfl⟩ (by rfl) (by rfl) (by rfl)
theorem ha_ch41q0 {A : sp_A} (hg : ctx a b T n) (hA : cn_L 41 A g b) (h : cq g l T n F P) : ∃ (v : Option Value) (mem' : fx_M), (fun R1 => ∃ (v : Int32) (g' : Nat → Nat → Int32) (l' : Nat → Nat → Int64), cfr g l g' l' ∧ cq g' l' T n F P ∧ (-1 ≤ v.toInt ∧ v.toInt < (A.1.1.length : Int)) ∧ R1 = (some (.int v), cm g' l' a b R)) (v, mem') ∧ hr_T 4 113 [.ref 9, .ref 41] (cm g l a b R) v mem' := by
  refine he_meth (F := fun R1 => ∃ (v : Int32) (g' : Nat → Nat → Int32) (l' : Nat → Nat → Int64), cfr g l g' l' ∧ cq g' l' T n F P ∧ (-1 ≤ v.toInt ∧ v.toInt < (A.1.1.length : Int)) ∧ R1 = (some (.int v), cm g' l' a b R)) (M := gk_m113) (by rfl) (by rfl) ?_
  refine he_s 1 (pc' := 1) (lc' := [(0, .ref 9), (1, .ref 41)]) (stk' := [.ref 9]) (mem' := cm g l a b R) (by intro _ _ _; eq_refl) ?_
  obtain ⟨vc1, memc1, ⟨gc1, lc1, xc1, frc1, hmc1, hRc1⟩, hrc1⟩ := ha_nhq0 (R := R) hg h
  cases hRc1
  refine he_ivV hrc1 (by omega) (by rfl) (by rfl) (by rfl) (by rfl) (by rfl) (by rfl) ?_
  have hfc1 := cfr_tr cfr_rf frc1
  have hAc1 := cn_L_fr hA frc1 (by decide) (by decide)
  refine he_s 4 (pc' := 8) (lc' := [(2, .long xc1), (0, .ref 9), (1, .ref 41)]) (stk' := [.int (lg_cmp xc1 0)]) (mem' := cm gc1 lc1 a b R) (by intro _ _ _; eq_refl) ?_
  refine he_s 1 (pc' := cond (fx_cb .ne (lg_cmp xc1 0) 0) 15 11) (lc' := [(2, .long xc1), (0, .ref 9), (1, .ref 41)]) (stk' := []) (mem' := cm gc1 lc1 a b R) (by intro _ _ _; eq_refl) ?_
  cases y2 : fx_cb .ne (lg_cmp xc1 0) 0
  · refine he_s 4 (pc' := 24) (lc' := [(4, .int (-1)), (2, .long xc1), (0, .ref 9), (1, .ref 41)]) (stk' := [.int (-1)]) (mem' := cm gc1 lc1 a b R) (by intro _ _ _; eq_refl) ?_
    refine he_s 1 (pc' := cond (fx_cb .ge (-1) 0) 32 27) (lc' := [(4, .int (-1)), (2, .long xc1), (0, .ref 9), (1, .ref 41)]) (stk' := []) (mem' := cm gc1 lc1 a b R) (by intro _ _ _; eq_refl) ?_
    rw [show (fx_cb .ge (-1) 0) = false from by decide]
    dsimp only [cond]
    refine he_s 2 (pc' := 29) (lc' := [(4, .int (-1)), (2, .long xc1), (0, .ref 9), (1, .ref 41)]) (stk' := [.int 3, .ref 9]) (mem' := cm gc1 lc1 a b R) (by intro _ _ _; eq_refl) ?_
    refine he_ivV (ha_failq (a := a) (b := b) (R := R) (x := 3) hmc1) (by omega) (by rfl) (by rfl) (by rfl) (by rfl) (by rfl) (by rfl) ?_
    refine he_s 1 (pc' := 34) (lc' := [(4, .int (-1)), (2, .long xc1), (0, .ref 9), (1, .ref 41)]) (stk' := [.int (-1)]) (mem' := cm gc1 lc1 a b R) (by intro _ _ _; eq_refl) ?_
    have hz9 := hAc1.2.1
    exact he_ret ⟨_, _, _, hfc1, hmc1, sp_n1b, rfl⟩ (by rfl) (by rfl) (by rfl)
  · refine he_s 2 (pc' := 17) (lc' := [(2, .long xc1), (0, .ref 9), (1, .ref 41)]) (stk' := [.long xc1, .ref 41]) (mem' := cm gc1 lc1 a b R) (by intro _ _ _; eq_refl) ?_
    obtain ⟨wc4, hrc4, hic4⟩ := ha_nam41 (g := gc1) (l := lc1) (a := a) (b := b) (R := R) (x := xc1) hAc1.1 hAc1.2.1
    refine he_ivV hrc4 (by omega) (by rfl) (by rfl) (by rfl) (by rfl) (by rfl) (by rfl) ?_
    have hbc4 := sp_is_b hic4 (by have := hAc1.2.1; omega)
    refine he_s 2 (pc' := 24) (lc' := [(4, .int wc4), (2, .long xc1), (0, .ref 9), (1, .ref 41)]) (stk' := [.int wc4]) (mem' := cm gc1 lc1 a b R) (by intro _ _ _; eq_refl) ?_
    refine he_s 1 (pc' := cond (fx_cb .ge wc4 0) 32 27) (lc' := [(4, .int wc4), (2, .long xc1), (0, .ref 9), (1, .ref 41)]) (stk' := []) (mem' := cm gc1 lc1 a b R) (by intro _ _ _; eq_refl) ?_
    cases y5 : fx_cb .ge wc4 0
    · refine he_s 2 (pc' := 29) (lc' := [(4, .int wc4), (2, .long xc1), (0, .ref 9), (1, .ref 41)]) (stk' := [.int 3, .ref 9]) (mem' := cm gc1 lc1 a b R) (by intro _ _ _; eq_refl) ?_
      refine he_ivV (ha_failq (a := a) (b := b) (R := R) (x := 3) hmc1) (by omega) (by rfl) (by rfl) (by rfl) (by rfl) (by rfl) (by rfl) ?_
      refine he_s 1 (pc' := 34) (lc' := [(4, .int wc4), (2, .long xc1), (0, .ref 9), (1, .ref 41)]) (stk' := [.int wc4]) (mem' := cm gc1 lc1 a b R) (by intro _ _ _; eq_refl) ?_
      have hz9 := hAc1.2.1
      exact he_ret ⟨_, _, _, hfc1, hmc1, hbc4, rfl⟩ (by rfl) (by rfl) (by rfl)
    · refine he_s 1 (pc' := 34) (lc' := [(4, .int wc4), (2, .long xc1), (0, .ref 9), (1, .ref 41)]) (stk' := [.int wc4]) (mem' := cm gc1 lc1 a b R) (by intro _ _ _; eq_refl) ?_
      have hz9 := hAc1.2.1
      exact he_ret ⟨_, _, _, hfc1, hmc1, hbc4, rfl⟩ (by rfl) (by rfl) (by rfl)
theorem ha_ch150 {A : sp_A} (hg : ctx a b T n) (hA : cn_L 15 A g b) (h : co g l T n p) : ∃ (v : Option Value) (mem' : fx_M), (fun R1 => ∃ (v : Int32) (g' : Nat → Nat → Int32), cfr g l g' l ∧ ((sp_nm T n p ∧ sp_iC A.1.1 (sp_wd T n p) < A.1.1.length ∧ v = nI (sp_iC A.1.1 (sp_wd T n p)) ∧ co g' l T n p) ∨ (sp_nm T n p ∧ ¬ sp_iC A.1.1 (sp_wd T n p) < A.1.1.length ∧ v = -1 ∧ cq g' l T n 3 (sp_s T n p)) ∨ (¬ sp_nm T n p ∧ v = -1 ∧ cq g' l T n (sp_m T n p) (sp_s T n p))) ∧ R1 = (some (.int v), cm g' l a b R)) (v, mem') ∧ hr_T 4 113 [.ref 9, .ref 15] (cm g l a b R) v mem' := by
  refine he_meth (F := fun R1 => ∃ (v : Int32) (g' : Nat → Nat → Int32), cfr g l g' l ∧ ((sp_nm T n p ∧ sp_iC A.1.1 (sp_wd T n p) < A.1.1.length ∧ v = nI (sp_iC A.1.1 (sp_wd T n p)) ∧ co g' l T n p) ∨ (sp_nm T n p ∧ ¬ sp_iC A.1.1 (sp_wd T n p) < A.1.1.length ∧ v = -1 ∧ cq g' l T n 3 (sp_s T n p)) ∨ (¬ sp_nm T n p ∧ v = -1 ∧ cq g' l T n (sp_m T n p) (sp_s T n p))) ∧ R1 = (some (.int v), cm g' l a b R)) (M := gk_m113) (by rfl) (by rfl) ?_
  refine he_s 1 (pc' := 1) (lc' := [(0, .ref 9), (1, .ref 15)]) (stk' := [.ref 9]) (mem' := cm g l a b R) (by intro _ _ _; eq_refl) ?_
  obtain ⟨vc1, memc1, ⟨xc1, gc1, frc1, hxc1, hRc1⟩, hrc1⟩ := ha_nh0 (R := R) hg h
  cases hRc1
  refine he_ivV hrc1 (by omega) (by rfl) (by rfl) (by rfl) (by rfl) (by rfl) (by rfl) ?_
  have hfc1 := cfr_tr cfr_rf frc1
  have hAc1 := cn_L_fr hA frc1 (by decide) (by decide)
  rcases hxc1 with ⟨nm, rfl, hmc1⟩ | ⟨nm, rfl, hmc1⟩
  · obtain ⟨lo1, lo2⟩ := sp_nm_lt h.1 nm
    have hpos : ¬ Int64.ofNat (sp_cd (sp_wd T n p)) = 0 := fun e => by
      have hl := sp_n_lt h.1 (Or.inl nm.1)
      have h1 := sp_cd_pos lo1 (fun y => by have := sp_wd_len (T := T) (n := n) (p := p); rw [y] at this; have : 0 = _ := this; omega)
      have := sp_i64 (sp_cd_63 lo1 lo2) (by decide) (show Int64.ofNat (sp_cd (sp_wd T n p)) = Int64.ofNat 0 from e)
      omega
    refine he_s 4 (pc' := 8) (lc' := [(2, .long (Int64.ofNat (sp_cd (sp_wd T n p)))), (0, .ref 9), (1, .ref 15)]) (stk' := [.int (lg_cmp (Int64.ofNat (sp_cd (sp_wd T n p))) 0)]) (mem' := cm gc1 l a b R) (by intro _ _ _; eq_refl) ?_
    refine he_s 1 (pc' := cond (fx_cb .ne (lg_cmp (Int64.ofNat (sp_cd (sp_wd T n p))) 0) 0) 15 11) (lc' := [(2, .long (Int64.ofNat (sp_cd (sp_wd T n p)))), (0, .ref 9), (1, .ref 15)]) (stk' := []) (mem' := cm gc1 l a b R) (by intro _ _ _; eq_refl) ?_
    rw [show (fx_cb .ne (lg_cmp (Int64.ofNat (sp_cd (sp_wd T n p))) 0) 0) = true from lg_neT hpos]
    dsimp only [cond]
    refine he_s 2 (pc' := 17) (lc' := [(2, .long (Int64.ofNat (sp_cd (sp_wd T n p)))), (0, .ref 9), (1, .ref 15)]) (stk' := [.long (Int64.ofNat (sp_cd (sp_wd T n p))), .ref 15]) (mem' := cm gc1 l a b R) (by intro _ _ _; eq_refl) ?_
    obtain ⟨wc2, hrc2, hic2⟩ := ha_nam15 (g := gc1) (l := l) (a := a) (b := b) (R := R) (x := Int64.ofNat (sp_cd (sp_wd T n p))) hAc1.1 hAc1.2.1
    refine he_ivV hrc2 (by omega) (by rfl) (by rfl) (by rfl) (by rfl) (by rfl) (by rfl) ?_
    have hzc2 := sp_fxC hAc1.2.2.2.2.1 lo1 lo2 (by rw [List.length_map]; exact hic2)
    rw [List.length_map, sp_iC_map] at hzc2
    rcases hzc2 with ⟨hz, rfl⟩ | ⟨hz, rfl⟩
    · refine he_s 2 (pc' := 24) (lc' := [(4, .int (-1)), (2, .long (Int64.ofNat (sp_cd (sp_wd T n p)))), (0, .ref 9), (1, .ref 15)]) (stk' := [.int (-1)]) (mem' := cm gc1 l a b R) (by intro _ _ _; eq_refl) ?_
      refine he_s 1 (pc' := cond (fx_cb .ge (-1) 0) 32 27) (lc' := [(4, .int (-1)), (2, .long (Int64.ofNat (sp_cd (sp_wd T n p)))), (0, .ref 9), (1, .ref 15)]) (stk' := []) (mem' := cm gc1 l a b R) (by intro _ _ _; eq_refl) ?_
      rw [show (fx_cb .ge (-1) 0) = false from by decide]
      dsimp only [cond]
      refine he_s 2 (pc' := 29) (lc' := [(4, .int (-1)), (2, .long (Int64.ofNat (sp_cd (sp_wd T n p)))), (0, .ref 9), (1, .ref 15)]) (stk' := [.int 3, .ref 9]) (mem' := cm gc1 l a b R) (by intro _ _ _; eq_refl) ?_
      obtain ⟨gc3, hrc3, hmc3, frc3⟩ := ha_fail (a := a) (b := b) (R := R) (x := 3) hmc1 (by decide)
      refine he_ivV hrc3 (by omega) (by rfl) (by rfl) (by rfl) (by rfl) (by rfl) (by rfl) ?_
      have hfc3 := cfr_tr hfc1 frc3
      refine he_s 1 (pc' := 34) (lc' := [(4, .int (-1)), (2, .long (Int64.ofNat (sp_cd (sp_wd T n p)))), (0, .ref 9), (1, .ref 15)]) (stk' := [.int (-1)]) (mem' := cm gc3 l a b R) (by intro _ _ _; eq_refl) ?_
      exact he_ret ⟨_, _, hfc3, Or.inr (Or.inl ⟨nm, by omega, rfl, hmc3⟩), rfl⟩ (by rfl) (by rfl) (by rfl)
    · have hz9 := hAc1.2.1
      refine he_s 2 (pc' := 24) (lc' := [(4, .int (nI (sp_iC A.1.1 (sp_wd T n p)))), (2, .long (Int64.ofNat (sp_cd (sp_wd T n p)))), (0, .ref 9), (1, .ref 15)]) (stk' := [.int (nI (sp_iC A.1.1 (sp_wd T n p)))]) (mem' := cm gc1 l a b R) (by intro _ _ _; eq_refl) ?_
      refine he_s 1 (pc' := cond (fx_cb .ge (nI (sp_iC A.1.1 (sp_wd T n p))) 0) 32 27) (lc' := [(4, .int (nI (sp_iC A.1.1 (sp_wd T n p)))), (2, .long (Int64.ofNat (sp_cd (sp_wd T n p)))), (0, .ref 9), (1, .ref 15)]) (stk' := []) (mem' := cm gc1 l a b R) (by intro _ _ _; eq_refl) ?_
      rw [show (fx_cb .ge (nI (sp_iC A.1.1 (sp_wd T n p))) 0) = true from cb_geT (a := (sp_iC A.1.1 (sp_wd T n p))) (b := 0) (by omega) (by omega) (by omega)]
      dsimp only [cond]
      refine he_s 1 (pc' := 34) (lc' := [(4, .int (nI (sp_iC A.1.1 (sp_wd T n p)))), (2, .long (Int64.ofNat (sp_cd (sp_wd T n p)))), (0, .ref 9), (1, .ref 15)]) (stk' := [.int (nI (sp_iC A.1.1 (sp_wd T n p)))]) (mem' := cm gc1 l a b R) (by intro _ _ _; eq_refl) ?_
      exact he_ret ⟨_, _, hfc1, Or.inl ⟨nm, hz, rfl, hmc1⟩, rfl⟩ (by rfl) (by rfl) (by rfl)
  · refine he_s 4 (pc' := 8) (lc' := [(2, .long 0), (0, .ref 9), (1, .ref 15)]) (stk' := [.int (lg_cmp 0 0)]) (mem' := cm gc1 l a b R) (by intro _ _ _; eq_refl) ?_
    refine he_s 1 (pc' := cond (fx_cb .ne (lg_cmp 0 0) 0) 15 11) (lc' := [(2, .long 0), (0, .ref 9), (1, .ref 15)]) (stk' := []) (mem' := cm gc1 l a b R) (by intro _ _ _; eq_refl) ?_
    rw [show (fx_cb .ne (lg_cmp 0 0) 0) = false from (by decide)]
    dsimp only [cond]
    refine he_s 4 (pc' := 24) (lc' := [(4, .int (-1)), (2, .long 0), (0, .ref 9), (1, .ref 15)]) (stk' := [.int (-1)]) (mem' := cm gc1 l a b R) (by intro _ _ _; eq_refl) ?_
    refine he_s 1 (pc' := cond (fx_cb .ge (-1) 0) 32 27) (lc' := [(4, .int (-1)), (2, .long 0), (0, .ref 9), (1, .ref 15)]) (stk' := []) (mem' := cm gc1 l a b R) (by intro _ _ _; eq_refl) ?_
    rw [show (fx_cb .ge (-1) 0) = false from by decide]
    dsimp only [cond]
    refine he_s 2 (pc' := 29) (lc' := [(4, .int (-1)), (2, .long 0), (0, .ref 9), (1, .ref 15)]) (stk' := [.int 3, .ref 9]) (mem' := cm gc1 l a b R) (by intro _ _ _; eq_refl) ?_
    refine he_ivV (ha_failq (a := a) (b := b) (R := R) (x := 3) hmc1) (by omega) (by rfl) (by rfl) (by rfl) (by rfl) (by rfl) (by rfl) ?_
    refine he_s 1 (pc' := 34) (lc' := [(4, .int (-1)), (2, .long 0), (0, .ref 9), (1, .ref 15)]) (stk' := [.int (-1)]) (mem' := cm gc1 l a b R) (by intro _ _ _; eq_refl) ?_
    exact he_ret ⟨_, _, hfc1, Or.inr (Or.inr ⟨nm, rfl, hmc1⟩), rfl⟩ (by rfl) (by rfl) (by rfl)
theorem ha_ch15q0 {A : sp_A} (hg : ctx a b T n) (hA : cn_L 15 A g b) (h : cq g l T n F P) : ∃ (v : Option Value) (mem' : fx_M), (fun R1 => ∃ (v : Int32) (g' : Nat → Nat → Int32) (l' : Nat → Nat → Int64), cfr g l g' l' ∧ cq g' l' T n F P ∧ (-1 ≤ v.toInt ∧ v.toInt < (A.1.1.length : Int)) ∧ R1 = (some (.int v), cm g' l' a b R)) (v, mem') ∧ hr_T 4 113 [.ref 9, .ref 15] (cm g l a b R) v mem' := by
  refine he_meth (F := fun R1 => ∃ (v : Int32) (g' : Nat → Nat → Int32) (l' : Nat → Nat → Int64), cfr g l g' l' ∧ cq g' l' T n F P ∧ (-1 ≤ v.toInt ∧ v.toInt < (A.1.1.length : Int)) ∧ R1 = (some (.int v), cm g' l' a b R)) (M := gk_m113) (by rfl) (by rfl) ?_
  refine he_s 1 (pc' := 1) (lc' := [(0, .ref 9), (1, .ref 15)]) (stk' := [.ref 9]) (mem' := cm g l a b R) (by intro _ _ _; eq_refl) ?_
  obtain ⟨vc1, memc1, ⟨gc1, lc1, xc1, frc1, hmc1, hRc1⟩, hrc1⟩ := ha_nhq0 (R := R) hg h
  cases hRc1
  refine he_ivV hrc1 (by omega) (by rfl) (by rfl) (by rfl) (by rfl) (by rfl) (by rfl) ?_
  have hfc1 := cfr_tr cfr_rf frc1
  have hAc1 := cn_L_fr hA frc1 (by decide) (by decide)
  refine he_s 4 (pc' := 8) (lc' := [(2, .long xc1), (0, .ref 9), (1, .ref 15)]) (stk' := [.int (lg_cmp xc1 0)]) (mem' := cm gc1 lc1 a b R) (by intro _ _ _; eq_refl) ?_
  refine he_s 1 (pc' := cond (fx_cb .ne (lg_cmp xc1 0) 0) 15 11) (lc' := [(2, .long xc1), (0, .ref 9), (1, .ref 15)]) (stk' := []) (mem' := cm gc1 lc1 a b R) (by intro _ _ _; eq_refl) ?_
  cases y2 : fx_cb .ne (lg_cmp xc1 0) 0
  · refine he_s 4 (pc' := 24) (lc' := [(4, .int (-1)), (2, .long xc1), (0, .ref 9), (1, .ref 15)]) (stk' := [.int (-1)]) (mem' := cm gc1 lc1 a b R) (by intro _ _ _; eq_refl) ?_
    refine he_s 1 (pc' := cond (fx_cb .ge (-1) 0) 32 27) (lc' := [(4, .int (-1)), (2, .long xc1), (0, .ref 9), (1, .ref 15)]) (stk' := []) (mem' := cm gc1 lc1 a b R) (by intro _ _ _; eq_refl) ?_
    rw [show (fx_cb .ge (-1) 0) = false from by decide]
    dsimp only [cond]
    refine he_s 2 (pc' := 29) (lc' := [(4, .int (-1)), (2, .long xc1), (0, .ref 9), (1, .ref 15)]) (stk' := [.int 3, .ref 9]) (mem' := cm gc1 lc1 a b R) (by intro _ _ _; eq_refl) ?_
    refine he_ivV (ha_failq (a := a) (b := b) (R := R) (x := 3) hmc1) (by omega) (by rfl) (by rfl) (by rfl) (by rfl) (by rfl) (by rfl) ?_
    refine he_s 1 (pc' := 34) (lc' := [(4, .int (-1)), (2, .long xc1), (0, .ref 9), (1, .ref 15)]) (stk' := [.int (-1)]) (mem' := cm gc1 lc1 a b R) (by intro _ _ _; eq_refl) ?_
    have hz9 := hAc1.2.1
    exact he_ret ⟨_, _, _, hfc1, hmc1, sp_n1b, rfl⟩ (by rfl) (by rfl) (by rfl)
  · refine he_s 2 (pc' := 17) (lc' := [(2, .long xc1), (0, .ref 9), (1, .ref 15)]) (stk' := [.long xc1, .ref 15]) (mem' := cm gc1 lc1 a b R) (by intro _ _ _; eq_refl) ?_
    obtain ⟨wc4, hrc4, hic4⟩ := ha_nam15 (g := gc1) (l := lc1) (a := a) (b := b) (R := R) (x := xc1) hAc1.1 hAc1.2.1
    refine he_ivV hrc4 (by omega) (by rfl) (by rfl) (by rfl) (by rfl) (by rfl) (by rfl) ?_
    have hbc4 := sp_is_b hic4 (by have := hAc1.2.1; omega)
    refine he_s 2 (pc' := 24) (lc' := [(4, .int wc4), (2, .long xc1), (0, .ref 9), (1, .ref 15)]) (stk' := [.int wc4]) (mem' := cm gc1 lc1 a b R) (by intro _ _ _; eq_refl) ?_
    refine he_s 1 (pc' := cond (fx_cb .ge wc4 0) 32 27) (lc' := [(4, .int wc4), (2, .long xc1), (0, .ref 9), (1, .ref 15)]) (stk' := []) (mem' := cm gc1 lc1 a b R) (by intro _ _ _; eq_refl) ?_
    cases y5 : fx_cb .ge wc4 0
    · refine he_s 2 (pc' := 29) (lc' := [(4, .int wc4), (2, .long xc1), (0, .ref 9), (1, .ref 15)]) (stk' := [.int 3, .ref 9]) (mem' := cm gc1 lc1 a b R) (by intro _ _ _; eq_refl) ?_
      refine he_ivV (ha_failq (a := a) (b := b) (R := R) (x := 3) hmc1) (by omega) (by rfl) (by rfl) (by rfl) (by rfl) (by rfl) (by rfl) ?_
      refine he_s 1 (pc' := 34) (lc' := [(4, .int wc4), (2, .long xc1), (0, .ref 9), (1, .ref 15)]) (stk' := [.int wc4]) (mem' := cm gc1 lc1 a b R) (by intro _ _ _; eq_refl) ?_
      have hz9 := hAc1.2.1
      exact he_ret ⟨_, _, _, hfc1, hmc1, hbc4, rfl⟩ (by rfl) (by rfl) (by rfl)
    · refine he_s 1 (pc' := 34) (lc' := [(4, .int wc4), (2, .long xc1), (0, .ref 9), (1, .ref 15)]) (stk' := [.int wc4]) (mem' := cm gc1 lc1 a b R) (by intro _ _ _; eq_refl) ?_
      have hz9 := hAc1.2.1
      exact he_ret ⟨_, _, _, hfc1, hmc1, hbc4, rfl⟩ (by rfl) (by rfl) (by rfl)
theorem ha_wh150 {A : sp_A} (hg : ctx a b T n) (hA : cn_L 15 A g b) (h : co g l T n p) : ∃ (v : Option Value) (mem' : fx_M), (fun R1 => ∃ (v : Int32) (g' : Nat → Nat → Int32), cfr g l g' l ∧ ((sp_nm T n p ∧ sp_iW A.1.2 (sp_wd T n p) < A.1.2.length ∧ v = nI (sp_iW A.1.2 (sp_wd T n p)) ∧ co g' l T n p) ∨ (sp_nm T n p ∧ ¬ sp_iW A.1.2 (sp_wd T n p) < A.1.2.length ∧ v = -1 ∧ cq g' l T n 3 (sp_s T n p)) ∨ (¬ sp_nm T n p ∧ v = -1 ∧ cq g' l T n (sp_m T n p) (sp_s T n p))) ∧ R1 = (some (.int v), cm g' l a b R)) (v, mem') ∧ hr_T 4 114 [.ref 9, .ref 15] (cm g l a b R) v mem' := by
  refine he_meth (F := fun R1 => ∃ (v : Int32) (g' : Nat → Nat → Int32), cfr g l g' l ∧ ((sp_nm T n p ∧ sp_iW A.1.2 (sp_wd T n p) < A.1.2.length ∧ v = nI (sp_iW A.1.2 (sp_wd T n p)) ∧ co g' l T n p) ∨ (sp_nm T n p ∧ ¬ sp_iW A.1.2 (sp_wd T n p) < A.1.2.length ∧ v = -1 ∧ cq g' l T n 3 (sp_s T n p)) ∨ (¬ sp_nm T n p ∧ v = -1 ∧ cq g' l T n (sp_m T n p) (sp_s T n p))) ∧ R1 = (some (.int v), cm g' l a b R)) (M := gk_m114) (by rfl) (by rfl) ?_
  refine he_s 1 (pc' := 1) (lc' := [(0, .ref 9), (1, .ref 15)]) (stk' := [.ref 9]) (mem' := cm g l a b R) (by intro _ _ _; eq_refl) ?_
  obtain ⟨vc1, memc1, ⟨xc1, gc1, frc1, hxc1, hRc1⟩, hrc1⟩ := ha_nh0 (R := R) hg h
  cases hRc1
  refine he_ivV hrc1 (by omega) (by rfl) (by rfl) (by rfl) (by rfl) (by rfl) (by rfl) ?_
  have hfc1 := cfr_tr cfr_rf frc1
  have hAc1 := cn_L_fr hA frc1 (by decide) (by decide)
  rcases hxc1 with ⟨nm, rfl, hmc1⟩ | ⟨nm, rfl, hmc1⟩
  · obtain ⟨lo1, lo2⟩ := sp_nm_lt h.1 nm
    have hpos : ¬ Int64.ofNat (sp_cd (sp_wd T n p)) = 0 := fun e => by
      have hl := sp_n_lt h.1 (Or.inl nm.1)
      have h1 := sp_cd_pos lo1 (fun y => by have := sp_wd_len (T := T) (n := n) (p := p); rw [y] at this; have : 0 = _ := this; omega)
      have := sp_i64 (sp_cd_63 lo1 lo2) (by decide) (show Int64.ofNat (sp_cd (sp_wd T n p)) = Int64.ofNat 0 from e)
      omega
    refine he_s 4 (pc' := 8) (lc' := [(2, .long (Int64.ofNat (sp_cd (sp_wd T n p)))), (0, .ref 9), (1, .ref 15)]) (stk' := [.int (lg_cmp (Int64.ofNat (sp_cd (sp_wd T n p))) 0)]) (mem' := cm gc1 l a b R) (by intro _ _ _; eq_refl) ?_
    refine he_s 1 (pc' := cond (fx_cb .ne (lg_cmp (Int64.ofNat (sp_cd (sp_wd T n p))) 0) 0) 15 11) (lc' := [(2, .long (Int64.ofNat (sp_cd (sp_wd T n p)))), (0, .ref 9), (1, .ref 15)]) (stk' := []) (mem' := cm gc1 l a b R) (by intro _ _ _; eq_refl) ?_
    rw [show (fx_cb .ne (lg_cmp (Int64.ofNat (sp_cd (sp_wd T n p))) 0) 0) = true from lg_neT hpos]
    dsimp only [cond]
    refine he_s 3 (pc' := 20) (lc' := [(2, .long (Int64.ofNat (sp_cd (sp_wd T n p)))), (0, .ref 9), (1, .ref 15)]) (stk' := [.long (Int64.ofNat (sp_cd (sp_wd T n p))), .ref 26]) (mem' := cm gc1 l a b R) (by intro _ _ _; eq_refl) ?_
    obtain ⟨wc2, hrc2, hic2⟩ := ha_cnam15 (g := gc1) (l := l) (a := a) (b := b) (R := R) (x := Int64.ofNat (sp_cd (sp_wd T n p))) hAc1.2.2.1 hAc1.2.2.2.1
    refine he_ivV hrc2 (by omega) (by rfl) (by rfl) (by rfl) (by rfl) (by rfl) (by rfl) ?_
    have hzc2 := sp_fxC hAc1.2.2.2.2.2 lo1 lo2 (by rw [List.length_map]; exact hic2)
    rw [List.length_map, sp_iW_map] at hzc2
    rcases hzc2 with ⟨hz, rfl⟩ | ⟨hz, rfl⟩
    · refine he_s 2 (pc' := 27) (lc' := [(4, .int (-1)), (2, .long (Int64.ofNat (sp_cd (sp_wd T n p)))), (0, .ref 9), (1, .ref 15)]) (stk' := [.int (-1)]) (mem' := cm gc1 l a b R) (by intro _ _ _; eq_refl) ?_
      refine he_s 1 (pc' := cond (fx_cb .ge (-1) 0) 35 30) (lc' := [(4, .int (-1)), (2, .long (Int64.ofNat (sp_cd (sp_wd T n p)))), (0, .ref 9), (1, .ref 15)]) (stk' := []) (mem' := cm gc1 l a b R) (by intro _ _ _; eq_refl) ?_
      rw [show (fx_cb .ge (-1) 0) = false from by decide]
      dsimp only [cond]
      refine he_s 2 (pc' := 32) (lc' := [(4, .int (-1)), (2, .long (Int64.ofNat (sp_cd (sp_wd T n p)))), (0, .ref 9), (1, .ref 15)]) (stk' := [.int 3, .ref 9]) (mem' := cm gc1 l a b R) (by intro _ _ _; eq_refl) ?_
      obtain ⟨gc3, hrc3, hmc3, frc3⟩ := ha_fail (a := a) (b := b) (R := R) (x := 3) hmc1 (by decide)
      refine he_ivV hrc3 (by omega) (by rfl) (by rfl) (by rfl) (by rfl) (by rfl) (by rfl) ?_
      have hfc3 := cfr_tr hfc1 frc3
      refine he_s 1 (pc' := 37) (lc' := [(4, .int (-1)), (2, .long (Int64.ofNat (sp_cd (sp_wd T n p)))), (0, .ref 9), (1, .ref 15)]) (stk' := [.int (-1)]) (mem' := cm gc3 l a b R) (by intro _ _ _; eq_refl) ?_
      exact he_ret ⟨_, _, hfc3, Or.inr (Or.inl ⟨nm, by omega, rfl, hmc3⟩), rfl⟩ (by rfl) (by rfl) (by rfl)
    · have hz9 := hAc1.2.2.2.1
      refine he_s 2 (pc' := 27) (lc' := [(4, .int (nI (sp_iW A.1.2 (sp_wd T n p)))), (2, .long (Int64.ofNat (sp_cd (sp_wd T n p)))), (0, .ref 9), (1, .ref 15)]) (stk' := [.int (nI (sp_iW A.1.2 (sp_wd T n p)))]) (mem' := cm gc1 l a b R) (by intro _ _ _; eq_refl) ?_
      refine he_s 1 (pc' := cond (fx_cb .ge (nI (sp_iW A.1.2 (sp_wd T n p))) 0) 35 30) (lc' := [(4, .int (nI (sp_iW A.1.2 (sp_wd T n p)))), (2, .long (Int64.ofNat (sp_cd (sp_wd T n p)))), (0, .ref 9), (1, .ref 15)]) (stk' := []) (mem' := cm gc1 l a b R) (by intro _ _ _; eq_refl) ?_
      rw [show (fx_cb .ge (nI (sp_iW A.1.2 (sp_wd T n p))) 0) = true from cb_geT (a := (sp_iW A.1.2 (sp_wd T n p))) (b := 0) (by omega) (by omega) (by omega)]
      dsimp only [cond]
      refine he_s 1 (pc' := 37) (lc' := [(4, .int (nI (sp_iW A.1.2 (sp_wd T n p)))), (2, .long (Int64.ofNat (sp_cd (sp_wd T n p)))), (0, .ref 9), (1, .ref 15)]) (stk' := [.int (nI (sp_iW A.1.2 (sp_wd T n p)))]) (mem' := cm gc1 l a b R) (by intro _ _ _; eq_refl) ?_
      exact he_ret ⟨_, _, hfc1, Or.inl ⟨nm, hz, rfl, hmc1⟩, rfl⟩ (by rfl) (by rfl) (by rfl)
  · refine he_s 4 (pc' := 8) (lc' := [(2, .long 0), (0, .ref 9), (1, .ref 15)]) (stk' := [.int (lg_cmp 0 0)]) (mem' := cm gc1 l a b R) (by intro _ _ _; eq_refl) ?_
    refine he_s 1 (pc' := cond (fx_cb .ne (lg_cmp 0 0) 0) 15 11) (lc' := [(2, .long 0), (0, .ref 9), (1, .ref 15)]) (stk' := []) (mem' := cm gc1 l a b R) (by intro _ _ _; eq_refl) ?_
    rw [show (fx_cb .ne (lg_cmp 0 0) 0) = false from (by decide)]
    dsimp only [cond]
    refine he_s 4 (pc' := 27) (lc' := [(4, .int (-1)), (2, .long 0), (0, .ref 9), (1, .ref 15)]) (stk' := [.int (-1)]) (mem' := cm gc1 l a b R) (by intro _ _ _; eq_refl) ?_
    refine he_s 1 (pc' := cond (fx_cb .ge (-1) 0) 35 30) (lc' := [(4, .int (-1)), (2, .long 0), (0, .ref 9), (1, .ref 15)]) (stk' := []) (mem' := cm gc1 l a b R) (by intro _ _ _; eq_refl) ?_
    rw [show (fx_cb .ge (-1) 0) = false from by decide]
    dsimp only [cond]
    refine he_s 2 (pc' := 32) (lc' := [(4, .int (-1)), (2, .long 0), (0, .ref 9), (1, .ref 15)]) (stk' := [.int 3, .ref 9]) (mem' := cm gc1 l a b R) (by intro _ _ _; eq_refl) ?_
    refine he_ivV (ha_failq (a := a) (b := b) (R := R) (x := 3) hmc1) (by omega) (by rfl) (by rfl) (by rfl) (by rfl) (by rfl) (by rfl) ?_
    refine he_s 1 (pc' := 37) (lc' := [(4, .int (-1)), (2, .long 0), (0, .ref 9), (1, .ref 15)]) (stk' := [.int (-1)]) (mem' := cm gc1 l a b R) (by intro _ _ _; eq_refl) ?_
    exact he_ret ⟨_, _, hfc1, Or.inr (Or.inr ⟨nm, rfl, hmc1⟩), rfl⟩ (by rfl) (by rfl) (by rfl)
theorem ha_wh15q0 {A : sp_A} (hg : ctx a b T n) (hA : cn_L 15 A g b) (h : cq g l T n F P) : ∃ (v : Option Value) (mem' : fx_M), (fun R1 => ∃ (v : Int32) (g' : Nat → Nat → Int32) (l' : Nat → Nat → Int64), cfr g l g' l' ∧ cq g' l' T n F P ∧ (-1 ≤ v.toInt ∧ v.toInt < (A.1.2.length : Int)) ∧ R1 = (some (.int v), cm g' l' a b R)) (v, mem') ∧ hr_T 4 114 [.ref 9, .ref 15] (cm g l a b R) v mem' := by
  refine he_meth (F := fun R1 => ∃ (v : Int32) (g' : Nat → Nat → Int32) (l' : Nat → Nat → Int64), cfr g l g' l' ∧ cq g' l' T n F P ∧ (-1 ≤ v.toInt ∧ v.toInt < (A.1.2.length : Int)) ∧ R1 = (some (.int v), cm g' l' a b R)) (M := gk_m114) (by rfl) (by rfl) ?_
  refine he_s 1 (pc' := 1) (lc' := [(0, .ref 9), (1, .ref 15)]) (stk' := [.ref 9]) (mem' := cm g l a b R) (by intro _ _ _; eq_refl) ?_
  obtain ⟨vc1, memc1, ⟨gc1, lc1, xc1, frc1, hmc1, hRc1⟩, hrc1⟩ := ha_nhq0 (R := R) hg h
  cases hRc1
  refine he_ivV hrc1 (by omega) (by rfl) (by rfl) (by rfl) (by rfl) (by rfl) (by rfl) ?_
  have hfc1 := cfr_tr cfr_rf frc1
  have hAc1 := cn_L_fr hA frc1 (by decide) (by decide)
  refine he_s 4 (pc' := 8) (lc' := [(2, .long xc1), (0, .ref 9), (1, .ref 15)]) (stk' := [.int (lg_cmp xc1 0)]) (mem' := cm gc1 lc1 a b R) (by intro _ _ _; eq_refl) ?_
  refine he_s 1 (pc' := cond (fx_cb .ne (lg_cmp xc1 0) 0) 15 11) (lc' := [(2, .long xc1), (0, .ref 9), (1, .ref 15)]) (stk' := []) (mem' := cm gc1 lc1 a b R) (by intro _ _ _; eq_refl) ?_
  cases y2 : fx_cb .ne (lg_cmp xc1 0) 0
  · refine he_s 4 (pc' := 27) (lc' := [(4, .int (-1)), (2, .long xc1), (0, .ref 9), (1, .ref 15)]) (stk' := [.int (-1)]) (mem' := cm gc1 lc1 a b R) (by intro _ _ _; eq_refl) ?_
    refine he_s 1 (pc' := cond (fx_cb .ge (-1) 0) 35 30) (lc' := [(4, .int (-1)), (2, .long xc1), (0, .ref 9), (1, .ref 15)]) (stk' := []) (mem' := cm gc1 lc1 a b R) (by intro _ _ _; eq_refl) ?_
    rw [show (fx_cb .ge (-1) 0) = false from by decide]
    dsimp only [cond]
    refine he_s 2 (pc' := 32) (lc' := [(4, .int (-1)), (2, .long xc1), (0, .ref 9), (1, .ref 15)]) (stk' := [.int 3, .ref 9]) (mem' := cm gc1 lc1 a b R) (by intro _ _ _; eq_refl) ?_
    refine he_ivV (ha_failq (a := a) (b := b) (R := R) (x := 3) hmc1) (by omega) (by rfl) (by rfl) (by rfl) (by rfl) (by rfl) (by rfl) ?_
    refine he_s 1 (pc' := 37) (lc' := [(4, .int (-1)), (2, .long xc1), (0, .ref 9), (1, .ref 15)]) (stk' := [.int (-1)]) (mem' := cm gc1 lc1 a b R) (by intro _ _ _; eq_refl) ?_
    have hz9 := hAc1.2.2.2.1
    exact he_ret ⟨_, _, _, hfc1, hmc1, sp_n1b, rfl⟩ (by rfl) (by rfl) (by rfl)
  · refine he_s 3 (pc' := 20) (lc' := [(2, .long xc1), (0, .ref 9), (1, .ref 15)]) (stk' := [.long xc1, .ref 26]) (mem' := cm gc1 lc1 a b R) (by intro _ _ _; eq_refl) ?_
    obtain ⟨wc4, hrc4, hic4⟩ := ha_cnam15 (g := gc1) (l := lc1) (a := a) (b := b) (R := R) (x := xc1) hAc1.2.2.1 hAc1.2.2.2.1
    refine he_ivV hrc4 (by omega) (by rfl) (by rfl) (by rfl) (by rfl) (by rfl) (by rfl) ?_
    have hbc4 := sp_is_b hic4 (by have := hAc1.2.2.2.1; omega)
    refine he_s 2 (pc' := 27) (lc' := [(4, .int wc4), (2, .long xc1), (0, .ref 9), (1, .ref 15)]) (stk' := [.int wc4]) (mem' := cm gc1 lc1 a b R) (by intro _ _ _; eq_refl) ?_
    refine he_s 1 (pc' := cond (fx_cb .ge wc4 0) 35 30) (lc' := [(4, .int wc4), (2, .long xc1), (0, .ref 9), (1, .ref 15)]) (stk' := []) (mem' := cm gc1 lc1 a b R) (by intro _ _ _; eq_refl) ?_
    cases y5 : fx_cb .ge wc4 0
    · refine he_s 2 (pc' := 32) (lc' := [(4, .int wc4), (2, .long xc1), (0, .ref 9), (1, .ref 15)]) (stk' := [.int 3, .ref 9]) (mem' := cm gc1 lc1 a b R) (by intro _ _ _; eq_refl) ?_
      refine he_ivV (ha_failq (a := a) (b := b) (R := R) (x := 3) hmc1) (by omega) (by rfl) (by rfl) (by rfl) (by rfl) (by rfl) (by rfl) ?_
      refine he_s 1 (pc' := 37) (lc' := [(4, .int wc4), (2, .long xc1), (0, .ref 9), (1, .ref 15)]) (stk' := [.int wc4]) (mem' := cm gc1 lc1 a b R) (by intro _ _ _; eq_refl) ?_
      have hz9 := hAc1.2.2.2.1
      exact he_ret ⟨_, _, _, hfc1, hmc1, hbc4, rfl⟩ (by rfl) (by rfl) (by rfl)
    · refine he_s 1 (pc' := 37) (lc' := [(4, .int wc4), (2, .long xc1), (0, .ref 9), (1, .ref 15)]) (stk' := [.int wc4]) (mem' := cm gc1 lc1 a b R) (by intro _ _ _; eq_refl) ?_
      have hz9 := hAc1.2.2.2.1
      exact he_ret ⟨_, _, _, hfc1, hmc1, hbc4, rfl⟩ (by rfl) (by rfl) (by rfl)
end CNM
