/-! ===== fx: the LAKE kept for a try ===== -/
section FKP
variable {g : Nat → Int32} {tp bt : Int64} {a0 a : Nat → Nat → Int32} {b : Nat → Nat → Int64}
theorem fr_keeps4210 : ∃ (v : Option Value) (mem' : fx_M), (fun R => ∃ a' : Nat → Nat → Int32, fm_K a a' 4210 ∧ R = (none, fm g tp bt a' b)) (v, mem') ∧ fr_T 1 325 [.ref 0, .int 4210] (fm g tp bt a b) v mem' := by
  refine fe_meth (F := fun R => ∃ a' : Nat → Nat → Int32, fm_K a a' 4210 ∧ R = (none, fm g tp bt a' b)) (M := gk_m325) (by rfl) (by rfl) ?_
  have loop : ∀ (r k : Nat), k + r = 478 → ∀ a' : Nat → Nat → Int32, (∀ t, t ≠ 1 → a' t = a t) → (∀ i, ¬ (4210 ≤ i ∧ i < 4210 + k) → a' 1 i = a 1 i) → (∀ i, i < k → a' 1 (4210 + i) = a 1 i) → fe_R 0 gk_m325 2 [(2, .int (nI k)), (0, .ref 0), (1, .int 4210)] [] (fm g tp bt a' b) (fun R => ∃ a' : Nat → Nat → Int32, fm_K a a' 4210 ∧ R = (none, fm g tp bt a' b)) := by
    intro r
    induction r with
    | zero =>
      intro k hk a' h1 h2 h3
      obtain rfl : k = 478 := by omega
      refine fe_s 2 (pc' := 6) (lc' := [(2, .int (nI 478)), (0, .ref 0), (1, .int 4210)]) (stk' := [.int 478, .int (nI 478)]) (mem' := fm g tp bt a' b) (fun _ _ _ => rfl) ?_
      refine fe_s 1 (pc' := cond (fx_cb .ge (nI 478) 478) 29 9) (lc' := [(2, .int (nI 478)), (0, .ref 0), (1, .int 4210)]) (stk' := []) (mem' := fm g tp bt a' b) (fun _ _ _ => rfl) ?_
      rw [show (fx_cb .ge (nI 478) 478) = true from cb_geT (a := 478) (b := 478) (by omega) (by omega) (by omega)]
      dsimp only [cond]
      exact fe_ret ⟨a', ⟨h1, h2, h3⟩, rfl⟩ (by rfl) (by rfl) (by rfl)
    | succ r ih =>
      intro k hk a' h1 h2 h3
      refine fe_s 2 (pc' := 6) (lc' := [(2, .int (nI k)), (0, .ref 0), (1, .int 4210)]) (stk' := [.int 478, .int (nI k)]) (mem' := fm g tp bt a' b) (fun _ _ _ => rfl) ?_
      refine fe_s 1 (pc' := cond (fx_cb .ge (nI k) 478) 29 9) (lc' := [(2, .int (nI k)), (0, .ref 0), (1, .int 4210)]) (stk' := []) (mem' := fm g tp bt a' b) (fun _ _ _ => rfl) ?_
      rw [show (fx_cb .ge (nI k) 478) = false from cb_geF (a := k) (b := 478) (by omega) (by omega) (by omega)]
      dsimp only [cond]
      refine fe_s 8 (pc' := 21) (lc' := [(2, .int (nI k)), (0, .ref 0), (1, .int 4210)]) (stk' := [.int (nI k), .ref 1, .int (4210 + (nI k)), .ref 1]) (mem' := fm g tp bt a' b) (fun _ _ _ => rfl) ?_
      rw [show (4210 + (nI k) : Int32) = nI (4210 + k) from by simp only [show (4210 : Int32) = nI 4210 from rfl, nI_add, fm_mul]]
      refine fe_ldI (by rfl) (by rfl) (fx_inN (i := k) (by omega) (by omega)) ?_
      rw [show Int32.toNatClampNeg (nI k) = k from nI_clamp (by omega)]
      refine fe_stI (mem' := fm g tp bt (fm_u a' 1 (nI (4210 + k) : Int32).toNatClampNeg (a' 1 k)) b) (by rfl) (by rfl) (fx_inN (i := 4210 + k) (by omega) (by omega)) (by rfl) ?_
      rw [show Int32.toNatClampNeg (nI (4210 + k)) = 4210 + k from nI_clamp (by omega)]
      refine fe_s 2 (pc' := 2) (lc' := [(2, .int ((nI k) + 1)), (0, .ref 0), (1, .int 4210)]) (stk' := []) (mem' := fm g tp bt (fm_u a' 1 (4210 + k) (a' 1 k)) b) (fun _ _ _ => rfl) ?_
      rw [show ((nI k) + 1 : Int32) = nI (k + 1) from by simp only [show (1 : Int32) = nI 1 from rfl, nI_add, fm_mul]]
      refine ih (k + 1) (by omega) _ (fun t ht => by rw [fm_ut ht]; exact h1 t ht) (fun i hi => by rw [fm_u1, if_neg (by omega)]; exact h2 i (by omega)) (fun i hi => ?_)
      rw [fm_u1]
      by_cases e : i = k
      · rw [if_pos (by omega), h2 k (by omega), e]
      · rw [if_neg (by omega)]; exact h3 i (by omega)
  refine fe_s 2 (pc' := 2) (lc' := [(2, .int 0), (0, .ref 0), (1, .int 4210)]) (stk' := []) (mem' := fm g tp bt a b) (fun _ _ _ => rfl) ?_
  exact loop 478 0 (by omega) a (fun _ _ => rfl) (fun _ _ => rfl) (fun i hi => absurd hi (Nat.not_lt_zero i))
theorem fr_keeps5052 : ∃ (v : Option Value) (mem' : fx_M), (fun R => ∃ a' : Nat → Nat → Int32, fm_K a a' 5052 ∧ R = (none, fm g tp bt a' b)) (v, mem') ∧ fr_T 1 325 [.ref 0, .int 5052] (fm g tp bt a b) v mem' := by
  refine fe_meth (F := fun R => ∃ a' : Nat → Nat → Int32, fm_K a a' 5052 ∧ R = (none, fm g tp bt a' b)) (M := gk_m325) (by rfl) (by rfl) ?_
  have loop : ∀ (r k : Nat), k + r = 478 → ∀ a' : Nat → Nat → Int32, (∀ t, t ≠ 1 → a' t = a t) → (∀ i, ¬ (5052 ≤ i ∧ i < 5052 + k) → a' 1 i = a 1 i) → (∀ i, i < k → a' 1 (5052 + i) = a 1 i) → fe_R 0 gk_m325 2 [(2, .int (nI k)), (0, .ref 0), (1, .int 5052)] [] (fm g tp bt a' b) (fun R => ∃ a' : Nat → Nat → Int32, fm_K a a' 5052 ∧ R = (none, fm g tp bt a' b)) := by
    intro r
    induction r with
    | zero =>
      intro k hk a' h1 h2 h3
      obtain rfl : k = 478 := by omega
      refine fe_s 2 (pc' := 6) (lc' := [(2, .int (nI 478)), (0, .ref 0), (1, .int 5052)]) (stk' := [.int 478, .int (nI 478)]) (mem' := fm g tp bt a' b) (fun _ _ _ => rfl) ?_
      refine fe_s 1 (pc' := cond (fx_cb .ge (nI 478) 478) 29 9) (lc' := [(2, .int (nI 478)), (0, .ref 0), (1, .int 5052)]) (stk' := []) (mem' := fm g tp bt a' b) (fun _ _ _ => rfl) ?_
      rw [show (fx_cb .ge (nI 478) 478) = true from cb_geT (a := 478) (b := 478) (by omega) (by omega) (by omega)]
      dsimp only [cond]
      exact fe_ret ⟨a', ⟨h1, h2, h3⟩, rfl⟩ (by rfl) (by rfl) (by rfl)
    | succ r ih =>
      intro k hk a' h1 h2 h3
      refine fe_s 2 (pc' := 6) (lc' := [(2, .int (nI k)), (0, .ref 0), (1, .int 5052)]) (stk' := [.int 478, .int (nI k)]) (mem' := fm g tp bt a' b) (fun _ _ _ => rfl) ?_
      refine fe_s 1 (pc' := cond (fx_cb .ge (nI k) 478) 29 9) (lc' := [(2, .int (nI k)), (0, .ref 0), (1, .int 5052)]) (stk' := []) (mem' := fm g tp bt a' b) (fun _ _ _ => rfl) ?_
      rw [show (fx_cb .ge (nI k) 478) = false from cb_geF (a := k) (b := 478) (by omega) (by omega) (by omega)]
      dsimp only [cond]
      refine fe_s 8 (pc' := 21) (lc' := [(2, .int (nI k)), (0, .ref 0), (1, .int 5052)]) (stk' := [.int (nI k), .ref 1, .int (5052 + (nI k)), .ref 1]) (mem' := fm g tp bt a' b) (fun _ _ _ => rfl) ?_
      rw [show (5052 + (nI k) : Int32) = nI (5052 + k) from by simp only [show (5052 : Int32) = nI 5052 from rfl, nI_add, fm_mul]]
      refine fe_ldI (by rfl) (by rfl) (fx_inN (i := k) (by omega) (by omega)) ?_
      rw [show Int32.toNatClampNeg (nI k) = k from nI_clamp (by omega)]
      refine fe_stI (mem' := fm g tp bt (fm_u a' 1 (nI (5052 + k) : Int32).toNatClampNeg (a' 1 k)) b) (by rfl) (by rfl) (fx_inN (i := 5052 + k) (by omega) (by omega)) (by rfl) ?_
      rw [show Int32.toNatClampNeg (nI (5052 + k)) = 5052 + k from nI_clamp (by omega)]
      refine fe_s 2 (pc' := 2) (lc' := [(2, .int ((nI k) + 1)), (0, .ref 0), (1, .int 5052)]) (stk' := []) (mem' := fm g tp bt (fm_u a' 1 (5052 + k) (a' 1 k)) b) (fun _ _ _ => rfl) ?_
      rw [show ((nI k) + 1 : Int32) = nI (k + 1) from by simp only [show (1 : Int32) = nI 1 from rfl, nI_add, fm_mul]]
      refine ih (k + 1) (by omega) _ (fun t ht => by rw [fm_ut ht]; exact h1 t ht) (fun i hi => by rw [fm_u1, if_neg (by omega)]; exact h2 i (by omega)) (fun i hi => ?_)
      rw [fm_u1]
      by_cases e : i = k
      · rw [if_pos (by omega), h2 k (by omega), e]
      · rw [if_neg (by omega)]; exact h3 i (by omega)
  refine fe_s 2 (pc' := 2) (lc' := [(2, .int 0), (0, .ref 0), (1, .int 5052)]) (stk' := []) (mem' := fm g tp bt a b) (fun _ _ _ => rfl) ?_
  exact loop 478 0 (by omega) a (fun _ _ => rfl) (fun _ _ => rfl) (fun i hi => absurd hi (Nat.not_lt_zero i))
theorem fr_restores4210 : ∃ (v : Option Value) (mem' : fx_M), (fun R => ∃ a' : Nat → Nat → Int32, fm_Rs a a' 4210 ∧ R = (none, fm g tp bt a' b)) (v, mem') ∧ fr_T 1 326 [.ref 0, .int 4210] (fm g tp bt a b) v mem' := by
  refine fe_meth (F := fun R => ∃ a' : Nat → Nat → Int32, fm_Rs a a' 4210 ∧ R = (none, fm g tp bt a' b)) (M := gk_m326) (by rfl) (by rfl) ?_
  have loop : ∀ (r k : Nat), k + r = 478 → ∀ a' : Nat → Nat → Int32, (∀ t, t ≠ 1 → a' t = a t) → (∀ i, k ≤ i → a' 1 i = a 1 i) → (∀ i, i < k → a' 1 i = a 1 (4210 + i)) → fe_R 0 gk_m326 2 [(2, .int (nI k)), (0, .ref 0), (1, .int 4210)] [] (fm g tp bt a' b) (fun R => ∃ a' : Nat → Nat → Int32, fm_Rs a a' 4210 ∧ R = (none, fm g tp bt a' b)) := by
    intro r
    induction r with
    | zero =>
      intro k hk a' h1 h2 h3
      obtain rfl : k = 478 := by omega
      refine fe_s 2 (pc' := 6) (lc' := [(2, .int (nI 478)), (0, .ref 0), (1, .int 4210)]) (stk' := [.int 478, .int (nI 478)]) (mem' := fm g tp bt a' b) (fun _ _ _ => rfl) ?_
      refine fe_s 1 (pc' := cond (fx_cb .ge (nI 478) 478) 29 9) (lc' := [(2, .int (nI 478)), (0, .ref 0), (1, .int 4210)]) (stk' := []) (mem' := fm g tp bt a' b) (fun _ _ _ => rfl) ?_
      rw [show (fx_cb .ge (nI 478) 478) = true from cb_geT (a := 478) (b := 478) (by omega) (by omega) (by omega)]
      dsimp only [cond]
      exact fe_ret ⟨a', ⟨h1, h2, h3⟩, rfl⟩ (by rfl) (by rfl) (by rfl)
    | succ r ih =>
      intro k hk a' h1 h2 h3
      refine fe_s 2 (pc' := 6) (lc' := [(2, .int (nI k)), (0, .ref 0), (1, .int 4210)]) (stk' := [.int 478, .int (nI k)]) (mem' := fm g tp bt a' b) (fun _ _ _ => rfl) ?_
      refine fe_s 1 (pc' := cond (fx_cb .ge (nI k) 478) 29 9) (lc' := [(2, .int (nI k)), (0, .ref 0), (1, .int 4210)]) (stk' := []) (mem' := fm g tp bt a' b) (fun _ _ _ => rfl) ?_
      rw [show (fx_cb .ge (nI k) 478) = false from cb_geF (a := k) (b := 478) (by omega) (by omega) (by omega)]
      dsimp only [cond]
      refine fe_s 8 (pc' := 21) (lc' := [(2, .int (nI k)), (0, .ref 0), (1, .int 4210)]) (stk' := [.int (4210 + (nI k)), .ref 1, .int (nI k), .ref 1]) (mem' := fm g tp bt a' b) (fun _ _ _ => rfl) ?_
      rw [show (4210 + (nI k) : Int32) = nI (4210 + k) from by simp only [show (4210 : Int32) = nI 4210 from rfl, nI_add, fm_mul]]
      refine fe_ldI (by rfl) (by rfl) (fx_inN (i := 4210 + k) (by omega) (by omega)) ?_
      rw [show Int32.toNatClampNeg (nI (4210 + k)) = 4210 + k from nI_clamp (by omega)]
      refine fe_stI (mem' := fm g tp bt (fm_u a' 1 (nI k : Int32).toNatClampNeg (a' 1 (4210 + k))) b) (by rfl) (by rfl) (fx_inN (i := k) (by omega) (by omega)) (by rfl) ?_
      rw [show Int32.toNatClampNeg (nI k) = k from nI_clamp (by omega)]
      refine fe_s 2 (pc' := 2) (lc' := [(2, .int ((nI k) + 1)), (0, .ref 0), (1, .int 4210)]) (stk' := []) (mem' := fm g tp bt (fm_u a' 1 (k) (a' 1 (4210 + k))) b) (fun _ _ _ => rfl) ?_
      rw [show ((nI k) + 1 : Int32) = nI (k + 1) from by simp only [show (1 : Int32) = nI 1 from rfl, nI_add, fm_mul]]
      refine ih (k + 1) (by omega) _ (fun t ht => by rw [fm_ut ht]; exact h1 t ht) (fun i hi => by rw [fm_u1, if_neg (by omega)]; exact h2 i (by omega)) (fun i hi => ?_)
      rw [fm_u1]
      by_cases e : i = k
      · rw [if_pos (by omega), h2 _ (by omega), e]
      · rw [if_neg (by omega)]; exact h3 i (by omega)
  refine fe_s 2 (pc' := 2) (lc' := [(2, .int 0), (0, .ref 0), (1, .int 4210)]) (stk' := []) (mem' := fm g tp bt a b) (fun _ _ _ => rfl) ?_
  exact loop 478 0 (by omega) a (fun _ _ => rfl) (fun _ _ => rfl) (fun i hi => absurd hi (Nat.not_lt_zero i))
theorem fr_restores5052 : ∃ (v : Option Value) (mem' : fx_M), (fun R => ∃ a' : Nat → Nat → Int32, fm_Rs a a' 5052 ∧ R = (none, fm g tp bt a' b)) (v, mem') ∧ fr_T 1 326 [.ref 0, .int 5052] (fm g tp bt a b) v mem' := by
  refine fe_meth (F := fun R => ∃ a' : Nat → Nat → Int32, fm_Rs a a' 5052 ∧ R = (none, fm g tp bt a' b)) (M := gk_m326) (by rfl) (by rfl) ?_
  have loop : ∀ (r k : Nat), k + r = 478 → ∀ a' : Nat → Nat → Int32, (∀ t, t ≠ 1 → a' t = a t) → (∀ i, k ≤ i → a' 1 i = a 1 i) → (∀ i, i < k → a' 1 i = a 1 (5052 + i)) → fe_R 0 gk_m326 2 [(2, .int (nI k)), (0, .ref 0), (1, .int 5052)] [] (fm g tp bt a' b) (fun R => ∃ a' : Nat → Nat → Int32, fm_Rs a a' 5052 ∧ R = (none, fm g tp bt a' b)) := by
    intro r
    induction r with
    | zero =>
      intro k hk a' h1 h2 h3
      obtain rfl : k = 478 := by omega
      refine fe_s 2 (pc' := 6) (lc' := [(2, .int (nI 478)), (0, .ref 0), (1, .int 5052)]) (stk' := [.int 478, .int (nI 478)]) (mem' := fm g tp bt a' b) (fun _ _ _ => rfl) ?_
      refine fe_s 1 (pc' := cond (fx_cb .ge (nI 478) 478) 29 9) (lc' := [(2, .int (nI 478)), (0, .ref 0), (1, .int 5052)]) (stk' := []) (mem' := fm g tp bt a' b) (fun _ _ _ => rfl) ?_
      rw [show (fx_cb .ge (nI 478) 478) = true from cb_geT (a := 478) (b := 478) (by omega) (by omega) (by omega)]
      dsimp only [cond]
      exact fe_ret ⟨a', ⟨h1, h2, h3⟩, rfl⟩ (by rfl) (by rfl) (by rfl)
    | succ r ih =>
      intro k hk a' h1 h2 h3
      refine fe_s 2 (pc' := 6) (lc' := [(2, .int (nI k)), (0, .ref 0), (1, .int 5052)]) (stk' := [.int 478, .int (nI k)]) (mem' := fm g tp bt a' b) (fun _ _ _ => rfl) ?_
      refine fe_s 1 (pc' := cond (fx_cb .ge (nI k) 478) 29 9) (lc' := [(2, .int (nI k)), (0, .ref 0), (1, .int 5052)]) (stk' := []) (mem' := fm g tp bt a' b) (fun _ _ _ => rfl) ?_
      rw [show (fx_cb .ge (nI k) 478) = false from cb_geF (a := k) (b := 478) (by omega) (by omega) (by omega)]
      dsimp only [cond]
      refine fe_s 8 (pc' := 21) (lc' := [(2, .int (nI k)), (0, .ref 0), (1, .int 5052)]) (stk' := [.int (5052 + (nI k)), .ref 1, .int (nI k), .ref 1]) (mem' := fm g tp bt a' b) (fun _ _ _ => rfl) ?_
      rw [show (5052 + (nI k) : Int32) = nI (5052 + k) from by simp only [show (5052 : Int32) = nI 5052 from rfl, nI_add, fm_mul]]
      refine fe_ldI (by rfl) (by rfl) (fx_inN (i := 5052 + k) (by omega) (by omega)) ?_
      rw [show Int32.toNatClampNeg (nI (5052 + k)) = 5052 + k from nI_clamp (by omega)]
      refine fe_stI (mem' := fm g tp bt (fm_u a' 1 (nI k : Int32).toNatClampNeg (a' 1 (5052 + k))) b) (by rfl) (by rfl) (fx_inN (i := k) (by omega) (by omega)) (by rfl) ?_
      rw [show Int32.toNatClampNeg (nI k) = k from nI_clamp (by omega)]
      refine fe_s 2 (pc' := 2) (lc' := [(2, .int ((nI k) + 1)), (0, .ref 0), (1, .int 5052)]) (stk' := []) (mem' := fm g tp bt (fm_u a' 1 (k) (a' 1 (5052 + k))) b) (fun _ _ _ => rfl) ?_
      rw [show ((nI k) + 1 : Int32) = nI (k + 1) from by simp only [show (1 : Int32) = nI 1 from rfl, nI_add, fm_mul]]
      refine ih (k + 1) (by omega) _ (fun t ht => by rw [fm_ut ht]; exact h1 t ht) (fun i hi => by rw [fm_u1, if_neg (by omega)]; exact h2 i (by omega)) (fun i hi => ?_)
      rw [fm_u1]
      by_cases e : i = k
      · rw [if_pos (by omega), h2 _ (by omega), e]
      · rw [if_neg (by omega)]; exact h3 i (by omega)
  refine fe_s 2 (pc' := 2) (lc' := [(2, .int 0), (0, .ref 0), (1, .int 5052)]) (stk' := []) (mem' := fm g tp bt a b) (fun _ _ _ => rfl) ?_
  exact loop 478 0 (by omega) a (fun _ _ => rfl) (fun _ _ => rfl) (fun i hi => absurd hi (Nat.not_lt_zero i))
theorem fr_isIceX {c : Int32} {NC : Nat} (eN : a 1 0 = nI NC) (hN : NC ≤ 10) : ∃ (r : Option Value) (mem' : fx_M), (fun R => ∃ z : Int32, (z = 0 ∨ z = 1 ∧ ∃ C, C < 10 ∧ c = nI C) ∧ R = (some (.int z), fm g tp bt a b)) (r, mem') ∧ fr_T 3 257 [.ref 0, .int c] (fm g tp bt a b) r mem' := by
  refine fe_meth (F := fun R => ∃ z : Int32, (z = 0 ∨ z = 1 ∧ ∃ C, C < 10 ∧ c = nI C) ∧ R = (some (.int z), fm g tp bt a b)) (M := gk_m257) (by rfl) (by rfl) ?_
  refine fe_s 3 (pc' := 3) (lc' := [(0, .ref 0), (1, .int c)]) (stk' := [.long (c.toInt64), .ref 0]) (mem' := fm g tp bt a b) (fun _ _ _ => rfl) ?_
  obtain ⟨v3, mem3, ⟨x3, hx3, hR3⟩, hfr3⟩ := fr_isCellX (c := c.toInt64) (g := g) (tp := tp) (bt := bt) (b := b) eN hN
  cases hR3
  refine fe_ivV hfr3 (by omega) (by rfl) (by rfl) (by rfl) (by rfl) (by rfl) (by rfl) ?_
  rcases hx3 with rfl | ⟨rfl, C3, hC3, e3⟩
  · refine fe_s 1 (pc' := cond (fx_cb .eq 0 0) 21 9) (lc' := [(0, .ref 0), (1, .int c)]) (stk' := []) (mem' := fm g tp bt a b) (fun _ _ _ => rfl) ?_
    rw [show (fx_cb .eq 0 0) = true from by decide]
    dsimp only [cond]
    refine fe_s 1 (pc' := 22) (lc' := [(0, .ref 0), (1, .int c)]) (stk' := [.int 0]) (mem' := fm g tp bt a b) (fun _ _ _ => rfl) ?_
    exact fe_ret ⟨_, Or.inl rfl, rfl⟩ (by rfl) (by rfl) (by rfl)
  · obtain rfl := fm_i64c e3 (by omega)
    refine fe_s 1 (pc' := cond (fx_cb .eq 1 0) 21 9) (lc' := [(0, .ref 0), (1, .int (nI C3))]) (stk' := []) (mem' := fm g tp bt a b) (fun _ _ _ => rfl) ?_
    rw [show (fx_cb .eq 1 0) = false from by decide]
    dsimp only [cond]
    refine fe_s 2 (pc' := 11) (lc' := [(0, .ref 0), (1, .int (nI C3))]) (stk' := [.int (nI C3), .ref 0]) (mem' := fm g tp bt a b) (fun _ _ _ => rfl) ?_
    obtain ⟨v1, z2, hv1⟩ := fq_isShore (C := C3) (g := g) (tp := tp) (bt := bt) (a := a) (b := b) (by omega)
    refine fe_ivV hv1 (by omega) (by rfl) (by rfl) (by rfl) (by rfl) (by rfl) (by rfl) ?_
    rcases z2 with rfl | rfl
    · refine fe_s 1 (pc' := cond (fx_cb .ne 0 0) 21 17) (lc' := [(0, .ref 0), (1, .int (nI C3))]) (stk' := []) (mem' := fm g tp bt a b) (fun _ _ _ => rfl) ?_
      rw [show (fx_cb .ne 0 0) = false from by decide]
      dsimp only [cond]
      refine fe_s 2 (pc' := 22) (lc' := [(0, .ref 0), (1, .int (nI C3))]) (stk' := [.int 1]) (mem' := fm g tp bt a b) (fun _ _ _ => rfl) ?_
      exact fe_ret ⟨_, Or.inr ⟨rfl, C3, by omega, rfl⟩, rfl⟩ (by rfl) (by rfl) (by rfl)
    · refine fe_s 1 (pc' := cond (fx_cb .ne 1 0) 21 17) (lc' := [(0, .ref 0), (1, .int (nI C3))]) (stk' := []) (mem' := fm g tp bt a b) (fun _ _ _ => rfl) ?_
      rw [show (fx_cb .ne 1 0) = true from by decide]
      dsimp only [cond]
      refine fe_s 1 (pc' := 22) (lc' := [(0, .ref 0), (1, .int (nI C3))]) (stk' := [.int 0]) (mem' := fm g tp bt a b) (fun _ _ _ => rfl) ?_
      exact fe_ret ⟨_, Or.inl rfl, rfl⟩ (by rfl) (by rfl) (by rfl)
end FKP
