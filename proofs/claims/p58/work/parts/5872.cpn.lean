/-! ===== the model's copies, with the names ===== -/
/-- the names' rows of slot s stand at slot d, too -/
def fm_nmc (b b' : Nat → Nat → Int64) (s d : Nat) : Prop := (∀ t, t ≠ 2 → b' t = b t) ∧ (∀ i, ¬ (18 * d ≤ i ∧ i < 18 * d + 18) → b' 2 i = b 2 i) ∧ ∀ i, i < 18 → b' 2 (18 * d + i) = b 2 (18 * s + i)
section CPN
variable {g : Nat → Int32} {tp bt : Int64} {a : Nat → Nat → Int32} {b : Nat → Nat → Int64}
theorem fr_copiesN {s d : Nat} (hs : s < 4) (hd : d < 4) (hne : ¬ s = d) : ∃ (v : Option Value) (mem' : fx_M), (fun R => ∃ (a' : Nat → Nat → Int32) (b' : Nat → Nat → Int64), fm_cpy a a' s d ∧ fm_nmc b b' s d ∧ R = (none, fm g tp bt a' b')) (v, mem') ∧ fr_T 1 369 [.ref 0, .int (nI s), .int (nI d)] (fm g tp bt a b) v mem' := by
  refine fe_meth (F := fun R => ∃ (a' : Nat → Nat → Int32) (b' : Nat → Nat → Int64), fm_cpy a a' s d ∧ fm_nmc b b' s d ∧ R = (none, fm g tp bt a' b')) (M := gk_m369) (by rfl) (by rfl) ?_
  have l41 : ∀ (r k : Nat), k + r = 18 → ∀ (a' : Nat → Nat → Int32) (b' : Nat → Nat → Int64), fm_cpy a a' s d → (∀ t, t ≠ 2 → b' t = b t) → (∀ i, ¬ (18 * d ≤ i ∧ i < 18 * d + k) → b' 2 i = b 2 i) → (∀ i, i < k → b' 2 (18 * d + i) = b 2 (18 * s + i)) → fe_R 0 gk_m369 41 [(3, .int (nI k)), (0, .ref 0), (1, .int (nI s)), (2, .int (nI d))] [] (fm g tp bt a' b') (fun R => ∃ (a' : Nat → Nat → Int32) (b' : Nat → Nat → Int64), fm_cpy a a' s d ∧ fm_nmc b b' s d ∧ R = (none, fm g tp bt a' b')) := by
    intro r
    induction r with
    | zero =>
      intro k hk a' b' h1 h2 h3 h4
      obtain rfl : k = 18 := by omega
      refine fe_s 2 (pc' := 44) (lc' := [(3, .int (nI 18)), (0, .ref 0), (1, .int (nI s)), (2, .int (nI d))]) (stk' := [.int 18, .int (nI 18)]) (mem' := fm g tp bt a' b') (by intro _ _ _; eq_refl) ?_
      refine fe_s 1 (pc' := cond (fx_cb .ge (nI 18) 18) 75 47) (lc' := [(3, .int (nI 18)), (0, .ref 0), (1, .int (nI s)), (2, .int (nI d))]) (stk' := []) (mem' := fm g tp bt a' b') (by intro _ _ _; eq_refl) ?_
      rw [show (fx_cb .ge (nI 18) 18) = true from cb_geT (a := 18) (b := 18) (by omega) (by omega) (by omega)]
      dsimp only [cond]
      exact fe_ret ⟨a', b', h1, ⟨h2, h3, h4⟩, rfl⟩ (by rfl) (by rfl) (by rfl)
    | succ r ih =>
      intro k hk a' b' h1 h2 h3 h4
      refine fe_s 2 (pc' := 44) (lc' := [(3, .int (nI k)), (0, .ref 0), (1, .int (nI s)), (2, .int (nI d))]) (stk' := [.int 18, .int (nI k)]) (mem' := fm g tp bt a' b') (by intro _ _ _; eq_refl) ?_
      refine fe_s 1 (pc' := cond (fx_cb .ge (nI k) 18) 75 47) (lc' := [(3, .int (nI k)), (0, .ref 0), (1, .int (nI s)), (2, .int (nI d))]) (stk' := []) (mem' := fm g tp bt a' b') (by intro _ _ _; eq_refl) ?_
      rw [show (fx_cb .ge (nI k) 18) = false from cb_geF (a := k) (b := 18) (by omega) (by omega) (by omega)]
      dsimp only [cond]
      refine fe_s 14 (pc' := 67) (lc' := [(3, .int (nI k)), (0, .ref 0), (1, .int (nI s)), (2, .int (nI d))]) (stk' := [.int ((18 * (nI s)) + (nI k)), .ref 2, .int ((18 * (nI d)) + (nI k)), .ref 2]) (mem' := fm g tp bt a' b') (by intro _ _ _; eq_refl) ?_
      rw [show ((18 * (nI s)) + (nI k) : Int32) = nI ((18 * s) + k) from by simp only [show (18 : Int32) = nI 18 from rfl, nI_add, fm_mul]]
      rw [show ((18 * (nI d)) + (nI k) : Int32) = nI ((18 * d) + k) from by simp only [show (18 : Int32) = nI 18 from rfl, nI_add, fm_mul]]
      refine fe_ldL (by rfl) (by rfl) (fx_inN (i := (18 * s) + k) (by omega) (by omega)) ?_
      rw [show Int32.toNatClampNeg (nI ((18 * s) + k)) = (18 * s) + k from nI_clamp (by omega)]
      refine fe_stL (mem' := fm g tp bt a' (fm_uL b' 2 (nI ((18 * d) + k) : Int32).toNatClampNeg (b' 2 ((18 * s) + k)))) (by rfl) (by rfl) (fx_inN (i := (18 * d) + k) (by omega) (by omega)) fm_sl2 ?_
      rw [show Int32.toNatClampNeg (nI ((18 * d) + k)) = (18 * d) + k from nI_clamp (by omega)]
      refine fe_s 2 (pc' := 41) (lc' := [(3, .int ((nI k) + 1)), (0, .ref 0), (1, .int (nI s)), (2, .int (nI d))]) (stk' := []) (mem' := fm g tp bt a' (fm_uL b' 2 ((18 * d) + k) (b' 2 ((18 * s) + k)))) (by intro _ _ _; eq_refl) ?_
      rw [show ((nI k) + 1 : Int32) = nI (k + 1) from by simp only [show (1 : Int32) = nI 1 from rfl, nI_add, fm_mul]]
      refine ih (k + 1) (by omega) a' _ h1 (fun t ht => by rw [fm_uL_t ht]; exact h2 t ht) (fun i hi => (fm_vL2 (by omega)).trans (h3 i (by omega))) (fun i hi => ?_)
      by_cases e : i = k
      · rw [e, fm_vL2s]; exact h3 (18 * s + k) (by omega)
      · rw [fm_vL2 (by omega)]; exact h4 i (by omega)
  have l2 : ∀ (r k : Nat), k + r = 842 → ∀ a' : Nat → Nat → Int32, (∀ t, t ≠ 1 → a' t = a t) → (∀ i, ¬ (842 * d ≤ i ∧ i < 842 * d + k) → a' 1 i = a 1 i) → (∀ i, i < k → a' 1 (842 * d + i) = a 1 (842 * s + i)) → fe_R 0 gk_m369 2 [(3, .int (nI k)), (0, .ref 0), (1, .int (nI s)), (2, .int (nI d))] [] (fm g tp bt a' b) (fun R => ∃ (a' : Nat → Nat → Int32) (b' : Nat → Nat → Int64), fm_cpy a a' s d ∧ fm_nmc b b' s d ∧ R = (none, fm g tp bt a' b')) := by
    intro r
    induction r with
    | zero =>
      intro k hk a' h1 h2 h3
      obtain rfl : k = 842 := by omega
      refine fe_s 2 (pc' := 6) (lc' := [(3, .int (nI 842)), (0, .ref 0), (1, .int (nI s)), (2, .int (nI d))]) (stk' := [.int 842, .int (nI 842)]) (mem' := fm g tp bt a' b) (by intro _ _ _; eq_refl) ?_
      refine fe_s 1 (pc' := cond (fx_cb .ge (nI 842) 842) 39 9) (lc' := [(3, .int (nI 842)), (0, .ref 0), (1, .int (nI s)), (2, .int (nI d))]) (stk' := []) (mem' := fm g tp bt a' b) (by intro _ _ _; eq_refl) ?_
      rw [show (fx_cb .ge (nI 842) 842) = true from cb_geT (a := 842) (b := 842) (by omega) (by omega) (by omega)]
      dsimp only [cond]
      refine fe_s 2 (pc' := 41) (lc' := [(3, .int 0), (0, .ref 0), (1, .int (nI s)), (2, .int (nI d))]) (stk' := []) (mem' := fm g tp bt a' b) (by intro _ _ _; eq_refl) ?_
      refine fe_w (lc' := [(3, .int (nI 0)), (0, .ref 0), (1, .int (nI s)), (2, .int (nI d))]) ⟨rfl, rfl, rfl, rfl, trivial⟩ (by show List.Nodup [3, 0, 1, 2]; decide) (by show List.Nodup [3, 0, 1, 2]; decide) (l41 18 0 (by omega) a' b ⟨h1, h2, h3⟩ (fun _ _ => rfl) (fun _ _ => rfl) (fun i hi => absurd hi (Nat.not_lt_zero i)))
    | succ r ih =>
      intro k hk a' h1 h2 h3
      refine fe_s 2 (pc' := 6) (lc' := [(3, .int (nI k)), (0, .ref 0), (1, .int (nI s)), (2, .int (nI d))]) (stk' := [.int 842, .int (nI k)]) (mem' := fm g tp bt a' b) (by intro _ _ _; eq_refl) ?_
      refine fe_s 1 (pc' := cond (fx_cb .ge (nI k) 842) 39 9) (lc' := [(3, .int (nI k)), (0, .ref 0), (1, .int (nI s)), (2, .int (nI d))]) (stk' := []) (mem' := fm g tp bt a' b) (by intro _ _ _; eq_refl) ?_
      rw [show (fx_cb .ge (nI k) 842) = false from cb_geF (a := k) (b := 842) (by omega) (by omega) (by omega)]
      dsimp only [cond]
      refine fe_s 14 (pc' := 31) (lc' := [(3, .int (nI k)), (0, .ref 0), (1, .int (nI s)), (2, .int (nI d))]) (stk' := [.int ((842 * (nI s)) + (nI k)), .ref 1, .int ((842 * (nI d)) + (nI k)), .ref 1]) (mem' := fm g tp bt a' b) (by intro _ _ _; eq_refl) ?_
      rw [show ((842 * (nI s)) + (nI k) : Int32) = nI ((842 * s) + k) from by simp only [show (842 : Int32) = nI 842 from rfl, nI_add, fm_mul]]
      rw [show ((842 * (nI d)) + (nI k) : Int32) = nI ((842 * d) + k) from by simp only [show (842 : Int32) = nI 842 from rfl, nI_add, fm_mul]]
      refine fe_ldI (by rfl) (by rfl) (fx_inN (i := (842 * s) + k) (by omega) (by omega)) ?_
      rw [show Int32.toNatClampNeg (nI ((842 * s) + k)) = (842 * s) + k from nI_clamp (by omega)]
      refine fe_stI (mem' := fm g tp bt (fm_u a' 1 (nI ((842 * d) + k) : Int32).toNatClampNeg (a' 1 ((842 * s) + k))) b) (by rfl) (by rfl) (fx_inN (i := (842 * d) + k) (by omega) (by omega)) fm_si1 ?_
      rw [show Int32.toNatClampNeg (nI ((842 * d) + k)) = (842 * d) + k from nI_clamp (by omega)]
      refine fe_s 2 (pc' := 2) (lc' := [(3, .int ((nI k) + 1)), (0, .ref 0), (1, .int (nI s)), (2, .int (nI d))]) (stk' := []) (mem' := fm g tp bt (fm_u a' 1 ((842 * d) + k) (a' 1 ((842 * s) + k))) b) (by intro _ _ _; eq_refl) ?_
      rw [show ((nI k) + 1 : Int32) = nI (k + 1) from by simp only [show (1 : Int32) = nI 1 from rfl, nI_add, fm_mul]]
      refine ih (k + 1) (by omega) _ (fun t ht => by rw [fm_ut ht]; exact h1 t ht) (fun i hi => by rw [fm_u1, if_neg (by omega)]; exact h2 i (by omega)) (fun i hi => ?_)
      rw [fm_u1]
      by_cases e : i = k
      · rw [if_pos (by omega), h2 _ (by omega), e]
      · rw [if_neg (by omega)]; exact h3 i (by omega)
  refine fe_s 2 (pc' := 2) (lc' := [(3, .int 0), (0, .ref 0), (1, .int (nI s)), (2, .int (nI d))]) (stk' := []) (mem' := fm g tp bt a b) (by intro _ _ _; eq_refl) ?_
  exact l2 842 0 (by omega) a (fun _ _ => rfl) (fun _ _ => rfl) (fun i hi => absurd hi (Nat.not_lt_zero i))
theorem fq_markN {m : Nat} (hB : fm_B a) (hm : g 42 = nI m) (hm3 : m ≤ 3) : ∃ (v : Option Value) (mem' : fx_M), (fun R => ∃ (v : Int32) (g' : Nat → Int32) (a' : Nat → Nat → Int32) (b' : Nat → Nat → Int64), (m = 3 ∧ v = -1 ∧ g' = upd g 2 4 ∧ a' = a ∧ b' = b ∨ m < 3 ∧ v = nI (m + 1) ∧ g' = upd (upd g 42 (nI (m + 1))) 2 0 ∧ fm_B a' ∧ fm_cpy a a' 0 (m + 1) ∧ fm_nmc b b' 0 (m + 1)) ∧ R = (some (.int v), fm g' tp bt a' b')) (v, mem') ∧ fr_T 2 370 [.ref 0] (fm g tp bt a b) v mem' := by
  refine fe_meth (F := fun R => ∃ (v : Int32) (g' : Nat → Int32) (a' : Nat → Nat → Int32) (b' : Nat → Nat → Int64), (m = 3 ∧ v = -1 ∧ g' = upd g 2 4 ∧ a' = a ∧ b' = b ∨ m < 3 ∧ v = nI (m + 1) ∧ g' = upd (upd g 42 (nI (m + 1))) 2 0 ∧ fm_B a' ∧ fm_cpy a a' 0 (m + 1) ∧ fm_nmc b b' 0 (m + 1)) ∧ R = (some (.int v), fm g' tp bt a' b')) (M := gk_m370) (by rfl) (by rfl) ?_
  refine fe_s 3 (pc' := 5) (lc' := [(0, .ref 0)]) (stk' := [.int 3, .int (g 42)]) (mem' := fm g tp bt a b) (by intro _ _ _; eq_refl) ?_
  try rw [hm]
  refine fe_s 1 (pc' := cond (fx_cb .ne (nI m) 3) 14 8) (lc' := [(0, .ref 0)]) (stk' := []) (mem' := fm g tp bt a b) (by intro _ _ _; eq_refl) ?_
  by_cases h1 : m = 3
  · rw [show (fx_cb .ne (nI m) 3) = false from cb_neF (a := m) (b := 3) (by omega) (by omega) (by omega)]
    dsimp only [cond]
    refine fe_s 2 (pc' := 10) (lc' := [(0, .ref 0)]) (stk' := [.int 4, .ref 0]) (mem' := fm g tp bt a b) (by intro _ _ _; eq_refl) ?_
    refine fe_ivV (fr_refuse (x := 4)) (by omega) (by rfl) (by rfl) (by rfl) (by rfl) (by rfl) (by rfl) ?_
    exact fe_ret ⟨_, _, a, b, Or.inl ⟨by omega, rfl, rfl, rfl, rfl⟩, rfl⟩ (by rfl) (by rfl) (by rfl)
  · rw [show (fx_cb .ne (nI m) 3) = true from cb_neT (a := m) (b := 3) (by omega) (by omega) (by omega)]
    dsimp only [cond]
    refine fe_s 10 (pc' := 30) (lc' := [(0, .ref 0)]) (stk' := [.int ((g 42) + 1), .int 0, .ref 0]) (mem' := fm (upd g 42 ((g 42) + 1)) tp bt a b) (by intro _ _ _; eq_refl) ?_
    try rw [hm]
    rw [show ((nI m) + 1 : Int32) = nI (m + 1) from by simp only [show (1 : Int32) = nI 1 from rfl, nI_add, fm_mul]]
    obtain ⟨v5, mem5, ⟨a5, b5, hc5, hb5, hR5⟩, hfr5⟩ := fr_copiesN (s := 0) (d := m + 1) (g := (upd g 42 (nI (m + 1)))) (tp := tp) (bt := bt) (a := a) (b := b) (by omega) (by omega) (by omega)
    cases hR5
    refine fe_ivV hfr5 (by omega) (by rfl) (by rfl) (by rfl) (by rfl) (by rfl) (by rfl) ?_
    refine fe_s 3 (pc' := 38) (lc' := [(0, .ref 0)]) (stk' := [.int (nI (m + 1)), .ref 0]) (mem' := fm (upd g 42 (nI (m + 1))) tp bt a5 b5) (by intro _ _ _; eq_refl) ?_
    refine fe_ivV (fr_gives (x := nI (m + 1))) (by omega) (by rfl) (by rfl) (by rfl) (by rfl) (by rfl) (by rfl) ?_
    exact fe_ret ⟨_, _, a5, b5, Or.inr ⟨by omega, rfl, rfl, fm_B_cpy hB (by omega) (by omega) hc5, hc5, hb5⟩, rfl⟩ (by rfl) (by rfl) (by rfl)
theorem fq_undoN {m : Nat} (hB : fm_B a) (hm : g 42 = nI m) (hm3 : m ≤ 3) : ∃ (v : Option Value) (mem' : fx_M), (fun R => ∃ (v : Int32) (g' : Nat → Int32) (a' : Nat → Nat → Int32) (b' : Nat → Nat → Int64), (m = 0 ∧ v = -1 ∧ g' = upd g 2 6 ∧ a' = a ∧ b' = b ∨ 0 < m ∧ v = nI (m - 1) ∧ g' = upd (upd g 42 (nI (m - 1))) 2 0 ∧ fm_B a' ∧ fm_cpy a a' m 0 ∧ fm_nmc b b' m 0) ∧ R = (some (.int v), fm g' tp bt a' b')) (v, mem') ∧ fr_T 2 371 [.ref 0] (fm g tp bt a b) v mem' := by
  refine fe_meth (F := fun R => ∃ (v : Int32) (g' : Nat → Int32) (a' : Nat → Nat → Int32) (b' : Nat → Nat → Int64), (m = 0 ∧ v = -1 ∧ g' = upd g 2 6 ∧ a' = a ∧ b' = b ∨ 0 < m ∧ v = nI (m - 1) ∧ g' = upd (upd g 42 (nI (m - 1))) 2 0 ∧ fm_B a' ∧ fm_cpy a a' m 0 ∧ fm_nmc b b' m 0) ∧ R = (some (.int v), fm g' tp bt a' b')) (M := gk_m371) (by rfl) (by rfl) ?_
  refine fe_s 2 (pc' := 4) (lc' := [(0, .ref 0)]) (stk' := [.int (g 42)]) (mem' := fm g tp bt a b) (by intro _ _ _; eq_refl) ?_
  try rw [hm]
  refine fe_s 1 (pc' := cond (fx_cb .ne (nI m) 0) 14 7) (lc' := [(0, .ref 0)]) (stk' := []) (mem' := fm g tp bt a b) (by intro _ _ _; eq_refl) ?_
  by_cases h1 : m = 0
  · rw [show (fx_cb .ne (nI m) 0) = false from cb_neF (a := m) (b := 0) (by omega) (by omega) (by omega)]
    dsimp only [cond]
    refine fe_s 2 (pc' := 10) (lc' := [(0, .ref 0)]) (stk' := [.int 6, .ref 0]) (mem' := fm g tp bt a b) (by intro _ _ _; eq_refl) ?_
    refine fe_ivV (fr_refuse (x := 6)) (by omega) (by rfl) (by rfl) (by rfl) (by rfl) (by rfl) (by rfl) ?_
    exact fe_ret ⟨_, _, a, b, Or.inl ⟨by omega, rfl, rfl, rfl, rfl⟩, rfl⟩ (by rfl) (by rfl) (by rfl)
  · rw [show (fx_cb .ne (nI m) 0) = true from cb_neT (a := m) (b := 0) (by omega) (by omega) (by omega)]
    dsimp only [cond]
    refine fe_s 4 (pc' := 20) (lc' := [(0, .ref 0)]) (stk' := [.int 0, .int (g 42), .ref 0]) (mem' := fm g tp bt a b) (by intro _ _ _; eq_refl) ?_
    try rw [hm]
    obtain ⟨v5, mem5, ⟨a5, b5, hc5, hb5, hR5⟩, hfr5⟩ := fr_copiesN (s := m) (d := 0) (g := g) (tp := tp) (bt := bt) (a := a) (b := b) (by omega) (by omega) (by omega)
    cases hR5
    refine fe_ivV hfr5 (by omega) (by rfl) (by rfl) (by rfl) (by rfl) (by rfl) (by rfl) ?_
    refine fe_s 9 (pc' := 38) (lc' := [(0, .ref 0)]) (stk' := [.int ((g 42) - 1), .ref 0]) (mem' := fm (upd g 42 ((g 42) - 1)) tp bt a5 b5) (by intro _ _ _; eq_refl) ?_
    try rw [hm]
    rw [show ((nI m) - 1 : Int32) = nI (m - 1) from by simp only [show (1 : Int32) = nI 1 from rfl, tg_sub2 (x := m) (y := 1) (by omega), nI_add, fm_mul]]
    refine fe_ivV (fr_gives (x := nI (m - 1))) (by omega) (by rfl) (by rfl) (by rfl) (by rfl) (by rfl) (by rfl) ?_
    exact fe_ret ⟨_, _, a5, b5, Or.inr ⟨by omega, rfl, rfl, fm_B_cpy hB (by omega) (by omega) hc5, hc5, hb5⟩, rfl⟩ (by rfl) (by rfl) (by rfl)
end CPN
