/-! ===== fx: queues: gaps ===== -/
section FQ1b
variable {g : Nat → Int32} {tp bt : Int64} {a0 a : Nat → Nat → Int32} {b : Nat → Nat → Int64}
set_option maxHeartbeats 8000000 in
theorem fr_gapsOn {n m : Nat} (hn : n ≤ 4) (ht : fm_ga n a m) : ∃ (v : Option Value) (mem' : fx_M), (fun R => ∃ (v : Int32) (a' : Nat → Nat → Int32), (∀ t, t ≠ 11 → a' t = a t) ∧ (v = 0 ∨ v = 1 ∧ ∃ m', m < m' ∧ fm_ga n a' m') ∧ R = (some (.int v), fm g tp bt a' b)) (v, mem') ∧ fr_T 1 330 [.ref 0, .int (nI n)] (fm g tp bt a b) v mem' := by
  refine fe_meth (F := fun R => ∃ (v : Int32) (a' : Nat → Nat → Int32), (∀ t, t ≠ 11 → a' t = a t) ∧ (v = 0 ∨ v = 1 ∧ ∃ m', m < m' ∧ fm_ga n a' m') ∧ R = (some (.int v), fm g tp bt a' b)) (M := gk_m330) (by rfl) (by rfl) ?_
  obtain ⟨x, y, z, hb, e0, e1, e2, e3, em, z1, z2, z3⟩ := ht
  rcases (by omega : n = 0 ∨ n = 1 ∨ n = 2 ∨ n = 3 ∨ n = 4) with rfl | rfl | rfl | rfl | rfl
  · show fe_R 0 gk_m330 0 [(0, .ref 0), (1, .int 0)] [] (fm g tp bt a b) _
    refine fe_s 5 (pc' := 5) (lc' := [(2, .int (0 - 1)), (0, .ref 0), (1, .int 0)]) (stk' := [.int (0 - 1)]) (mem' := fm g tp bt a b) (by intro _ _ _; eq_refl) ?_
    rw [show (0 - 1 : Int32) = (-1) from rfl]
    refine fe_s 1 (pc' := cond (fx_cb .le (-1) 0) 32 8) (lc' := [(2, .int (-1)), (0, .ref 0), (1, .int 0)]) (stk' := []) (mem' := fm g tp bt a b) (by intro _ _ _; eq_refl) ?_
    rw [show (fx_cb .le (-1) 0) = true from by decide]
    dsimp only [cond]
    refine fe_s 1 (pc' := 33) (lc' := [(2, .int (-1)), (0, .ref 0), (1, .int 0)]) (stk' := [.int (-1)]) (mem' := fm g tp bt a b) (by intro _ _ _; eq_refl) ?_
    refine fe_s 1 (pc' := cond (fx_cb .gt (-1) 0) 38 36) (lc' := [(2, .int (-1)), (0, .ref 0), (1, .int 0)]) (stk' := []) (mem' := fm g tp bt a b) (by intro _ _ _; eq_refl) ?_
    rw [show (fx_cb .gt (-1) 0) = false from by decide]
    dsimp only [cond]
    refine fe_s 1 (pc' := 37) (lc' := [(2, .int (-1)), (0, .ref 0), (1, .int 0)]) (stk' := [.int 0]) (mem' := fm g tp bt a b) (by intro _ _ _; eq_refl) ?_
    exact fe_ret ⟨_, _, fun _ _ => rfl, Or.inl rfl, rfl⟩ (by rfl) (by rfl) (by rfl)
  · show fe_R 0 gk_m330 0 [(0, .ref 0), (1, .int 1)] [] (fm g tp bt a b) _
    refine fe_s 5 (pc' := 5) (lc' := [(2, .int (1 - 1)), (0, .ref 0), (1, .int 1)]) (stk' := [.int (1 - 1)]) (mem' := fm g tp bt a b) (by intro _ _ _; eq_refl) ?_
    rw [show (1 - 1 : Int32) = 0 from rfl]
    refine fe_s 1 (pc' := cond (fx_cb .le 0 0) 32 8) (lc' := [(2, .int 0), (0, .ref 0), (1, .int 1)]) (stk' := []) (mem' := fm g tp bt a b) (by intro _ _ _; eq_refl) ?_
    rw [show (fx_cb .le 0 0) = true from by decide]
    dsimp only [cond]
    refine fe_s 1 (pc' := 33) (lc' := [(2, .int 0), (0, .ref 0), (1, .int 1)]) (stk' := [.int 0]) (mem' := fm g tp bt a b) (by intro _ _ _; eq_refl) ?_
    refine fe_s 1 (pc' := cond (fx_cb .gt 0 0) 38 36) (lc' := [(2, .int 0), (0, .ref 0), (1, .int 1)]) (stk' := []) (mem' := fm g tp bt a b) (by intro _ _ _; eq_refl) ?_
    rw [show (fx_cb .gt 0 0) = false from by decide]
    dsimp only [cond]
    refine fe_s 1 (pc' := 37) (lc' := [(2, .int 0), (0, .ref 0), (1, .int 1)]) (stk' := [.int 0]) (mem' := fm g tp bt a b) (by intro _ _ _; eq_refl) ?_
    exact fe_ret ⟨_, _, fun _ _ => rfl, Or.inl rfl, rfl⟩ (by rfl) (by rfl) (by rfl)
  · show fe_R 0 gk_m330 0 [(0, .ref 0), (1, .int 2)] [] (fm g tp bt a b) _
    refine fe_s 5 (pc' := 5) (lc' := [(2, .int (2 - 1)), (0, .ref 0), (1, .int 2)]) (stk' := [.int (2 - 1)]) (mem' := fm g tp bt a b) (by intro _ _ _; eq_refl) ?_
    rw [show (2 - 1 : Int32) = 1 from rfl]
    refine fe_s 1 (pc' := cond (fx_cb .le 1 0) 32 8) (lc' := [(2, .int 1), (0, .ref 0), (1, .int 2)]) (stk' := []) (mem' := fm g tp bt a b) (by intro _ _ _; eq_refl) ?_
    rw [show (fx_cb .le 1 0) = false from by decide]
    dsimp only [cond]
    refine fe_s 3 (pc' := 13) (lc' := [(2, .int 1), (0, .ref 0), (1, .int 2)]) (stk' := [.int 1, .ref 11]) (mem' := fm g tp bt a b) (by intro _ _ _; eq_refl) ?_
    refine fe_ldI (by rfl) (by rfl) (fx_inN (i := 1) (by omega) (by omega)) ?_
    rw [show Int32.toNatClampNeg (1) = 1 from rfl]
    rw [e1 (by omega)]
    refine fe_s 1 (pc' := 16) (lc' := [(2, .int 1), (0, .ref 0), (1, .int 2)]) (stk' := [.int 6, .int (nI x)]) (mem' := fm g tp bt a b) (by intro _ _ _; eq_refl) ?_
    refine fe_s 1 (pc' := cond (fx_cb .ne (nI x) 6) 32 19) (lc' := [(2, .int 1), (0, .ref 0), (1, .int 2)]) (stk' := []) (mem' := fm g tp bt a b) (by intro _ _ _; eq_refl) ?_
    by_cases h101 : x = 6
    · rw [show (fx_cb .ne (nI x) 6) = false from cb_neF (a := x) (b := 6) (by omega) (by omega) (by omega)]
      dsimp only [cond]
      refine fe_s 4 (pc' := 25) (lc' := [(2, .int 1), (0, .ref 0), (1, .int 2)]) (stk' := [.int 1, .int 1, .ref 11]) (mem' := fm g tp bt a b) (by intro _ _ _; eq_refl) ?_
      refine fe_stI (mem' := fm g tp bt (fm_u a 11 (1 : Int32).toNatClampNeg 1) b) (by rfl) (by rfl) (fx_inN (i := 1) (by omega) (by omega)) fm_si11 ?_
      rw [show Int32.toNatClampNeg (1) = 1 from rfl]
      obtain ⟨as102, has102⟩ : ∃ zz, zz = fm_u a 11 1 1 := ⟨_, rfl⟩
      rw [← has102]
      have hqs102_0 : as102 11 0 = nI 0 := by rw [has102, fm_us, if_neg (by decide), e0 (by omega)]
      have hqs102_1 : as102 11 1 = nI 1 := by rw [has102, fm_us, if_pos (by decide)]; rfl
      have hos102 : ∀ t, t ≠ 11 → as102 t = a t := fun t ht => by rw [has102, fm_utt ht]
      refine fe_s 3 (pc' := 5) (lc' := [(2, .int (1 + (-1))), (0, .ref 0), (1, .int 2)]) (stk' := [.int (1 + (-1))]) (mem' := fm g tp bt as102 b) (by intro _ _ _; eq_refl) ?_
      rw [show (1 + (-1) : Int32) = 0 from rfl]
      refine fe_s 1 (pc' := cond (fx_cb .le 0 0) 32 8) (lc' := [(2, .int 0), (0, .ref 0), (1, .int 2)]) (stk' := []) (mem' := fm g tp bt as102 b) (by intro _ _ _; eq_refl) ?_
      rw [show (fx_cb .le 0 0) = true from by decide]
      dsimp only [cond]
      refine fe_s 1 (pc' := 33) (lc' := [(2, .int 0), (0, .ref 0), (1, .int 2)]) (stk' := [.int 0]) (mem' := fm g tp bt as102 b) (by intro _ _ _; eq_refl) ?_
      refine fe_s 1 (pc' := cond (fx_cb .gt 0 0) 38 36) (lc' := [(2, .int 0), (0, .ref 0), (1, .int 2)]) (stk' := []) (mem' := fm g tp bt as102 b) (by intro _ _ _; eq_refl) ?_
      rw [show (fx_cb .gt 0 0) = false from by decide]
      dsimp only [cond]
      refine fe_s 1 (pc' := 37) (lc' := [(2, .int 0), (0, .ref 0), (1, .int 2)]) (stk' := [.int 0]) (mem' := fm g tp bt as102 b) (by intro _ _ _; eq_refl) ?_
      exact fe_ret ⟨_, _, hos102, Or.inl rfl, rfl⟩ (by rfl) (by rfl) (by rfl)
    · rw [show (fx_cb .ne (nI x) 6) = true from cb_neT (a := x) (b := 6) (by omega) (by omega) (by omega)]
      dsimp only [cond]
      refine fe_s 1 (pc' := 33) (lc' := [(2, .int 1), (0, .ref 0), (1, .int 2)]) (stk' := [.int 1]) (mem' := fm g tp bt a b) (by intro _ _ _; eq_refl) ?_
      refine fe_s 1 (pc' := cond (fx_cb .gt 1 0) 38 36) (lc' := [(2, .int 1), (0, .ref 0), (1, .int 2)]) (stk' := []) (mem' := fm g tp bt a b) (by intro _ _ _; eq_refl) ?_
      rw [show (fx_cb .gt 1 0) = true from by decide]
      dsimp only [cond]
      refine fe_s 4 (pc' := 44) (lc' := [(2, .int 1), (0, .ref 0), (1, .int 2)]) (stk' := [.int 1, .ref 11, .int 1, .ref 11]) (mem' := fm g tp bt a b) (by intro _ _ _; eq_refl) ?_
      refine fe_ldI (by rfl) (by rfl) (fx_inN (i := 1) (by omega) (by omega)) ?_
      rw [show Int32.toNatClampNeg (1) = 1 from rfl]
      rw [e1 (by omega)]
      refine fe_s 2 (pc' := 47) (lc' := [(2, .int 1), (0, .ref 0), (1, .int 2)]) (stk' := [.int ((nI x) + 1), .int 1, .ref 11]) (mem' := fm g tp bt a b) (by intro _ _ _; eq_refl) ?_
      rw [show ((nI x) + 1 : Int32) = nI (x + 1) from by simp only [show (1 : Int32) = nI 1 from rfl, nI_add, fm_mul]]
      refine fe_stI (mem' := fm g tp bt (fm_u a 11 (1 : Int32).toNatClampNeg (nI (x + 1))) b) (by rfl) (by rfl) (fx_inN (i := 1) (by omega) (by omega)) fm_si11 ?_
      rw [show Int32.toNatClampNeg (1) = 1 from rfl]
      obtain ⟨as103, has103⟩ : ∃ zz, zz = fm_u a 11 1 (nI (x + 1)) := ⟨_, rfl⟩
      rw [← has103]
      have hqs103_0 : as103 11 0 = nI 0 := by rw [has103, fm_us, if_neg (by decide), e0 (by omega)]
      have hqs103_1 : as103 11 1 = nI (x + 1) := by rw [has103, fm_us, if_pos (by decide)]
      have hos103 : ∀ t, t ≠ 11 → as103 t = a t := fun t ht => by rw [has103, fm_utt ht]
      refine fe_s 1 (pc' := 49) (lc' := [(2, .int 1), (0, .ref 0), (1, .int 2)]) (stk' := [.int 1]) (mem' := fm g tp bt as103 b) (by intro _ _ _; eq_refl) ?_
      exact fe_ret ⟨_, _, hos103, Or.inr ⟨rfl, 36 * (x + 1) + 6 * y + z, by omega, (x + 1), y, z, by omega, fun _ => hqs103_0, fun _ => hqs103_1, fun hh => absurd hh (by decide), fun hh => absurd hh (by decide), rfl, by omega, by omega, by omega⟩, rfl⟩ (by rfl) (by rfl) (by rfl)
  · show fe_R 0 gk_m330 0 [(0, .ref 0), (1, .int 3)] [] (fm g tp bt a b) _
    refine fe_s 5 (pc' := 5) (lc' := [(2, .int (3 - 1)), (0, .ref 0), (1, .int 3)]) (stk' := [.int (3 - 1)]) (mem' := fm g tp bt a b) (by intro _ _ _; eq_refl) ?_
    rw [show (3 - 1 : Int32) = 2 from rfl]
    refine fe_s 1 (pc' := cond (fx_cb .le 2 0) 32 8) (lc' := [(2, .int 2), (0, .ref 0), (1, .int 3)]) (stk' := []) (mem' := fm g tp bt a b) (by intro _ _ _; eq_refl) ?_
    rw [show (fx_cb .le 2 0) = false from by decide]
    dsimp only [cond]
    refine fe_s 3 (pc' := 13) (lc' := [(2, .int 2), (0, .ref 0), (1, .int 3)]) (stk' := [.int 2, .ref 11]) (mem' := fm g tp bt a b) (by intro _ _ _; eq_refl) ?_
    refine fe_ldI (by rfl) (by rfl) (fx_inN (i := 2) (by omega) (by omega)) ?_
    rw [show Int32.toNatClampNeg (2) = 2 from rfl]
    rw [e2 (by omega)]
    refine fe_s 1 (pc' := 16) (lc' := [(2, .int 2), (0, .ref 0), (1, .int 3)]) (stk' := [.int 6, .int (nI y)]) (mem' := fm g tp bt a b) (by intro _ _ _; eq_refl) ?_
    refine fe_s 1 (pc' := cond (fx_cb .ne (nI y) 6) 32 19) (lc' := [(2, .int 2), (0, .ref 0), (1, .int 3)]) (stk' := []) (mem' := fm g tp bt a b) (by intro _ _ _; eq_refl) ?_
    by_cases h104 : y = 6
    · rw [show (fx_cb .ne (nI y) 6) = false from cb_neF (a := y) (b := 6) (by omega) (by omega) (by omega)]
      dsimp only [cond]
      refine fe_s 4 (pc' := 25) (lc' := [(2, .int 2), (0, .ref 0), (1, .int 3)]) (stk' := [.int 1, .int 2, .ref 11]) (mem' := fm g tp bt a b) (by intro _ _ _; eq_refl) ?_
      refine fe_stI (mem' := fm g tp bt (fm_u a 11 (2 : Int32).toNatClampNeg 1) b) (by rfl) (by rfl) (fx_inN (i := 2) (by omega) (by omega)) fm_si11 ?_
      rw [show Int32.toNatClampNeg (2) = 2 from rfl]
      obtain ⟨as105, has105⟩ : ∃ zz, zz = fm_u a 11 2 1 := ⟨_, rfl⟩
      rw [← has105]
      have hqs105_0 : as105 11 0 = nI 0 := by rw [has105, fm_us, if_neg (by decide), e0 (by omega)]
      have hqs105_1 : as105 11 1 = nI x := by rw [has105, fm_us, if_neg (by decide), e1 (by omega)]
      have hqs105_2 : as105 11 2 = nI 1 := by rw [has105, fm_us, if_pos (by decide)]; rfl
      have hos105 : ∀ t, t ≠ 11 → as105 t = a t := fun t ht => by rw [has105, fm_utt ht]
      refine fe_s 3 (pc' := 5) (lc' := [(2, .int (2 + (-1))), (0, .ref 0), (1, .int 3)]) (stk' := [.int (2 + (-1))]) (mem' := fm g tp bt as105 b) (by intro _ _ _; eq_refl) ?_
      rw [show (2 + (-1) : Int32) = 1 from rfl]
      refine fe_s 1 (pc' := cond (fx_cb .le 1 0) 32 8) (lc' := [(2, .int 1), (0, .ref 0), (1, .int 3)]) (stk' := []) (mem' := fm g tp bt as105 b) (by intro _ _ _; eq_refl) ?_
      rw [show (fx_cb .le 1 0) = false from by decide]
      dsimp only [cond]
      refine fe_s 3 (pc' := 13) (lc' := [(2, .int 1), (0, .ref 0), (1, .int 3)]) (stk' := [.int 1, .ref 11]) (mem' := fm g tp bt as105 b) (by intro _ _ _; eq_refl) ?_
      refine fe_ldI (by rfl) (by rfl) (fx_inN (i := 1) (by omega) (by omega)) ?_
      rw [show Int32.toNatClampNeg (1) = 1 from rfl]
      rw [hqs105_1]
      refine fe_s 1 (pc' := 16) (lc' := [(2, .int 1), (0, .ref 0), (1, .int 3)]) (stk' := [.int 6, .int (nI x)]) (mem' := fm g tp bt as105 b) (by intro _ _ _; eq_refl) ?_
      refine fe_s 1 (pc' := cond (fx_cb .ne (nI x) 6) 32 19) (lc' := [(2, .int 1), (0, .ref 0), (1, .int 3)]) (stk' := []) (mem' := fm g tp bt as105 b) (by intro _ _ _; eq_refl) ?_
      by_cases h106 : x = 6
      · rw [show (fx_cb .ne (nI x) 6) = false from cb_neF (a := x) (b := 6) (by omega) (by omega) (by omega)]
        dsimp only [cond]
        refine fe_s 4 (pc' := 25) (lc' := [(2, .int 1), (0, .ref 0), (1, .int 3)]) (stk' := [.int 1, .int 1, .ref 11]) (mem' := fm g tp bt as105 b) (by intro _ _ _; eq_refl) ?_
        refine fe_stI (mem' := fm g tp bt (fm_u as105 11 (1 : Int32).toNatClampNeg 1) b) (by rfl) (by rfl) (fx_inN (i := 1) (by omega) (by omega)) fm_si11 ?_
        rw [show Int32.toNatClampNeg (1) = 1 from rfl]
        obtain ⟨as107, has107⟩ : ∃ zz, zz = fm_u as105 11 1 1 := ⟨_, rfl⟩
        rw [← has107]
        have hqs107_0 : as107 11 0 = nI 0 := by rw [has107, fm_us, if_neg (by decide), hqs105_0]
        have hqs107_1 : as107 11 1 = nI 1 := by rw [has107, fm_us, if_pos (by decide)]; rfl
        have hqs107_2 : as107 11 2 = nI 1 := by rw [has107, fm_us, if_neg (by decide), hqs105_2]
        have hos107 : ∀ t, t ≠ 11 → as107 t = a t := fun t ht => by rw [has107, fm_utt ht]; exact hos105 t ht
        refine fe_s 3 (pc' := 5) (lc' := [(2, .int (1 + (-1))), (0, .ref 0), (1, .int 3)]) (stk' := [.int (1 + (-1))]) (mem' := fm g tp bt as107 b) (by intro _ _ _; eq_refl) ?_
        rw [show (1 + (-1) : Int32) = 0 from rfl]
        refine fe_s 1 (pc' := cond (fx_cb .le 0 0) 32 8) (lc' := [(2, .int 0), (0, .ref 0), (1, .int 3)]) (stk' := []) (mem' := fm g tp bt as107 b) (by intro _ _ _; eq_refl) ?_
        rw [show (fx_cb .le 0 0) = true from by decide]
        dsimp only [cond]
        refine fe_s 1 (pc' := 33) (lc' := [(2, .int 0), (0, .ref 0), (1, .int 3)]) (stk' := [.int 0]) (mem' := fm g tp bt as107 b) (by intro _ _ _; eq_refl) ?_
        refine fe_s 1 (pc' := cond (fx_cb .gt 0 0) 38 36) (lc' := [(2, .int 0), (0, .ref 0), (1, .int 3)]) (stk' := []) (mem' := fm g tp bt as107 b) (by intro _ _ _; eq_refl) ?_
        rw [show (fx_cb .gt 0 0) = false from by decide]
        dsimp only [cond]
        refine fe_s 1 (pc' := 37) (lc' := [(2, .int 0), (0, .ref 0), (1, .int 3)]) (stk' := [.int 0]) (mem' := fm g tp bt as107 b) (by intro _ _ _; eq_refl) ?_
        exact fe_ret ⟨_, _, hos107, Or.inl rfl, rfl⟩ (by rfl) (by rfl) (by rfl)
      · rw [show (fx_cb .ne (nI x) 6) = true from cb_neT (a := x) (b := 6) (by omega) (by omega) (by omega)]
        dsimp only [cond]
        refine fe_s 1 (pc' := 33) (lc' := [(2, .int 1), (0, .ref 0), (1, .int 3)]) (stk' := [.int 1]) (mem' := fm g tp bt as105 b) (by intro _ _ _; eq_refl) ?_
        refine fe_s 1 (pc' := cond (fx_cb .gt 1 0) 38 36) (lc' := [(2, .int 1), (0, .ref 0), (1, .int 3)]) (stk' := []) (mem' := fm g tp bt as105 b) (by intro _ _ _; eq_refl) ?_
        rw [show (fx_cb .gt 1 0) = true from by decide]
        dsimp only [cond]
        refine fe_s 4 (pc' := 44) (lc' := [(2, .int 1), (0, .ref 0), (1, .int 3)]) (stk' := [.int 1, .ref 11, .int 1, .ref 11]) (mem' := fm g tp bt as105 b) (by intro _ _ _; eq_refl) ?_
        refine fe_ldI (by rfl) (by rfl) (fx_inN (i := 1) (by omega) (by omega)) ?_
        rw [show Int32.toNatClampNeg (1) = 1 from rfl]
        rw [hqs105_1]
        refine fe_s 2 (pc' := 47) (lc' := [(2, .int 1), (0, .ref 0), (1, .int 3)]) (stk' := [.int ((nI x) + 1), .int 1, .ref 11]) (mem' := fm g tp bt as105 b) (by intro _ _ _; eq_refl) ?_
        rw [show ((nI x) + 1 : Int32) = nI (x + 1) from by simp only [show (1 : Int32) = nI 1 from rfl, nI_add, fm_mul]]
        refine fe_stI (mem' := fm g tp bt (fm_u as105 11 (1 : Int32).toNatClampNeg (nI (x + 1))) b) (by rfl) (by rfl) (fx_inN (i := 1) (by omega) (by omega)) fm_si11 ?_
        rw [show Int32.toNatClampNeg (1) = 1 from rfl]
        obtain ⟨as108, has108⟩ : ∃ zz, zz = fm_u as105 11 1 (nI (x + 1)) := ⟨_, rfl⟩
        rw [← has108]
        have hqs108_0 : as108 11 0 = nI 0 := by rw [has108, fm_us, if_neg (by decide), hqs105_0]
        have hqs108_1 : as108 11 1 = nI (x + 1) := by rw [has108, fm_us, if_pos (by decide)]
        have hqs108_2 : as108 11 2 = nI 1 := by rw [has108, fm_us, if_neg (by decide), hqs105_2]
        have hos108 : ∀ t, t ≠ 11 → as108 t = a t := fun t ht => by rw [has108, fm_utt ht]; exact hos105 t ht
        refine fe_s 1 (pc' := 49) (lc' := [(2, .int 1), (0, .ref 0), (1, .int 3)]) (stk' := [.int 1]) (mem' := fm g tp bt as108 b) (by intro _ _ _; eq_refl) ?_
        exact fe_ret ⟨_, _, hos108, Or.inr ⟨rfl, 36 * (x + 1) + 6 * 1 + z, by omega, (x + 1), 1, z, by omega, fun _ => hqs108_0, fun _ => hqs108_1, fun _ => hqs108_2, fun hh => absurd hh (by decide), rfl, by omega, by omega, by omega⟩, rfl⟩ (by rfl) (by rfl) (by rfl)
    · rw [show (fx_cb .ne (nI y) 6) = true from cb_neT (a := y) (b := 6) (by omega) (by omega) (by omega)]
      dsimp only [cond]
      refine fe_s 1 (pc' := 33) (lc' := [(2, .int 2), (0, .ref 0), (1, .int 3)]) (stk' := [.int 2]) (mem' := fm g tp bt a b) (by intro _ _ _; eq_refl) ?_
      refine fe_s 1 (pc' := cond (fx_cb .gt 2 0) 38 36) (lc' := [(2, .int 2), (0, .ref 0), (1, .int 3)]) (stk' := []) (mem' := fm g tp bt a b) (by intro _ _ _; eq_refl) ?_
      rw [show (fx_cb .gt 2 0) = true from by decide]
      dsimp only [cond]
      refine fe_s 4 (pc' := 44) (lc' := [(2, .int 2), (0, .ref 0), (1, .int 3)]) (stk' := [.int 2, .ref 11, .int 2, .ref 11]) (mem' := fm g tp bt a b) (by intro _ _ _; eq_refl) ?_
      refine fe_ldI (by rfl) (by rfl) (fx_inN (i := 2) (by omega) (by omega)) ?_
      rw [show Int32.toNatClampNeg (2) = 2 from rfl]
      rw [e2 (by omega)]
      refine fe_s 2 (pc' := 47) (lc' := [(2, .int 2), (0, .ref 0), (1, .int 3)]) (stk' := [.int ((nI y) + 1), .int 2, .ref 11]) (mem' := fm g tp bt a b) (by intro _ _ _; eq_refl) ?_
      rw [show ((nI y) + 1 : Int32) = nI (y + 1) from by simp only [show (1 : Int32) = nI 1 from rfl, nI_add, fm_mul]]
      refine fe_stI (mem' := fm g tp bt (fm_u a 11 (2 : Int32).toNatClampNeg (nI (y + 1))) b) (by rfl) (by rfl) (fx_inN (i := 2) (by omega) (by omega)) fm_si11 ?_
      rw [show Int32.toNatClampNeg (2) = 2 from rfl]
      obtain ⟨as109, has109⟩ : ∃ zz, zz = fm_u a 11 2 (nI (y + 1)) := ⟨_, rfl⟩
      rw [← has109]
      have hqs109_0 : as109 11 0 = nI 0 := by rw [has109, fm_us, if_neg (by decide), e0 (by omega)]
      have hqs109_1 : as109 11 1 = nI x := by rw [has109, fm_us, if_neg (by decide), e1 (by omega)]
      have hqs109_2 : as109 11 2 = nI (y + 1) := by rw [has109, fm_us, if_pos (by decide)]
      have hos109 : ∀ t, t ≠ 11 → as109 t = a t := fun t ht => by rw [has109, fm_utt ht]
      refine fe_s 1 (pc' := 49) (lc' := [(2, .int 2), (0, .ref 0), (1, .int 3)]) (stk' := [.int 1]) (mem' := fm g tp bt as109 b) (by intro _ _ _; eq_refl) ?_
      exact fe_ret ⟨_, _, hos109, Or.inr ⟨rfl, 36 * x + 6 * (y + 1) + z, by omega, x, (y + 1), z, by omega, fun _ => hqs109_0, fun _ => hqs109_1, fun _ => hqs109_2, fun hh => absurd hh (by decide), rfl, by omega, by omega, by omega⟩, rfl⟩ (by rfl) (by rfl) (by rfl)
  · show fe_R 0 gk_m330 0 [(0, .ref 0), (1, .int 4)] [] (fm g tp bt a b) _
    refine fe_s 5 (pc' := 5) (lc' := [(2, .int (4 - 1)), (0, .ref 0), (1, .int 4)]) (stk' := [.int (4 - 1)]) (mem' := fm g tp bt a b) (by intro _ _ _; eq_refl) ?_
    rw [show (4 - 1 : Int32) = 3 from rfl]
    refine fe_s 1 (pc' := cond (fx_cb .le 3 0) 32 8) (lc' := [(2, .int 3), (0, .ref 0), (1, .int 4)]) (stk' := []) (mem' := fm g tp bt a b) (by intro _ _ _; eq_refl) ?_
    rw [show (fx_cb .le 3 0) = false from by decide]
    dsimp only [cond]
    refine fe_s 3 (pc' := 13) (lc' := [(2, .int 3), (0, .ref 0), (1, .int 4)]) (stk' := [.int 3, .ref 11]) (mem' := fm g tp bt a b) (by intro _ _ _; eq_refl) ?_
    refine fe_ldI (by rfl) (by rfl) (fx_inN (i := 3) (by omega) (by omega)) ?_
    rw [show Int32.toNatClampNeg (3) = 3 from rfl]
    rw [e3 (by omega)]
    refine fe_s 1 (pc' := 16) (lc' := [(2, .int 3), (0, .ref 0), (1, .int 4)]) (stk' := [.int 6, .int (nI z)]) (mem' := fm g tp bt a b) (by intro _ _ _; eq_refl) ?_
    refine fe_s 1 (pc' := cond (fx_cb .ne (nI z) 6) 32 19) (lc' := [(2, .int 3), (0, .ref 0), (1, .int 4)]) (stk' := []) (mem' := fm g tp bt a b) (by intro _ _ _; eq_refl) ?_
    by_cases h110 : z = 6
    · rw [show (fx_cb .ne (nI z) 6) = false from cb_neF (a := z) (b := 6) (by omega) (by omega) (by omega)]
      dsimp only [cond]
      refine fe_s 4 (pc' := 25) (lc' := [(2, .int 3), (0, .ref 0), (1, .int 4)]) (stk' := [.int 1, .int 3, .ref 11]) (mem' := fm g tp bt a b) (by intro _ _ _; eq_refl) ?_
      refine fe_stI (mem' := fm g tp bt (fm_u a 11 (3 : Int32).toNatClampNeg 1) b) (by rfl) (by rfl) (fx_inN (i := 3) (by omega) (by omega)) fm_si11 ?_
      rw [show Int32.toNatClampNeg (3) = 3 from rfl]
      obtain ⟨as111, has111⟩ : ∃ zz, zz = fm_u a 11 3 1 := ⟨_, rfl⟩
      rw [← has111]
      have hqs111_0 : as111 11 0 = nI 0 := by rw [has111, fm_us, if_neg (by decide), e0 (by omega)]
      have hqs111_1 : as111 11 1 = nI x := by rw [has111, fm_us, if_neg (by decide), e1 (by omega)]
      have hqs111_2 : as111 11 2 = nI y := by rw [has111, fm_us, if_neg (by decide), e2 (by omega)]
      have hqs111_3 : as111 11 3 = nI 1 := by rw [has111, fm_us, if_pos (by decide)]; rfl
      have hos111 : ∀ t, t ≠ 11 → as111 t = a t := fun t ht => by rw [has111, fm_utt ht]
      refine fe_s 3 (pc' := 5) (lc' := [(2, .int (3 + (-1))), (0, .ref 0), (1, .int 4)]) (stk' := [.int (3 + (-1))]) (mem' := fm g tp bt as111 b) (by intro _ _ _; eq_refl) ?_
      rw [show (3 + (-1) : Int32) = 2 from rfl]
      refine fe_s 1 (pc' := cond (fx_cb .le 2 0) 32 8) (lc' := [(2, .int 2), (0, .ref 0), (1, .int 4)]) (stk' := []) (mem' := fm g tp bt as111 b) (by intro _ _ _; eq_refl) ?_
      rw [show (fx_cb .le 2 0) = false from by decide]
      dsimp only [cond]
      refine fe_s 3 (pc' := 13) (lc' := [(2, .int 2), (0, .ref 0), (1, .int 4)]) (stk' := [.int 2, .ref 11]) (mem' := fm g tp bt as111 b) (by intro _ _ _; eq_refl) ?_
      refine fe_ldI (by rfl) (by rfl) (fx_inN (i := 2) (by omega) (by omega)) ?_
      rw [show Int32.toNatClampNeg (2) = 2 from rfl]
      rw [hqs111_2]
      refine fe_s 1 (pc' := 16) (lc' := [(2, .int 2), (0, .ref 0), (1, .int 4)]) (stk' := [.int 6, .int (nI y)]) (mem' := fm g tp bt as111 b) (by intro _ _ _; eq_refl) ?_
      refine fe_s 1 (pc' := cond (fx_cb .ne (nI y) 6) 32 19) (lc' := [(2, .int 2), (0, .ref 0), (1, .int 4)]) (stk' := []) (mem' := fm g tp bt as111 b) (by intro _ _ _; eq_refl) ?_
      by_cases h112 : y = 6
      · rw [show (fx_cb .ne (nI y) 6) = false from cb_neF (a := y) (b := 6) (by omega) (by omega) (by omega)]
        dsimp only [cond]
        refine fe_s 4 (pc' := 25) (lc' := [(2, .int 2), (0, .ref 0), (1, .int 4)]) (stk' := [.int 1, .int 2, .ref 11]) (mem' := fm g tp bt as111 b) (by intro _ _ _; eq_refl) ?_
        refine fe_stI (mem' := fm g tp bt (fm_u as111 11 (2 : Int32).toNatClampNeg 1) b) (by rfl) (by rfl) (fx_inN (i := 2) (by omega) (by omega)) fm_si11 ?_
        rw [show Int32.toNatClampNeg (2) = 2 from rfl]
        obtain ⟨as113, has113⟩ : ∃ zz, zz = fm_u as111 11 2 1 := ⟨_, rfl⟩
        rw [← has113]
        have hqs113_0 : as113 11 0 = nI 0 := by rw [has113, fm_us, if_neg (by decide), hqs111_0]
        have hqs113_1 : as113 11 1 = nI x := by rw [has113, fm_us, if_neg (by decide), hqs111_1]
        have hqs113_2 : as113 11 2 = nI 1 := by rw [has113, fm_us, if_pos (by decide)]; rfl
        have hqs113_3 : as113 11 3 = nI 1 := by rw [has113, fm_us, if_neg (by decide), hqs111_3]
        have hos113 : ∀ t, t ≠ 11 → as113 t = a t := fun t ht => by rw [has113, fm_utt ht]; exact hos111 t ht
        refine fe_s 3 (pc' := 5) (lc' := [(2, .int (2 + (-1))), (0, .ref 0), (1, .int 4)]) (stk' := [.int (2 + (-1))]) (mem' := fm g tp bt as113 b) (by intro _ _ _; eq_refl) ?_
        rw [show (2 + (-1) : Int32) = 1 from rfl]
        refine fe_s 1 (pc' := cond (fx_cb .le 1 0) 32 8) (lc' := [(2, .int 1), (0, .ref 0), (1, .int 4)]) (stk' := []) (mem' := fm g tp bt as113 b) (by intro _ _ _; eq_refl) ?_
        rw [show (fx_cb .le 1 0) = false from by decide]
        dsimp only [cond]
        refine fe_s 3 (pc' := 13) (lc' := [(2, .int 1), (0, .ref 0), (1, .int 4)]) (stk' := [.int 1, .ref 11]) (mem' := fm g tp bt as113 b) (by intro _ _ _; eq_refl) ?_
        refine fe_ldI (by rfl) (by rfl) (fx_inN (i := 1) (by omega) (by omega)) ?_
        rw [show Int32.toNatClampNeg (1) = 1 from rfl]
        rw [hqs113_1]
        refine fe_s 1 (pc' := 16) (lc' := [(2, .int 1), (0, .ref 0), (1, .int 4)]) (stk' := [.int 6, .int (nI x)]) (mem' := fm g tp bt as113 b) (by intro _ _ _; eq_refl) ?_
        refine fe_s 1 (pc' := cond (fx_cb .ne (nI x) 6) 32 19) (lc' := [(2, .int 1), (0, .ref 0), (1, .int 4)]) (stk' := []) (mem' := fm g tp bt as113 b) (by intro _ _ _; eq_refl) ?_
        by_cases h114 : x = 6
        · rw [show (fx_cb .ne (nI x) 6) = false from cb_neF (a := x) (b := 6) (by omega) (by omega) (by omega)]
          dsimp only [cond]
          refine fe_s 4 (pc' := 25) (lc' := [(2, .int 1), (0, .ref 0), (1, .int 4)]) (stk' := [.int 1, .int 1, .ref 11]) (mem' := fm g tp bt as113 b) (by intro _ _ _; eq_refl) ?_
          refine fe_stI (mem' := fm g tp bt (fm_u as113 11 (1 : Int32).toNatClampNeg 1) b) (by rfl) (by rfl) (fx_inN (i := 1) (by omega) (by omega)) fm_si11 ?_
          rw [show Int32.toNatClampNeg (1) = 1 from rfl]
          obtain ⟨as115, has115⟩ : ∃ zz, zz = fm_u as113 11 1 1 := ⟨_, rfl⟩
          rw [← has115]
          have hqs115_0 : as115 11 0 = nI 0 := by rw [has115, fm_us, if_neg (by decide), hqs113_0]
          have hqs115_1 : as115 11 1 = nI 1 := by rw [has115, fm_us, if_pos (by decide)]; rfl
          have hqs115_2 : as115 11 2 = nI 1 := by rw [has115, fm_us, if_neg (by decide), hqs113_2]
          have hqs115_3 : as115 11 3 = nI 1 := by rw [has115, fm_us, if_neg (by decide), hqs113_3]
          have hos115 : ∀ t, t ≠ 11 → as115 t = a t := fun t ht => by rw [has115, fm_utt ht]; exact hos113 t ht
          refine fe_s 3 (pc' := 5) (lc' := [(2, .int (1 + (-1))), (0, .ref 0), (1, .int 4)]) (stk' := [.int (1 + (-1))]) (mem' := fm g tp bt as115 b) (by intro _ _ _; eq_refl) ?_
          rw [show (1 + (-1) : Int32) = 0 from rfl]
          refine fe_s 1 (pc' := cond (fx_cb .le 0 0) 32 8) (lc' := [(2, .int 0), (0, .ref 0), (1, .int 4)]) (stk' := []) (mem' := fm g tp bt as115 b) (by intro _ _ _; eq_refl) ?_
          rw [show (fx_cb .le 0 0) = true from by decide]
          dsimp only [cond]
          refine fe_s 1 (pc' := 33) (lc' := [(2, .int 0), (0, .ref 0), (1, .int 4)]) (stk' := [.int 0]) (mem' := fm g tp bt as115 b) (by intro _ _ _; eq_refl) ?_
          refine fe_s 1 (pc' := cond (fx_cb .gt 0 0) 38 36) (lc' := [(2, .int 0), (0, .ref 0), (1, .int 4)]) (stk' := []) (mem' := fm g tp bt as115 b) (by intro _ _ _; eq_refl) ?_
          rw [show (fx_cb .gt 0 0) = false from by decide]
          dsimp only [cond]
          refine fe_s 1 (pc' := 37) (lc' := [(2, .int 0), (0, .ref 0), (1, .int 4)]) (stk' := [.int 0]) (mem' := fm g tp bt as115 b) (by intro _ _ _; eq_refl) ?_
          exact fe_ret ⟨_, _, hos115, Or.inl rfl, rfl⟩ (by rfl) (by rfl) (by rfl)
        · rw [show (fx_cb .ne (nI x) 6) = true from cb_neT (a := x) (b := 6) (by omega) (by omega) (by omega)]
          dsimp only [cond]
          refine fe_s 1 (pc' := 33) (lc' := [(2, .int 1), (0, .ref 0), (1, .int 4)]) (stk' := [.int 1]) (mem' := fm g tp bt as113 b) (by intro _ _ _; eq_refl) ?_
          refine fe_s 1 (pc' := cond (fx_cb .gt 1 0) 38 36) (lc' := [(2, .int 1), (0, .ref 0), (1, .int 4)]) (stk' := []) (mem' := fm g tp bt as113 b) (by intro _ _ _; eq_refl) ?_
          rw [show (fx_cb .gt 1 0) = true from by decide]
          dsimp only [cond]
          refine fe_s 4 (pc' := 44) (lc' := [(2, .int 1), (0, .ref 0), (1, .int 4)]) (stk' := [.int 1, .ref 11, .int 1, .ref 11]) (mem' := fm g tp bt as113 b) (by intro _ _ _; eq_refl) ?_
          refine fe_ldI (by rfl) (by rfl) (fx_inN (i := 1) (by omega) (by omega)) ?_
          rw [show Int32.toNatClampNeg (1) = 1 from rfl]
          rw [hqs113_1]
          refine fe_s 2 (pc' := 47) (lc' := [(2, .int 1), (0, .ref 0), (1, .int 4)]) (stk' := [.int ((nI x) + 1), .int 1, .ref 11]) (mem' := fm g tp bt as113 b) (by intro _ _ _; eq_refl) ?_
          rw [show ((nI x) + 1 : Int32) = nI (x + 1) from by simp only [show (1 : Int32) = nI 1 from rfl, nI_add, fm_mul]]
          refine fe_stI (mem' := fm g tp bt (fm_u as113 11 (1 : Int32).toNatClampNeg (nI (x + 1))) b) (by rfl) (by rfl) (fx_inN (i := 1) (by omega) (by omega)) fm_si11 ?_
          rw [show Int32.toNatClampNeg (1) = 1 from rfl]
          obtain ⟨as116, has116⟩ : ∃ zz, zz = fm_u as113 11 1 (nI (x + 1)) := ⟨_, rfl⟩
          rw [← has116]
          have hqs116_0 : as116 11 0 = nI 0 := by rw [has116, fm_us, if_neg (by decide), hqs113_0]
          have hqs116_1 : as116 11 1 = nI (x + 1) := by rw [has116, fm_us, if_pos (by decide)]
          have hqs116_2 : as116 11 2 = nI 1 := by rw [has116, fm_us, if_neg (by decide), hqs113_2]
          have hqs116_3 : as116 11 3 = nI 1 := by rw [has116, fm_us, if_neg (by decide), hqs113_3]
          have hos116 : ∀ t, t ≠ 11 → as116 t = a t := fun t ht => by rw [has116, fm_utt ht]; exact hos113 t ht
          refine fe_s 1 (pc' := 49) (lc' := [(2, .int 1), (0, .ref 0), (1, .int 4)]) (stk' := [.int 1]) (mem' := fm g tp bt as116 b) (by intro _ _ _; eq_refl) ?_
          exact fe_ret ⟨_, _, hos116, Or.inr ⟨rfl, 36 * (x + 1) + 6 * 1 + 1, by omega, (x + 1), 1, 1, by omega, fun _ => hqs116_0, fun _ => hqs116_1, fun _ => hqs116_2, fun _ => hqs116_3, rfl, by omega, by omega, by omega⟩, rfl⟩ (by rfl) (by rfl) (by rfl)
      · rw [show (fx_cb .ne (nI y) 6) = true from cb_neT (a := y) (b := 6) (by omega) (by omega) (by omega)]
        dsimp only [cond]
        refine fe_s 1 (pc' := 33) (lc' := [(2, .int 2), (0, .ref 0), (1, .int 4)]) (stk' := [.int 2]) (mem' := fm g tp bt as111 b) (by intro _ _ _; eq_refl) ?_
        refine fe_s 1 (pc' := cond (fx_cb .gt 2 0) 38 36) (lc' := [(2, .int 2), (0, .ref 0), (1, .int 4)]) (stk' := []) (mem' := fm g tp bt as111 b) (by intro _ _ _; eq_refl) ?_
        rw [show (fx_cb .gt 2 0) = true from by decide]
        dsimp only [cond]
        refine fe_s 4 (pc' := 44) (lc' := [(2, .int 2), (0, .ref 0), (1, .int 4)]) (stk' := [.int 2, .ref 11, .int 2, .ref 11]) (mem' := fm g tp bt as111 b) (by intro _ _ _; eq_refl) ?_
        refine fe_ldI (by rfl) (by rfl) (fx_inN (i := 2) (by omega) (by omega)) ?_
        rw [show Int32.toNatClampNeg (2) = 2 from rfl]
        rw [hqs111_2]
        refine fe_s 2 (pc' := 47) (lc' := [(2, .int 2), (0, .ref 0), (1, .int 4)]) (stk' := [.int ((nI y) + 1), .int 2, .ref 11]) (mem' := fm g tp bt as111 b) (by intro _ _ _; eq_refl) ?_
        rw [show ((nI y) + 1 : Int32) = nI (y + 1) from by simp only [show (1 : Int32) = nI 1 from rfl, nI_add, fm_mul]]
        refine fe_stI (mem' := fm g tp bt (fm_u as111 11 (2 : Int32).toNatClampNeg (nI (y + 1))) b) (by rfl) (by rfl) (fx_inN (i := 2) (by omega) (by omega)) fm_si11 ?_
        rw [show Int32.toNatClampNeg (2) = 2 from rfl]
        obtain ⟨as117, has117⟩ : ∃ zz, zz = fm_u as111 11 2 (nI (y + 1)) := ⟨_, rfl⟩
        rw [← has117]
        have hqs117_0 : as117 11 0 = nI 0 := by rw [has117, fm_us, if_neg (by decide), hqs111_0]
        have hqs117_1 : as117 11 1 = nI x := by rw [has117, fm_us, if_neg (by decide), hqs111_1]
        have hqs117_2 : as117 11 2 = nI (y + 1) := by rw [has117, fm_us, if_pos (by decide)]
        have hqs117_3 : as117 11 3 = nI 1 := by rw [has117, fm_us, if_neg (by decide), hqs111_3]
        have hos117 : ∀ t, t ≠ 11 → as117 t = a t := fun t ht => by rw [has117, fm_utt ht]; exact hos111 t ht
        refine fe_s 1 (pc' := 49) (lc' := [(2, .int 2), (0, .ref 0), (1, .int 4)]) (stk' := [.int 1]) (mem' := fm g tp bt as117 b) (by intro _ _ _; eq_refl) ?_
        exact fe_ret ⟨_, _, hos117, Or.inr ⟨rfl, 36 * x + 6 * (y + 1) + 1, by omega, x, (y + 1), 1, by omega, fun _ => hqs117_0, fun _ => hqs117_1, fun _ => hqs117_2, fun _ => hqs117_3, rfl, by omega, by omega, by omega⟩, rfl⟩ (by rfl) (by rfl) (by rfl)
    · rw [show (fx_cb .ne (nI z) 6) = true from cb_neT (a := z) (b := 6) (by omega) (by omega) (by omega)]
      dsimp only [cond]
      refine fe_s 1 (pc' := 33) (lc' := [(2, .int 3), (0, .ref 0), (1, .int 4)]) (stk' := [.int 3]) (mem' := fm g tp bt a b) (by intro _ _ _; eq_refl) ?_
      refine fe_s 1 (pc' := cond (fx_cb .gt 3 0) 38 36) (lc' := [(2, .int 3), (0, .ref 0), (1, .int 4)]) (stk' := []) (mem' := fm g tp bt a b) (by intro _ _ _; eq_refl) ?_
      rw [show (fx_cb .gt 3 0) = true from by decide]
      dsimp only [cond]
      refine fe_s 4 (pc' := 44) (lc' := [(2, .int 3), (0, .ref 0), (1, .int 4)]) (stk' := [.int 3, .ref 11, .int 3, .ref 11]) (mem' := fm g tp bt a b) (by intro _ _ _; eq_refl) ?_
      refine fe_ldI (by rfl) (by rfl) (fx_inN (i := 3) (by omega) (by omega)) ?_
      rw [show Int32.toNatClampNeg (3) = 3 from rfl]
      rw [e3 (by omega)]
      refine fe_s 2 (pc' := 47) (lc' := [(2, .int 3), (0, .ref 0), (1, .int 4)]) (stk' := [.int ((nI z) + 1), .int 3, .ref 11]) (mem' := fm g tp bt a b) (by intro _ _ _; eq_refl) ?_
      rw [show ((nI z) + 1 : Int32) = nI (z + 1) from by simp only [show (1 : Int32) = nI 1 from rfl, nI_add, fm_mul]]
      refine fe_stI (mem' := fm g tp bt (fm_u a 11 (3 : Int32).toNatClampNeg (nI (z + 1))) b) (by rfl) (by rfl) (fx_inN (i := 3) (by omega) (by omega)) fm_si11 ?_
      rw [show Int32.toNatClampNeg (3) = 3 from rfl]
      obtain ⟨as118, has118⟩ : ∃ zz, zz = fm_u a 11 3 (nI (z + 1)) := ⟨_, rfl⟩
      rw [← has118]
      have hqs118_0 : as118 11 0 = nI 0 := by rw [has118, fm_us, if_neg (by decide), e0 (by omega)]
      have hqs118_1 : as118 11 1 = nI x := by rw [has118, fm_us, if_neg (by decide), e1 (by omega)]
      have hqs118_2 : as118 11 2 = nI y := by rw [has118, fm_us, if_neg (by decide), e2 (by omega)]
      have hqs118_3 : as118 11 3 = nI (z + 1) := by rw [has118, fm_us, if_pos (by decide)]
      have hos118 : ∀ t, t ≠ 11 → as118 t = a t := fun t ht => by rw [has118, fm_utt ht]
      refine fe_s 1 (pc' := 49) (lc' := [(2, .int 3), (0, .ref 0), (1, .int 4)]) (stk' := [.int 1]) (mem' := fm g tp bt as118 b) (by intro _ _ _; eq_refl) ?_
      exact fe_ret ⟨_, _, hos118, Or.inr ⟨rfl, 36 * x + 6 * y + (z + 1), by omega, x, y, (z + 1), by omega, fun _ => hqs118_0, fun _ => hqs118_1, fun _ => hqs118_2, fun _ => hqs118_3, rfl, by omega, by omega, by omega⟩, rfl⟩ (by rfl) (by rfl) (by rfl)
end FQ1b
