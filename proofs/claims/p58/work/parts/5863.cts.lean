/-! ===== the class reads the text of TALES: a STEP ===== -/
section CTS
variable {g : Nat → Nat → Int32} {l : Nat → Nat → Int64} {a : Nat → Nat → Int32} {b : Nat → Nat → Int64} {R : fx_M} {T : Nat → Nat} {n p : Nat}
variable {F : Int32} {P : Nat} {A : sp_A} {c d : Nat}
theorem ha_isT11 : hr_T 1 121 [.int 11] (cm g l a b R) (some (.int 1)) (cm g l a b R) := by
  suffices h : ∃ (v : Option Value) (mem' : fx_M), (fun R1 => R1 = (some (.int 1), cm g l a b R)) (v, mem') ∧ hr_T 1 121 [.int 11] (cm g l a b R) v mem' by
    obtain ⟨v, mem', h1, h2⟩ := h
    cases h1
    exact h2
  refine he_meth (F := fun R1 => R1 = (some (.int 1), cm g l a b R)) (M := gk_m121) (by rfl) (by rfl) ?_
  refine he_s 2 (pc' := 3) (lc' := [(0, .int 11)]) (stk' := [.int 11, .int 11]) (mem' := cm g l a b R) (by intro _ _ _; eq_refl) ?_
  refine he_s 1 (pc' := cond (fx_cb .eq 11 11) 48 6) (lc' := [(0, .int 11)]) (stk' := []) (mem' := cm g l a b R) (by intro _ _ _; eq_refl) ?_
  rw [show (fx_cb .eq 11 11) = true from by decide]
  dsimp only [cond]
  refine he_s 2 (pc' := 53) (lc' := [(0, .int 11)]) (stk' := [.int 1]) (mem' := cm g l a b R) (by intro _ _ _; eq_refl) ?_
  exact he_ret rfl (by rfl) (by rfl) (by rfl)
theorem ha_isT13 : hr_T 1 121 [.int 13] (cm g l a b R) (some (.int 1)) (cm g l a b R) := by
  suffices h : ∃ (v : Option Value) (mem' : fx_M), (fun R1 => R1 = (some (.int 1), cm g l a b R)) (v, mem') ∧ hr_T 1 121 [.int 13] (cm g l a b R) v mem' by
    obtain ⟨v, mem', h1, h2⟩ := h
    cases h1
    exact h2
  refine he_meth (F := fun R1 => R1 = (some (.int 1), cm g l a b R)) (M := gk_m121) (by rfl) (by rfl) ?_
  refine he_s 2 (pc' := 3) (lc' := [(0, .int 13)]) (stk' := [.int 11, .int 13]) (mem' := cm g l a b R) (by intro _ _ _; eq_refl) ?_
  refine he_s 1 (pc' := cond (fx_cb .eq 13 11) 48 6) (lc' := [(0, .int 13)]) (stk' := []) (mem' := cm g l a b R) (by intro _ _ _; eq_refl) ?_
  rw [show (fx_cb .eq 13 11) = false from by decide]
  dsimp only [cond]
  refine he_s 2 (pc' := 9) (lc' := [(0, .int 13)]) (stk' := [.int 13, .int 13]) (mem' := cm g l a b R) (by intro _ _ _; eq_refl) ?_
  refine he_s 1 (pc' := cond (fx_cb .eq 13 13) 48 12) (lc' := [(0, .int 13)]) (stk' := []) (mem' := cm g l a b R) (by intro _ _ _; eq_refl) ?_
  rw [show (fx_cb .eq 13 13) = true from by decide]
  dsimp only [cond]
  refine he_s 2 (pc' := 53) (lc' := [(0, .int 13)]) (stk' := [.int 1]) (mem' := cm g l a b R) (by intro _ _ _; eq_refl) ?_
  exact he_ret rfl (by rfl) (by rfl) (by rfl)
theorem ha_isT14 : hr_T 1 121 [.int 14] (cm g l a b R) (some (.int 1)) (cm g l a b R) := by
  suffices h : ∃ (v : Option Value) (mem' : fx_M), (fun R1 => R1 = (some (.int 1), cm g l a b R)) (v, mem') ∧ hr_T 1 121 [.int 14] (cm g l a b R) v mem' by
    obtain ⟨v, mem', h1, h2⟩ := h
    cases h1
    exact h2
  refine he_meth (F := fun R1 => R1 = (some (.int 1), cm g l a b R)) (M := gk_m121) (by rfl) (by rfl) ?_
  refine he_s 2 (pc' := 3) (lc' := [(0, .int 14)]) (stk' := [.int 11, .int 14]) (mem' := cm g l a b R) (by intro _ _ _; eq_refl) ?_
  refine he_s 1 (pc' := cond (fx_cb .eq 14 11) 48 6) (lc' := [(0, .int 14)]) (stk' := []) (mem' := cm g l a b R) (by intro _ _ _; eq_refl) ?_
  rw [show (fx_cb .eq 14 11) = false from by decide]
  dsimp only [cond]
  refine he_s 2 (pc' := 9) (lc' := [(0, .int 14)]) (stk' := [.int 13, .int 14]) (mem' := cm g l a b R) (by intro _ _ _; eq_refl) ?_
  refine he_s 1 (pc' := cond (fx_cb .eq 14 13) 48 12) (lc' := [(0, .int 14)]) (stk' := []) (mem' := cm g l a b R) (by intro _ _ _; eq_refl) ?_
  rw [show (fx_cb .eq 14 13) = false from by decide]
  dsimp only [cond]
  refine he_s 2 (pc' := 15) (lc' := [(0, .int 14)]) (stk' := [.int 14, .int 14]) (mem' := cm g l a b R) (by intro _ _ _; eq_refl) ?_
  refine he_s 1 (pc' := cond (fx_cb .eq 14 14) 48 18) (lc' := [(0, .int 14)]) (stk' := []) (mem' := cm g l a b R) (by intro _ _ _; eq_refl) ?_
  rw [show (fx_cb .eq 14 14) = true from by decide]
  dsimp only [cond]
  refine he_s 2 (pc' := 53) (lc' := [(0, .int 14)]) (stk' := [.int 1]) (mem' := cm g l a b R) (by intro _ _ _; eq_refl) ?_
  exact he_ret rfl (by rfl) (by rfl) (by rfl)
theorem ha_isT15 : hr_T 1 121 [.int 15] (cm g l a b R) (some (.int 1)) (cm g l a b R) := by
  suffices h : ∃ (v : Option Value) (mem' : fx_M), (fun R1 => R1 = (some (.int 1), cm g l a b R)) (v, mem') ∧ hr_T 1 121 [.int 15] (cm g l a b R) v mem' by
    obtain ⟨v, mem', h1, h2⟩ := h
    cases h1
    exact h2
  refine he_meth (F := fun R1 => R1 = (some (.int 1), cm g l a b R)) (M := gk_m121) (by rfl) (by rfl) ?_
  refine he_s 2 (pc' := 3) (lc' := [(0, .int 15)]) (stk' := [.int 11, .int 15]) (mem' := cm g l a b R) (by intro _ _ _; eq_refl) ?_
  refine he_s 1 (pc' := cond (fx_cb .eq 15 11) 48 6) (lc' := [(0, .int 15)]) (stk' := []) (mem' := cm g l a b R) (by intro _ _ _; eq_refl) ?_
  rw [show (fx_cb .eq 15 11) = false from by decide]
  dsimp only [cond]
  refine he_s 2 (pc' := 9) (lc' := [(0, .int 15)]) (stk' := [.int 13, .int 15]) (mem' := cm g l a b R) (by intro _ _ _; eq_refl) ?_
  refine he_s 1 (pc' := cond (fx_cb .eq 15 13) 48 12) (lc' := [(0, .int 15)]) (stk' := []) (mem' := cm g l a b R) (by intro _ _ _; eq_refl) ?_
  rw [show (fx_cb .eq 15 13) = false from by decide]
  dsimp only [cond]
  refine he_s 2 (pc' := 15) (lc' := [(0, .int 15)]) (stk' := [.int 14, .int 15]) (mem' := cm g l a b R) (by intro _ _ _; eq_refl) ?_
  refine he_s 1 (pc' := cond (fx_cb .eq 15 14) 48 18) (lc' := [(0, .int 15)]) (stk' := []) (mem' := cm g l a b R) (by intro _ _ _; eq_refl) ?_
  rw [show (fx_cb .eq 15 14) = false from by decide]
  dsimp only [cond]
  refine he_s 2 (pc' := 21) (lc' := [(0, .int 15)]) (stk' := [.int 15, .int 15]) (mem' := cm g l a b R) (by intro _ _ _; eq_refl) ?_
  refine he_s 1 (pc' := cond (fx_cb .eq 15 15) 48 24) (lc' := [(0, .int 15)]) (stk' := []) (mem' := cm g l a b R) (by intro _ _ _; eq_refl) ?_
  rw [show (fx_cb .eq 15 15) = true from by decide]
  dsimp only [cond]
  refine he_s 2 (pc' := 53) (lc' := [(0, .int 15)]) (stk' := [.int 1]) (mem' := cm g l a b R) (by intro _ _ _; eq_refl) ?_
  exact he_ret rfl (by rfl) (by rfl) (by rfl)
theorem ha_isT16 : hr_T 1 121 [.int 16] (cm g l a b R) (some (.int 1)) (cm g l a b R) := by
  suffices h : ∃ (v : Option Value) (mem' : fx_M), (fun R1 => R1 = (some (.int 1), cm g l a b R)) (v, mem') ∧ hr_T 1 121 [.int 16] (cm g l a b R) v mem' by
    obtain ⟨v, mem', h1, h2⟩ := h
    cases h1
    exact h2
  refine he_meth (F := fun R1 => R1 = (some (.int 1), cm g l a b R)) (M := gk_m121) (by rfl) (by rfl) ?_
  refine he_s 2 (pc' := 3) (lc' := [(0, .int 16)]) (stk' := [.int 11, .int 16]) (mem' := cm g l a b R) (by intro _ _ _; eq_refl) ?_
  refine he_s 1 (pc' := cond (fx_cb .eq 16 11) 48 6) (lc' := [(0, .int 16)]) (stk' := []) (mem' := cm g l a b R) (by intro _ _ _; eq_refl) ?_
  rw [show (fx_cb .eq 16 11) = false from by decide]
  dsimp only [cond]
  refine he_s 2 (pc' := 9) (lc' := [(0, .int 16)]) (stk' := [.int 13, .int 16]) (mem' := cm g l a b R) (by intro _ _ _; eq_refl) ?_
  refine he_s 1 (pc' := cond (fx_cb .eq 16 13) 48 12) (lc' := [(0, .int 16)]) (stk' := []) (mem' := cm g l a b R) (by intro _ _ _; eq_refl) ?_
  rw [show (fx_cb .eq 16 13) = false from by decide]
  dsimp only [cond]
  refine he_s 2 (pc' := 15) (lc' := [(0, .int 16)]) (stk' := [.int 14, .int 16]) (mem' := cm g l a b R) (by intro _ _ _; eq_refl) ?_
  refine he_s 1 (pc' := cond (fx_cb .eq 16 14) 48 18) (lc' := [(0, .int 16)]) (stk' := []) (mem' := cm g l a b R) (by intro _ _ _; eq_refl) ?_
  rw [show (fx_cb .eq 16 14) = false from by decide]
  dsimp only [cond]
  refine he_s 2 (pc' := 21) (lc' := [(0, .int 16)]) (stk' := [.int 15, .int 16]) (mem' := cm g l a b R) (by intro _ _ _; eq_refl) ?_
  refine he_s 1 (pc' := cond (fx_cb .eq 16 15) 48 24) (lc' := [(0, .int 16)]) (stk' := []) (mem' := cm g l a b R) (by intro _ _ _; eq_refl) ?_
  rw [show (fx_cb .eq 16 15) = false from by decide]
  dsimp only [cond]
  refine he_s 2 (pc' := 27) (lc' := [(0, .int 16)]) (stk' := [.int 16, .int 16]) (mem' := cm g l a b R) (by intro _ _ _; eq_refl) ?_
  refine he_s 1 (pc' := cond (fx_cb .eq 16 16) 48 30) (lc' := [(0, .int 16)]) (stk' := []) (mem' := cm g l a b R) (by intro _ _ _; eq_refl) ?_
  rw [show (fx_cb .eq 16 16) = true from by decide]
  dsimp only [cond]
  refine he_s 2 (pc' := 53) (lc' := [(0, .int 16)]) (stk' := [.int 1]) (mem' := cm g l a b R) (by intro _ _ _; eq_refl) ?_
  exact he_ret rfl (by rfl) (by rfl) (by rfl)
theorem ha_isT17 : hr_T 1 121 [.int 17] (cm g l a b R) (some (.int 1)) (cm g l a b R) := by
  suffices h : ∃ (v : Option Value) (mem' : fx_M), (fun R1 => R1 = (some (.int 1), cm g l a b R)) (v, mem') ∧ hr_T 1 121 [.int 17] (cm g l a b R) v mem' by
    obtain ⟨v, mem', h1, h2⟩ := h
    cases h1
    exact h2
  refine he_meth (F := fun R1 => R1 = (some (.int 1), cm g l a b R)) (M := gk_m121) (by rfl) (by rfl) ?_
  refine he_s 2 (pc' := 3) (lc' := [(0, .int 17)]) (stk' := [.int 11, .int 17]) (mem' := cm g l a b R) (by intro _ _ _; eq_refl) ?_
  refine he_s 1 (pc' := cond (fx_cb .eq 17 11) 48 6) (lc' := [(0, .int 17)]) (stk' := []) (mem' := cm g l a b R) (by intro _ _ _; eq_refl) ?_
  rw [show (fx_cb .eq 17 11) = false from by decide]
  dsimp only [cond]
  refine he_s 2 (pc' := 9) (lc' := [(0, .int 17)]) (stk' := [.int 13, .int 17]) (mem' := cm g l a b R) (by intro _ _ _; eq_refl) ?_
  refine he_s 1 (pc' := cond (fx_cb .eq 17 13) 48 12) (lc' := [(0, .int 17)]) (stk' := []) (mem' := cm g l a b R) (by intro _ _ _; eq_refl) ?_
  rw [show (fx_cb .eq 17 13) = false from by decide]
  dsimp only [cond]
  refine he_s 2 (pc' := 15) (lc' := [(0, .int 17)]) (stk' := [.int 14, .int 17]) (mem' := cm g l a b R) (by intro _ _ _; eq_refl) ?_
  refine he_s 1 (pc' := cond (fx_cb .eq 17 14) 48 18) (lc' := [(0, .int 17)]) (stk' := []) (mem' := cm g l a b R) (by intro _ _ _; eq_refl) ?_
  rw [show (fx_cb .eq 17 14) = false from by decide]
  dsimp only [cond]
  refine he_s 2 (pc' := 21) (lc' := [(0, .int 17)]) (stk' := [.int 15, .int 17]) (mem' := cm g l a b R) (by intro _ _ _; eq_refl) ?_
  refine he_s 1 (pc' := cond (fx_cb .eq 17 15) 48 24) (lc' := [(0, .int 17)]) (stk' := []) (mem' := cm g l a b R) (by intro _ _ _; eq_refl) ?_
  rw [show (fx_cb .eq 17 15) = false from by decide]
  dsimp only [cond]
  refine he_s 2 (pc' := 27) (lc' := [(0, .int 17)]) (stk' := [.int 16, .int 17]) (mem' := cm g l a b R) (by intro _ _ _; eq_refl) ?_
  refine he_s 1 (pc' := cond (fx_cb .eq 17 16) 48 30) (lc' := [(0, .int 17)]) (stk' := []) (mem' := cm g l a b R) (by intro _ _ _; eq_refl) ?_
  rw [show (fx_cb .eq 17 16) = false from by decide]
  dsimp only [cond]
  refine he_s 2 (pc' := 33) (lc' := [(0, .int 17)]) (stk' := [.int 17, .int 17]) (mem' := cm g l a b R) (by intro _ _ _; eq_refl) ?_
  refine he_s 1 (pc' := cond (fx_cb .eq 17 17) 48 36) (lc' := [(0, .int 17)]) (stk' := []) (mem' := cm g l a b R) (by intro _ _ _; eq_refl) ?_
  rw [show (fx_cb .eq 17 17) = true from by decide]
  dsimp only [cond]
  refine he_s 2 (pc' := 53) (lc' := [(0, .int 17)]) (stk' := [.int 1]) (mem' := cm g l a b R) (by intro _ _ _; eq_refl) ?_
  exact he_ret rfl (by rfl) (by rfl) (by rfl)
theorem ha_isT20 : hr_T 1 121 [.int 20] (cm g l a b R) (some (.int 1)) (cm g l a b R) := by
  suffices h : ∃ (v : Option Value) (mem' : fx_M), (fun R1 => R1 = (some (.int 1), cm g l a b R)) (v, mem') ∧ hr_T 1 121 [.int 20] (cm g l a b R) v mem' by
    obtain ⟨v, mem', h1, h2⟩ := h
    cases h1
    exact h2
  refine he_meth (F := fun R1 => R1 = (some (.int 1), cm g l a b R)) (M := gk_m121) (by rfl) (by rfl) ?_
  refine he_s 2 (pc' := 3) (lc' := [(0, .int 20)]) (stk' := [.int 11, .int 20]) (mem' := cm g l a b R) (by intro _ _ _; eq_refl) ?_
  refine he_s 1 (pc' := cond (fx_cb .eq 20 11) 48 6) (lc' := [(0, .int 20)]) (stk' := []) (mem' := cm g l a b R) (by intro _ _ _; eq_refl) ?_
  rw [show (fx_cb .eq 20 11) = false from by decide]
  dsimp only [cond]
  refine he_s 2 (pc' := 9) (lc' := [(0, .int 20)]) (stk' := [.int 13, .int 20]) (mem' := cm g l a b R) (by intro _ _ _; eq_refl) ?_
  refine he_s 1 (pc' := cond (fx_cb .eq 20 13) 48 12) (lc' := [(0, .int 20)]) (stk' := []) (mem' := cm g l a b R) (by intro _ _ _; eq_refl) ?_
  rw [show (fx_cb .eq 20 13) = false from by decide]
  dsimp only [cond]
  refine he_s 2 (pc' := 15) (lc' := [(0, .int 20)]) (stk' := [.int 14, .int 20]) (mem' := cm g l a b R) (by intro _ _ _; eq_refl) ?_
  refine he_s 1 (pc' := cond (fx_cb .eq 20 14) 48 18) (lc' := [(0, .int 20)]) (stk' := []) (mem' := cm g l a b R) (by intro _ _ _; eq_refl) ?_
  rw [show (fx_cb .eq 20 14) = false from by decide]
  dsimp only [cond]
  refine he_s 2 (pc' := 21) (lc' := [(0, .int 20)]) (stk' := [.int 15, .int 20]) (mem' := cm g l a b R) (by intro _ _ _; eq_refl) ?_
  refine he_s 1 (pc' := cond (fx_cb .eq 20 15) 48 24) (lc' := [(0, .int 20)]) (stk' := []) (mem' := cm g l a b R) (by intro _ _ _; eq_refl) ?_
  rw [show (fx_cb .eq 20 15) = false from by decide]
  dsimp only [cond]
  refine he_s 2 (pc' := 27) (lc' := [(0, .int 20)]) (stk' := [.int 16, .int 20]) (mem' := cm g l a b R) (by intro _ _ _; eq_refl) ?_
  refine he_s 1 (pc' := cond (fx_cb .eq 20 16) 48 30) (lc' := [(0, .int 20)]) (stk' := []) (mem' := cm g l a b R) (by intro _ _ _; eq_refl) ?_
  rw [show (fx_cb .eq 20 16) = false from by decide]
  dsimp only [cond]
  refine he_s 2 (pc' := 33) (lc' := [(0, .int 20)]) (stk' := [.int 17, .int 20]) (mem' := cm g l a b R) (by intro _ _ _; eq_refl) ?_
  refine he_s 1 (pc' := cond (fx_cb .eq 20 17) 48 36) (lc' := [(0, .int 20)]) (stk' := []) (mem' := cm g l a b R) (by intro _ _ _; eq_refl) ?_
  rw [show (fx_cb .eq 20 17) = false from by decide]
  dsimp only [cond]
  refine he_s 2 (pc' := 39) (lc' := [(0, .int 20)]) (stk' := [.int 20, .int 20]) (mem' := cm g l a b R) (by intro _ _ _; eq_refl) ?_
  refine he_s 1 (pc' := cond (fx_cb .eq 20 20) 48 42) (lc' := [(0, .int 20)]) (stk' := []) (mem' := cm g l a b R) (by intro _ _ _; eq_refl) ?_
  rw [show (fx_cb .eq 20 20) = true from by decide]
  dsimp only [cond]
  refine he_s 2 (pc' := 53) (lc' := [(0, .int 20)]) (stk' := [.int 1]) (mem' := cm g l a b R) (by intro _ _ _; eq_refl) ?_
  exact he_ret rfl (by rfl) (by rfl) (by rfl)
theorem ha_isT22 : hr_T 1 121 [.int 22] (cm g l a b R) (some (.int 1)) (cm g l a b R) := by
  suffices h : ∃ (v : Option Value) (mem' : fx_M), (fun R1 => R1 = (some (.int 1), cm g l a b R)) (v, mem') ∧ hr_T 1 121 [.int 22] (cm g l a b R) v mem' by
    obtain ⟨v, mem', h1, h2⟩ := h
    cases h1
    exact h2
  refine he_meth (F := fun R1 => R1 = (some (.int 1), cm g l a b R)) (M := gk_m121) (by rfl) (by rfl) ?_
  refine he_s 2 (pc' := 3) (lc' := [(0, .int 22)]) (stk' := [.int 11, .int 22]) (mem' := cm g l a b R) (by intro _ _ _; eq_refl) ?_
  refine he_s 1 (pc' := cond (fx_cb .eq 22 11) 48 6) (lc' := [(0, .int 22)]) (stk' := []) (mem' := cm g l a b R) (by intro _ _ _; eq_refl) ?_
  rw [show (fx_cb .eq 22 11) = false from by decide]
  dsimp only [cond]
  refine he_s 2 (pc' := 9) (lc' := [(0, .int 22)]) (stk' := [.int 13, .int 22]) (mem' := cm g l a b R) (by intro _ _ _; eq_refl) ?_
  refine he_s 1 (pc' := cond (fx_cb .eq 22 13) 48 12) (lc' := [(0, .int 22)]) (stk' := []) (mem' := cm g l a b R) (by intro _ _ _; eq_refl) ?_
  rw [show (fx_cb .eq 22 13) = false from by decide]
  dsimp only [cond]
  refine he_s 2 (pc' := 15) (lc' := [(0, .int 22)]) (stk' := [.int 14, .int 22]) (mem' := cm g l a b R) (by intro _ _ _; eq_refl) ?_
  refine he_s 1 (pc' := cond (fx_cb .eq 22 14) 48 18) (lc' := [(0, .int 22)]) (stk' := []) (mem' := cm g l a b R) (by intro _ _ _; eq_refl) ?_
  rw [show (fx_cb .eq 22 14) = false from by decide]
  dsimp only [cond]
  refine he_s 2 (pc' := 21) (lc' := [(0, .int 22)]) (stk' := [.int 15, .int 22]) (mem' := cm g l a b R) (by intro _ _ _; eq_refl) ?_
  refine he_s 1 (pc' := cond (fx_cb .eq 22 15) 48 24) (lc' := [(0, .int 22)]) (stk' := []) (mem' := cm g l a b R) (by intro _ _ _; eq_refl) ?_
  rw [show (fx_cb .eq 22 15) = false from by decide]
  dsimp only [cond]
  refine he_s 2 (pc' := 27) (lc' := [(0, .int 22)]) (stk' := [.int 16, .int 22]) (mem' := cm g l a b R) (by intro _ _ _; eq_refl) ?_
  refine he_s 1 (pc' := cond (fx_cb .eq 22 16) 48 30) (lc' := [(0, .int 22)]) (stk' := []) (mem' := cm g l a b R) (by intro _ _ _; eq_refl) ?_
  rw [show (fx_cb .eq 22 16) = false from by decide]
  dsimp only [cond]
  refine he_s 2 (pc' := 33) (lc' := [(0, .int 22)]) (stk' := [.int 17, .int 22]) (mem' := cm g l a b R) (by intro _ _ _; eq_refl) ?_
  refine he_s 1 (pc' := cond (fx_cb .eq 22 17) 48 36) (lc' := [(0, .int 22)]) (stk' := []) (mem' := cm g l a b R) (by intro _ _ _; eq_refl) ?_
  rw [show (fx_cb .eq 22 17) = false from by decide]
  dsimp only [cond]
  refine he_s 2 (pc' := 39) (lc' := [(0, .int 22)]) (stk' := [.int 20, .int 22]) (mem' := cm g l a b R) (by intro _ _ _; eq_refl) ?_
  refine he_s 1 (pc' := cond (fx_cb .eq 22 20) 48 42) (lc' := [(0, .int 22)]) (stk' := []) (mem' := cm g l a b R) (by intro _ _ _; eq_refl) ?_
  rw [show (fx_cb .eq 22 20) = false from by decide]
  dsimp only [cond]
  refine he_s 2 (pc' := 45) (lc' := [(0, .int 22)]) (stk' := [.int 22, .int 22]) (mem' := cm g l a b R) (by intro _ _ _; eq_refl) ?_
  refine he_s 1 (pc' := cond (fx_cb .ne 22 22) 52 48) (lc' := [(0, .int 22)]) (stk' := []) (mem' := cm g l a b R) (by intro _ _ _; eq_refl) ?_
  rw [show (fx_cb .ne 22 22) = false from by decide]
  dsimp only [cond]
  refine he_s 2 (pc' := 53) (lc' := [(0, .int 22)]) (stk' := [.int 1]) (mem' := cm g l a b R) (by intro _ _ _; eq_refl) ?_
  exact he_ret rfl (by rfl) (by rfl) (by rfl)
theorem ha_isT21 : hr_T 1 121 [.int 21] (cm g l a b R) (some (.int 0)) (cm g l a b R) := by
  suffices h : ∃ (v : Option Value) (mem' : fx_M), (fun R1 => R1 = (some (.int 0), cm g l a b R)) (v, mem') ∧ hr_T 1 121 [.int 21] (cm g l a b R) v mem' by
    obtain ⟨v, mem', h1, h2⟩ := h
    cases h1
    exact h2
  refine he_meth (F := fun R1 => R1 = (some (.int 0), cm g l a b R)) (M := gk_m121) (by rfl) (by rfl) ?_
  refine he_s 2 (pc' := 3) (lc' := [(0, .int 21)]) (stk' := [.int 11, .int 21]) (mem' := cm g l a b R) (by intro _ _ _; eq_refl) ?_
  refine he_s 1 (pc' := cond (fx_cb .eq 21 11) 48 6) (lc' := [(0, .int 21)]) (stk' := []) (mem' := cm g l a b R) (by intro _ _ _; eq_refl) ?_
  rw [show (fx_cb .eq 21 11) = false from by decide]
  dsimp only [cond]
  refine he_s 2 (pc' := 9) (lc' := [(0, .int 21)]) (stk' := [.int 13, .int 21]) (mem' := cm g l a b R) (by intro _ _ _; eq_refl) ?_
  refine he_s 1 (pc' := cond (fx_cb .eq 21 13) 48 12) (lc' := [(0, .int 21)]) (stk' := []) (mem' := cm g l a b R) (by intro _ _ _; eq_refl) ?_
  rw [show (fx_cb .eq 21 13) = false from by decide]
  dsimp only [cond]
  refine he_s 2 (pc' := 15) (lc' := [(0, .int 21)]) (stk' := [.int 14, .int 21]) (mem' := cm g l a b R) (by intro _ _ _; eq_refl) ?_
  refine he_s 1 (pc' := cond (fx_cb .eq 21 14) 48 18) (lc' := [(0, .int 21)]) (stk' := []) (mem' := cm g l a b R) (by intro _ _ _; eq_refl) ?_
  rw [show (fx_cb .eq 21 14) = false from by decide]
  dsimp only [cond]
  refine he_s 2 (pc' := 21) (lc' := [(0, .int 21)]) (stk' := [.int 15, .int 21]) (mem' := cm g l a b R) (by intro _ _ _; eq_refl) ?_
  refine he_s 1 (pc' := cond (fx_cb .eq 21 15) 48 24) (lc' := [(0, .int 21)]) (stk' := []) (mem' := cm g l a b R) (by intro _ _ _; eq_refl) ?_
  rw [show (fx_cb .eq 21 15) = false from by decide]
  dsimp only [cond]
  refine he_s 2 (pc' := 27) (lc' := [(0, .int 21)]) (stk' := [.int 16, .int 21]) (mem' := cm g l a b R) (by intro _ _ _; eq_refl) ?_
  refine he_s 1 (pc' := cond (fx_cb .eq 21 16) 48 30) (lc' := [(0, .int 21)]) (stk' := []) (mem' := cm g l a b R) (by intro _ _ _; eq_refl) ?_
  rw [show (fx_cb .eq 21 16) = false from by decide]
  dsimp only [cond]
  refine he_s 2 (pc' := 33) (lc' := [(0, .int 21)]) (stk' := [.int 17, .int 21]) (mem' := cm g l a b R) (by intro _ _ _; eq_refl) ?_
  refine he_s 1 (pc' := cond (fx_cb .eq 21 17) 48 36) (lc' := [(0, .int 21)]) (stk' := []) (mem' := cm g l a b R) (by intro _ _ _; eq_refl) ?_
  rw [show (fx_cb .eq 21 17) = false from by decide]
  dsimp only [cond]
  refine he_s 2 (pc' := 39) (lc' := [(0, .int 21)]) (stk' := [.int 20, .int 21]) (mem' := cm g l a b R) (by intro _ _ _; eq_refl) ?_
  refine he_s 1 (pc' := cond (fx_cb .eq 21 20) 48 42) (lc' := [(0, .int 21)]) (stk' := []) (mem' := cm g l a b R) (by intro _ _ _; eq_refl) ?_
  rw [show (fx_cb .eq 21 20) = false from by decide]
  dsimp only [cond]
  refine he_s 2 (pc' := 45) (lc' := [(0, .int 21)]) (stk' := [.int 22, .int 21]) (mem' := cm g l a b R) (by intro _ _ _; eq_refl) ?_
  refine he_s 1 (pc' := cond (fx_cb .ne 21 22) 52 48) (lc' := [(0, .int 21)]) (stk' := []) (mem' := cm g l a b R) (by intro _ _ _; eq_refl) ?_
  rw [show (fx_cb .ne 21 22) = true from by decide]
  dsimp only [cond]
  refine he_s 1 (pc' := 53) (lc' := [(0, .int 21)]) (stk' := [.int 0]) (mem' := cm g l a b R) (by intro _ _ _; eq_refl) ?_
  exact he_ret rfl (by rfl) (by rfl) (by rfl)
theorem ha_isN {y : Int32} (y11 : ¬ y = 11) (y13 : ¬ y = 13) (y14 : ¬ y = 14) (y15 : ¬ y = 15) (y16 : ¬ y = 16) (y17 : ¬ y = 17) (y20 : ¬ y = 20) (y22 : ¬ y = 22) : hr_T 1 121 [.int y] (cm g l a b R) (some (.int 0)) (cm g l a b R) := by
  suffices h : ∃ (v : Option Value) (mem' : fx_M), (fun R1 => R1 = (some (.int 0), cm g l a b R)) (v, mem') ∧ hr_T 1 121 [.int y] (cm g l a b R) v mem' by
    obtain ⟨v, mem', h1, h2⟩ := h
    cases h1
    exact h2
  refine he_meth (F := fun R1 => R1 = (some (.int 0), cm g l a b R)) (M := gk_m121) (by rfl) (by rfl) ?_
  refine he_s 2 (pc' := 3) (lc' := [(0, .int y)]) (stk' := [.int 11, .int y]) (mem' := cm g l a b R) (by intro _ _ _; eq_refl) ?_
  refine he_s 1 (pc' := cond (fx_cb .eq y 11) 48 6) (lc' := [(0, .int y)]) (stk' := []) (mem' := cm g l a b R) (by intro _ _ _; eq_refl) ?_
  rw [show (fx_cb .eq y 11) = false from decide_eq_false y11]
  dsimp only [cond]
  refine he_s 2 (pc' := 9) (lc' := [(0, .int y)]) (stk' := [.int 13, .int y]) (mem' := cm g l a b R) (by intro _ _ _; eq_refl) ?_
  refine he_s 1 (pc' := cond (fx_cb .eq y 13) 48 12) (lc' := [(0, .int y)]) (stk' := []) (mem' := cm g l a b R) (by intro _ _ _; eq_refl) ?_
  rw [show (fx_cb .eq y 13) = false from decide_eq_false y13]
  dsimp only [cond]
  refine he_s 2 (pc' := 15) (lc' := [(0, .int y)]) (stk' := [.int 14, .int y]) (mem' := cm g l a b R) (by intro _ _ _; eq_refl) ?_
  refine he_s 1 (pc' := cond (fx_cb .eq y 14) 48 18) (lc' := [(0, .int y)]) (stk' := []) (mem' := cm g l a b R) (by intro _ _ _; eq_refl) ?_
  rw [show (fx_cb .eq y 14) = false from decide_eq_false y14]
  dsimp only [cond]
  refine he_s 2 (pc' := 21) (lc' := [(0, .int y)]) (stk' := [.int 15, .int y]) (mem' := cm g l a b R) (by intro _ _ _; eq_refl) ?_
  refine he_s 1 (pc' := cond (fx_cb .eq y 15) 48 24) (lc' := [(0, .int y)]) (stk' := []) (mem' := cm g l a b R) (by intro _ _ _; eq_refl) ?_
  rw [show (fx_cb .eq y 15) = false from decide_eq_false y15]
  dsimp only [cond]
  refine he_s 2 (pc' := 27) (lc' := [(0, .int y)]) (stk' := [.int 16, .int y]) (mem' := cm g l a b R) (by intro _ _ _; eq_refl) ?_
  refine he_s 1 (pc' := cond (fx_cb .eq y 16) 48 30) (lc' := [(0, .int y)]) (stk' := []) (mem' := cm g l a b R) (by intro _ _ _; eq_refl) ?_
  rw [show (fx_cb .eq y 16) = false from decide_eq_false y16]
  dsimp only [cond]
  refine he_s 2 (pc' := 33) (lc' := [(0, .int y)]) (stk' := [.int 17, .int y]) (mem' := cm g l a b R) (by intro _ _ _; eq_refl) ?_
  refine he_s 1 (pc' := cond (fx_cb .eq y 17) 48 36) (lc' := [(0, .int y)]) (stk' := []) (mem' := cm g l a b R) (by intro _ _ _; eq_refl) ?_
  rw [show (fx_cb .eq y 17) = false from decide_eq_false y17]
  dsimp only [cond]
  refine he_s 2 (pc' := 39) (lc' := [(0, .int y)]) (stk' := [.int 20, .int y]) (mem' := cm g l a b R) (by intro _ _ _; eq_refl) ?_
  refine he_s 1 (pc' := cond (fx_cb .eq y 20) 48 42) (lc' := [(0, .int y)]) (stk' := []) (mem' := cm g l a b R) (by intro _ _ _; eq_refl) ?_
  rw [show (fx_cb .eq y 20) = false from decide_eq_false y20]
  dsimp only [cond]
  refine he_s 2 (pc' := 45) (lc' := [(0, .int y)]) (stk' := [.int 22, .int y]) (mem' := cm g l a b R) (by intro _ _ _; eq_refl) ?_
  refine he_s 1 (pc' := cond (fx_cb .ne y 22) 52 48) (lc' := [(0, .int y)]) (stk' := []) (mem' := cm g l a b R) (by intro _ _ _; eq_refl) ?_
  rw [show (fx_cb .ne y 22) = true from cb_nv_ne y22]
  dsimp only [cond]
  refine he_s 1 (pc' := 53) (lc' := [(0, .int y)]) (stk' := [.int 0]) (mem' := cm g l a b R) (by intro _ _ _; eq_refl) ?_
  exact he_ret rfl (by rfl) (by rfl) (by rfl)
theorem ha_rs11 (hg : ctx a b T n) (hA : cn_L 15 A g b) (hO : opn a) (h : co g l T n p) (hc : c ≤ 30) (hd : d ≤ 3) (h60 : g 60 6 = nI c) (h13 : g 13 2 = nI d) (h67 : g 60 7 = 1) (hw : g 9 7 = 11) : ∃ (v : Option Value) (mem' : fx_M), (fun R1 => ∃ (g' : Nat → Nat → Int32) (l' : Nat → Nat → Int64) (a' : Nat → Nat → Int32), tfd g l a g' l' a' ∧ tRes g' l' a' T n A (tl_k T n A c d p 11) ∧ R1 = (none, cm g' l' a' b R)) (v, mem') ∧ hr_T 6 122 [.ref 13, .ref 15, .ref 60] (cm g l a b R) v mem' := by
  refine he_meth (F := fun R1 => ∃ (g' : Nat → Nat → Int32) (l' : Nat → Nat → Int64) (a' : Nat → Nat → Int32), tfd g l a g' l' a' ∧ tRes g' l' a' T n A (tl_k T n A c d p 11) ∧ R1 = (none, cm g' l' a' b R)) (M := gk_m122) (by rfl) (by rfl) ?_
  refine he_s 8 (pc' := 15) (lc' := [(4, .int (g 60 6)), (3, .int (g 9 7)), (0, .ref 13), (1, .ref 15), (2, .ref 60)]) (stk' := [.int (g 9 7)]) (mem' := cm g l a b R) (by intro _ _ _; eq_refl) ?_
  try rw [hw]
  try rw [h60]
  refine he_ivS (ha_isT11 (g := g) (l := l) (a := a) (b := b) (R := R)) (by omega) (by rfl) (by rfl) (by rfl) (by rfl) (by rfl) ?_
  refine he_s 1 (pc' := cond (fx_cb .ne 1 0) 31 21) (lc' := [(4, .int (nI c)), (3, .int 11), (0, .ref 13), (1, .ref 15), (2, .ref 60)]) (stk' := []) (mem' := cm g l a b R) (by intro _ _ _; eq_refl) ?_
  rw [show (fx_cb .ne 1 0) = true from by decide]
  dsimp only [cond]
  refine he_s 2 (pc' := 35) (lc' := [(4, .int (nI c)), (3, .int 11), (0, .ref 13), (1, .ref 15), (2, .ref 60)]) (stk' := [.int 30, .int (nI c)]) (mem' := cm g l a b R) (by intro _ _ _; eq_refl) ?_
  refine he_s 1 (pc' := cond (fx_cb .lt (nI c) 30) 50 38) (lc' := [(4, .int (nI c)), (3, .int 11), (0, .ref 13), (1, .ref 15), (2, .ref 60)]) (stk' := []) (mem' := cm g l a b R) (by intro _ _ _; eq_refl) ?_
  by_cases y1 : c < 30
  · rw [show (fx_cb .lt (nI c) 30) = true from cb_ltT (a := c) (b := 30) (by omega) (by omega) (by omega)]
    dsimp only [cond]
    refine he_s 2 (pc' := 53) (lc' := [(4, .int (nI c)), (3, .int 11), (0, .ref 13), (1, .ref 15), (2, .ref 60)]) (stk' := [.int 17, .int 11]) (mem' := cm g l a b R) (by intro _ _ _; eq_refl) ?_
    refine he_s 1 (pc' := cond (fx_cb .eq 11 17) 62 56) (lc' := [(4, .int (nI c)), (3, .int 11), (0, .ref 13), (1, .ref 15), (2, .ref 60)]) (stk' := []) (mem' := cm g l a b R) (by intro _ _ _; eq_refl) ?_
    rw [show (fx_cb .eq 11 17) = false from by decide]
    dsimp only [cond]
    refine he_s 2 (pc' := 59) (lc' := [(4, .int (nI c)), (3, .int 11), (0, .ref 13), (1, .ref 15), (2, .ref 60)]) (stk' := [.int 20, .int 11]) (mem' := cm g l a b R) (by intro _ _ _; eq_refl) ?_
    refine he_s 1 (pc' := cond (fx_cb .ne 11 20) 79 62) (lc' := [(4, .int (nI c)), (3, .int 11), (0, .ref 13), (1, .ref 15), (2, .ref 60)]) (stk' := []) (mem' := cm g l a b R) (by intro _ _ _; eq_refl) ?_
    rw [show (fx_cb .ne 11 20) = true from by decide]
    dsimp only [cond]
    refine he_s 3 (pc' := 86) (lc' := [(4, .int (nI c)), (3, .int 11), (0, .ref 13), (1, .ref 15), (2, .ref 60)]) (stk' := [.int (g 9 10)]) (mem' := cm g l a b R) (by intro _ _ _; eq_refl) ?_
    try rw [h.2.2.1]
    refine he_s 1 (pc' := cond (fx_cb .eq 0 0) 90 89) (lc' := [(4, .int (nI c)), (3, .int 11), (0, .ref 13), (1, .ref 15), (2, .ref 60)]) (stk' := []) (mem' := cm g l a b R) (by intro _ _ _; eq_refl) ?_
    rw [show (fx_cb .eq 0 0) = true from by decide]
    dsimp only [cond]
    refine he_s 2 (pc' := 94) (lc' := [(4, .int (nI c)), (3, .int 11), (0, .ref 13), (1, .ref 15), (2, .ref 60)]) (stk' := [.ref 9]) (mem' := cm g l a b R) (by intro _ _ _; eq_refl) ?_
    obtain ⟨gc2, lc2, hrc2, hmc2, frc2⟩ := ha_scano (R := R) hg h
    refine he_ivV hrc2 (by omega) (by rfl) (by rfl) (by rfl) (by rfl) (by rfl) (by rfl) ?_
    have fc2_60_6 : gc2 60 6 = nI c := (congrFun (frc2.1 60 (by decide)) 6).trans h60
    have fc2_13_2 : gc2 13 2 = nI d := (congrFun (frc2.1 13 (by decide)) 2).trans h13
    have fc2_60_7 : gc2 60 7 = 1 := (congrFun (frc2.1 60 (by decide)) 7).trans h67
    have hfc2 := cfr_tr cfr_rf frc2
    have hAc2 := cn_L_fr hA frc2 (by decide) (by decide)
    have hTc2 := tfd_tr tfd_rf (tfd_c (a := a) frc2)
    refine he_s 2 (pc' := 100) (lc' := [(4, .int (nI c)), (3, .int 11), (0, .ref 13), (1, .ref 15), (2, .ref 60)]) (stk' := [.int 17, .int 11]) (mem' := cm gc2 lc2 a b R) (by intro _ _ _; eq_refl) ?_
    refine he_s 1 (pc' := cond (fx_cb .ne 11 17) 114 103) (lc' := [(4, .int (nI c)), (3, .int 11), (0, .ref 13), (1, .ref 15), (2, .ref 60)]) (stk' := []) (mem' := cm gc2 lc2 a b R) (by intro _ _ _; eq_refl) ?_
    rw [show (fx_cb .ne 11 17) = true from by decide]
    dsimp only [cond]
    refine he_s 5 (pc' := 120) (lc' := [(4, .int (nI c)), (3, .int 11), (0, .ref 13), (1, .ref 15), (2, .ref 60)]) (stk' := [.int (nI c), .int 11, .ref 60, .ref 15, .ref 13]) (mem' := cm gc2 lc2 a b R) (by intro _ _ _; eq_refl) ?_
    obtain ⟨vc3, memc3, ⟨gc3, lc3, ac3, ⟨frc3, rac3⟩, hxc3, hRc3⟩, hrc3⟩ := ha_rr11 (R := R) (c := c) hg hAc2 hO hmc2 (by omega)
    cases hRc3
    refine he_ivV hrc3 (by omega) (by rfl) (by rfl) (by rfl) (by rfl) (by rfl) (by rfl) ?_
    have fc3_60_6 : gc3 60 6 = nI c := (congrFun (frc3.1 60 (by decide)) 6).trans fc2_60_6
    have fc3_13_2 : gc3 13 2 = nI d := (congrFun (frc3.1 13 (by decide)) 2).trans fc2_13_2
    have fc3_60_7 : gc3 60 7 = 1 := (congrFun (frc3.1 60 (by decide)) 7).trans fc2_60_7
    have hfc3 := cfr_tr hfc2 frc3
    have hAc3 := cn_L_fr hAc2 frc3 (by decide) (by decide)
    have hTc3 := tfd_tr (tfd_tr hTc2 (tfd_c (a := a) frc3)) (tfd_r rac3)
    have hgc3 := ctx_r hg rac3
    have hOc3 := opn_r hO rac3
    rcases hxc3 with ⟨qc3, hmc3, hqc3⟩ | ⟨zc3, hmc3, hqc3⟩
    · refine he_s 3 (pc' := 129) (lc' := [(4, .int (nI c)), (3, .int 11), (0, .ref 13), (1, .ref 15), (2, .ref 60)]) (stk' := [.int 59, .ref 9]) (mem' := cm gc3 lc3 ac3 b R) (by intro _ _ _; eq_refl) ?_
      obtain ⟨vc4, memc4, ⟨xc4, gc4, lc4, frc4, hxc4, hRc4⟩, hrc4⟩ := ha_ps0 (w := 59) (R := R) hgc3 (by decide) hmc3
      cases hRc4
      refine he_ivV hrc4 (by omega) (by rfl) (by rfl) (by rfl) (by rfl) (by rfl) (by rfl) ?_
      have fc4_60_6 : gc4 60 6 = nI c := (congrFun (frc4.1 60 (by decide)) 6).trans fc3_60_6
      have fc4_13_2 : gc4 13 2 = nI d := (congrFun (frc4.1 13 (by decide)) 2).trans fc3_13_2
      have fc4_60_7 : gc4 60 7 = 1 := (congrFun (frc4.1 60 (by decide)) 7).trans fc3_60_7
      have hfc4 := cfr_tr hfc3 frc4
      have hAc4 := cn_L_fr hAc3 frc4 (by decide) (by decide)
      have hTc4 := tfd_tr hTc3 (tfd_c (a := ac3) frc4)
      rcases hxc4 with ⟨hwc4, rfl, hmc4⟩ | ⟨hwc4, rfl, hmc4⟩
      · refine he_s 1 (pc' := cond (fx_cb .ne 1 0) 136 135) (lc' := [(4, .int (nI c)), (3, .int 11), (0, .ref 13), (1, .ref 15), (2, .ref 60)]) (stk' := []) (mem' := cm gc4 lc4 ac3 b R) (by intro _ _ _; eq_refl) ?_
        rw [show (fx_cb .ne 1 0) = true from by decide]
        dsimp only [cond]
        refine he_s 4 (pc' := 143) (lc' := [(4, .int (nI c)), (3, .int 11), (0, .ref 13), (1, .ref 15), (2, .ref 60)]) (stk' := [.int 11, .int (nI c), .ref 61]) (mem' := cm gc4 lc4 ac3 b R) (by intro _ _ _; eq_refl) ?_
        refine he_stI (mem' := cm gc4 lc4 (fm_u ac3 61 (nI c : Int32).toNatClampNeg 11) b R) (by rfl) (by rfl) (fx_inN (i := c) (by omega) (by omega)) cm_si61 ?_
        rw [show Int32.toNatClampNeg (nI c) = c from nI_clamp (by omega)]
        have hgs5 : ctx (fm_u ac3 61 c 11) b T n := ctx_t hgc3 (by decide)
        have hTs5 : tfd g l a gc4 lc4 (fm_u ac3 61 c 11) := tfd_tr hTc4 (tfd_a (by decide))
        have hOs5 : opn (fm_u ac3 61 c 11) := opn_n hOc3 (by decide)
        refine he_s 7 (pc' := 155) (lc' := [(4, .int (nI c)), (3, .int 11), (0, .ref 13), (1, .ref 15), (2, .ref 60)]) (stk' := [.int 17, .int 11]) (mem' := cm (fm_u gc4 60 6 ((nI c) + 1)) lc4 (fm_u ac3 61 c 11) b R) (by intro _ _ _; eq_refl) ?_
        rw [show ((nI c) + 1 : Int32) = nI (c + 1) from by simp only [show (1 : Int32) = nI 1 from rfl, nI_add, fm_mul]]
        have hmw6 : co (fm_u gc4 60 6 (nI (c + 1))) lc4 T n (sp_n T n qc3) := co_t hmc4 (by decide)
        have hAw6 : cn_L 15 A (fm_u gc4 60 6 (nI (c + 1))) b := cn_15u hAc4 (by decide) (by decide)
        have hTw6 : tfd g l a (fm_u gc4 60 6 (nI (c + 1))) lc4 (fm_u ac3 61 c 11) := tfd_tr hTs5 (tfd_g (by decide))
        have fw6_13_2 : (fm_u gc4 60 6 (nI (c + 1))) 13 2 = nI d := (congrFun (fm_un (by decide)) 2).trans fc4_13_2
        have fw6_60_7 : (fm_u gc4 60 6 (nI (c + 1))) 60 7 = 1 := (fm_uo (by decide)).trans fc4_60_7
        have fw6_60_6 : (fm_u gc4 60 6 (nI (c + 1))) 60 6 = nI (c + 1) := fm_ue
        refine he_s 1 (pc' := cond (fx_cb .eq 11 17) 164 158) (lc' := [(4, .int (nI c)), (3, .int 11), (0, .ref 13), (1, .ref 15), (2, .ref 60)]) (stk' := []) (mem' := cm (fm_u gc4 60 6 (nI (c + 1))) lc4 (fm_u ac3 61 c 11) b R) (by intro _ _ _; eq_refl) ?_
        rw [show (fx_cb .eq 11 17) = false from by decide]
        dsimp only [cond]
        refine he_s 2 (pc' := 161) (lc' := [(4, .int (nI c)), (3, .int 11), (0, .ref 13), (1, .ref 15), (2, .ref 60)]) (stk' := [.int 20, .int 11]) (mem' := cm (fm_u gc4 60 6 (nI (c + 1))) lc4 (fm_u ac3 61 c 11) b R) (by intro _ _ _; eq_refl) ?_
        refine he_s 1 (pc' := cond (fx_cb .ne 11 20) 185 164) (lc' := [(4, .int (nI c)), (3, .int 11), (0, .ref 13), (1, .ref 15), (2, .ref 60)]) (stk' := []) (mem' := cm (fm_u gc4 60 6 (nI (c + 1))) lc4 (fm_u ac3 61 c 11) b R) (by intro _ _ _; eq_refl) ?_
        rw [show (fx_cb .ne 11 20) = true from by decide]
        dsimp only [cond]
        refine he_ret ⟨_, _, _, hTw6, ?_, rfl⟩ (by rfl) (by rfl) (by rfl)
        rw [show tl_k T n A c d p 11 = (if 30 ≤ c then .inl (6, sp_s T n p) else if false = true ∧ 3 ≤ d then .inl (7, sp_s T n p) else tl_rest T n A 11 (sp_n T n p) (fun q => sp_sign T n 59 q (fun q2 => .inr (A, 4 * (c + 1) + d, q2)))) from rfl, if_neg (by omega), if_neg (fun z => by cases z.1), hqc3, sp_sign_t hwc4]
        exact ⟨rfl, hmw6, (by dsimp only; omega), by rw [show (4 * (c + 1) + d) / 4 = c + 1 by omega]; exact fw6_60_6, by rw [show (4 * (c + 1) + d) % 4 = d by omega]; exact fw6_13_2, hOs5, fw6_60_7⟩
      · refine he_s 1 (pc' := cond (fx_cb .ne 0 0) 136 135) (lc' := [(4, .int (nI c)), (3, .int 11), (0, .ref 13), (1, .ref 15), (2, .ref 60)]) (stk' := []) (mem' := cm gc4 lc4 ac3 b R) (by intro _ _ _; eq_refl) ?_
        rw [show (fx_cb .ne 0 0) = false from by decide]
        dsimp only [cond]
        refine he_ret ⟨_, _, _, hTc4, ?_, rfl⟩ (by rfl) (by rfl) (by rfl)
        rw [show tl_k T n A c d p 11 = (if 30 ≤ c then .inl (6, sp_s T n p) else if false = true ∧ 3 ≤ d then .inl (7, sp_s T n p) else tl_rest T n A 11 (sp_n T n p) (fun q => sp_sign T n 59 q (fun q2 => .inr (A, 4 * (c + 1) + d, q2)))) from rfl, if_neg (by omega), if_neg (fun z => by cases z.1), hqc3, sp_sign_f hwc4]
        exact hmc4
    · refine he_s 3 (pc' := 129) (lc' := [(4, .int (nI c)), (3, .int 11), (0, .ref 13), (1, .ref 15), (2, .ref 60)]) (stk' := [.int 59, .ref 9]) (mem' := cm gc3 lc3 ac3 b R) (by intro _ _ _; eq_refl) ?_
      obtain ⟨vc7, memc7, ⟨gc7, lc7, frc7, hmc7, hRc7⟩, hrc7⟩ := ha_psq0 (x := 59) (R := R) hgc3 hmc3
      cases hRc7
      refine he_ivV hrc7 (by omega) (by rfl) (by rfl) (by rfl) (by rfl) (by rfl) (by rfl) ?_
      have fc7_60_6 : gc7 60 6 = nI c := (congrFun (frc7.1 60 (by decide)) 6).trans fc3_60_6
      have fc7_13_2 : gc7 13 2 = nI d := (congrFun (frc7.1 13 (by decide)) 2).trans fc3_13_2
      have fc7_60_7 : gc7 60 7 = 1 := (congrFun (frc7.1 60 (by decide)) 7).trans fc3_60_7
      have hfc7 := cfr_tr hfc3 frc7
      have hAc7 := cn_L_fr hAc3 frc7 (by decide) (by decide)
      have hTc7 := tfd_tr hTc3 (tfd_c (a := ac3) frc7)
      refine he_s 1 (pc' := cond (fx_cb .ne 0 0) 136 135) (lc' := [(4, .int (nI c)), (3, .int 11), (0, .ref 13), (1, .ref 15), (2, .ref 60)]) (stk' := []) (mem' := cm gc7 lc7 ac3 b R) (by intro _ _ _; eq_refl) ?_
      rw [show (fx_cb .ne 0 0) = false from by decide]
      dsimp only [cond]
      refine he_ret ⟨_, _, _, hTc7, ?_, rfl⟩ (by rfl) (by rfl) (by rfl)
      rw [show tl_k T n A c d p 11 = (if 30 ≤ c then .inl (6, sp_s T n p) else if false = true ∧ 3 ≤ d then .inl (7, sp_s T n p) else tl_rest T n A 11 (sp_n T n p) (fun q => sp_sign T n 59 q (fun q2 => .inr (A, 4 * (c + 1) + d, q2)))) from rfl, if_neg (by omega), if_neg (fun z => by cases z.1), hqc3]
      exact hmc7
  · rw [show (fx_cb .lt (nI c) 30) = false from cb_ltF (a := c) (b := 30) (by omega) (by omega) (by omega)]
    dsimp only [cond]
    refine he_s 3 (pc' := 44) (lc' := [(4, .int (nI c)), (3, .int 11), (0, .ref 13), (1, .ref 15), (2, .ref 60)]) (stk' := [.int 6, .ref 9]) (mem' := cm g l a b R) (by intro _ _ _; eq_refl) ?_
    obtain ⟨gc8, hrc8, hmc8, frc8⟩ := ha_fail (a := a) (b := b) (R := R) (x := 6) h (by decide)
    refine he_ivV hrc8 (by omega) (by rfl) (by rfl) (by rfl) (by rfl) (by rfl) (by rfl) ?_
    have fc8_60_6 : gc8 60 6 = nI c := (congrFun (frc8.1 60 (by decide)) 6).trans h60
    have fc8_13_2 : gc8 13 2 = nI d := (congrFun (frc8.1 13 (by decide)) 2).trans h13
    have fc8_60_7 : gc8 60 7 = 1 := (congrFun (frc8.1 60 (by decide)) 7).trans h67
    have hfc8 := cfr_tr cfr_rf frc8
    have hAc8 := cn_L_fr hA frc8 (by decide) (by decide)
    have hTc8 := tfd_tr tfd_rf (tfd_c (a := a) frc8)
    refine he_s 4 (pc' := 86) (lc' := [(4, .int (nI c)), (3, .int 11), (0, .ref 13), (1, .ref 15), (2, .ref 60)]) (stk' := [.int (gc8 9 10)]) (mem' := cm gc8 l a b R) (by intro _ _ _; eq_refl) ?_
    try rw [hmc8.2.2.1]
    refine he_s 1 (pc' := cond (fx_cb .eq 6 0) 90 89) (lc' := [(4, .int (nI c)), (3, .int 11), (0, .ref 13), (1, .ref 15), (2, .ref 60)]) (stk' := []) (mem' := cm gc8 l a b R) (by intro _ _ _; eq_refl) ?_
    rw [show (fx_cb .eq 6 0) = false from cb_nz_eq hmc8.1]
    dsimp only [cond]
    refine he_ret ⟨_, _, _, hTc8, ?_, rfl⟩ (by rfl) (by rfl) (by rfl)
    rw [show tl_k T n A c d p 11 = (if 30 ≤ c then .inl (6, sp_s T n p) else if false = true ∧ 3 ≤ d then .inl (7, sp_s T n p) else tl_rest T n A 11 (sp_n T n p) (fun q => sp_sign T n 59 q (fun q2 => .inr (A, 4 * (c + 1) + d, q2)))) from rfl, if_pos (by omega)]
    exact hmc8
theorem ha_rs13 (hg : ctx a b T n) (hA : cn_L 15 A g b) (hO : opn a) (h : co g l T n p) (hc : c ≤ 30) (hd : d ≤ 3) (h60 : g 60 6 = nI c) (h13 : g 13 2 = nI d) (h67 : g 60 7 = 1) (hw : g 9 7 = 13) : ∃ (v : Option Value) (mem' : fx_M), (fun R1 => ∃ (g' : Nat → Nat → Int32) (l' : Nat → Nat → Int64) (a' : Nat → Nat → Int32), tfd g l a g' l' a' ∧ tRes g' l' a' T n A (tl_k T n A c d p 13) ∧ R1 = (none, cm g' l' a' b R)) (v, mem') ∧ hr_T 6 122 [.ref 13, .ref 15, .ref 60] (cm g l a b R) v mem' := by
  refine he_meth (F := fun R1 => ∃ (g' : Nat → Nat → Int32) (l' : Nat → Nat → Int64) (a' : Nat → Nat → Int32), tfd g l a g' l' a' ∧ tRes g' l' a' T n A (tl_k T n A c d p 13) ∧ R1 = (none, cm g' l' a' b R)) (M := gk_m122) (by rfl) (by rfl) ?_
  refine he_s 8 (pc' := 15) (lc' := [(4, .int (g 60 6)), (3, .int (g 9 7)), (0, .ref 13), (1, .ref 15), (2, .ref 60)]) (stk' := [.int (g 9 7)]) (mem' := cm g l a b R) (by intro _ _ _; eq_refl) ?_
  try rw [hw]
  try rw [h60]
  refine he_ivS (ha_isT13 (g := g) (l := l) (a := a) (b := b) (R := R)) (by omega) (by rfl) (by rfl) (by rfl) (by rfl) (by rfl) ?_
  refine he_s 1 (pc' := cond (fx_cb .ne 1 0) 31 21) (lc' := [(4, .int (nI c)), (3, .int 13), (0, .ref 13), (1, .ref 15), (2, .ref 60)]) (stk' := []) (mem' := cm g l a b R) (by intro _ _ _; eq_refl) ?_
  rw [show (fx_cb .ne 1 0) = true from by decide]
  dsimp only [cond]
  refine he_s 2 (pc' := 35) (lc' := [(4, .int (nI c)), (3, .int 13), (0, .ref 13), (1, .ref 15), (2, .ref 60)]) (stk' := [.int 30, .int (nI c)]) (mem' := cm g l a b R) (by intro _ _ _; eq_refl) ?_
  refine he_s 1 (pc' := cond (fx_cb .lt (nI c) 30) 50 38) (lc' := [(4, .int (nI c)), (3, .int 13), (0, .ref 13), (1, .ref 15), (2, .ref 60)]) (stk' := []) (mem' := cm g l a b R) (by intro _ _ _; eq_refl) ?_
  by_cases y1 : c < 30
  · rw [show (fx_cb .lt (nI c) 30) = true from cb_ltT (a := c) (b := 30) (by omega) (by omega) (by omega)]
    dsimp only [cond]
    refine he_s 2 (pc' := 53) (lc' := [(4, .int (nI c)), (3, .int 13), (0, .ref 13), (1, .ref 15), (2, .ref 60)]) (stk' := [.int 17, .int 13]) (mem' := cm g l a b R) (by intro _ _ _; eq_refl) ?_
    refine he_s 1 (pc' := cond (fx_cb .eq 13 17) 62 56) (lc' := [(4, .int (nI c)), (3, .int 13), (0, .ref 13), (1, .ref 15), (2, .ref 60)]) (stk' := []) (mem' := cm g l a b R) (by intro _ _ _; eq_refl) ?_
    rw [show (fx_cb .eq 13 17) = false from by decide]
    dsimp only [cond]
    refine he_s 2 (pc' := 59) (lc' := [(4, .int (nI c)), (3, .int 13), (0, .ref 13), (1, .ref 15), (2, .ref 60)]) (stk' := [.int 20, .int 13]) (mem' := cm g l a b R) (by intro _ _ _; eq_refl) ?_
    refine he_s 1 (pc' := cond (fx_cb .ne 13 20) 79 62) (lc' := [(4, .int (nI c)), (3, .int 13), (0, .ref 13), (1, .ref 15), (2, .ref 60)]) (stk' := []) (mem' := cm g l a b R) (by intro _ _ _; eq_refl) ?_
    rw [show (fx_cb .ne 13 20) = true from by decide]
    dsimp only [cond]
    refine he_s 3 (pc' := 86) (lc' := [(4, .int (nI c)), (3, .int 13), (0, .ref 13), (1, .ref 15), (2, .ref 60)]) (stk' := [.int (g 9 10)]) (mem' := cm g l a b R) (by intro _ _ _; eq_refl) ?_
    try rw [h.2.2.1]
    refine he_s 1 (pc' := cond (fx_cb .eq 0 0) 90 89) (lc' := [(4, .int (nI c)), (3, .int 13), (0, .ref 13), (1, .ref 15), (2, .ref 60)]) (stk' := []) (mem' := cm g l a b R) (by intro _ _ _; eq_refl) ?_
    rw [show (fx_cb .eq 0 0) = true from by decide]
    dsimp only [cond]
    refine he_s 2 (pc' := 94) (lc' := [(4, .int (nI c)), (3, .int 13), (0, .ref 13), (1, .ref 15), (2, .ref 60)]) (stk' := [.ref 9]) (mem' := cm g l a b R) (by intro _ _ _; eq_refl) ?_
    obtain ⟨gc2, lc2, hrc2, hmc2, frc2⟩ := ha_scano (R := R) hg h
    refine he_ivV hrc2 (by omega) (by rfl) (by rfl) (by rfl) (by rfl) (by rfl) (by rfl) ?_
    have fc2_60_6 : gc2 60 6 = nI c := (congrFun (frc2.1 60 (by decide)) 6).trans h60
    have fc2_13_2 : gc2 13 2 = nI d := (congrFun (frc2.1 13 (by decide)) 2).trans h13
    have fc2_60_7 : gc2 60 7 = 1 := (congrFun (frc2.1 60 (by decide)) 7).trans h67
    have hfc2 := cfr_tr cfr_rf frc2
    have hAc2 := cn_L_fr hA frc2 (by decide) (by decide)
    have hTc2 := tfd_tr tfd_rf (tfd_c (a := a) frc2)
    refine he_s 2 (pc' := 100) (lc' := [(4, .int (nI c)), (3, .int 13), (0, .ref 13), (1, .ref 15), (2, .ref 60)]) (stk' := [.int 17, .int 13]) (mem' := cm gc2 lc2 a b R) (by intro _ _ _; eq_refl) ?_
    refine he_s 1 (pc' := cond (fx_cb .ne 13 17) 114 103) (lc' := [(4, .int (nI c)), (3, .int 13), (0, .ref 13), (1, .ref 15), (2, .ref 60)]) (stk' := []) (mem' := cm gc2 lc2 a b R) (by intro _ _ _; eq_refl) ?_
    rw [show (fx_cb .ne 13 17) = true from by decide]
    dsimp only [cond]
    refine he_s 5 (pc' := 120) (lc' := [(4, .int (nI c)), (3, .int 13), (0, .ref 13), (1, .ref 15), (2, .ref 60)]) (stk' := [.int (nI c), .int 13, .ref 60, .ref 15, .ref 13]) (mem' := cm gc2 lc2 a b R) (by intro _ _ _; eq_refl) ?_
    obtain ⟨vc3, memc3, ⟨gc3, lc3, ac3, ⟨frc3, rac3⟩, hxc3, hRc3⟩, hrc3⟩ := ha_rr13 (R := R) (c := c) hg hAc2 hO hmc2 (by omega)
    cases hRc3
    refine he_ivV hrc3 (by omega) (by rfl) (by rfl) (by rfl) (by rfl) (by rfl) (by rfl) ?_
    have fc3_60_6 : gc3 60 6 = nI c := (congrFun (frc3.1 60 (by decide)) 6).trans fc2_60_6
    have fc3_13_2 : gc3 13 2 = nI d := (congrFun (frc3.1 13 (by decide)) 2).trans fc2_13_2
    have fc3_60_7 : gc3 60 7 = 1 := (congrFun (frc3.1 60 (by decide)) 7).trans fc2_60_7
    have hfc3 := cfr_tr hfc2 frc3
    have hAc3 := cn_L_fr hAc2 frc3 (by decide) (by decide)
    have hTc3 := tfd_tr (tfd_tr hTc2 (tfd_c (a := a) frc3)) (tfd_r rac3)
    have hgc3 := ctx_r hg rac3
    have hOc3 := opn_r hO rac3
    rcases hxc3 with ⟨qc3, hmc3, hqc3⟩ | ⟨zc3, hmc3, hqc3⟩
    · refine he_s 3 (pc' := 129) (lc' := [(4, .int (nI c)), (3, .int 13), (0, .ref 13), (1, .ref 15), (2, .ref 60)]) (stk' := [.int 59, .ref 9]) (mem' := cm gc3 lc3 ac3 b R) (by intro _ _ _; eq_refl) ?_
      obtain ⟨vc4, memc4, ⟨xc4, gc4, lc4, frc4, hxc4, hRc4⟩, hrc4⟩ := ha_ps0 (w := 59) (R := R) hgc3 (by decide) hmc3
      cases hRc4
      refine he_ivV hrc4 (by omega) (by rfl) (by rfl) (by rfl) (by rfl) (by rfl) (by rfl) ?_
      have fc4_60_6 : gc4 60 6 = nI c := (congrFun (frc4.1 60 (by decide)) 6).trans fc3_60_6
      have fc4_13_2 : gc4 13 2 = nI d := (congrFun (frc4.1 13 (by decide)) 2).trans fc3_13_2
      have fc4_60_7 : gc4 60 7 = 1 := (congrFun (frc4.1 60 (by decide)) 7).trans fc3_60_7
      have hfc4 := cfr_tr hfc3 frc4
      have hAc4 := cn_L_fr hAc3 frc4 (by decide) (by decide)
      have hTc4 := tfd_tr hTc3 (tfd_c (a := ac3) frc4)
      rcases hxc4 with ⟨hwc4, rfl, hmc4⟩ | ⟨hwc4, rfl, hmc4⟩
      · refine he_s 1 (pc' := cond (fx_cb .ne 1 0) 136 135) (lc' := [(4, .int (nI c)), (3, .int 13), (0, .ref 13), (1, .ref 15), (2, .ref 60)]) (stk' := []) (mem' := cm gc4 lc4 ac3 b R) (by intro _ _ _; eq_refl) ?_
        rw [show (fx_cb .ne 1 0) = true from by decide]
        dsimp only [cond]
        refine he_s 4 (pc' := 143) (lc' := [(4, .int (nI c)), (3, .int 13), (0, .ref 13), (1, .ref 15), (2, .ref 60)]) (stk' := [.int 13, .int (nI c), .ref 61]) (mem' := cm gc4 lc4 ac3 b R) (by intro _ _ _; eq_refl) ?_
        refine he_stI (mem' := cm gc4 lc4 (fm_u ac3 61 (nI c : Int32).toNatClampNeg 13) b R) (by rfl) (by rfl) (fx_inN (i := c) (by omega) (by omega)) cm_si61 ?_
        rw [show Int32.toNatClampNeg (nI c) = c from nI_clamp (by omega)]
        have hgs5 : ctx (fm_u ac3 61 c 13) b T n := ctx_t hgc3 (by decide)
        have hTs5 : tfd g l a gc4 lc4 (fm_u ac3 61 c 13) := tfd_tr hTc4 (tfd_a (by decide))
        have hOs5 : opn (fm_u ac3 61 c 13) := opn_n hOc3 (by decide)
        refine he_s 7 (pc' := 155) (lc' := [(4, .int (nI c)), (3, .int 13), (0, .ref 13), (1, .ref 15), (2, .ref 60)]) (stk' := [.int 17, .int 13]) (mem' := cm (fm_u gc4 60 6 ((nI c) + 1)) lc4 (fm_u ac3 61 c 13) b R) (by intro _ _ _; eq_refl) ?_
        rw [show ((nI c) + 1 : Int32) = nI (c + 1) from by simp only [show (1 : Int32) = nI 1 from rfl, nI_add, fm_mul]]
        have hmw6 : co (fm_u gc4 60 6 (nI (c + 1))) lc4 T n (sp_n T n qc3) := co_t hmc4 (by decide)
        have hAw6 : cn_L 15 A (fm_u gc4 60 6 (nI (c + 1))) b := cn_15u hAc4 (by decide) (by decide)
        have hTw6 : tfd g l a (fm_u gc4 60 6 (nI (c + 1))) lc4 (fm_u ac3 61 c 13) := tfd_tr hTs5 (tfd_g (by decide))
        have fw6_13_2 : (fm_u gc4 60 6 (nI (c + 1))) 13 2 = nI d := (congrFun (fm_un (by decide)) 2).trans fc4_13_2
        have fw6_60_7 : (fm_u gc4 60 6 (nI (c + 1))) 60 7 = 1 := (fm_uo (by decide)).trans fc4_60_7
        have fw6_60_6 : (fm_u gc4 60 6 (nI (c + 1))) 60 6 = nI (c + 1) := fm_ue
        refine he_s 1 (pc' := cond (fx_cb .eq 13 17) 164 158) (lc' := [(4, .int (nI c)), (3, .int 13), (0, .ref 13), (1, .ref 15), (2, .ref 60)]) (stk' := []) (mem' := cm (fm_u gc4 60 6 (nI (c + 1))) lc4 (fm_u ac3 61 c 13) b R) (by intro _ _ _; eq_refl) ?_
        rw [show (fx_cb .eq 13 17) = false from by decide]
        dsimp only [cond]
        refine he_s 2 (pc' := 161) (lc' := [(4, .int (nI c)), (3, .int 13), (0, .ref 13), (1, .ref 15), (2, .ref 60)]) (stk' := [.int 20, .int 13]) (mem' := cm (fm_u gc4 60 6 (nI (c + 1))) lc4 (fm_u ac3 61 c 13) b R) (by intro _ _ _; eq_refl) ?_
        refine he_s 1 (pc' := cond (fx_cb .ne 13 20) 185 164) (lc' := [(4, .int (nI c)), (3, .int 13), (0, .ref 13), (1, .ref 15), (2, .ref 60)]) (stk' := []) (mem' := cm (fm_u gc4 60 6 (nI (c + 1))) lc4 (fm_u ac3 61 c 13) b R) (by intro _ _ _; eq_refl) ?_
        rw [show (fx_cb .ne 13 20) = true from by decide]
        dsimp only [cond]
        refine he_ret ⟨_, _, _, hTw6, ?_, rfl⟩ (by rfl) (by rfl) (by rfl)
        rw [show tl_k T n A c d p 13 = (if 30 ≤ c then .inl (6, sp_s T n p) else if false = true ∧ 3 ≤ d then .inl (7, sp_s T n p) else tl_rest T n A 13 (sp_n T n p) (fun q => sp_sign T n 59 q (fun q2 => .inr (A, 4 * (c + 1) + d, q2)))) from rfl, if_neg (by omega), if_neg (fun z => by cases z.1), hqc3, sp_sign_t hwc4]
        exact ⟨rfl, hmw6, (by dsimp only; omega), by rw [show (4 * (c + 1) + d) / 4 = c + 1 by omega]; exact fw6_60_6, by rw [show (4 * (c + 1) + d) % 4 = d by omega]; exact fw6_13_2, hOs5, fw6_60_7⟩
      · refine he_s 1 (pc' := cond (fx_cb .ne 0 0) 136 135) (lc' := [(4, .int (nI c)), (3, .int 13), (0, .ref 13), (1, .ref 15), (2, .ref 60)]) (stk' := []) (mem' := cm gc4 lc4 ac3 b R) (by intro _ _ _; eq_refl) ?_
        rw [show (fx_cb .ne 0 0) = false from by decide]
        dsimp only [cond]
        refine he_ret ⟨_, _, _, hTc4, ?_, rfl⟩ (by rfl) (by rfl) (by rfl)
        rw [show tl_k T n A c d p 13 = (if 30 ≤ c then .inl (6, sp_s T n p) else if false = true ∧ 3 ≤ d then .inl (7, sp_s T n p) else tl_rest T n A 13 (sp_n T n p) (fun q => sp_sign T n 59 q (fun q2 => .inr (A, 4 * (c + 1) + d, q2)))) from rfl, if_neg (by omega), if_neg (fun z => by cases z.1), hqc3, sp_sign_f hwc4]
        exact hmc4
    · refine he_s 3 (pc' := 129) (lc' := [(4, .int (nI c)), (3, .int 13), (0, .ref 13), (1, .ref 15), (2, .ref 60)]) (stk' := [.int 59, .ref 9]) (mem' := cm gc3 lc3 ac3 b R) (by intro _ _ _; eq_refl) ?_
      obtain ⟨vc7, memc7, ⟨gc7, lc7, frc7, hmc7, hRc7⟩, hrc7⟩ := ha_psq0 (x := 59) (R := R) hgc3 hmc3
      cases hRc7
      refine he_ivV hrc7 (by omega) (by rfl) (by rfl) (by rfl) (by rfl) (by rfl) (by rfl) ?_
      have fc7_60_6 : gc7 60 6 = nI c := (congrFun (frc7.1 60 (by decide)) 6).trans fc3_60_6
      have fc7_13_2 : gc7 13 2 = nI d := (congrFun (frc7.1 13 (by decide)) 2).trans fc3_13_2
      have fc7_60_7 : gc7 60 7 = 1 := (congrFun (frc7.1 60 (by decide)) 7).trans fc3_60_7
      have hfc7 := cfr_tr hfc3 frc7
      have hAc7 := cn_L_fr hAc3 frc7 (by decide) (by decide)
      have hTc7 := tfd_tr hTc3 (tfd_c (a := ac3) frc7)
      refine he_s 1 (pc' := cond (fx_cb .ne 0 0) 136 135) (lc' := [(4, .int (nI c)), (3, .int 13), (0, .ref 13), (1, .ref 15), (2, .ref 60)]) (stk' := []) (mem' := cm gc7 lc7 ac3 b R) (by intro _ _ _; eq_refl) ?_
      rw [show (fx_cb .ne 0 0) = false from by decide]
      dsimp only [cond]
      refine he_ret ⟨_, _, _, hTc7, ?_, rfl⟩ (by rfl) (by rfl) (by rfl)
      rw [show tl_k T n A c d p 13 = (if 30 ≤ c then .inl (6, sp_s T n p) else if false = true ∧ 3 ≤ d then .inl (7, sp_s T n p) else tl_rest T n A 13 (sp_n T n p) (fun q => sp_sign T n 59 q (fun q2 => .inr (A, 4 * (c + 1) + d, q2)))) from rfl, if_neg (by omega), if_neg (fun z => by cases z.1), hqc3]
      exact hmc7
  · rw [show (fx_cb .lt (nI c) 30) = false from cb_ltF (a := c) (b := 30) (by omega) (by omega) (by omega)]
    dsimp only [cond]
    refine he_s 3 (pc' := 44) (lc' := [(4, .int (nI c)), (3, .int 13), (0, .ref 13), (1, .ref 15), (2, .ref 60)]) (stk' := [.int 6, .ref 9]) (mem' := cm g l a b R) (by intro _ _ _; eq_refl) ?_
    obtain ⟨gc8, hrc8, hmc8, frc8⟩ := ha_fail (a := a) (b := b) (R := R) (x := 6) h (by decide)
    refine he_ivV hrc8 (by omega) (by rfl) (by rfl) (by rfl) (by rfl) (by rfl) (by rfl) ?_
    have fc8_60_6 : gc8 60 6 = nI c := (congrFun (frc8.1 60 (by decide)) 6).trans h60
    have fc8_13_2 : gc8 13 2 = nI d := (congrFun (frc8.1 13 (by decide)) 2).trans h13
    have fc8_60_7 : gc8 60 7 = 1 := (congrFun (frc8.1 60 (by decide)) 7).trans h67
    have hfc8 := cfr_tr cfr_rf frc8
    have hAc8 := cn_L_fr hA frc8 (by decide) (by decide)
    have hTc8 := tfd_tr tfd_rf (tfd_c (a := a) frc8)
    refine he_s 4 (pc' := 86) (lc' := [(4, .int (nI c)), (3, .int 13), (0, .ref 13), (1, .ref 15), (2, .ref 60)]) (stk' := [.int (gc8 9 10)]) (mem' := cm gc8 l a b R) (by intro _ _ _; eq_refl) ?_
    try rw [hmc8.2.2.1]
    refine he_s 1 (pc' := cond (fx_cb .eq 6 0) 90 89) (lc' := [(4, .int (nI c)), (3, .int 13), (0, .ref 13), (1, .ref 15), (2, .ref 60)]) (stk' := []) (mem' := cm gc8 l a b R) (by intro _ _ _; eq_refl) ?_
    rw [show (fx_cb .eq 6 0) = false from cb_nz_eq hmc8.1]
    dsimp only [cond]
    refine he_ret ⟨_, _, _, hTc8, ?_, rfl⟩ (by rfl) (by rfl) (by rfl)
    rw [show tl_k T n A c d p 13 = (if 30 ≤ c then .inl (6, sp_s T n p) else if false = true ∧ 3 ≤ d then .inl (7, sp_s T n p) else tl_rest T n A 13 (sp_n T n p) (fun q => sp_sign T n 59 q (fun q2 => .inr (A, 4 * (c + 1) + d, q2)))) from rfl, if_pos (by omega)]
    exact hmc8
theorem ha_rs14 (hg : ctx a b T n) (hA : cn_L 15 A g b) (hO : opn a) (h : co g l T n p) (hc : c ≤ 30) (hd : d ≤ 3) (h60 : g 60 6 = nI c) (h13 : g 13 2 = nI d) (h67 : g 60 7 = 1) (hw : g 9 7 = 14) : ∃ (v : Option Value) (mem' : fx_M), (fun R1 => ∃ (g' : Nat → Nat → Int32) (l' : Nat → Nat → Int64) (a' : Nat → Nat → Int32), tfd g l a g' l' a' ∧ tRes g' l' a' T n A (tl_k T n A c d p 14) ∧ R1 = (none, cm g' l' a' b R)) (v, mem') ∧ hr_T 6 122 [.ref 13, .ref 15, .ref 60] (cm g l a b R) v mem' := by
  refine he_meth (F := fun R1 => ∃ (g' : Nat → Nat → Int32) (l' : Nat → Nat → Int64) (a' : Nat → Nat → Int32), tfd g l a g' l' a' ∧ tRes g' l' a' T n A (tl_k T n A c d p 14) ∧ R1 = (none, cm g' l' a' b R)) (M := gk_m122) (by rfl) (by rfl) ?_
  refine he_s 8 (pc' := 15) (lc' := [(4, .int (g 60 6)), (3, .int (g 9 7)), (0, .ref 13), (1, .ref 15), (2, .ref 60)]) (stk' := [.int (g 9 7)]) (mem' := cm g l a b R) (by intro _ _ _; eq_refl) ?_
  try rw [hw]
  try rw [h60]
  refine he_ivS (ha_isT14 (g := g) (l := l) (a := a) (b := b) (R := R)) (by omega) (by rfl) (by rfl) (by rfl) (by rfl) (by rfl) ?_
  refine he_s 1 (pc' := cond (fx_cb .ne 1 0) 31 21) (lc' := [(4, .int (nI c)), (3, .int 14), (0, .ref 13), (1, .ref 15), (2, .ref 60)]) (stk' := []) (mem' := cm g l a b R) (by intro _ _ _; eq_refl) ?_
  rw [show (fx_cb .ne 1 0) = true from by decide]
  dsimp only [cond]
  refine he_s 2 (pc' := 35) (lc' := [(4, .int (nI c)), (3, .int 14), (0, .ref 13), (1, .ref 15), (2, .ref 60)]) (stk' := [.int 30, .int (nI c)]) (mem' := cm g l a b R) (by intro _ _ _; eq_refl) ?_
  refine he_s 1 (pc' := cond (fx_cb .lt (nI c) 30) 50 38) (lc' := [(4, .int (nI c)), (3, .int 14), (0, .ref 13), (1, .ref 15), (2, .ref 60)]) (stk' := []) (mem' := cm g l a b R) (by intro _ _ _; eq_refl) ?_
  by_cases y1 : c < 30
  · rw [show (fx_cb .lt (nI c) 30) = true from cb_ltT (a := c) (b := 30) (by omega) (by omega) (by omega)]
    dsimp only [cond]
    refine he_s 2 (pc' := 53) (lc' := [(4, .int (nI c)), (3, .int 14), (0, .ref 13), (1, .ref 15), (2, .ref 60)]) (stk' := [.int 17, .int 14]) (mem' := cm g l a b R) (by intro _ _ _; eq_refl) ?_
    refine he_s 1 (pc' := cond (fx_cb .eq 14 17) 62 56) (lc' := [(4, .int (nI c)), (3, .int 14), (0, .ref 13), (1, .ref 15), (2, .ref 60)]) (stk' := []) (mem' := cm g l a b R) (by intro _ _ _; eq_refl) ?_
    rw [show (fx_cb .eq 14 17) = false from by decide]
    dsimp only [cond]
    refine he_s 2 (pc' := 59) (lc' := [(4, .int (nI c)), (3, .int 14), (0, .ref 13), (1, .ref 15), (2, .ref 60)]) (stk' := [.int 20, .int 14]) (mem' := cm g l a b R) (by intro _ _ _; eq_refl) ?_
    refine he_s 1 (pc' := cond (fx_cb .ne 14 20) 79 62) (lc' := [(4, .int (nI c)), (3, .int 14), (0, .ref 13), (1, .ref 15), (2, .ref 60)]) (stk' := []) (mem' := cm g l a b R) (by intro _ _ _; eq_refl) ?_
    rw [show (fx_cb .ne 14 20) = true from by decide]
    dsimp only [cond]
    refine he_s 3 (pc' := 86) (lc' := [(4, .int (nI c)), (3, .int 14), (0, .ref 13), (1, .ref 15), (2, .ref 60)]) (stk' := [.int (g 9 10)]) (mem' := cm g l a b R) (by intro _ _ _; eq_refl) ?_
    try rw [h.2.2.1]
    refine he_s 1 (pc' := cond (fx_cb .eq 0 0) 90 89) (lc' := [(4, .int (nI c)), (3, .int 14), (0, .ref 13), (1, .ref 15), (2, .ref 60)]) (stk' := []) (mem' := cm g l a b R) (by intro _ _ _; eq_refl) ?_
    rw [show (fx_cb .eq 0 0) = true from by decide]
    dsimp only [cond]
    refine he_s 2 (pc' := 94) (lc' := [(4, .int (nI c)), (3, .int 14), (0, .ref 13), (1, .ref 15), (2, .ref 60)]) (stk' := [.ref 9]) (mem' := cm g l a b R) (by intro _ _ _; eq_refl) ?_
    obtain ⟨gc2, lc2, hrc2, hmc2, frc2⟩ := ha_scano (R := R) hg h
    refine he_ivV hrc2 (by omega) (by rfl) (by rfl) (by rfl) (by rfl) (by rfl) (by rfl) ?_
    have fc2_60_6 : gc2 60 6 = nI c := (congrFun (frc2.1 60 (by decide)) 6).trans h60
    have fc2_13_2 : gc2 13 2 = nI d := (congrFun (frc2.1 13 (by decide)) 2).trans h13
    have fc2_60_7 : gc2 60 7 = 1 := (congrFun (frc2.1 60 (by decide)) 7).trans h67
    have hfc2 := cfr_tr cfr_rf frc2
    have hAc2 := cn_L_fr hA frc2 (by decide) (by decide)
    have hTc2 := tfd_tr tfd_rf (tfd_c (a := a) frc2)
    refine he_s 2 (pc' := 100) (lc' := [(4, .int (nI c)), (3, .int 14), (0, .ref 13), (1, .ref 15), (2, .ref 60)]) (stk' := [.int 17, .int 14]) (mem' := cm gc2 lc2 a b R) (by intro _ _ _; eq_refl) ?_
    refine he_s 1 (pc' := cond (fx_cb .ne 14 17) 114 103) (lc' := [(4, .int (nI c)), (3, .int 14), (0, .ref 13), (1, .ref 15), (2, .ref 60)]) (stk' := []) (mem' := cm gc2 lc2 a b R) (by intro _ _ _; eq_refl) ?_
    rw [show (fx_cb .ne 14 17) = true from by decide]
    dsimp only [cond]
    refine he_s 5 (pc' := 120) (lc' := [(4, .int (nI c)), (3, .int 14), (0, .ref 13), (1, .ref 15), (2, .ref 60)]) (stk' := [.int (nI c), .int 14, .ref 60, .ref 15, .ref 13]) (mem' := cm gc2 lc2 a b R) (by intro _ _ _; eq_refl) ?_
    obtain ⟨vc3, memc3, ⟨gc3, lc3, ac3, ⟨frc3, rac3⟩, hxc3, hRc3⟩, hrc3⟩ := ha_rr14 (R := R) (c := c) hg hAc2 hO hmc2 (by omega)
    cases hRc3
    refine he_ivV hrc3 (by omega) (by rfl) (by rfl) (by rfl) (by rfl) (by rfl) (by rfl) ?_
    have fc3_60_6 : gc3 60 6 = nI c := (congrFun (frc3.1 60 (by decide)) 6).trans fc2_60_6
    have fc3_13_2 : gc3 13 2 = nI d := (congrFun (frc3.1 13 (by decide)) 2).trans fc2_13_2
    have fc3_60_7 : gc3 60 7 = 1 := (congrFun (frc3.1 60 (by decide)) 7).trans fc2_60_7
    have hfc3 := cfr_tr hfc2 frc3
    have hAc3 := cn_L_fr hAc2 frc3 (by decide) (by decide)
    have hTc3 := tfd_tr (tfd_tr hTc2 (tfd_c (a := a) frc3)) (tfd_r rac3)
    have hgc3 := ctx_r hg rac3
    have hOc3 := opn_r hO rac3
    rcases hxc3 with ⟨qc3, hmc3, hqc3⟩ | ⟨zc3, hmc3, hqc3⟩
    · refine he_s 3 (pc' := 129) (lc' := [(4, .int (nI c)), (3, .int 14), (0, .ref 13), (1, .ref 15), (2, .ref 60)]) (stk' := [.int 59, .ref 9]) (mem' := cm gc3 lc3 ac3 b R) (by intro _ _ _; eq_refl) ?_
      obtain ⟨vc4, memc4, ⟨xc4, gc4, lc4, frc4, hxc4, hRc4⟩, hrc4⟩ := ha_ps0 (w := 59) (R := R) hgc3 (by decide) hmc3
      cases hRc4
      refine he_ivV hrc4 (by omega) (by rfl) (by rfl) (by rfl) (by rfl) (by rfl) (by rfl) ?_
      have fc4_60_6 : gc4 60 6 = nI c := (congrFun (frc4.1 60 (by decide)) 6).trans fc3_60_6
      have fc4_13_2 : gc4 13 2 = nI d := (congrFun (frc4.1 13 (by decide)) 2).trans fc3_13_2
      have fc4_60_7 : gc4 60 7 = 1 := (congrFun (frc4.1 60 (by decide)) 7).trans fc3_60_7
      have hfc4 := cfr_tr hfc3 frc4
      have hAc4 := cn_L_fr hAc3 frc4 (by decide) (by decide)
      have hTc4 := tfd_tr hTc3 (tfd_c (a := ac3) frc4)
      rcases hxc4 with ⟨hwc4, rfl, hmc4⟩ | ⟨hwc4, rfl, hmc4⟩
      · refine he_s 1 (pc' := cond (fx_cb .ne 1 0) 136 135) (lc' := [(4, .int (nI c)), (3, .int 14), (0, .ref 13), (1, .ref 15), (2, .ref 60)]) (stk' := []) (mem' := cm gc4 lc4 ac3 b R) (by intro _ _ _; eq_refl) ?_
        rw [show (fx_cb .ne 1 0) = true from by decide]
        dsimp only [cond]
        refine he_s 4 (pc' := 143) (lc' := [(4, .int (nI c)), (3, .int 14), (0, .ref 13), (1, .ref 15), (2, .ref 60)]) (stk' := [.int 14, .int (nI c), .ref 61]) (mem' := cm gc4 lc4 ac3 b R) (by intro _ _ _; eq_refl) ?_
        refine he_stI (mem' := cm gc4 lc4 (fm_u ac3 61 (nI c : Int32).toNatClampNeg 14) b R) (by rfl) (by rfl) (fx_inN (i := c) (by omega) (by omega)) cm_si61 ?_
        rw [show Int32.toNatClampNeg (nI c) = c from nI_clamp (by omega)]
        have hgs5 : ctx (fm_u ac3 61 c 14) b T n := ctx_t hgc3 (by decide)
        have hTs5 : tfd g l a gc4 lc4 (fm_u ac3 61 c 14) := tfd_tr hTc4 (tfd_a (by decide))
        have hOs5 : opn (fm_u ac3 61 c 14) := opn_n hOc3 (by decide)
        refine he_s 7 (pc' := 155) (lc' := [(4, .int (nI c)), (3, .int 14), (0, .ref 13), (1, .ref 15), (2, .ref 60)]) (stk' := [.int 17, .int 14]) (mem' := cm (fm_u gc4 60 6 ((nI c) + 1)) lc4 (fm_u ac3 61 c 14) b R) (by intro _ _ _; eq_refl) ?_
        rw [show ((nI c) + 1 : Int32) = nI (c + 1) from by simp only [show (1 : Int32) = nI 1 from rfl, nI_add, fm_mul]]
        have hmw6 : co (fm_u gc4 60 6 (nI (c + 1))) lc4 T n (sp_n T n qc3) := co_t hmc4 (by decide)
        have hAw6 : cn_L 15 A (fm_u gc4 60 6 (nI (c + 1))) b := cn_15u hAc4 (by decide) (by decide)
        have hTw6 : tfd g l a (fm_u gc4 60 6 (nI (c + 1))) lc4 (fm_u ac3 61 c 14) := tfd_tr hTs5 (tfd_g (by decide))
        have fw6_13_2 : (fm_u gc4 60 6 (nI (c + 1))) 13 2 = nI d := (congrFun (fm_un (by decide)) 2).trans fc4_13_2
        have fw6_60_7 : (fm_u gc4 60 6 (nI (c + 1))) 60 7 = 1 := (fm_uo (by decide)).trans fc4_60_7
        have fw6_60_6 : (fm_u gc4 60 6 (nI (c + 1))) 60 6 = nI (c + 1) := fm_ue
        refine he_s 1 (pc' := cond (fx_cb .eq 14 17) 164 158) (lc' := [(4, .int (nI c)), (3, .int 14), (0, .ref 13), (1, .ref 15), (2, .ref 60)]) (stk' := []) (mem' := cm (fm_u gc4 60 6 (nI (c + 1))) lc4 (fm_u ac3 61 c 14) b R) (by intro _ _ _; eq_refl) ?_
        rw [show (fx_cb .eq 14 17) = false from by decide]
        dsimp only [cond]
        refine he_s 2 (pc' := 161) (lc' := [(4, .int (nI c)), (3, .int 14), (0, .ref 13), (1, .ref 15), (2, .ref 60)]) (stk' := [.int 20, .int 14]) (mem' := cm (fm_u gc4 60 6 (nI (c + 1))) lc4 (fm_u ac3 61 c 14) b R) (by intro _ _ _; eq_refl) ?_
        refine he_s 1 (pc' := cond (fx_cb .ne 14 20) 185 164) (lc' := [(4, .int (nI c)), (3, .int 14), (0, .ref 13), (1, .ref 15), (2, .ref 60)]) (stk' := []) (mem' := cm (fm_u gc4 60 6 (nI (c + 1))) lc4 (fm_u ac3 61 c 14) b R) (by intro _ _ _; eq_refl) ?_
        rw [show (fx_cb .ne 14 20) = true from by decide]
        dsimp only [cond]
        refine he_ret ⟨_, _, _, hTw6, ?_, rfl⟩ (by rfl) (by rfl) (by rfl)
        rw [show tl_k T n A c d p 14 = (if 30 ≤ c then .inl (6, sp_s T n p) else if false = true ∧ 3 ≤ d then .inl (7, sp_s T n p) else tl_rest T n A 14 (sp_n T n p) (fun q => sp_sign T n 59 q (fun q2 => .inr (A, 4 * (c + 1) + d, q2)))) from rfl, if_neg (by omega), if_neg (fun z => by cases z.1), hqc3, sp_sign_t hwc4]
        exact ⟨rfl, hmw6, (by dsimp only; omega), by rw [show (4 * (c + 1) + d) / 4 = c + 1 by omega]; exact fw6_60_6, by rw [show (4 * (c + 1) + d) % 4 = d by omega]; exact fw6_13_2, hOs5, fw6_60_7⟩
      · refine he_s 1 (pc' := cond (fx_cb .ne 0 0) 136 135) (lc' := [(4, .int (nI c)), (3, .int 14), (0, .ref 13), (1, .ref 15), (2, .ref 60)]) (stk' := []) (mem' := cm gc4 lc4 ac3 b R) (by intro _ _ _; eq_refl) ?_
        rw [show (fx_cb .ne 0 0) = false from by decide]
        dsimp only [cond]
        refine he_ret ⟨_, _, _, hTc4, ?_, rfl⟩ (by rfl) (by rfl) (by rfl)
        rw [show tl_k T n A c d p 14 = (if 30 ≤ c then .inl (6, sp_s T n p) else if false = true ∧ 3 ≤ d then .inl (7, sp_s T n p) else tl_rest T n A 14 (sp_n T n p) (fun q => sp_sign T n 59 q (fun q2 => .inr (A, 4 * (c + 1) + d, q2)))) from rfl, if_neg (by omega), if_neg (fun z => by cases z.1), hqc3, sp_sign_f hwc4]
        exact hmc4
    · refine he_s 3 (pc' := 129) (lc' := [(4, .int (nI c)), (3, .int 14), (0, .ref 13), (1, .ref 15), (2, .ref 60)]) (stk' := [.int 59, .ref 9]) (mem' := cm gc3 lc3 ac3 b R) (by intro _ _ _; eq_refl) ?_
      obtain ⟨vc7, memc7, ⟨gc7, lc7, frc7, hmc7, hRc7⟩, hrc7⟩ := ha_psq0 (x := 59) (R := R) hgc3 hmc3
      cases hRc7
      refine he_ivV hrc7 (by omega) (by rfl) (by rfl) (by rfl) (by rfl) (by rfl) (by rfl) ?_
      have fc7_60_6 : gc7 60 6 = nI c := (congrFun (frc7.1 60 (by decide)) 6).trans fc3_60_6
      have fc7_13_2 : gc7 13 2 = nI d := (congrFun (frc7.1 13 (by decide)) 2).trans fc3_13_2
      have fc7_60_7 : gc7 60 7 = 1 := (congrFun (frc7.1 60 (by decide)) 7).trans fc3_60_7
      have hfc7 := cfr_tr hfc3 frc7
      have hAc7 := cn_L_fr hAc3 frc7 (by decide) (by decide)
      have hTc7 := tfd_tr hTc3 (tfd_c (a := ac3) frc7)
      refine he_s 1 (pc' := cond (fx_cb .ne 0 0) 136 135) (lc' := [(4, .int (nI c)), (3, .int 14), (0, .ref 13), (1, .ref 15), (2, .ref 60)]) (stk' := []) (mem' := cm gc7 lc7 ac3 b R) (by intro _ _ _; eq_refl) ?_
      rw [show (fx_cb .ne 0 0) = false from by decide]
      dsimp only [cond]
      refine he_ret ⟨_, _, _, hTc7, ?_, rfl⟩ (by rfl) (by rfl) (by rfl)
      rw [show tl_k T n A c d p 14 = (if 30 ≤ c then .inl (6, sp_s T n p) else if false = true ∧ 3 ≤ d then .inl (7, sp_s T n p) else tl_rest T n A 14 (sp_n T n p) (fun q => sp_sign T n 59 q (fun q2 => .inr (A, 4 * (c + 1) + d, q2)))) from rfl, if_neg (by omega), if_neg (fun z => by cases z.1), hqc3]
      exact hmc7
  · rw [show (fx_cb .lt (nI c) 30) = false from cb_ltF (a := c) (b := 30) (by omega) (by omega) (by omega)]
    dsimp only [cond]
    refine he_s 3 (pc' := 44) (lc' := [(4, .int (nI c)), (3, .int 14), (0, .ref 13), (1, .ref 15), (2, .ref 60)]) (stk' := [.int 6, .ref 9]) (mem' := cm g l a b R) (by intro _ _ _; eq_refl) ?_
    obtain ⟨gc8, hrc8, hmc8, frc8⟩ := ha_fail (a := a) (b := b) (R := R) (x := 6) h (by decide)
    refine he_ivV hrc8 (by omega) (by rfl) (by rfl) (by rfl) (by rfl) (by rfl) (by rfl) ?_
    have fc8_60_6 : gc8 60 6 = nI c := (congrFun (frc8.1 60 (by decide)) 6).trans h60
    have fc8_13_2 : gc8 13 2 = nI d := (congrFun (frc8.1 13 (by decide)) 2).trans h13
    have fc8_60_7 : gc8 60 7 = 1 := (congrFun (frc8.1 60 (by decide)) 7).trans h67
    have hfc8 := cfr_tr cfr_rf frc8
    have hAc8 := cn_L_fr hA frc8 (by decide) (by decide)
    have hTc8 := tfd_tr tfd_rf (tfd_c (a := a) frc8)
    refine he_s 4 (pc' := 86) (lc' := [(4, .int (nI c)), (3, .int 14), (0, .ref 13), (1, .ref 15), (2, .ref 60)]) (stk' := [.int (gc8 9 10)]) (mem' := cm gc8 l a b R) (by intro _ _ _; eq_refl) ?_
    try rw [hmc8.2.2.1]
    refine he_s 1 (pc' := cond (fx_cb .eq 6 0) 90 89) (lc' := [(4, .int (nI c)), (3, .int 14), (0, .ref 13), (1, .ref 15), (2, .ref 60)]) (stk' := []) (mem' := cm gc8 l a b R) (by intro _ _ _; eq_refl) ?_
    rw [show (fx_cb .eq 6 0) = false from cb_nz_eq hmc8.1]
    dsimp only [cond]
    refine he_ret ⟨_, _, _, hTc8, ?_, rfl⟩ (by rfl) (by rfl) (by rfl)
    rw [show tl_k T n A c d p 14 = (if 30 ≤ c then .inl (6, sp_s T n p) else if false = true ∧ 3 ≤ d then .inl (7, sp_s T n p) else tl_rest T n A 14 (sp_n T n p) (fun q => sp_sign T n 59 q (fun q2 => .inr (A, 4 * (c + 1) + d, q2)))) from rfl, if_pos (by omega)]
    exact hmc8
theorem ha_rs15 (hg : ctx a b T n) (hA : cn_L 15 A g b) (hO : opn a) (h : co g l T n p) (hc : c ≤ 30) (hd : d ≤ 3) (h60 : g 60 6 = nI c) (h13 : g 13 2 = nI d) (h67 : g 60 7 = 1) (hw : g 9 7 = 15) : ∃ (v : Option Value) (mem' : fx_M), (fun R1 => ∃ (g' : Nat → Nat → Int32) (l' : Nat → Nat → Int64) (a' : Nat → Nat → Int32), tfd g l a g' l' a' ∧ tRes g' l' a' T n A (tl_k T n A c d p 15) ∧ R1 = (none, cm g' l' a' b R)) (v, mem') ∧ hr_T 6 122 [.ref 13, .ref 15, .ref 60] (cm g l a b R) v mem' := by
  refine he_meth (F := fun R1 => ∃ (g' : Nat → Nat → Int32) (l' : Nat → Nat → Int64) (a' : Nat → Nat → Int32), tfd g l a g' l' a' ∧ tRes g' l' a' T n A (tl_k T n A c d p 15) ∧ R1 = (none, cm g' l' a' b R)) (M := gk_m122) (by rfl) (by rfl) ?_
  refine he_s 8 (pc' := 15) (lc' := [(4, .int (g 60 6)), (3, .int (g 9 7)), (0, .ref 13), (1, .ref 15), (2, .ref 60)]) (stk' := [.int (g 9 7)]) (mem' := cm g l a b R) (by intro _ _ _; eq_refl) ?_
  try rw [hw]
  try rw [h60]
  refine he_ivS (ha_isT15 (g := g) (l := l) (a := a) (b := b) (R := R)) (by omega) (by rfl) (by rfl) (by rfl) (by rfl) (by rfl) ?_
  refine he_s 1 (pc' := cond (fx_cb .ne 1 0) 31 21) (lc' := [(4, .int (nI c)), (3, .int 15), (0, .ref 13), (1, .ref 15), (2, .ref 60)]) (stk' := []) (mem' := cm g l a b R) (by intro _ _ _; eq_refl) ?_
  rw [show (fx_cb .ne 1 0) = true from by decide]
  dsimp only [cond]
  refine he_s 2 (pc' := 35) (lc' := [(4, .int (nI c)), (3, .int 15), (0, .ref 13), (1, .ref 15), (2, .ref 60)]) (stk' := [.int 30, .int (nI c)]) (mem' := cm g l a b R) (by intro _ _ _; eq_refl) ?_
  refine he_s 1 (pc' := cond (fx_cb .lt (nI c) 30) 50 38) (lc' := [(4, .int (nI c)), (3, .int 15), (0, .ref 13), (1, .ref 15), (2, .ref 60)]) (stk' := []) (mem' := cm g l a b R) (by intro _ _ _; eq_refl) ?_
  by_cases y1 : c < 30
  · rw [show (fx_cb .lt (nI c) 30) = true from cb_ltT (a := c) (b := 30) (by omega) (by omega) (by omega)]
    dsimp only [cond]
    refine he_s 2 (pc' := 53) (lc' := [(4, .int (nI c)), (3, .int 15), (0, .ref 13), (1, .ref 15), (2, .ref 60)]) (stk' := [.int 17, .int 15]) (mem' := cm g l a b R) (by intro _ _ _; eq_refl) ?_
    refine he_s 1 (pc' := cond (fx_cb .eq 15 17) 62 56) (lc' := [(4, .int (nI c)), (3, .int 15), (0, .ref 13), (1, .ref 15), (2, .ref 60)]) (stk' := []) (mem' := cm g l a b R) (by intro _ _ _; eq_refl) ?_
    rw [show (fx_cb .eq 15 17) = false from by decide]
    dsimp only [cond]
    refine he_s 2 (pc' := 59) (lc' := [(4, .int (nI c)), (3, .int 15), (0, .ref 13), (1, .ref 15), (2, .ref 60)]) (stk' := [.int 20, .int 15]) (mem' := cm g l a b R) (by intro _ _ _; eq_refl) ?_
    refine he_s 1 (pc' := cond (fx_cb .ne 15 20) 79 62) (lc' := [(4, .int (nI c)), (3, .int 15), (0, .ref 13), (1, .ref 15), (2, .ref 60)]) (stk' := []) (mem' := cm g l a b R) (by intro _ _ _; eq_refl) ?_
    rw [show (fx_cb .ne 15 20) = true from by decide]
    dsimp only [cond]
    refine he_s 3 (pc' := 86) (lc' := [(4, .int (nI c)), (3, .int 15), (0, .ref 13), (1, .ref 15), (2, .ref 60)]) (stk' := [.int (g 9 10)]) (mem' := cm g l a b R) (by intro _ _ _; eq_refl) ?_
    try rw [h.2.2.1]
    refine he_s 1 (pc' := cond (fx_cb .eq 0 0) 90 89) (lc' := [(4, .int (nI c)), (3, .int 15), (0, .ref 13), (1, .ref 15), (2, .ref 60)]) (stk' := []) (mem' := cm g l a b R) (by intro _ _ _; eq_refl) ?_
    rw [show (fx_cb .eq 0 0) = true from by decide]
    dsimp only [cond]
    refine he_s 2 (pc' := 94) (lc' := [(4, .int (nI c)), (3, .int 15), (0, .ref 13), (1, .ref 15), (2, .ref 60)]) (stk' := [.ref 9]) (mem' := cm g l a b R) (by intro _ _ _; eq_refl) ?_
    obtain ⟨gc2, lc2, hrc2, hmc2, frc2⟩ := ha_scano (R := R) hg h
    refine he_ivV hrc2 (by omega) (by rfl) (by rfl) (by rfl) (by rfl) (by rfl) (by rfl) ?_
    have fc2_60_6 : gc2 60 6 = nI c := (congrFun (frc2.1 60 (by decide)) 6).trans h60
    have fc2_13_2 : gc2 13 2 = nI d := (congrFun (frc2.1 13 (by decide)) 2).trans h13
    have fc2_60_7 : gc2 60 7 = 1 := (congrFun (frc2.1 60 (by decide)) 7).trans h67
    have hfc2 := cfr_tr cfr_rf frc2
    have hAc2 := cn_L_fr hA frc2 (by decide) (by decide)
    have hTc2 := tfd_tr tfd_rf (tfd_c (a := a) frc2)
    refine he_s 2 (pc' := 100) (lc' := [(4, .int (nI c)), (3, .int 15), (0, .ref 13), (1, .ref 15), (2, .ref 60)]) (stk' := [.int 17, .int 15]) (mem' := cm gc2 lc2 a b R) (by intro _ _ _; eq_refl) ?_
    refine he_s 1 (pc' := cond (fx_cb .ne 15 17) 114 103) (lc' := [(4, .int (nI c)), (3, .int 15), (0, .ref 13), (1, .ref 15), (2, .ref 60)]) (stk' := []) (mem' := cm gc2 lc2 a b R) (by intro _ _ _; eq_refl) ?_
    rw [show (fx_cb .ne 15 17) = true from by decide]
    dsimp only [cond]
    refine he_s 5 (pc' := 120) (lc' := [(4, .int (nI c)), (3, .int 15), (0, .ref 13), (1, .ref 15), (2, .ref 60)]) (stk' := [.int (nI c), .int 15, .ref 60, .ref 15, .ref 13]) (mem' := cm gc2 lc2 a b R) (by intro _ _ _; eq_refl) ?_
    obtain ⟨vc3, memc3, ⟨gc3, lc3, ac3, ⟨frc3, rac3⟩, hxc3, hRc3⟩, hrc3⟩ := ha_rr15 (R := R) (c := c) hg hAc2 hO hmc2 (by omega)
    cases hRc3
    refine he_ivV hrc3 (by omega) (by rfl) (by rfl) (by rfl) (by rfl) (by rfl) (by rfl) ?_
    have fc3_60_6 : gc3 60 6 = nI c := (congrFun (frc3.1 60 (by decide)) 6).trans fc2_60_6
    have fc3_13_2 : gc3 13 2 = nI d := (congrFun (frc3.1 13 (by decide)) 2).trans fc2_13_2
    have fc3_60_7 : gc3 60 7 = 1 := (congrFun (frc3.1 60 (by decide)) 7).trans fc2_60_7
    have hfc3 := cfr_tr hfc2 frc3
    have hAc3 := cn_L_fr hAc2 frc3 (by decide) (by decide)
    have hTc3 := tfd_tr (tfd_tr hTc2 (tfd_c (a := a) frc3)) (tfd_r rac3)
    have hgc3 := ctx_r hg rac3
    have hOc3 := opn_r hO rac3
    rcases hxc3 with ⟨qc3, hmc3, hqc3⟩ | ⟨zc3, hmc3, hqc3⟩
    · refine he_s 3 (pc' := 129) (lc' := [(4, .int (nI c)), (3, .int 15), (0, .ref 13), (1, .ref 15), (2, .ref 60)]) (stk' := [.int 59, .ref 9]) (mem' := cm gc3 lc3 ac3 b R) (by intro _ _ _; eq_refl) ?_
      obtain ⟨vc4, memc4, ⟨xc4, gc4, lc4, frc4, hxc4, hRc4⟩, hrc4⟩ := ha_ps0 (w := 59) (R := R) hgc3 (by decide) hmc3
      cases hRc4
      refine he_ivV hrc4 (by omega) (by rfl) (by rfl) (by rfl) (by rfl) (by rfl) (by rfl) ?_
      have fc4_60_6 : gc4 60 6 = nI c := (congrFun (frc4.1 60 (by decide)) 6).trans fc3_60_6
      have fc4_13_2 : gc4 13 2 = nI d := (congrFun (frc4.1 13 (by decide)) 2).trans fc3_13_2
      have fc4_60_7 : gc4 60 7 = 1 := (congrFun (frc4.1 60 (by decide)) 7).trans fc3_60_7
      have hfc4 := cfr_tr hfc3 frc4
      have hAc4 := cn_L_fr hAc3 frc4 (by decide) (by decide)
      have hTc4 := tfd_tr hTc3 (tfd_c (a := ac3) frc4)
      rcases hxc4 with ⟨hwc4, rfl, hmc4⟩ | ⟨hwc4, rfl, hmc4⟩
      · refine he_s 1 (pc' := cond (fx_cb .ne 1 0) 136 135) (lc' := [(4, .int (nI c)), (3, .int 15), (0, .ref 13), (1, .ref 15), (2, .ref 60)]) (stk' := []) (mem' := cm gc4 lc4 ac3 b R) (by intro _ _ _; eq_refl) ?_
        rw [show (fx_cb .ne 1 0) = true from by decide]
        dsimp only [cond]
        refine he_s 4 (pc' := 143) (lc' := [(4, .int (nI c)), (3, .int 15), (0, .ref 13), (1, .ref 15), (2, .ref 60)]) (stk' := [.int 15, .int (nI c), .ref 61]) (mem' := cm gc4 lc4 ac3 b R) (by intro _ _ _; eq_refl) ?_
        refine he_stI (mem' := cm gc4 lc4 (fm_u ac3 61 (nI c : Int32).toNatClampNeg 15) b R) (by rfl) (by rfl) (fx_inN (i := c) (by omega) (by omega)) cm_si61 ?_
        rw [show Int32.toNatClampNeg (nI c) = c from nI_clamp (by omega)]
        have hgs5 : ctx (fm_u ac3 61 c 15) b T n := ctx_t hgc3 (by decide)
        have hTs5 : tfd g l a gc4 lc4 (fm_u ac3 61 c 15) := tfd_tr hTc4 (tfd_a (by decide))
        have hOs5 : opn (fm_u ac3 61 c 15) := opn_n hOc3 (by decide)
        refine he_s 7 (pc' := 155) (lc' := [(4, .int (nI c)), (3, .int 15), (0, .ref 13), (1, .ref 15), (2, .ref 60)]) (stk' := [.int 17, .int 15]) (mem' := cm (fm_u gc4 60 6 ((nI c) + 1)) lc4 (fm_u ac3 61 c 15) b R) (by intro _ _ _; eq_refl) ?_
        rw [show ((nI c) + 1 : Int32) = nI (c + 1) from by simp only [show (1 : Int32) = nI 1 from rfl, nI_add, fm_mul]]
        have hmw6 : co (fm_u gc4 60 6 (nI (c + 1))) lc4 T n (sp_n T n qc3) := co_t hmc4 (by decide)
        have hAw6 : cn_L 15 A (fm_u gc4 60 6 (nI (c + 1))) b := cn_15u hAc4 (by decide) (by decide)
        have hTw6 : tfd g l a (fm_u gc4 60 6 (nI (c + 1))) lc4 (fm_u ac3 61 c 15) := tfd_tr hTs5 (tfd_g (by decide))
        have fw6_13_2 : (fm_u gc4 60 6 (nI (c + 1))) 13 2 = nI d := (congrFun (fm_un (by decide)) 2).trans fc4_13_2
        have fw6_60_7 : (fm_u gc4 60 6 (nI (c + 1))) 60 7 = 1 := (fm_uo (by decide)).trans fc4_60_7
        have fw6_60_6 : (fm_u gc4 60 6 (nI (c + 1))) 60 6 = nI (c + 1) := fm_ue
        refine he_s 1 (pc' := cond (fx_cb .eq 15 17) 164 158) (lc' := [(4, .int (nI c)), (3, .int 15), (0, .ref 13), (1, .ref 15), (2, .ref 60)]) (stk' := []) (mem' := cm (fm_u gc4 60 6 (nI (c + 1))) lc4 (fm_u ac3 61 c 15) b R) (by intro _ _ _; eq_refl) ?_
        rw [show (fx_cb .eq 15 17) = false from by decide]
        dsimp only [cond]
        refine he_s 2 (pc' := 161) (lc' := [(4, .int (nI c)), (3, .int 15), (0, .ref 13), (1, .ref 15), (2, .ref 60)]) (stk' := [.int 20, .int 15]) (mem' := cm (fm_u gc4 60 6 (nI (c + 1))) lc4 (fm_u ac3 61 c 15) b R) (by intro _ _ _; eq_refl) ?_
        refine he_s 1 (pc' := cond (fx_cb .ne 15 20) 185 164) (lc' := [(4, .int (nI c)), (3, .int 15), (0, .ref 13), (1, .ref 15), (2, .ref 60)]) (stk' := []) (mem' := cm (fm_u gc4 60 6 (nI (c + 1))) lc4 (fm_u ac3 61 c 15) b R) (by intro _ _ _; eq_refl) ?_
        rw [show (fx_cb .ne 15 20) = true from by decide]
        dsimp only [cond]
        refine he_ret ⟨_, _, _, hTw6, ?_, rfl⟩ (by rfl) (by rfl) (by rfl)
        rw [show tl_k T n A c d p 15 = (if 30 ≤ c then .inl (6, sp_s T n p) else if false = true ∧ 3 ≤ d then .inl (7, sp_s T n p) else tl_rest T n A 15 (sp_n T n p) (fun q => sp_sign T n 59 q (fun q2 => .inr (A, 4 * (c + 1) + d, q2)))) from rfl, if_neg (by omega), if_neg (fun z => by cases z.1), hqc3, sp_sign_t hwc4]
        exact ⟨rfl, hmw6, (by dsimp only; omega), by rw [show (4 * (c + 1) + d) / 4 = c + 1 by omega]; exact fw6_60_6, by rw [show (4 * (c + 1) + d) % 4 = d by omega]; exact fw6_13_2, hOs5, fw6_60_7⟩
      · refine he_s 1 (pc' := cond (fx_cb .ne 0 0) 136 135) (lc' := [(4, .int (nI c)), (3, .int 15), (0, .ref 13), (1, .ref 15), (2, .ref 60)]) (stk' := []) (mem' := cm gc4 lc4 ac3 b R) (by intro _ _ _; eq_refl) ?_
        rw [show (fx_cb .ne 0 0) = false from by decide]
        dsimp only [cond]
        refine he_ret ⟨_, _, _, hTc4, ?_, rfl⟩ (by rfl) (by rfl) (by rfl)
        rw [show tl_k T n A c d p 15 = (if 30 ≤ c then .inl (6, sp_s T n p) else if false = true ∧ 3 ≤ d then .inl (7, sp_s T n p) else tl_rest T n A 15 (sp_n T n p) (fun q => sp_sign T n 59 q (fun q2 => .inr (A, 4 * (c + 1) + d, q2)))) from rfl, if_neg (by omega), if_neg (fun z => by cases z.1), hqc3, sp_sign_f hwc4]
        exact hmc4
    · refine he_s 3 (pc' := 129) (lc' := [(4, .int (nI c)), (3, .int 15), (0, .ref 13), (1, .ref 15), (2, .ref 60)]) (stk' := [.int 59, .ref 9]) (mem' := cm gc3 lc3 ac3 b R) (by intro _ _ _; eq_refl) ?_
      obtain ⟨vc7, memc7, ⟨gc7, lc7, frc7, hmc7, hRc7⟩, hrc7⟩ := ha_psq0 (x := 59) (R := R) hgc3 hmc3
      cases hRc7
      refine he_ivV hrc7 (by omega) (by rfl) (by rfl) (by rfl) (by rfl) (by rfl) (by rfl) ?_
      have fc7_60_6 : gc7 60 6 = nI c := (congrFun (frc7.1 60 (by decide)) 6).trans fc3_60_6
      have fc7_13_2 : gc7 13 2 = nI d := (congrFun (frc7.1 13 (by decide)) 2).trans fc3_13_2
      have fc7_60_7 : gc7 60 7 = 1 := (congrFun (frc7.1 60 (by decide)) 7).trans fc3_60_7
      have hfc7 := cfr_tr hfc3 frc7
      have hAc7 := cn_L_fr hAc3 frc7 (by decide) (by decide)
      have hTc7 := tfd_tr hTc3 (tfd_c (a := ac3) frc7)
      refine he_s 1 (pc' := cond (fx_cb .ne 0 0) 136 135) (lc' := [(4, .int (nI c)), (3, .int 15), (0, .ref 13), (1, .ref 15), (2, .ref 60)]) (stk' := []) (mem' := cm gc7 lc7 ac3 b R) (by intro _ _ _; eq_refl) ?_
      rw [show (fx_cb .ne 0 0) = false from by decide]
      dsimp only [cond]
      refine he_ret ⟨_, _, _, hTc7, ?_, rfl⟩ (by rfl) (by rfl) (by rfl)
      rw [show tl_k T n A c d p 15 = (if 30 ≤ c then .inl (6, sp_s T n p) else if false = true ∧ 3 ≤ d then .inl (7, sp_s T n p) else tl_rest T n A 15 (sp_n T n p) (fun q => sp_sign T n 59 q (fun q2 => .inr (A, 4 * (c + 1) + d, q2)))) from rfl, if_neg (by omega), if_neg (fun z => by cases z.1), hqc3]
      exact hmc7
  · rw [show (fx_cb .lt (nI c) 30) = false from cb_ltF (a := c) (b := 30) (by omega) (by omega) (by omega)]
    dsimp only [cond]
    refine he_s 3 (pc' := 44) (lc' := [(4, .int (nI c)), (3, .int 15), (0, .ref 13), (1, .ref 15), (2, .ref 60)]) (stk' := [.int 6, .ref 9]) (mem' := cm g l a b R) (by intro _ _ _; eq_refl) ?_
    obtain ⟨gc8, hrc8, hmc8, frc8⟩ := ha_fail (a := a) (b := b) (R := R) (x := 6) h (by decide)
    refine he_ivV hrc8 (by omega) (by rfl) (by rfl) (by rfl) (by rfl) (by rfl) (by rfl) ?_
    have fc8_60_6 : gc8 60 6 = nI c := (congrFun (frc8.1 60 (by decide)) 6).trans h60
    have fc8_13_2 : gc8 13 2 = nI d := (congrFun (frc8.1 13 (by decide)) 2).trans h13
    have fc8_60_7 : gc8 60 7 = 1 := (congrFun (frc8.1 60 (by decide)) 7).trans h67
    have hfc8 := cfr_tr cfr_rf frc8
    have hAc8 := cn_L_fr hA frc8 (by decide) (by decide)
    have hTc8 := tfd_tr tfd_rf (tfd_c (a := a) frc8)
    refine he_s 4 (pc' := 86) (lc' := [(4, .int (nI c)), (3, .int 15), (0, .ref 13), (1, .ref 15), (2, .ref 60)]) (stk' := [.int (gc8 9 10)]) (mem' := cm gc8 l a b R) (by intro _ _ _; eq_refl) ?_
    try rw [hmc8.2.2.1]
    refine he_s 1 (pc' := cond (fx_cb .eq 6 0) 90 89) (lc' := [(4, .int (nI c)), (3, .int 15), (0, .ref 13), (1, .ref 15), (2, .ref 60)]) (stk' := []) (mem' := cm gc8 l a b R) (by intro _ _ _; eq_refl) ?_
    rw [show (fx_cb .eq 6 0) = false from cb_nz_eq hmc8.1]
    dsimp only [cond]
    refine he_ret ⟨_, _, _, hTc8, ?_, rfl⟩ (by rfl) (by rfl) (by rfl)
    rw [show tl_k T n A c d p 15 = (if 30 ≤ c then .inl (6, sp_s T n p) else if false = true ∧ 3 ≤ d then .inl (7, sp_s T n p) else tl_rest T n A 15 (sp_n T n p) (fun q => sp_sign T n 59 q (fun q2 => .inr (A, 4 * (c + 1) + d, q2)))) from rfl, if_pos (by omega)]
    exact hmc8
theorem ha_rs16 (hg : ctx a b T n) (hA : cn_L 15 A g b) (hO : opn a) (h : co g l T n p) (hc : c ≤ 30) (hd : d ≤ 3) (h60 : g 60 6 = nI c) (h13 : g 13 2 = nI d) (h67 : g 60 7 = 1) (hw : g 9 7 = 16) : ∃ (v : Option Value) (mem' : fx_M), (fun R1 => ∃ (g' : Nat → Nat → Int32) (l' : Nat → Nat → Int64) (a' : Nat → Nat → Int32), tfd g l a g' l' a' ∧ tRes g' l' a' T n A (tl_k T n A c d p 16) ∧ R1 = (none, cm g' l' a' b R)) (v, mem') ∧ hr_T 6 122 [.ref 13, .ref 15, .ref 60] (cm g l a b R) v mem' := by
  refine he_meth (F := fun R1 => ∃ (g' : Nat → Nat → Int32) (l' : Nat → Nat → Int64) (a' : Nat → Nat → Int32), tfd g l a g' l' a' ∧ tRes g' l' a' T n A (tl_k T n A c d p 16) ∧ R1 = (none, cm g' l' a' b R)) (M := gk_m122) (by rfl) (by rfl) ?_
  refine he_s 8 (pc' := 15) (lc' := [(4, .int (g 60 6)), (3, .int (g 9 7)), (0, .ref 13), (1, .ref 15), (2, .ref 60)]) (stk' := [.int (g 9 7)]) (mem' := cm g l a b R) (by intro _ _ _; eq_refl) ?_
  try rw [hw]
  try rw [h60]
  refine he_ivS (ha_isT16 (g := g) (l := l) (a := a) (b := b) (R := R)) (by omega) (by rfl) (by rfl) (by rfl) (by rfl) (by rfl) ?_
  refine he_s 1 (pc' := cond (fx_cb .ne 1 0) 31 21) (lc' := [(4, .int (nI c)), (3, .int 16), (0, .ref 13), (1, .ref 15), (2, .ref 60)]) (stk' := []) (mem' := cm g l a b R) (by intro _ _ _; eq_refl) ?_
  rw [show (fx_cb .ne 1 0) = true from by decide]
  dsimp only [cond]
  refine he_s 2 (pc' := 35) (lc' := [(4, .int (nI c)), (3, .int 16), (0, .ref 13), (1, .ref 15), (2, .ref 60)]) (stk' := [.int 30, .int (nI c)]) (mem' := cm g l a b R) (by intro _ _ _; eq_refl) ?_
  refine he_s 1 (pc' := cond (fx_cb .lt (nI c) 30) 50 38) (lc' := [(4, .int (nI c)), (3, .int 16), (0, .ref 13), (1, .ref 15), (2, .ref 60)]) (stk' := []) (mem' := cm g l a b R) (by intro _ _ _; eq_refl) ?_
  by_cases y1 : c < 30
  · rw [show (fx_cb .lt (nI c) 30) = true from cb_ltT (a := c) (b := 30) (by omega) (by omega) (by omega)]
    dsimp only [cond]
    refine he_s 2 (pc' := 53) (lc' := [(4, .int (nI c)), (3, .int 16), (0, .ref 13), (1, .ref 15), (2, .ref 60)]) (stk' := [.int 17, .int 16]) (mem' := cm g l a b R) (by intro _ _ _; eq_refl) ?_
    refine he_s 1 (pc' := cond (fx_cb .eq 16 17) 62 56) (lc' := [(4, .int (nI c)), (3, .int 16), (0, .ref 13), (1, .ref 15), (2, .ref 60)]) (stk' := []) (mem' := cm g l a b R) (by intro _ _ _; eq_refl) ?_
    rw [show (fx_cb .eq 16 17) = false from by decide]
    dsimp only [cond]
    refine he_s 2 (pc' := 59) (lc' := [(4, .int (nI c)), (3, .int 16), (0, .ref 13), (1, .ref 15), (2, .ref 60)]) (stk' := [.int 20, .int 16]) (mem' := cm g l a b R) (by intro _ _ _; eq_refl) ?_
    refine he_s 1 (pc' := cond (fx_cb .ne 16 20) 79 62) (lc' := [(4, .int (nI c)), (3, .int 16), (0, .ref 13), (1, .ref 15), (2, .ref 60)]) (stk' := []) (mem' := cm g l a b R) (by intro _ _ _; eq_refl) ?_
    rw [show (fx_cb .ne 16 20) = true from by decide]
    dsimp only [cond]
    refine he_s 3 (pc' := 86) (lc' := [(4, .int (nI c)), (3, .int 16), (0, .ref 13), (1, .ref 15), (2, .ref 60)]) (stk' := [.int (g 9 10)]) (mem' := cm g l a b R) (by intro _ _ _; eq_refl) ?_
    try rw [h.2.2.1]
    refine he_s 1 (pc' := cond (fx_cb .eq 0 0) 90 89) (lc' := [(4, .int (nI c)), (3, .int 16), (0, .ref 13), (1, .ref 15), (2, .ref 60)]) (stk' := []) (mem' := cm g l a b R) (by intro _ _ _; eq_refl) ?_
    rw [show (fx_cb .eq 0 0) = true from by decide]
    dsimp only [cond]
    refine he_s 2 (pc' := 94) (lc' := [(4, .int (nI c)), (3, .int 16), (0, .ref 13), (1, .ref 15), (2, .ref 60)]) (stk' := [.ref 9]) (mem' := cm g l a b R) (by intro _ _ _; eq_refl) ?_
    obtain ⟨gc2, lc2, hrc2, hmc2, frc2⟩ := ha_scano (R := R) hg h
    refine he_ivV hrc2 (by omega) (by rfl) (by rfl) (by rfl) (by rfl) (by rfl) (by rfl) ?_
    have fc2_60_6 : gc2 60 6 = nI c := (congrFun (frc2.1 60 (by decide)) 6).trans h60
    have fc2_13_2 : gc2 13 2 = nI d := (congrFun (frc2.1 13 (by decide)) 2).trans h13
    have fc2_60_7 : gc2 60 7 = 1 := (congrFun (frc2.1 60 (by decide)) 7).trans h67
    have hfc2 := cfr_tr cfr_rf frc2
    have hAc2 := cn_L_fr hA frc2 (by decide) (by decide)
    have hTc2 := tfd_tr tfd_rf (tfd_c (a := a) frc2)
    refine he_s 2 (pc' := 100) (lc' := [(4, .int (nI c)), (3, .int 16), (0, .ref 13), (1, .ref 15), (2, .ref 60)]) (stk' := [.int 17, .int 16]) (mem' := cm gc2 lc2 a b R) (by intro _ _ _; eq_refl) ?_
    refine he_s 1 (pc' := cond (fx_cb .ne 16 17) 114 103) (lc' := [(4, .int (nI c)), (3, .int 16), (0, .ref 13), (1, .ref 15), (2, .ref 60)]) (stk' := []) (mem' := cm gc2 lc2 a b R) (by intro _ _ _; eq_refl) ?_
    rw [show (fx_cb .ne 16 17) = true from by decide]
    dsimp only [cond]
    refine he_s 5 (pc' := 120) (lc' := [(4, .int (nI c)), (3, .int 16), (0, .ref 13), (1, .ref 15), (2, .ref 60)]) (stk' := [.int (nI c), .int 16, .ref 60, .ref 15, .ref 13]) (mem' := cm gc2 lc2 a b R) (by intro _ _ _; eq_refl) ?_
    obtain ⟨vc3, memc3, ⟨gc3, lc3, ac3, ⟨frc3, rac3⟩, hxc3, hRc3⟩, hrc3⟩ := ha_rr16 (R := R) (c := c) hg hAc2 hO hmc2 (by omega)
    cases hRc3
    refine he_ivV hrc3 (by omega) (by rfl) (by rfl) (by rfl) (by rfl) (by rfl) (by rfl) ?_
    have fc3_60_6 : gc3 60 6 = nI c := (congrFun (frc3.1 60 (by decide)) 6).trans fc2_60_6
    have fc3_13_2 : gc3 13 2 = nI d := (congrFun (frc3.1 13 (by decide)) 2).trans fc2_13_2
    have fc3_60_7 : gc3 60 7 = 1 := (congrFun (frc3.1 60 (by decide)) 7).trans fc2_60_7
    have hfc3 := cfr_tr hfc2 frc3
    have hAc3 := cn_L_fr hAc2 frc3 (by decide) (by decide)
    have hTc3 := tfd_tr (tfd_tr hTc2 (tfd_c (a := a) frc3)) (tfd_r rac3)
    have hgc3 := ctx_r hg rac3
    have hOc3 := opn_r hO rac3
    rcases hxc3 with ⟨qc3, hmc3, hqc3⟩ | ⟨zc3, hmc3, hqc3⟩
    · refine he_s 3 (pc' := 129) (lc' := [(4, .int (nI c)), (3, .int 16), (0, .ref 13), (1, .ref 15), (2, .ref 60)]) (stk' := [.int 59, .ref 9]) (mem' := cm gc3 lc3 ac3 b R) (by intro _ _ _; eq_refl) ?_
      obtain ⟨vc4, memc4, ⟨xc4, gc4, lc4, frc4, hxc4, hRc4⟩, hrc4⟩ := ha_ps0 (w := 59) (R := R) hgc3 (by decide) hmc3
      cases hRc4
      refine he_ivV hrc4 (by omega) (by rfl) (by rfl) (by rfl) (by rfl) (by rfl) (by rfl) ?_
      have fc4_60_6 : gc4 60 6 = nI c := (congrFun (frc4.1 60 (by decide)) 6).trans fc3_60_6
      have fc4_13_2 : gc4 13 2 = nI d := (congrFun (frc4.1 13 (by decide)) 2).trans fc3_13_2
      have fc4_60_7 : gc4 60 7 = 1 := (congrFun (frc4.1 60 (by decide)) 7).trans fc3_60_7
      have hfc4 := cfr_tr hfc3 frc4
      have hAc4 := cn_L_fr hAc3 frc4 (by decide) (by decide)
      have hTc4 := tfd_tr hTc3 (tfd_c (a := ac3) frc4)
      rcases hxc4 with ⟨hwc4, rfl, hmc4⟩ | ⟨hwc4, rfl, hmc4⟩
      · refine he_s 1 (pc' := cond (fx_cb .ne 1 0) 136 135) (lc' := [(4, .int (nI c)), (3, .int 16), (0, .ref 13), (1, .ref 15), (2, .ref 60)]) (stk' := []) (mem' := cm gc4 lc4 ac3 b R) (by intro _ _ _; eq_refl) ?_
        rw [show (fx_cb .ne 1 0) = true from by decide]
        dsimp only [cond]
        refine he_s 4 (pc' := 143) (lc' := [(4, .int (nI c)), (3, .int 16), (0, .ref 13), (1, .ref 15), (2, .ref 60)]) (stk' := [.int 16, .int (nI c), .ref 61]) (mem' := cm gc4 lc4 ac3 b R) (by intro _ _ _; eq_refl) ?_
        refine he_stI (mem' := cm gc4 lc4 (fm_u ac3 61 (nI c : Int32).toNatClampNeg 16) b R) (by rfl) (by rfl) (fx_inN (i := c) (by omega) (by omega)) cm_si61 ?_
        rw [show Int32.toNatClampNeg (nI c) = c from nI_clamp (by omega)]
        have hgs5 : ctx (fm_u ac3 61 c 16) b T n := ctx_t hgc3 (by decide)
        have hTs5 : tfd g l a gc4 lc4 (fm_u ac3 61 c 16) := tfd_tr hTc4 (tfd_a (by decide))
        have hOs5 : opn (fm_u ac3 61 c 16) := opn_n hOc3 (by decide)
        refine he_s 7 (pc' := 155) (lc' := [(4, .int (nI c)), (3, .int 16), (0, .ref 13), (1, .ref 15), (2, .ref 60)]) (stk' := [.int 17, .int 16]) (mem' := cm (fm_u gc4 60 6 ((nI c) + 1)) lc4 (fm_u ac3 61 c 16) b R) (by intro _ _ _; eq_refl) ?_
        rw [show ((nI c) + 1 : Int32) = nI (c + 1) from by simp only [show (1 : Int32) = nI 1 from rfl, nI_add, fm_mul]]
        have hmw6 : co (fm_u gc4 60 6 (nI (c + 1))) lc4 T n (sp_n T n qc3) := co_t hmc4 (by decide)
        have hAw6 : cn_L 15 A (fm_u gc4 60 6 (nI (c + 1))) b := cn_15u hAc4 (by decide) (by decide)
        have hTw6 : tfd g l a (fm_u gc4 60 6 (nI (c + 1))) lc4 (fm_u ac3 61 c 16) := tfd_tr hTs5 (tfd_g (by decide))
        have fw6_13_2 : (fm_u gc4 60 6 (nI (c + 1))) 13 2 = nI d := (congrFun (fm_un (by decide)) 2).trans fc4_13_2
        have fw6_60_7 : (fm_u gc4 60 6 (nI (c + 1))) 60 7 = 1 := (fm_uo (by decide)).trans fc4_60_7
        have fw6_60_6 : (fm_u gc4 60 6 (nI (c + 1))) 60 6 = nI (c + 1) := fm_ue
        refine he_s 1 (pc' := cond (fx_cb .eq 16 17) 164 158) (lc' := [(4, .int (nI c)), (3, .int 16), (0, .ref 13), (1, .ref 15), (2, .ref 60)]) (stk' := []) (mem' := cm (fm_u gc4 60 6 (nI (c + 1))) lc4 (fm_u ac3 61 c 16) b R) (by intro _ _ _; eq_refl) ?_
        rw [show (fx_cb .eq 16 17) = false from by decide]
        dsimp only [cond]
        refine he_s 2 (pc' := 161) (lc' := [(4, .int (nI c)), (3, .int 16), (0, .ref 13), (1, .ref 15), (2, .ref 60)]) (stk' := [.int 20, .int 16]) (mem' := cm (fm_u gc4 60 6 (nI (c + 1))) lc4 (fm_u ac3 61 c 16) b R) (by intro _ _ _; eq_refl) ?_
        refine he_s 1 (pc' := cond (fx_cb .ne 16 20) 185 164) (lc' := [(4, .int (nI c)), (3, .int 16), (0, .ref 13), (1, .ref 15), (2, .ref 60)]) (stk' := []) (mem' := cm (fm_u gc4 60 6 (nI (c + 1))) lc4 (fm_u ac3 61 c 16) b R) (by intro _ _ _; eq_refl) ?_
        rw [show (fx_cb .ne 16 20) = true from by decide]
        dsimp only [cond]
        refine he_ret ⟨_, _, _, hTw6, ?_, rfl⟩ (by rfl) (by rfl) (by rfl)
        rw [show tl_k T n A c d p 16 = (if 30 ≤ c then .inl (6, sp_s T n p) else if false = true ∧ 3 ≤ d then .inl (7, sp_s T n p) else tl_rest T n A 16 (sp_n T n p) (fun q => sp_sign T n 59 q (fun q2 => .inr (A, 4 * (c + 1) + d, q2)))) from rfl, if_neg (by omega), if_neg (fun z => by cases z.1), hqc3, sp_sign_t hwc4]
        exact ⟨rfl, hmw6, (by dsimp only; omega), by rw [show (4 * (c + 1) + d) / 4 = c + 1 by omega]; exact fw6_60_6, by rw [show (4 * (c + 1) + d) % 4 = d by omega]; exact fw6_13_2, hOs5, fw6_60_7⟩
      · refine he_s 1 (pc' := cond (fx_cb .ne 0 0) 136 135) (lc' := [(4, .int (nI c)), (3, .int 16), (0, .ref 13), (1, .ref 15), (2, .ref 60)]) (stk' := []) (mem' := cm gc4 lc4 ac3 b R) (by intro _ _ _; eq_refl) ?_
        rw [show (fx_cb .ne 0 0) = false from by decide]
        dsimp only [cond]
        refine he_ret ⟨_, _, _, hTc4, ?_, rfl⟩ (by rfl) (by rfl) (by rfl)
        rw [show tl_k T n A c d p 16 = (if 30 ≤ c then .inl (6, sp_s T n p) else if false = true ∧ 3 ≤ d then .inl (7, sp_s T n p) else tl_rest T n A 16 (sp_n T n p) (fun q => sp_sign T n 59 q (fun q2 => .inr (A, 4 * (c + 1) + d, q2)))) from rfl, if_neg (by omega), if_neg (fun z => by cases z.1), hqc3, sp_sign_f hwc4]
        exact hmc4
    · refine he_s 3 (pc' := 129) (lc' := [(4, .int (nI c)), (3, .int 16), (0, .ref 13), (1, .ref 15), (2, .ref 60)]) (stk' := [.int 59, .ref 9]) (mem' := cm gc3 lc3 ac3 b R) (by intro _ _ _; eq_refl) ?_
      obtain ⟨vc7, memc7, ⟨gc7, lc7, frc7, hmc7, hRc7⟩, hrc7⟩ := ha_psq0 (x := 59) (R := R) hgc3 hmc3
      cases hRc7
      refine he_ivV hrc7 (by omega) (by rfl) (by rfl) (by rfl) (by rfl) (by rfl) (by rfl) ?_
      have fc7_60_6 : gc7 60 6 = nI c := (congrFun (frc7.1 60 (by decide)) 6).trans fc3_60_6
      have fc7_13_2 : gc7 13 2 = nI d := (congrFun (frc7.1 13 (by decide)) 2).trans fc3_13_2
      have fc7_60_7 : gc7 60 7 = 1 := (congrFun (frc7.1 60 (by decide)) 7).trans fc3_60_7
      have hfc7 := cfr_tr hfc3 frc7
      have hAc7 := cn_L_fr hAc3 frc7 (by decide) (by decide)
      have hTc7 := tfd_tr hTc3 (tfd_c (a := ac3) frc7)
      refine he_s 1 (pc' := cond (fx_cb .ne 0 0) 136 135) (lc' := [(4, .int (nI c)), (3, .int 16), (0, .ref 13), (1, .ref 15), (2, .ref 60)]) (stk' := []) (mem' := cm gc7 lc7 ac3 b R) (by intro _ _ _; eq_refl) ?_
      rw [show (fx_cb .ne 0 0) = false from by decide]
      dsimp only [cond]
      refine he_ret ⟨_, _, _, hTc7, ?_, rfl⟩ (by rfl) (by rfl) (by rfl)
      rw [show tl_k T n A c d p 16 = (if 30 ≤ c then .inl (6, sp_s T n p) else if false = true ∧ 3 ≤ d then .inl (7, sp_s T n p) else tl_rest T n A 16 (sp_n T n p) (fun q => sp_sign T n 59 q (fun q2 => .inr (A, 4 * (c + 1) + d, q2)))) from rfl, if_neg (by omega), if_neg (fun z => by cases z.1), hqc3]
      exact hmc7
  · rw [show (fx_cb .lt (nI c) 30) = false from cb_ltF (a := c) (b := 30) (by omega) (by omega) (by omega)]
    dsimp only [cond]
    refine he_s 3 (pc' := 44) (lc' := [(4, .int (nI c)), (3, .int 16), (0, .ref 13), (1, .ref 15), (2, .ref 60)]) (stk' := [.int 6, .ref 9]) (mem' := cm g l a b R) (by intro _ _ _; eq_refl) ?_
    obtain ⟨gc8, hrc8, hmc8, frc8⟩ := ha_fail (a := a) (b := b) (R := R) (x := 6) h (by decide)
    refine he_ivV hrc8 (by omega) (by rfl) (by rfl) (by rfl) (by rfl) (by rfl) (by rfl) ?_
    have fc8_60_6 : gc8 60 6 = nI c := (congrFun (frc8.1 60 (by decide)) 6).trans h60
    have fc8_13_2 : gc8 13 2 = nI d := (congrFun (frc8.1 13 (by decide)) 2).trans h13
    have fc8_60_7 : gc8 60 7 = 1 := (congrFun (frc8.1 60 (by decide)) 7).trans h67
    have hfc8 := cfr_tr cfr_rf frc8
    have hAc8 := cn_L_fr hA frc8 (by decide) (by decide)
    have hTc8 := tfd_tr tfd_rf (tfd_c (a := a) frc8)
    refine he_s 4 (pc' := 86) (lc' := [(4, .int (nI c)), (3, .int 16), (0, .ref 13), (1, .ref 15), (2, .ref 60)]) (stk' := [.int (gc8 9 10)]) (mem' := cm gc8 l a b R) (by intro _ _ _; eq_refl) ?_
    try rw [hmc8.2.2.1]
    refine he_s 1 (pc' := cond (fx_cb .eq 6 0) 90 89) (lc' := [(4, .int (nI c)), (3, .int 16), (0, .ref 13), (1, .ref 15), (2, .ref 60)]) (stk' := []) (mem' := cm gc8 l a b R) (by intro _ _ _; eq_refl) ?_
    rw [show (fx_cb .eq 6 0) = false from cb_nz_eq hmc8.1]
    dsimp only [cond]
    refine he_ret ⟨_, _, _, hTc8, ?_, rfl⟩ (by rfl) (by rfl) (by rfl)
    rw [show tl_k T n A c d p 16 = (if 30 ≤ c then .inl (6, sp_s T n p) else if false = true ∧ 3 ≤ d then .inl (7, sp_s T n p) else tl_rest T n A 16 (sp_n T n p) (fun q => sp_sign T n 59 q (fun q2 => .inr (A, 4 * (c + 1) + d, q2)))) from rfl, if_pos (by omega)]
    exact hmc8
theorem ha_rs17 (hg : ctx a b T n) (hA : cn_L 15 A g b) (hO : opn a) (h : co g l T n p) (hc : c ≤ 30) (hd : d ≤ 3) (h60 : g 60 6 = nI c) (h13 : g 13 2 = nI d) (h67 : g 60 7 = 1) (hw : g 9 7 = 17) : ∃ (v : Option Value) (mem' : fx_M), (fun R1 => ∃ (g' : Nat → Nat → Int32) (l' : Nat → Nat → Int64) (a' : Nat → Nat → Int32), tfd g l a g' l' a' ∧ tRes g' l' a' T n A (tl_k T n A c d p 17) ∧ R1 = (none, cm g' l' a' b R)) (v, mem') ∧ hr_T 6 122 [.ref 13, .ref 15, .ref 60] (cm g l a b R) v mem' := by
  refine he_meth (F := fun R1 => ∃ (g' : Nat → Nat → Int32) (l' : Nat → Nat → Int64) (a' : Nat → Nat → Int32), tfd g l a g' l' a' ∧ tRes g' l' a' T n A (tl_k T n A c d p 17) ∧ R1 = (none, cm g' l' a' b R)) (M := gk_m122) (by rfl) (by rfl) ?_
  refine he_s 8 (pc' := 15) (lc' := [(4, .int (g 60 6)), (3, .int (g 9 7)), (0, .ref 13), (1, .ref 15), (2, .ref 60)]) (stk' := [.int (g 9 7)]) (mem' := cm g l a b R) (by intro _ _ _; eq_refl) ?_
  try rw [hw]
  try rw [h60]
  refine he_ivS (ha_isT17 (g := g) (l := l) (a := a) (b := b) (R := R)) (by omega) (by rfl) (by rfl) (by rfl) (by rfl) (by rfl) ?_
  refine he_s 1 (pc' := cond (fx_cb .ne 1 0) 31 21) (lc' := [(4, .int (nI c)), (3, .int 17), (0, .ref 13), (1, .ref 15), (2, .ref 60)]) (stk' := []) (mem' := cm g l a b R) (by intro _ _ _; eq_refl) ?_
  rw [show (fx_cb .ne 1 0) = true from by decide]
  dsimp only [cond]
  refine he_s 2 (pc' := 35) (lc' := [(4, .int (nI c)), (3, .int 17), (0, .ref 13), (1, .ref 15), (2, .ref 60)]) (stk' := [.int 30, .int (nI c)]) (mem' := cm g l a b R) (by intro _ _ _; eq_refl) ?_
  refine he_s 1 (pc' := cond (fx_cb .lt (nI c) 30) 50 38) (lc' := [(4, .int (nI c)), (3, .int 17), (0, .ref 13), (1, .ref 15), (2, .ref 60)]) (stk' := []) (mem' := cm g l a b R) (by intro _ _ _; eq_refl) ?_
  by_cases y1 : c < 30
  · rw [show (fx_cb .lt (nI c) 30) = true from cb_ltT (a := c) (b := 30) (by omega) (by omega) (by omega)]
    dsimp only [cond]
    refine he_s 2 (pc' := 53) (lc' := [(4, .int (nI c)), (3, .int 17), (0, .ref 13), (1, .ref 15), (2, .ref 60)]) (stk' := [.int 17, .int 17]) (mem' := cm g l a b R) (by intro _ _ _; eq_refl) ?_
    refine he_s 1 (pc' := cond (fx_cb .eq 17 17) 62 56) (lc' := [(4, .int (nI c)), (3, .int 17), (0, .ref 13), (1, .ref 15), (2, .ref 60)]) (stk' := []) (mem' := cm g l a b R) (by intro _ _ _; eq_refl) ?_
    rw [show (fx_cb .eq 17 17) = true from by decide]
    dsimp only [cond]
    refine he_s 3 (pc' := 67) (lc' := [(4, .int (nI c)), (3, .int 17), (0, .ref 13), (1, .ref 15), (2, .ref 60)]) (stk' := [.int 3, .int (g 13 2)]) (mem' := cm g l a b R) (by intro _ _ _; eq_refl) ?_
    try rw [h13]
    refine he_s 1 (pc' := cond (fx_cb .lt (nI d) 3) 79 70) (lc' := [(4, .int (nI c)), (3, .int 17), (0, .ref 13), (1, .ref 15), (2, .ref 60)]) (stk' := []) (mem' := cm g l a b R) (by intro _ _ _; eq_refl) ?_
    by_cases y2 : d < 3
    · rw [show (fx_cb .lt (nI d) 3) = true from cb_ltT (a := d) (b := 3) (by omega) (by omega) (by omega)]
      dsimp only [cond]
      refine he_s 3 (pc' := 86) (lc' := [(4, .int (nI c)), (3, .int 17), (0, .ref 13), (1, .ref 15), (2, .ref 60)]) (stk' := [.int (g 9 10)]) (mem' := cm g l a b R) (by intro _ _ _; eq_refl) ?_
      try rw [h.2.2.1]
      refine he_s 1 (pc' := cond (fx_cb .eq 0 0) 90 89) (lc' := [(4, .int (nI c)), (3, .int 17), (0, .ref 13), (1, .ref 15), (2, .ref 60)]) (stk' := []) (mem' := cm g l a b R) (by intro _ _ _; eq_refl) ?_
      rw [show (fx_cb .eq 0 0) = true from by decide]
      dsimp only [cond]
      refine he_s 2 (pc' := 94) (lc' := [(4, .int (nI c)), (3, .int 17), (0, .ref 13), (1, .ref 15), (2, .ref 60)]) (stk' := [.ref 9]) (mem' := cm g l a b R) (by intro _ _ _; eq_refl) ?_
      obtain ⟨gc3, lc3, hrc3, hmc3, frc3⟩ := ha_scano (R := R) hg h
      refine he_ivV hrc3 (by omega) (by rfl) (by rfl) (by rfl) (by rfl) (by rfl) (by rfl) ?_
      have fc3_60_6 : gc3 60 6 = nI c := (congrFun (frc3.1 60 (by decide)) 6).trans h60
      have fc3_13_2 : gc3 13 2 = nI d := (congrFun (frc3.1 13 (by decide)) 2).trans h13
      have fc3_60_7 : gc3 60 7 = 1 := (congrFun (frc3.1 60 (by decide)) 7).trans h67
      have hfc3 := cfr_tr cfr_rf frc3
      have hAc3 := cn_L_fr hA frc3 (by decide) (by decide)
      have hTc3 := tfd_tr tfd_rf (tfd_c (a := a) frc3)
      refine he_s 2 (pc' := 100) (lc' := [(4, .int (nI c)), (3, .int 17), (0, .ref 13), (1, .ref 15), (2, .ref 60)]) (stk' := [.int 17, .int 17]) (mem' := cm gc3 lc3 a b R) (by intro _ _ _; eq_refl) ?_
      refine he_s 1 (pc' := cond (fx_cb .ne 17 17) 114 103) (lc' := [(4, .int (nI c)), (3, .int 17), (0, .ref 13), (1, .ref 15), (2, .ref 60)]) (stk' := []) (mem' := cm gc3 lc3 a b R) (by intro _ _ _; eq_refl) ?_
      rw [show (fx_cb .ne 17 17) = false from by decide]
      dsimp only [cond]
      refine he_s 4 (pc' := 108) (lc' := [(4, .int (nI c)), (3, .int 17), (0, .ref 13), (1, .ref 15), (2, .ref 60)]) (stk' := [.int (nI c), .ref 60, .ref 15, .ref 13]) (mem' := cm gc3 lc3 a b R) (by intro _ _ _; eq_refl) ?_
      obtain ⟨vc4, memc4, ⟨gc4, lc4, ac4, ⟨frc4, rac4⟩, hxc4, hRc4⟩, hrc4⟩ := ha_tt (R := R) (c := c) hg hAc3 hO hmc3 (by omega)
      cases hRc4
      refine he_ivV hrc4 (by omega) (by rfl) (by rfl) (by rfl) (by rfl) (by rfl) (by rfl) ?_
      have fc4_60_6 : gc4 60 6 = nI c := (congrFun (frc4.1 60 (by decide)) 6).trans fc3_60_6
      have fc4_13_2 : gc4 13 2 = nI d := (congrFun (frc4.1 13 (by decide)) 2).trans fc3_13_2
      have fc4_60_7 : gc4 60 7 = 1 := (congrFun (frc4.1 60 (by decide)) 7).trans fc3_60_7
      have hfc4 := cfr_tr hfc3 frc4
      have hAc4 := cn_L_fr hAc3 frc4 (by decide) (by decide)
      have hTc4 := tfd_tr (tfd_tr hTc3 (tfd_c (a := a) frc4)) (tfd_r rac4)
      have hgc4 := ctx_r hg rac4
      have hOc4 := opn_r hO rac4
      rcases hxc4 with ⟨qc4, hmc4, hqc4⟩ | ⟨zc4, hmc4, hqc4⟩
      · refine he_s 4 (pc' := 129) (lc' := [(4, .int (nI c)), (3, .int 17), (0, .ref 13), (1, .ref 15), (2, .ref 60)]) (stk' := [.int 59, .ref 9]) (mem' := cm gc4 lc4 ac4 b R) (by intro _ _ _; eq_refl) ?_
        obtain ⟨vc5, memc5, ⟨xc5, gc5, lc5, frc5, hxc5, hRc5⟩, hrc5⟩ := ha_ps0 (w := 59) (R := R) hgc4 (by decide) hmc4
        cases hRc5
        refine he_ivV hrc5 (by omega) (by rfl) (by rfl) (by rfl) (by rfl) (by rfl) (by rfl) ?_
        have fc5_60_6 : gc5 60 6 = nI c := (congrFun (frc5.1 60 (by decide)) 6).trans fc4_60_6
        have fc5_13_2 : gc5 13 2 = nI d := (congrFun (frc5.1 13 (by decide)) 2).trans fc4_13_2
        have fc5_60_7 : gc5 60 7 = 1 := (congrFun (frc5.1 60 (by decide)) 7).trans fc4_60_7
        have hfc5 := cfr_tr hfc4 frc5
        have hAc5 := cn_L_fr hAc4 frc5 (by decide) (by decide)
        have hTc5 := tfd_tr hTc4 (tfd_c (a := ac4) frc5)
        rcases hxc5 with ⟨hwc5, rfl, hmc5⟩ | ⟨hwc5, rfl, hmc5⟩
        · refine he_s 1 (pc' := cond (fx_cb .ne 1 0) 136 135) (lc' := [(4, .int (nI c)), (3, .int 17), (0, .ref 13), (1, .ref 15), (2, .ref 60)]) (stk' := []) (mem' := cm gc5 lc5 ac4 b R) (by intro _ _ _; eq_refl) ?_
          rw [show (fx_cb .ne 1 0) = true from by decide]
          dsimp only [cond]
          refine he_s 4 (pc' := 143) (lc' := [(4, .int (nI c)), (3, .int 17), (0, .ref 13), (1, .ref 15), (2, .ref 60)]) (stk' := [.int 17, .int (nI c), .ref 61]) (mem' := cm gc5 lc5 ac4 b R) (by intro _ _ _; eq_refl) ?_
          refine he_stI (mem' := cm gc5 lc5 (fm_u ac4 61 (nI c : Int32).toNatClampNeg 17) b R) (by rfl) (by rfl) (fx_inN (i := c) (by omega) (by omega)) cm_si61 ?_
          rw [show Int32.toNatClampNeg (nI c) = c from nI_clamp (by omega)]
          have hgs6 : ctx (fm_u ac4 61 c 17) b T n := ctx_t hgc4 (by decide)
          have hTs6 : tfd g l a gc5 lc5 (fm_u ac4 61 c 17) := tfd_tr hTc5 (tfd_a (by decide))
          have hOs6 : opn (fm_u ac4 61 c 17) := opn_n hOc4 (by decide)
          refine he_s 7 (pc' := 155) (lc' := [(4, .int (nI c)), (3, .int 17), (0, .ref 13), (1, .ref 15), (2, .ref 60)]) (stk' := [.int 17, .int 17]) (mem' := cm (fm_u gc5 60 6 ((nI c) + 1)) lc5 (fm_u ac4 61 c 17) b R) (by intro _ _ _; eq_refl) ?_
          rw [show ((nI c) + 1 : Int32) = nI (c + 1) from by simp only [show (1 : Int32) = nI 1 from rfl, nI_add, fm_mul]]
          have hmw7 : co (fm_u gc5 60 6 (nI (c + 1))) lc5 T n (sp_n T n qc4) := co_t hmc5 (by decide)
          have hAw7 : cn_L 15 A (fm_u gc5 60 6 (nI (c + 1))) b := cn_15u hAc5 (by decide) (by decide)
          have hTw7 : tfd g l a (fm_u gc5 60 6 (nI (c + 1))) lc5 (fm_u ac4 61 c 17) := tfd_tr hTs6 (tfd_g (by decide))
          have fw7_13_2 : (fm_u gc5 60 6 (nI (c + 1))) 13 2 = nI d := (congrFun (fm_un (by decide)) 2).trans fc5_13_2
          have fw7_60_7 : (fm_u gc5 60 6 (nI (c + 1))) 60 7 = 1 := (fm_uo (by decide)).trans fc5_60_7
          have fw7_60_6 : (fm_u gc5 60 6 (nI (c + 1))) 60 6 = nI (c + 1) := fm_ue
          refine he_s 1 (pc' := cond (fx_cb .eq 17 17) 164 158) (lc' := [(4, .int (nI c)), (3, .int 17), (0, .ref 13), (1, .ref 15), (2, .ref 60)]) (stk' := []) (mem' := cm (fm_u gc5 60 6 (nI (c + 1))) lc5 (fm_u ac4 61 c 17) b R) (by intro _ _ _; eq_refl) ?_
          rw [show (fx_cb .eq 17 17) = true from by decide]
          dsimp only [cond]
          refine he_s 5 (pc' := 174) (lc' := [(4, .int (nI c)), (3, .int 17), (0, .ref 13), (1, .ref 15), (2, .ref 60)]) (stk' := [.int (nI c), .int ((fm_u gc5 60 6 (nI (c + 1))) 13 2), .ref 14]) (mem' := cm (fm_u gc5 60 6 (nI (c + 1))) lc5 (fm_u ac4 61 c 17) b R) (by intro _ _ _; eq_refl) ?_
          try rw [fw7_13_2]
          refine he_stI (mem' := cm (fm_u gc5 60 6 (nI (c + 1))) lc5 (fm_u (fm_u ac4 61 c 17) 14 (nI d : Int32).toNatClampNeg (nI c)) b R) (by rfl) (by rfl) (fx_inN (i := d) (by omega) (by omega)) cm_si14 ?_
          rw [show Int32.toNatClampNeg (nI d) = d from nI_clamp (by omega)]
          have hgs8 : ctx (fm_u (fm_u ac4 61 c 17) 14 d (nI c)) b T n := ctx_t hgs6 (by decide)
          have hTs8 : tfd g l a (fm_u gc5 60 6 (nI (c + 1))) lc5 (fm_u (fm_u ac4 61 c 17) 14 d (nI c)) := tfd_tr hTw7 (tfd_a (by decide))
          have hOs8 : opn (fm_u (fm_u ac4 61 c 17) 14 d (nI c)) := opn_u hOs6 (by omega)
          refine he_s 6 (pc' := 185) (lc' := [(4, .int (nI c)), (3, .int 17), (0, .ref 13), (1, .ref 15), (2, .ref 60)]) (stk' := []) (mem' := cm (fm_u (fm_u gc5 60 6 (nI (c + 1))) 13 2 (((fm_u gc5 60 6 (nI (c + 1))) 13 2) + 1)) lc5 (fm_u (fm_u ac4 61 c 17) 14 d (nI c)) b R) (by intro _ _ _; eq_refl) ?_
          try rw [fw7_13_2]
          rw [show ((nI d) + 1 : Int32) = nI (d + 1) from by simp only [show (1 : Int32) = nI 1 from rfl, nI_add, fm_mul]]
          have hmw9 : co (fm_u (fm_u gc5 60 6 (nI (c + 1))) 13 2 (nI (d + 1))) lc5 T n (sp_n T n qc4) := co_t hmw7 (by decide)
          have hAw9 : cn_L 15 A (fm_u (fm_u gc5 60 6 (nI (c + 1))) 13 2 (nI (d + 1))) b := cn_15u hAw7 (by decide) (by decide)
          have hTw9 : tfd g l a (fm_u (fm_u gc5 60 6 (nI (c + 1))) 13 2 (nI (d + 1))) lc5 (fm_u (fm_u ac4 61 c 17) 14 d (nI c)) := tfd_tr hTs8 (tfd_g (by decide))
          have fw9_60_7 : (fm_u (fm_u gc5 60 6 (nI (c + 1))) 13 2 (nI (d + 1))) 60 7 = 1 := (congrFun (fm_un (by decide)) 7).trans fw7_60_7
          have fw9_60_6 : (fm_u (fm_u gc5 60 6 (nI (c + 1))) 13 2 (nI (d + 1))) 60 6 = nI (c + 1) := (congrFun (fm_un (by decide)) 6).trans fw7_60_6
          have fw9_13_2 : (fm_u (fm_u gc5 60 6 (nI (c + 1))) 13 2 (nI (d + 1))) 13 2 = nI (d + 1) := fm_ue
          refine he_ret ⟨_, _, _, hTw9, ?_, rfl⟩ (by rfl) (by rfl) (by rfl)
          rw [show tl_k T n A c d p 17 = (if 30 ≤ c then .inl (6, sp_s T n p) else if true = true ∧ 3 ≤ d then .inl (7, sp_s T n p) else tl_rest T n A 17 (sp_n T n p) (fun q => sp_sign T n 59 q (fun q2 => .inr (A, 4 * (c + 1) + (d + 1), q2)))) from rfl, if_neg (by omega), if_neg (fun z => by have := z.2; omega), show tl_rest T n A 17 (sp_n T n p) = tl_test T n A (sp_n T n p) from funext (fun _ => rfl), hqc4, sp_sign_t hwc5]
          exact ⟨rfl, hmw9, (by dsimp only; omega), by rw [show (4 * (c + 1) + (d + 1)) / 4 = c + 1 by omega]; exact fw9_60_6, by rw [show (4 * (c + 1) + (d + 1)) % 4 = (d + 1) by omega]; exact fw9_13_2, hOs8, fw9_60_7⟩
        · refine he_s 1 (pc' := cond (fx_cb .ne 0 0) 136 135) (lc' := [(4, .int (nI c)), (3, .int 17), (0, .ref 13), (1, .ref 15), (2, .ref 60)]) (stk' := []) (mem' := cm gc5 lc5 ac4 b R) (by intro _ _ _; eq_refl) ?_
          rw [show (fx_cb .ne 0 0) = false from by decide]
          dsimp only [cond]
          refine he_ret ⟨_, _, _, hTc5, ?_, rfl⟩ (by rfl) (by rfl) (by rfl)
          rw [show tl_k T n A c d p 17 = (if 30 ≤ c then .inl (6, sp_s T n p) else if true = true ∧ 3 ≤ d then .inl (7, sp_s T n p) else tl_rest T n A 17 (sp_n T n p) (fun q => sp_sign T n 59 q (fun q2 => .inr (A, 4 * (c + 1) + (d + 1), q2)))) from rfl, if_neg (by omega), if_neg (fun z => by have := z.2; omega), show tl_rest T n A 17 (sp_n T n p) = tl_test T n A (sp_n T n p) from funext (fun _ => rfl), hqc4, sp_sign_f hwc5]
          exact hmc5
      · refine he_s 4 (pc' := 129) (lc' := [(4, .int (nI c)), (3, .int 17), (0, .ref 13), (1, .ref 15), (2, .ref 60)]) (stk' := [.int 59, .ref 9]) (mem' := cm gc4 lc4 ac4 b R) (by intro _ _ _; eq_refl) ?_
        obtain ⟨vc10, memc10, ⟨gc10, lc10, frc10, hmc10, hRc10⟩, hrc10⟩ := ha_psq0 (x := 59) (R := R) hgc4 hmc4
        cases hRc10
        refine he_ivV hrc10 (by omega) (by rfl) (by rfl) (by rfl) (by rfl) (by rfl) (by rfl) ?_
        have fc10_60_6 : gc10 60 6 = nI c := (congrFun (frc10.1 60 (by decide)) 6).trans fc4_60_6
        have fc10_13_2 : gc10 13 2 = nI d := (congrFun (frc10.1 13 (by decide)) 2).trans fc4_13_2
        have fc10_60_7 : gc10 60 7 = 1 := (congrFun (frc10.1 60 (by decide)) 7).trans fc4_60_7
        have hfc10 := cfr_tr hfc4 frc10
        have hAc10 := cn_L_fr hAc4 frc10 (by decide) (by decide)
        have hTc10 := tfd_tr hTc4 (tfd_c (a := ac4) frc10)
        refine he_s 1 (pc' := cond (fx_cb .ne 0 0) 136 135) (lc' := [(4, .int (nI c)), (3, .int 17), (0, .ref 13), (1, .ref 15), (2, .ref 60)]) (stk' := []) (mem' := cm gc10 lc10 ac4 b R) (by intro _ _ _; eq_refl) ?_
        rw [show (fx_cb .ne 0 0) = false from by decide]
        dsimp only [cond]
        refine he_ret ⟨_, _, _, hTc10, ?_, rfl⟩ (by rfl) (by rfl) (by rfl)
        rw [show tl_k T n A c d p 17 = (if 30 ≤ c then .inl (6, sp_s T n p) else if true = true ∧ 3 ≤ d then .inl (7, sp_s T n p) else tl_rest T n A 17 (sp_n T n p) (fun q => sp_sign T n 59 q (fun q2 => .inr (A, 4 * (c + 1) + (d + 1), q2)))) from rfl, if_neg (by omega), if_neg (fun z => by have := z.2; omega), show tl_rest T n A 17 (sp_n T n p) = tl_test T n A (sp_n T n p) from funext (fun _ => rfl), hqc4]
        exact hmc10
    · rw [show (fx_cb .lt (nI d) 3) = false from cb_ltF (a := d) (b := 3) (by omega) (by omega) (by omega)]
      dsimp only [cond]
      refine he_s 3 (pc' := 76) (lc' := [(4, .int (nI c)), (3, .int 17), (0, .ref 13), (1, .ref 15), (2, .ref 60)]) (stk' := [.int 7, .ref 9]) (mem' := cm g l a b R) (by intro _ _ _; eq_refl) ?_
      obtain ⟨gc11, hrc11, hmc11, frc11⟩ := ha_fail (a := a) (b := b) (R := R) (x := 7) h (by decide)
      refine he_ivV hrc11 (by omega) (by rfl) (by rfl) (by rfl) (by rfl) (by rfl) (by rfl) ?_
      have fc11_60_6 : gc11 60 6 = nI c := (congrFun (frc11.1 60 (by decide)) 6).trans h60
      have fc11_13_2 : gc11 13 2 = nI d := (congrFun (frc11.1 13 (by decide)) 2).trans h13
      have fc11_60_7 : gc11 60 7 = 1 := (congrFun (frc11.1 60 (by decide)) 7).trans h67
      have hfc11 := cfr_tr cfr_rf frc11
      have hAc11 := cn_L_fr hA frc11 (by decide) (by decide)
      have hTc11 := tfd_tr tfd_rf (tfd_c (a := a) frc11)
      refine he_s 3 (pc' := 86) (lc' := [(4, .int (nI c)), (3, .int 17), (0, .ref 13), (1, .ref 15), (2, .ref 60)]) (stk' := [.int (gc11 9 10)]) (mem' := cm gc11 l a b R) (by intro _ _ _; eq_refl) ?_
      try rw [hmc11.2.2.1]
      refine he_s 1 (pc' := cond (fx_cb .eq 7 0) 90 89) (lc' := [(4, .int (nI c)), (3, .int 17), (0, .ref 13), (1, .ref 15), (2, .ref 60)]) (stk' := []) (mem' := cm gc11 l a b R) (by intro _ _ _; eq_refl) ?_
      rw [show (fx_cb .eq 7 0) = false from cb_nz_eq hmc11.1]
      dsimp only [cond]
      refine he_ret ⟨_, _, _, hTc11, ?_, rfl⟩ (by rfl) (by rfl) (by rfl)
      rw [show tl_k T n A c d p 17 = (if 30 ≤ c then .inl (6, sp_s T n p) else if true = true ∧ 3 ≤ d then .inl (7, sp_s T n p) else tl_rest T n A 17 (sp_n T n p) (fun q => sp_sign T n 59 q (fun q2 => .inr (A, 4 * (c + 1) + (d + 1), q2)))) from rfl, if_neg (by omega), if_pos ⟨rfl, by omega⟩]
      exact hmc11
  · rw [show (fx_cb .lt (nI c) 30) = false from cb_ltF (a := c) (b := 30) (by omega) (by omega) (by omega)]
    dsimp only [cond]
    refine he_s 3 (pc' := 44) (lc' := [(4, .int (nI c)), (3, .int 17), (0, .ref 13), (1, .ref 15), (2, .ref 60)]) (stk' := [.int 6, .ref 9]) (mem' := cm g l a b R) (by intro _ _ _; eq_refl) ?_
    obtain ⟨gc12, hrc12, hmc12, frc12⟩ := ha_fail (a := a) (b := b) (R := R) (x := 6) h (by decide)
    refine he_ivV hrc12 (by omega) (by rfl) (by rfl) (by rfl) (by rfl) (by rfl) (by rfl) ?_
    have fc12_60_6 : gc12 60 6 = nI c := (congrFun (frc12.1 60 (by decide)) 6).trans h60
    have fc12_13_2 : gc12 13 2 = nI d := (congrFun (frc12.1 13 (by decide)) 2).trans h13
    have fc12_60_7 : gc12 60 7 = 1 := (congrFun (frc12.1 60 (by decide)) 7).trans h67
    have hfc12 := cfr_tr cfr_rf frc12
    have hAc12 := cn_L_fr hA frc12 (by decide) (by decide)
    have hTc12 := tfd_tr tfd_rf (tfd_c (a := a) frc12)
    refine he_s 4 (pc' := 86) (lc' := [(4, .int (nI c)), (3, .int 17), (0, .ref 13), (1, .ref 15), (2, .ref 60)]) (stk' := [.int (gc12 9 10)]) (mem' := cm gc12 l a b R) (by intro _ _ _; eq_refl) ?_
    try rw [hmc12.2.2.1]
    refine he_s 1 (pc' := cond (fx_cb .eq 6 0) 90 89) (lc' := [(4, .int (nI c)), (3, .int 17), (0, .ref 13), (1, .ref 15), (2, .ref 60)]) (stk' := []) (mem' := cm gc12 l a b R) (by intro _ _ _; eq_refl) ?_
    rw [show (fx_cb .eq 6 0) = false from cb_nz_eq hmc12.1]
    dsimp only [cond]
    refine he_ret ⟨_, _, _, hTc12, ?_, rfl⟩ (by rfl) (by rfl) (by rfl)
    rw [show tl_k T n A c d p 17 = (if 30 ≤ c then .inl (6, sp_s T n p) else if true = true ∧ 3 ≤ d then .inl (7, sp_s T n p) else tl_rest T n A 17 (sp_n T n p) (fun q => sp_sign T n 59 q (fun q2 => .inr (A, 4 * (c + 1) + (d + 1), q2)))) from rfl, if_pos (by omega)]
    exact hmc12
theorem ha_rs20 (hg : ctx a b T n) (hA : cn_L 15 A g b) (hO : opn a) (h : co g l T n p) (hc : c ≤ 30) (hd : d ≤ 3) (h60 : g 60 6 = nI c) (h13 : g 13 2 = nI d) (h67 : g 60 7 = 1) (hw : g 9 7 = 20) : ∃ (v : Option Value) (mem' : fx_M), (fun R1 => ∃ (g' : Nat → Nat → Int32) (l' : Nat → Nat → Int64) (a' : Nat → Nat → Int32), tfd g l a g' l' a' ∧ tRes g' l' a' T n A (tl_k T n A c d p 20) ∧ R1 = (none, cm g' l' a' b R)) (v, mem') ∧ hr_T 6 122 [.ref 13, .ref 15, .ref 60] (cm g l a b R) v mem' := by
  refine he_meth (F := fun R1 => ∃ (g' : Nat → Nat → Int32) (l' : Nat → Nat → Int64) (a' : Nat → Nat → Int32), tfd g l a g' l' a' ∧ tRes g' l' a' T n A (tl_k T n A c d p 20) ∧ R1 = (none, cm g' l' a' b R)) (M := gk_m122) (by rfl) (by rfl) ?_
  refine he_s 8 (pc' := 15) (lc' := [(4, .int (g 60 6)), (3, .int (g 9 7)), (0, .ref 13), (1, .ref 15), (2, .ref 60)]) (stk' := [.int (g 9 7)]) (mem' := cm g l a b R) (by intro _ _ _; eq_refl) ?_
  try rw [hw]
  try rw [h60]
  refine he_ivS (ha_isT20 (g := g) (l := l) (a := a) (b := b) (R := R)) (by omega) (by rfl) (by rfl) (by rfl) (by rfl) (by rfl) ?_
  refine he_s 1 (pc' := cond (fx_cb .ne 1 0) 31 21) (lc' := [(4, .int (nI c)), (3, .int 20), (0, .ref 13), (1, .ref 15), (2, .ref 60)]) (stk' := []) (mem' := cm g l a b R) (by intro _ _ _; eq_refl) ?_
  rw [show (fx_cb .ne 1 0) = true from by decide]
  dsimp only [cond]
  refine he_s 2 (pc' := 35) (lc' := [(4, .int (nI c)), (3, .int 20), (0, .ref 13), (1, .ref 15), (2, .ref 60)]) (stk' := [.int 30, .int (nI c)]) (mem' := cm g l a b R) (by intro _ _ _; eq_refl) ?_
  refine he_s 1 (pc' := cond (fx_cb .lt (nI c) 30) 50 38) (lc' := [(4, .int (nI c)), (3, .int 20), (0, .ref 13), (1, .ref 15), (2, .ref 60)]) (stk' := []) (mem' := cm g l a b R) (by intro _ _ _; eq_refl) ?_
  by_cases y1 : c < 30
  · rw [show (fx_cb .lt (nI c) 30) = true from cb_ltT (a := c) (b := 30) (by omega) (by omega) (by omega)]
    dsimp only [cond]
    refine he_s 2 (pc' := 53) (lc' := [(4, .int (nI c)), (3, .int 20), (0, .ref 13), (1, .ref 15), (2, .ref 60)]) (stk' := [.int 17, .int 20]) (mem' := cm g l a b R) (by intro _ _ _; eq_refl) ?_
    refine he_s 1 (pc' := cond (fx_cb .eq 20 17) 62 56) (lc' := [(4, .int (nI c)), (3, .int 20), (0, .ref 13), (1, .ref 15), (2, .ref 60)]) (stk' := []) (mem' := cm g l a b R) (by intro _ _ _; eq_refl) ?_
    rw [show (fx_cb .eq 20 17) = false from by decide]
    dsimp only [cond]
    refine he_s 2 (pc' := 59) (lc' := [(4, .int (nI c)), (3, .int 20), (0, .ref 13), (1, .ref 15), (2, .ref 60)]) (stk' := [.int 20, .int 20]) (mem' := cm g l a b R) (by intro _ _ _; eq_refl) ?_
    refine he_s 1 (pc' := cond (fx_cb .ne 20 20) 79 62) (lc' := [(4, .int (nI c)), (3, .int 20), (0, .ref 13), (1, .ref 15), (2, .ref 60)]) (stk' := []) (mem' := cm g l a b R) (by intro _ _ _; eq_refl) ?_
    rw [show (fx_cb .ne 20 20) = false from by decide]
    dsimp only [cond]
    refine he_s 3 (pc' := 67) (lc' := [(4, .int (nI c)), (3, .int 20), (0, .ref 13), (1, .ref 15), (2, .ref 60)]) (stk' := [.int 3, .int (g 13 2)]) (mem' := cm g l a b R) (by intro _ _ _; eq_refl) ?_
    try rw [h13]
    refine he_s 1 (pc' := cond (fx_cb .lt (nI d) 3) 79 70) (lc' := [(4, .int (nI c)), (3, .int 20), (0, .ref 13), (1, .ref 15), (2, .ref 60)]) (stk' := []) (mem' := cm g l a b R) (by intro _ _ _; eq_refl) ?_
    by_cases y2 : d < 3
    · rw [show (fx_cb .lt (nI d) 3) = true from cb_ltT (a := d) (b := 3) (by omega) (by omega) (by omega)]
      dsimp only [cond]
      refine he_s 3 (pc' := 86) (lc' := [(4, .int (nI c)), (3, .int 20), (0, .ref 13), (1, .ref 15), (2, .ref 60)]) (stk' := [.int (g 9 10)]) (mem' := cm g l a b R) (by intro _ _ _; eq_refl) ?_
      try rw [h.2.2.1]
      refine he_s 1 (pc' := cond (fx_cb .eq 0 0) 90 89) (lc' := [(4, .int (nI c)), (3, .int 20), (0, .ref 13), (1, .ref 15), (2, .ref 60)]) (stk' := []) (mem' := cm g l a b R) (by intro _ _ _; eq_refl) ?_
      rw [show (fx_cb .eq 0 0) = true from by decide]
      dsimp only [cond]
      refine he_s 2 (pc' := 94) (lc' := [(4, .int (nI c)), (3, .int 20), (0, .ref 13), (1, .ref 15), (2, .ref 60)]) (stk' := [.ref 9]) (mem' := cm g l a b R) (by intro _ _ _; eq_refl) ?_
      obtain ⟨gc3, lc3, hrc3, hmc3, frc3⟩ := ha_scano (R := R) hg h
      refine he_ivV hrc3 (by omega) (by rfl) (by rfl) (by rfl) (by rfl) (by rfl) (by rfl) ?_
      have fc3_60_6 : gc3 60 6 = nI c := (congrFun (frc3.1 60 (by decide)) 6).trans h60
      have fc3_13_2 : gc3 13 2 = nI d := (congrFun (frc3.1 13 (by decide)) 2).trans h13
      have fc3_60_7 : gc3 60 7 = 1 := (congrFun (frc3.1 60 (by decide)) 7).trans h67
      have hfc3 := cfr_tr cfr_rf frc3
      have hAc3 := cn_L_fr hA frc3 (by decide) (by decide)
      have hTc3 := tfd_tr tfd_rf (tfd_c (a := a) frc3)
      refine he_s 2 (pc' := 100) (lc' := [(4, .int (nI c)), (3, .int 20), (0, .ref 13), (1, .ref 15), (2, .ref 60)]) (stk' := [.int 17, .int 20]) (mem' := cm gc3 lc3 a b R) (by intro _ _ _; eq_refl) ?_
      refine he_s 1 (pc' := cond (fx_cb .ne 20 17) 114 103) (lc' := [(4, .int (nI c)), (3, .int 20), (0, .ref 13), (1, .ref 15), (2, .ref 60)]) (stk' := []) (mem' := cm gc3 lc3 a b R) (by intro _ _ _; eq_refl) ?_
      rw [show (fx_cb .ne 20 17) = true from by decide]
      dsimp only [cond]
      refine he_s 5 (pc' := 120) (lc' := [(4, .int (nI c)), (3, .int 20), (0, .ref 13), (1, .ref 15), (2, .ref 60)]) (stk' := [.int (nI c), .int 20, .ref 60, .ref 15, .ref 13]) (mem' := cm gc3 lc3 a b R) (by intro _ _ _; eq_refl) ?_
      obtain ⟨vc4, memc4, ⟨gc4, lc4, ac4, ⟨frc4, rac4⟩, hxc4, hRc4⟩, hrc4⟩ := ha_rr20 (R := R) (c := c) hg hAc3 hO hmc3 (by omega)
      cases hRc4
      refine he_ivV hrc4 (by omega) (by rfl) (by rfl) (by rfl) (by rfl) (by rfl) (by rfl) ?_
      have fc4_60_6 : gc4 60 6 = nI c := (congrFun (frc4.1 60 (by decide)) 6).trans fc3_60_6
      have fc4_13_2 : gc4 13 2 = nI d := (congrFun (frc4.1 13 (by decide)) 2).trans fc3_13_2
      have fc4_60_7 : gc4 60 7 = 1 := (congrFun (frc4.1 60 (by decide)) 7).trans fc3_60_7
      have hfc4 := cfr_tr hfc3 frc4
      have hAc4 := cn_L_fr hAc3 frc4 (by decide) (by decide)
      have hTc4 := tfd_tr (tfd_tr hTc3 (tfd_c (a := a) frc4)) (tfd_r rac4)
      have hgc4 := ctx_r hg rac4
      have hOc4 := opn_r hO rac4
      rcases hxc4 with ⟨qc4, hmc4, hqc4⟩ | ⟨zc4, hmc4, hqc4⟩
      · refine he_s 3 (pc' := 129) (lc' := [(4, .int (nI c)), (3, .int 20), (0, .ref 13), (1, .ref 15), (2, .ref 60)]) (stk' := [.int 59, .ref 9]) (mem' := cm gc4 lc4 ac4 b R) (by intro _ _ _; eq_refl) ?_
        obtain ⟨vc5, memc5, ⟨xc5, gc5, lc5, frc5, hxc5, hRc5⟩, hrc5⟩ := ha_ps0 (w := 59) (R := R) hgc4 (by decide) hmc4
        cases hRc5
        refine he_ivV hrc5 (by omega) (by rfl) (by rfl) (by rfl) (by rfl) (by rfl) (by rfl) ?_
        have fc5_60_6 : gc5 60 6 = nI c := (congrFun (frc5.1 60 (by decide)) 6).trans fc4_60_6
        have fc5_13_2 : gc5 13 2 = nI d := (congrFun (frc5.1 13 (by decide)) 2).trans fc4_13_2
        have fc5_60_7 : gc5 60 7 = 1 := (congrFun (frc5.1 60 (by decide)) 7).trans fc4_60_7
        have hfc5 := cfr_tr hfc4 frc5
        have hAc5 := cn_L_fr hAc4 frc5 (by decide) (by decide)
        have hTc5 := tfd_tr hTc4 (tfd_c (a := ac4) frc5)
        rcases hxc5 with ⟨hwc5, rfl, hmc5⟩ | ⟨hwc5, rfl, hmc5⟩
        · refine he_s 1 (pc' := cond (fx_cb .ne 1 0) 136 135) (lc' := [(4, .int (nI c)), (3, .int 20), (0, .ref 13), (1, .ref 15), (2, .ref 60)]) (stk' := []) (mem' := cm gc5 lc5 ac4 b R) (by intro _ _ _; eq_refl) ?_
          rw [show (fx_cb .ne 1 0) = true from by decide]
          dsimp only [cond]
          refine he_s 4 (pc' := 143) (lc' := [(4, .int (nI c)), (3, .int 20), (0, .ref 13), (1, .ref 15), (2, .ref 60)]) (stk' := [.int 20, .int (nI c), .ref 61]) (mem' := cm gc5 lc5 ac4 b R) (by intro _ _ _; eq_refl) ?_
          refine he_stI (mem' := cm gc5 lc5 (fm_u ac4 61 (nI c : Int32).toNatClampNeg 20) b R) (by rfl) (by rfl) (fx_inN (i := c) (by omega) (by omega)) cm_si61 ?_
          rw [show Int32.toNatClampNeg (nI c) = c from nI_clamp (by omega)]
          have hgs6 : ctx (fm_u ac4 61 c 20) b T n := ctx_t hgc4 (by decide)
          have hTs6 : tfd g l a gc5 lc5 (fm_u ac4 61 c 20) := tfd_tr hTc5 (tfd_a (by decide))
          have hOs6 : opn (fm_u ac4 61 c 20) := opn_n hOc4 (by decide)
          refine he_s 7 (pc' := 155) (lc' := [(4, .int (nI c)), (3, .int 20), (0, .ref 13), (1, .ref 15), (2, .ref 60)]) (stk' := [.int 17, .int 20]) (mem' := cm (fm_u gc5 60 6 ((nI c) + 1)) lc5 (fm_u ac4 61 c 20) b R) (by intro _ _ _; eq_refl) ?_
          rw [show ((nI c) + 1 : Int32) = nI (c + 1) from by simp only [show (1 : Int32) = nI 1 from rfl, nI_add, fm_mul]]
          have hmw7 : co (fm_u gc5 60 6 (nI (c + 1))) lc5 T n (sp_n T n qc4) := co_t hmc5 (by decide)
          have hAw7 : cn_L 15 A (fm_u gc5 60 6 (nI (c + 1))) b := cn_15u hAc5 (by decide) (by decide)
          have hTw7 : tfd g l a (fm_u gc5 60 6 (nI (c + 1))) lc5 (fm_u ac4 61 c 20) := tfd_tr hTs6 (tfd_g (by decide))
          have fw7_13_2 : (fm_u gc5 60 6 (nI (c + 1))) 13 2 = nI d := (congrFun (fm_un (by decide)) 2).trans fc5_13_2
          have fw7_60_7 : (fm_u gc5 60 6 (nI (c + 1))) 60 7 = 1 := (fm_uo (by decide)).trans fc5_60_7
          have fw7_60_6 : (fm_u gc5 60 6 (nI (c + 1))) 60 6 = nI (c + 1) := fm_ue
          refine he_s 1 (pc' := cond (fx_cb .eq 20 17) 164 158) (lc' := [(4, .int (nI c)), (3, .int 20), (0, .ref 13), (1, .ref 15), (2, .ref 60)]) (stk' := []) (mem' := cm (fm_u gc5 60 6 (nI (c + 1))) lc5 (fm_u ac4 61 c 20) b R) (by intro _ _ _; eq_refl) ?_
          rw [show (fx_cb .eq 20 17) = false from by decide]
          dsimp only [cond]
          refine he_s 2 (pc' := 161) (lc' := [(4, .int (nI c)), (3, .int 20), (0, .ref 13), (1, .ref 15), (2, .ref 60)]) (stk' := [.int 20, .int 20]) (mem' := cm (fm_u gc5 60 6 (nI (c + 1))) lc5 (fm_u ac4 61 c 20) b R) (by intro _ _ _; eq_refl) ?_
          refine he_s 1 (pc' := cond (fx_cb .ne 20 20) 185 164) (lc' := [(4, .int (nI c)), (3, .int 20), (0, .ref 13), (1, .ref 15), (2, .ref 60)]) (stk' := []) (mem' := cm (fm_u gc5 60 6 (nI (c + 1))) lc5 (fm_u ac4 61 c 20) b R) (by intro _ _ _; eq_refl) ?_
          rw [show (fx_cb .ne 20 20) = false from by decide]
          dsimp only [cond]
          refine he_s 5 (pc' := 174) (lc' := [(4, .int (nI c)), (3, .int 20), (0, .ref 13), (1, .ref 15), (2, .ref 60)]) (stk' := [.int (nI c), .int ((fm_u gc5 60 6 (nI (c + 1))) 13 2), .ref 14]) (mem' := cm (fm_u gc5 60 6 (nI (c + 1))) lc5 (fm_u ac4 61 c 20) b R) (by intro _ _ _; eq_refl) ?_
          try rw [fw7_13_2]
          refine he_stI (mem' := cm (fm_u gc5 60 6 (nI (c + 1))) lc5 (fm_u (fm_u ac4 61 c 20) 14 (nI d : Int32).toNatClampNeg (nI c)) b R) (by rfl) (by rfl) (fx_inN (i := d) (by omega) (by omega)) cm_si14 ?_
          rw [show Int32.toNatClampNeg (nI d) = d from nI_clamp (by omega)]
          have hgs8 : ctx (fm_u (fm_u ac4 61 c 20) 14 d (nI c)) b T n := ctx_t hgs6 (by decide)
          have hTs8 : tfd g l a (fm_u gc5 60 6 (nI (c + 1))) lc5 (fm_u (fm_u ac4 61 c 20) 14 d (nI c)) := tfd_tr hTw7 (tfd_a (by decide))
          have hOs8 : opn (fm_u (fm_u ac4 61 c 20) 14 d (nI c)) := opn_u hOs6 (by omega)
          refine he_s 6 (pc' := 185) (lc' := [(4, .int (nI c)), (3, .int 20), (0, .ref 13), (1, .ref 15), (2, .ref 60)]) (stk' := []) (mem' := cm (fm_u (fm_u gc5 60 6 (nI (c + 1))) 13 2 (((fm_u gc5 60 6 (nI (c + 1))) 13 2) + 1)) lc5 (fm_u (fm_u ac4 61 c 20) 14 d (nI c)) b R) (by intro _ _ _; eq_refl) ?_
          try rw [fw7_13_2]
          rw [show ((nI d) + 1 : Int32) = nI (d + 1) from by simp only [show (1 : Int32) = nI 1 from rfl, nI_add, fm_mul]]
          have hmw9 : co (fm_u (fm_u gc5 60 6 (nI (c + 1))) 13 2 (nI (d + 1))) lc5 T n (sp_n T n qc4) := co_t hmw7 (by decide)
          have hAw9 : cn_L 15 A (fm_u (fm_u gc5 60 6 (nI (c + 1))) 13 2 (nI (d + 1))) b := cn_15u hAw7 (by decide) (by decide)
          have hTw9 : tfd g l a (fm_u (fm_u gc5 60 6 (nI (c + 1))) 13 2 (nI (d + 1))) lc5 (fm_u (fm_u ac4 61 c 20) 14 d (nI c)) := tfd_tr hTs8 (tfd_g (by decide))
          have fw9_60_7 : (fm_u (fm_u gc5 60 6 (nI (c + 1))) 13 2 (nI (d + 1))) 60 7 = 1 := (congrFun (fm_un (by decide)) 7).trans fw7_60_7
          have fw9_60_6 : (fm_u (fm_u gc5 60 6 (nI (c + 1))) 13 2 (nI (d + 1))) 60 6 = nI (c + 1) := (congrFun (fm_un (by decide)) 6).trans fw7_60_6
          have fw9_13_2 : (fm_u (fm_u gc5 60 6 (nI (c + 1))) 13 2 (nI (d + 1))) 13 2 = nI (d + 1) := fm_ue
          refine he_ret ⟨_, _, _, hTw9, ?_, rfl⟩ (by rfl) (by rfl) (by rfl)
          rw [show tl_k T n A c d p 20 = (if 30 ≤ c then .inl (6, sp_s T n p) else if true = true ∧ 3 ≤ d then .inl (7, sp_s T n p) else tl_rest T n A 20 (sp_n T n p) (fun q => sp_sign T n 59 q (fun q2 => .inr (A, 4 * (c + 1) + (d + 1), q2)))) from rfl, if_neg (by omega), if_neg (fun z => by have := z.2; omega), hqc4, sp_sign_t hwc5]
          exact ⟨rfl, hmw9, (by dsimp only; omega), by rw [show (4 * (c + 1) + (d + 1)) / 4 = c + 1 by omega]; exact fw9_60_6, by rw [show (4 * (c + 1) + (d + 1)) % 4 = (d + 1) by omega]; exact fw9_13_2, hOs8, fw9_60_7⟩
        · refine he_s 1 (pc' := cond (fx_cb .ne 0 0) 136 135) (lc' := [(4, .int (nI c)), (3, .int 20), (0, .ref 13), (1, .ref 15), (2, .ref 60)]) (stk' := []) (mem' := cm gc5 lc5 ac4 b R) (by intro _ _ _; eq_refl) ?_
          rw [show (fx_cb .ne 0 0) = false from by decide]
          dsimp only [cond]
          refine he_ret ⟨_, _, _, hTc5, ?_, rfl⟩ (by rfl) (by rfl) (by rfl)
          rw [show tl_k T n A c d p 20 = (if 30 ≤ c then .inl (6, sp_s T n p) else if true = true ∧ 3 ≤ d then .inl (7, sp_s T n p) else tl_rest T n A 20 (sp_n T n p) (fun q => sp_sign T n 59 q (fun q2 => .inr (A, 4 * (c + 1) + (d + 1), q2)))) from rfl, if_neg (by omega), if_neg (fun z => by have := z.2; omega), hqc4, sp_sign_f hwc5]
          exact hmc5
      · refine he_s 3 (pc' := 129) (lc' := [(4, .int (nI c)), (3, .int 20), (0, .ref 13), (1, .ref 15), (2, .ref 60)]) (stk' := [.int 59, .ref 9]) (mem' := cm gc4 lc4 ac4 b R) (by intro _ _ _; eq_refl) ?_
        obtain ⟨vc10, memc10, ⟨gc10, lc10, frc10, hmc10, hRc10⟩, hrc10⟩ := ha_psq0 (x := 59) (R := R) hgc4 hmc4
        cases hRc10
        refine he_ivV hrc10 (by omega) (by rfl) (by rfl) (by rfl) (by rfl) (by rfl) (by rfl) ?_
        have fc10_60_6 : gc10 60 6 = nI c := (congrFun (frc10.1 60 (by decide)) 6).trans fc4_60_6
        have fc10_13_2 : gc10 13 2 = nI d := (congrFun (frc10.1 13 (by decide)) 2).trans fc4_13_2
        have fc10_60_7 : gc10 60 7 = 1 := (congrFun (frc10.1 60 (by decide)) 7).trans fc4_60_7
        have hfc10 := cfr_tr hfc4 frc10
        have hAc10 := cn_L_fr hAc4 frc10 (by decide) (by decide)
        have hTc10 := tfd_tr hTc4 (tfd_c (a := ac4) frc10)
        refine he_s 1 (pc' := cond (fx_cb .ne 0 0) 136 135) (lc' := [(4, .int (nI c)), (3, .int 20), (0, .ref 13), (1, .ref 15), (2, .ref 60)]) (stk' := []) (mem' := cm gc10 lc10 ac4 b R) (by intro _ _ _; eq_refl) ?_
        rw [show (fx_cb .ne 0 0) = false from by decide]
        dsimp only [cond]
        refine he_ret ⟨_, _, _, hTc10, ?_, rfl⟩ (by rfl) (by rfl) (by rfl)
        rw [show tl_k T n A c d p 20 = (if 30 ≤ c then .inl (6, sp_s T n p) else if true = true ∧ 3 ≤ d then .inl (7, sp_s T n p) else tl_rest T n A 20 (sp_n T n p) (fun q => sp_sign T n 59 q (fun q2 => .inr (A, 4 * (c + 1) + (d + 1), q2)))) from rfl, if_neg (by omega), if_neg (fun z => by have := z.2; omega), hqc4]
        exact hmc10
    · rw [show (fx_cb .lt (nI d) 3) = false from cb_ltF (a := d) (b := 3) (by omega) (by omega) (by omega)]
      dsimp only [cond]
      refine he_s 3 (pc' := 76) (lc' := [(4, .int (nI c)), (3, .int 20), (0, .ref 13), (1, .ref 15), (2, .ref 60)]) (stk' := [.int 7, .ref 9]) (mem' := cm g l a b R) (by intro _ _ _; eq_refl) ?_
      obtain ⟨gc11, hrc11, hmc11, frc11⟩ := ha_fail (a := a) (b := b) (R := R) (x := 7) h (by decide)
      refine he_ivV hrc11 (by omega) (by rfl) (by rfl) (by rfl) (by rfl) (by rfl) (by rfl) ?_
      have fc11_60_6 : gc11 60 6 = nI c := (congrFun (frc11.1 60 (by decide)) 6).trans h60
      have fc11_13_2 : gc11 13 2 = nI d := (congrFun (frc11.1 13 (by decide)) 2).trans h13
      have fc11_60_7 : gc11 60 7 = 1 := (congrFun (frc11.1 60 (by decide)) 7).trans h67
      have hfc11 := cfr_tr cfr_rf frc11
      have hAc11 := cn_L_fr hA frc11 (by decide) (by decide)
      have hTc11 := tfd_tr tfd_rf (tfd_c (a := a) frc11)
      refine he_s 3 (pc' := 86) (lc' := [(4, .int (nI c)), (3, .int 20), (0, .ref 13), (1, .ref 15), (2, .ref 60)]) (stk' := [.int (gc11 9 10)]) (mem' := cm gc11 l a b R) (by intro _ _ _; eq_refl) ?_
      try rw [hmc11.2.2.1]
      refine he_s 1 (pc' := cond (fx_cb .eq 7 0) 90 89) (lc' := [(4, .int (nI c)), (3, .int 20), (0, .ref 13), (1, .ref 15), (2, .ref 60)]) (stk' := []) (mem' := cm gc11 l a b R) (by intro _ _ _; eq_refl) ?_
      rw [show (fx_cb .eq 7 0) = false from cb_nz_eq hmc11.1]
      dsimp only [cond]
      refine he_ret ⟨_, _, _, hTc11, ?_, rfl⟩ (by rfl) (by rfl) (by rfl)
      rw [show tl_k T n A c d p 20 = (if 30 ≤ c then .inl (6, sp_s T n p) else if true = true ∧ 3 ≤ d then .inl (7, sp_s T n p) else tl_rest T n A 20 (sp_n T n p) (fun q => sp_sign T n 59 q (fun q2 => .inr (A, 4 * (c + 1) + (d + 1), q2)))) from rfl, if_neg (by omega), if_pos ⟨rfl, by omega⟩]
      exact hmc11
  · rw [show (fx_cb .lt (nI c) 30) = false from cb_ltF (a := c) (b := 30) (by omega) (by omega) (by omega)]
    dsimp only [cond]
    refine he_s 3 (pc' := 44) (lc' := [(4, .int (nI c)), (3, .int 20), (0, .ref 13), (1, .ref 15), (2, .ref 60)]) (stk' := [.int 6, .ref 9]) (mem' := cm g l a b R) (by intro _ _ _; eq_refl) ?_
    obtain ⟨gc12, hrc12, hmc12, frc12⟩ := ha_fail (a := a) (b := b) (R := R) (x := 6) h (by decide)
    refine he_ivV hrc12 (by omega) (by rfl) (by rfl) (by rfl) (by rfl) (by rfl) (by rfl) ?_
    have fc12_60_6 : gc12 60 6 = nI c := (congrFun (frc12.1 60 (by decide)) 6).trans h60
    have fc12_13_2 : gc12 13 2 = nI d := (congrFun (frc12.1 13 (by decide)) 2).trans h13
    have fc12_60_7 : gc12 60 7 = 1 := (congrFun (frc12.1 60 (by decide)) 7).trans h67
    have hfc12 := cfr_tr cfr_rf frc12
    have hAc12 := cn_L_fr hA frc12 (by decide) (by decide)
    have hTc12 := tfd_tr tfd_rf (tfd_c (a := a) frc12)
    refine he_s 4 (pc' := 86) (lc' := [(4, .int (nI c)), (3, .int 20), (0, .ref 13), (1, .ref 15), (2, .ref 60)]) (stk' := [.int (gc12 9 10)]) (mem' := cm gc12 l a b R) (by intro _ _ _; eq_refl) ?_
    try rw [hmc12.2.2.1]
    refine he_s 1 (pc' := cond (fx_cb .eq 6 0) 90 89) (lc' := [(4, .int (nI c)), (3, .int 20), (0, .ref 13), (1, .ref 15), (2, .ref 60)]) (stk' := []) (mem' := cm gc12 l a b R) (by intro _ _ _; eq_refl) ?_
    rw [show (fx_cb .eq 6 0) = false from cb_nz_eq hmc12.1]
    dsimp only [cond]
    refine he_ret ⟨_, _, _, hTc12, ?_, rfl⟩ (by rfl) (by rfl) (by rfl)
    rw [show tl_k T n A c d p 20 = (if 30 ≤ c then .inl (6, sp_s T n p) else if true = true ∧ 3 ≤ d then .inl (7, sp_s T n p) else tl_rest T n A 20 (sp_n T n p) (fun q => sp_sign T n 59 q (fun q2 => .inr (A, 4 * (c + 1) + (d + 1), q2)))) from rfl, if_pos (by omega)]
    exact hmc12
theorem ha_rs22 (hg : ctx a b T n) (hA : cn_L 15 A g b) (hO : opn a) (h : co g l T n p) (hc : c ≤ 30) (hd : d ≤ 3) (h60 : g 60 6 = nI c) (h13 : g 13 2 = nI d) (h67 : g 60 7 = 1) (hw : g 9 7 = 22) : ∃ (v : Option Value) (mem' : fx_M), (fun R1 => ∃ (g' : Nat → Nat → Int32) (l' : Nat → Nat → Int64) (a' : Nat → Nat → Int32), tfd g l a g' l' a' ∧ tRes g' l' a' T n A (tl_k T n A c d p 22) ∧ R1 = (none, cm g' l' a' b R)) (v, mem') ∧ hr_T 6 122 [.ref 13, .ref 15, .ref 60] (cm g l a b R) v mem' := by
  refine he_meth (F := fun R1 => ∃ (g' : Nat → Nat → Int32) (l' : Nat → Nat → Int64) (a' : Nat → Nat → Int32), tfd g l a g' l' a' ∧ tRes g' l' a' T n A (tl_k T n A c d p 22) ∧ R1 = (none, cm g' l' a' b R)) (M := gk_m122) (by rfl) (by rfl) ?_
  refine he_s 8 (pc' := 15) (lc' := [(4, .int (g 60 6)), (3, .int (g 9 7)), (0, .ref 13), (1, .ref 15), (2, .ref 60)]) (stk' := [.int (g 9 7)]) (mem' := cm g l a b R) (by intro _ _ _; eq_refl) ?_
  try rw [hw]
  try rw [h60]
  refine he_ivS (ha_isT22 (g := g) (l := l) (a := a) (b := b) (R := R)) (by omega) (by rfl) (by rfl) (by rfl) (by rfl) (by rfl) ?_
  refine he_s 1 (pc' := cond (fx_cb .ne 1 0) 31 21) (lc' := [(4, .int (nI c)), (3, .int 22), (0, .ref 13), (1, .ref 15), (2, .ref 60)]) (stk' := []) (mem' := cm g l a b R) (by intro _ _ _; eq_refl) ?_
  rw [show (fx_cb .ne 1 0) = true from by decide]
  dsimp only [cond]
  refine he_s 2 (pc' := 35) (lc' := [(4, .int (nI c)), (3, .int 22), (0, .ref 13), (1, .ref 15), (2, .ref 60)]) (stk' := [.int 30, .int (nI c)]) (mem' := cm g l a b R) (by intro _ _ _; eq_refl) ?_
  refine he_s 1 (pc' := cond (fx_cb .lt (nI c) 30) 50 38) (lc' := [(4, .int (nI c)), (3, .int 22), (0, .ref 13), (1, .ref 15), (2, .ref 60)]) (stk' := []) (mem' := cm g l a b R) (by intro _ _ _; eq_refl) ?_
  by_cases y1 : c < 30
  · rw [show (fx_cb .lt (nI c) 30) = true from cb_ltT (a := c) (b := 30) (by omega) (by omega) (by omega)]
    dsimp only [cond]
    refine he_s 2 (pc' := 53) (lc' := [(4, .int (nI c)), (3, .int 22), (0, .ref 13), (1, .ref 15), (2, .ref 60)]) (stk' := [.int 17, .int 22]) (mem' := cm g l a b R) (by intro _ _ _; eq_refl) ?_
    refine he_s 1 (pc' := cond (fx_cb .eq 22 17) 62 56) (lc' := [(4, .int (nI c)), (3, .int 22), (0, .ref 13), (1, .ref 15), (2, .ref 60)]) (stk' := []) (mem' := cm g l a b R) (by intro _ _ _; eq_refl) ?_
    rw [show (fx_cb .eq 22 17) = false from by decide]
    dsimp only [cond]
    refine he_s 2 (pc' := 59) (lc' := [(4, .int (nI c)), (3, .int 22), (0, .ref 13), (1, .ref 15), (2, .ref 60)]) (stk' := [.int 20, .int 22]) (mem' := cm g l a b R) (by intro _ _ _; eq_refl) ?_
    refine he_s 1 (pc' := cond (fx_cb .ne 22 20) 79 62) (lc' := [(4, .int (nI c)), (3, .int 22), (0, .ref 13), (1, .ref 15), (2, .ref 60)]) (stk' := []) (mem' := cm g l a b R) (by intro _ _ _; eq_refl) ?_
    rw [show (fx_cb .ne 22 20) = true from by decide]
    dsimp only [cond]
    refine he_s 3 (pc' := 86) (lc' := [(4, .int (nI c)), (3, .int 22), (0, .ref 13), (1, .ref 15), (2, .ref 60)]) (stk' := [.int (g 9 10)]) (mem' := cm g l a b R) (by intro _ _ _; eq_refl) ?_
    try rw [h.2.2.1]
    refine he_s 1 (pc' := cond (fx_cb .eq 0 0) 90 89) (lc' := [(4, .int (nI c)), (3, .int 22), (0, .ref 13), (1, .ref 15), (2, .ref 60)]) (stk' := []) (mem' := cm g l a b R) (by intro _ _ _; eq_refl) ?_
    rw [show (fx_cb .eq 0 0) = true from by decide]
    dsimp only [cond]
    refine he_s 2 (pc' := 94) (lc' := [(4, .int (nI c)), (3, .int 22), (0, .ref 13), (1, .ref 15), (2, .ref 60)]) (stk' := [.ref 9]) (mem' := cm g l a b R) (by intro _ _ _; eq_refl) ?_
    obtain ⟨gc2, lc2, hrc2, hmc2, frc2⟩ := ha_scano (R := R) hg h
    refine he_ivV hrc2 (by omega) (by rfl) (by rfl) (by rfl) (by rfl) (by rfl) (by rfl) ?_
    have fc2_60_6 : gc2 60 6 = nI c := (congrFun (frc2.1 60 (by decide)) 6).trans h60
    have fc2_13_2 : gc2 13 2 = nI d := (congrFun (frc2.1 13 (by decide)) 2).trans h13
    have fc2_60_7 : gc2 60 7 = 1 := (congrFun (frc2.1 60 (by decide)) 7).trans h67
    have hfc2 := cfr_tr cfr_rf frc2
    have hAc2 := cn_L_fr hA frc2 (by decide) (by decide)
    have hTc2 := tfd_tr tfd_rf (tfd_c (a := a) frc2)
    refine he_s 2 (pc' := 100) (lc' := [(4, .int (nI c)), (3, .int 22), (0, .ref 13), (1, .ref 15), (2, .ref 60)]) (stk' := [.int 17, .int 22]) (mem' := cm gc2 lc2 a b R) (by intro _ _ _; eq_refl) ?_
    refine he_s 1 (pc' := cond (fx_cb .ne 22 17) 114 103) (lc' := [(4, .int (nI c)), (3, .int 22), (0, .ref 13), (1, .ref 15), (2, .ref 60)]) (stk' := []) (mem' := cm gc2 lc2 a b R) (by intro _ _ _; eq_refl) ?_
    rw [show (fx_cb .ne 22 17) = true from by decide]
    dsimp only [cond]
    refine he_s 5 (pc' := 120) (lc' := [(4, .int (nI c)), (3, .int 22), (0, .ref 13), (1, .ref 15), (2, .ref 60)]) (stk' := [.int (nI c), .int 22, .ref 60, .ref 15, .ref 13]) (mem' := cm gc2 lc2 a b R) (by intro _ _ _; eq_refl) ?_
    obtain ⟨vc3, memc3, ⟨gc3, lc3, ac3, ⟨frc3, rac3⟩, hxc3, hRc3⟩, hrc3⟩ := ha_rr22 (R := R) (c := c) hg hAc2 hO hmc2 (by omega)
    cases hRc3
    refine he_ivV hrc3 (by omega) (by rfl) (by rfl) (by rfl) (by rfl) (by rfl) (by rfl) ?_
    have fc3_60_6 : gc3 60 6 = nI c := (congrFun (frc3.1 60 (by decide)) 6).trans fc2_60_6
    have fc3_13_2 : gc3 13 2 = nI d := (congrFun (frc3.1 13 (by decide)) 2).trans fc2_13_2
    have fc3_60_7 : gc3 60 7 = 1 := (congrFun (frc3.1 60 (by decide)) 7).trans fc2_60_7
    have hfc3 := cfr_tr hfc2 frc3
    have hAc3 := cn_L_fr hAc2 frc3 (by decide) (by decide)
    have hTc3 := tfd_tr (tfd_tr hTc2 (tfd_c (a := a) frc3)) (tfd_r rac3)
    have hgc3 := ctx_r hg rac3
    have hOc3 := opn_r hO rac3
    rcases hxc3 with ⟨qc3, hmc3, hqc3⟩ | ⟨zc3, hmc3, hqc3⟩
    · refine he_s 3 (pc' := 129) (lc' := [(4, .int (nI c)), (3, .int 22), (0, .ref 13), (1, .ref 15), (2, .ref 60)]) (stk' := [.int 59, .ref 9]) (mem' := cm gc3 lc3 ac3 b R) (by intro _ _ _; eq_refl) ?_
      obtain ⟨vc4, memc4, ⟨xc4, gc4, lc4, frc4, hxc4, hRc4⟩, hrc4⟩ := ha_ps0 (w := 59) (R := R) hgc3 (by decide) hmc3
      cases hRc4
      refine he_ivV hrc4 (by omega) (by rfl) (by rfl) (by rfl) (by rfl) (by rfl) (by rfl) ?_
      have fc4_60_6 : gc4 60 6 = nI c := (congrFun (frc4.1 60 (by decide)) 6).trans fc3_60_6
      have fc4_13_2 : gc4 13 2 = nI d := (congrFun (frc4.1 13 (by decide)) 2).trans fc3_13_2
      have fc4_60_7 : gc4 60 7 = 1 := (congrFun (frc4.1 60 (by decide)) 7).trans fc3_60_7
      have hfc4 := cfr_tr hfc3 frc4
      have hAc4 := cn_L_fr hAc3 frc4 (by decide) (by decide)
      have hTc4 := tfd_tr hTc3 (tfd_c (a := ac3) frc4)
      rcases hxc4 with ⟨hwc4, rfl, hmc4⟩ | ⟨hwc4, rfl, hmc4⟩
      · refine he_s 1 (pc' := cond (fx_cb .ne 1 0) 136 135) (lc' := [(4, .int (nI c)), (3, .int 22), (0, .ref 13), (1, .ref 15), (2, .ref 60)]) (stk' := []) (mem' := cm gc4 lc4 ac3 b R) (by intro _ _ _; eq_refl) ?_
        rw [show (fx_cb .ne 1 0) = true from by decide]
        dsimp only [cond]
        refine he_s 4 (pc' := 143) (lc' := [(4, .int (nI c)), (3, .int 22), (0, .ref 13), (1, .ref 15), (2, .ref 60)]) (stk' := [.int 22, .int (nI c), .ref 61]) (mem' := cm gc4 lc4 ac3 b R) (by intro _ _ _; eq_refl) ?_
        refine he_stI (mem' := cm gc4 lc4 (fm_u ac3 61 (nI c : Int32).toNatClampNeg 22) b R) (by rfl) (by rfl) (fx_inN (i := c) (by omega) (by omega)) cm_si61 ?_
        rw [show Int32.toNatClampNeg (nI c) = c from nI_clamp (by omega)]
        have hgs5 : ctx (fm_u ac3 61 c 22) b T n := ctx_t hgc3 (by decide)
        have hTs5 : tfd g l a gc4 lc4 (fm_u ac3 61 c 22) := tfd_tr hTc4 (tfd_a (by decide))
        have hOs5 : opn (fm_u ac3 61 c 22) := opn_n hOc3 (by decide)
        refine he_s 7 (pc' := 155) (lc' := [(4, .int (nI c)), (3, .int 22), (0, .ref 13), (1, .ref 15), (2, .ref 60)]) (stk' := [.int 17, .int 22]) (mem' := cm (fm_u gc4 60 6 ((nI c) + 1)) lc4 (fm_u ac3 61 c 22) b R) (by intro _ _ _; eq_refl) ?_
        rw [show ((nI c) + 1 : Int32) = nI (c + 1) from by simp only [show (1 : Int32) = nI 1 from rfl, nI_add, fm_mul]]
        have hmw6 : co (fm_u gc4 60 6 (nI (c + 1))) lc4 T n (sp_n T n qc3) := co_t hmc4 (by decide)
        have hAw6 : cn_L 15 A (fm_u gc4 60 6 (nI (c + 1))) b := cn_15u hAc4 (by decide) (by decide)
        have hTw6 : tfd g l a (fm_u gc4 60 6 (nI (c + 1))) lc4 (fm_u ac3 61 c 22) := tfd_tr hTs5 (tfd_g (by decide))
        have fw6_13_2 : (fm_u gc4 60 6 (nI (c + 1))) 13 2 = nI d := (congrFun (fm_un (by decide)) 2).trans fc4_13_2
        have fw6_60_7 : (fm_u gc4 60 6 (nI (c + 1))) 60 7 = 1 := (fm_uo (by decide)).trans fc4_60_7
        have fw6_60_6 : (fm_u gc4 60 6 (nI (c + 1))) 60 6 = nI (c + 1) := fm_ue
        refine he_s 1 (pc' := cond (fx_cb .eq 22 17) 164 158) (lc' := [(4, .int (nI c)), (3, .int 22), (0, .ref 13), (1, .ref 15), (2, .ref 60)]) (stk' := []) (mem' := cm (fm_u gc4 60 6 (nI (c + 1))) lc4 (fm_u ac3 61 c 22) b R) (by intro _ _ _; eq_refl) ?_
        rw [show (fx_cb .eq 22 17) = false from by decide]
        dsimp only [cond]
        refine he_s 2 (pc' := 161) (lc' := [(4, .int (nI c)), (3, .int 22), (0, .ref 13), (1, .ref 15), (2, .ref 60)]) (stk' := [.int 20, .int 22]) (mem' := cm (fm_u gc4 60 6 (nI (c + 1))) lc4 (fm_u ac3 61 c 22) b R) (by intro _ _ _; eq_refl) ?_
        refine he_s 1 (pc' := cond (fx_cb .ne 22 20) 185 164) (lc' := [(4, .int (nI c)), (3, .int 22), (0, .ref 13), (1, .ref 15), (2, .ref 60)]) (stk' := []) (mem' := cm (fm_u gc4 60 6 (nI (c + 1))) lc4 (fm_u ac3 61 c 22) b R) (by intro _ _ _; eq_refl) ?_
        rw [show (fx_cb .ne 22 20) = true from by decide]
        dsimp only [cond]
        refine he_ret ⟨_, _, _, hTw6, ?_, rfl⟩ (by rfl) (by rfl) (by rfl)
        rw [show tl_k T n A c d p 22 = (if 30 ≤ c then .inl (6, sp_s T n p) else if false = true ∧ 3 ≤ d then .inl (7, sp_s T n p) else tl_rest T n A 22 (sp_n T n p) (fun q => sp_sign T n 59 q (fun q2 => .inr (A, 4 * (c + 1) + d, q2)))) from rfl, if_neg (by omega), if_neg (fun z => by cases z.1), hqc3, sp_sign_t hwc4]
        exact ⟨rfl, hmw6, (by dsimp only; omega), by rw [show (4 * (c + 1) + d) / 4 = c + 1 by omega]; exact fw6_60_6, by rw [show (4 * (c + 1) + d) % 4 = d by omega]; exact fw6_13_2, hOs5, fw6_60_7⟩
      · refine he_s 1 (pc' := cond (fx_cb .ne 0 0) 136 135) (lc' := [(4, .int (nI c)), (3, .int 22), (0, .ref 13), (1, .ref 15), (2, .ref 60)]) (stk' := []) (mem' := cm gc4 lc4 ac3 b R) (by intro _ _ _; eq_refl) ?_
        rw [show (fx_cb .ne 0 0) = false from by decide]
        dsimp only [cond]
        refine he_ret ⟨_, _, _, hTc4, ?_, rfl⟩ (by rfl) (by rfl) (by rfl)
        rw [show tl_k T n A c d p 22 = (if 30 ≤ c then .inl (6, sp_s T n p) else if false = true ∧ 3 ≤ d then .inl (7, sp_s T n p) else tl_rest T n A 22 (sp_n T n p) (fun q => sp_sign T n 59 q (fun q2 => .inr (A, 4 * (c + 1) + d, q2)))) from rfl, if_neg (by omega), if_neg (fun z => by cases z.1), hqc3, sp_sign_f hwc4]
        exact hmc4
    · refine he_s 3 (pc' := 129) (lc' := [(4, .int (nI c)), (3, .int 22), (0, .ref 13), (1, .ref 15), (2, .ref 60)]) (stk' := [.int 59, .ref 9]) (mem' := cm gc3 lc3 ac3 b R) (by intro _ _ _; eq_refl) ?_
      obtain ⟨vc7, memc7, ⟨gc7, lc7, frc7, hmc7, hRc7⟩, hrc7⟩ := ha_psq0 (x := 59) (R := R) hgc3 hmc3
      cases hRc7
      refine he_ivV hrc7 (by omega) (by rfl) (by rfl) (by rfl) (by rfl) (by rfl) (by rfl) ?_
      have fc7_60_6 : gc7 60 6 = nI c := (congrFun (frc7.1 60 (by decide)) 6).trans fc3_60_6
      have fc7_13_2 : gc7 13 2 = nI d := (congrFun (frc7.1 13 (by decide)) 2).trans fc3_13_2
      have fc7_60_7 : gc7 60 7 = 1 := (congrFun (frc7.1 60 (by decide)) 7).trans fc3_60_7
      have hfc7 := cfr_tr hfc3 frc7
      have hAc7 := cn_L_fr hAc3 frc7 (by decide) (by decide)
      have hTc7 := tfd_tr hTc3 (tfd_c (a := ac3) frc7)
      refine he_s 1 (pc' := cond (fx_cb .ne 0 0) 136 135) (lc' := [(4, .int (nI c)), (3, .int 22), (0, .ref 13), (1, .ref 15), (2, .ref 60)]) (stk' := []) (mem' := cm gc7 lc7 ac3 b R) (by intro _ _ _; eq_refl) ?_
      rw [show (fx_cb .ne 0 0) = false from by decide]
      dsimp only [cond]
      refine he_ret ⟨_, _, _, hTc7, ?_, rfl⟩ (by rfl) (by rfl) (by rfl)
      rw [show tl_k T n A c d p 22 = (if 30 ≤ c then .inl (6, sp_s T n p) else if false = true ∧ 3 ≤ d then .inl (7, sp_s T n p) else tl_rest T n A 22 (sp_n T n p) (fun q => sp_sign T n 59 q (fun q2 => .inr (A, 4 * (c + 1) + d, q2)))) from rfl, if_neg (by omega), if_neg (fun z => by cases z.1), hqc3]
      exact hmc7
  · rw [show (fx_cb .lt (nI c) 30) = false from cb_ltF (a := c) (b := 30) (by omega) (by omega) (by omega)]
    dsimp only [cond]
    refine he_s 3 (pc' := 44) (lc' := [(4, .int (nI c)), (3, .int 22), (0, .ref 13), (1, .ref 15), (2, .ref 60)]) (stk' := [.int 6, .ref 9]) (mem' := cm g l a b R) (by intro _ _ _; eq_refl) ?_
    obtain ⟨gc8, hrc8, hmc8, frc8⟩ := ha_fail (a := a) (b := b) (R := R) (x := 6) h (by decide)
    refine he_ivV hrc8 (by omega) (by rfl) (by rfl) (by rfl) (by rfl) (by rfl) (by rfl) ?_
    have fc8_60_6 : gc8 60 6 = nI c := (congrFun (frc8.1 60 (by decide)) 6).trans h60
    have fc8_13_2 : gc8 13 2 = nI d := (congrFun (frc8.1 13 (by decide)) 2).trans h13
    have fc8_60_7 : gc8 60 7 = 1 := (congrFun (frc8.1 60 (by decide)) 7).trans h67
    have hfc8 := cfr_tr cfr_rf frc8
    have hAc8 := cn_L_fr hA frc8 (by decide) (by decide)
    have hTc8 := tfd_tr tfd_rf (tfd_c (a := a) frc8)
    refine he_s 4 (pc' := 86) (lc' := [(4, .int (nI c)), (3, .int 22), (0, .ref 13), (1, .ref 15), (2, .ref 60)]) (stk' := [.int (gc8 9 10)]) (mem' := cm gc8 l a b R) (by intro _ _ _; eq_refl) ?_
    try rw [hmc8.2.2.1]
    refine he_s 1 (pc' := cond (fx_cb .eq 6 0) 90 89) (lc' := [(4, .int (nI c)), (3, .int 22), (0, .ref 13), (1, .ref 15), (2, .ref 60)]) (stk' := []) (mem' := cm gc8 l a b R) (by intro _ _ _; eq_refl) ?_
    rw [show (fx_cb .eq 6 0) = false from cb_nz_eq hmc8.1]
    dsimp only [cond]
    refine he_ret ⟨_, _, _, hTc8, ?_, rfl⟩ (by rfl) (by rfl) (by rfl)
    rw [show tl_k T n A c d p 22 = (if 30 ≤ c then .inl (6, sp_s T n p) else if false = true ∧ 3 ≤ d then .inl (7, sp_s T n p) else tl_rest T n A 22 (sp_n T n p) (fun q => sp_sign T n 59 q (fun q2 => .inr (A, 4 * (c + 1) + d, q2)))) from rfl, if_pos (by omega)]
    exact hmc8
theorem ha_rsN {y : Int32} (hg : ctx a b T n) (hA : cn_L 15 A g b) (hO : opn a) (h : co g l T n p) (hw : g 9 7 = y) (y11 : ¬ y = 11) (y13 : ¬ y = 13) (y14 : ¬ y = 14) (y15 : ¬ y = 15) (y16 : ¬ y = 16) (y17 : ¬ y = 17) (y20 : ¬ y = 20) (y22 : ¬ y = 22) : ∃ (v : Option Value) (mem' : fx_M), (fun R1 => ∃ (g' : Nat → Nat → Int32), tfd g l a g' l a ∧ cq g' l T n (sp_m T n p) (sp_s T n p) ∧ R1 = (none, cm g' l a b R)) (v, mem') ∧ hr_T 6 122 [.ref 13, .ref 15, .ref 60] (cm g l a b R) v mem' := by
  refine he_meth (F := fun R1 => ∃ (g' : Nat → Nat → Int32), tfd g l a g' l a ∧ cq g' l T n (sp_m T n p) (sp_s T n p) ∧ R1 = (none, cm g' l a b R)) (M := gk_m122) (by rfl) (by rfl) ?_
  refine he_s 8 (pc' := 15) (lc' := [(4, .int (g 60 6)), (3, .int (g 9 7)), (0, .ref 13), (1, .ref 15), (2, .ref 60)]) (stk' := [.int (g 9 7)]) (mem' := cm g l a b R) (by intro _ _ _; eq_refl) ?_
  try rw [hw]
  refine he_ivS (ha_isN (g := g) (l := l) (a := a) (b := b) (R := R) y11 y13 y14 y15 y16 y17 y20 y22) (by omega) (by rfl) (by rfl) (by rfl) (by rfl) (by rfl) ?_
  refine he_s 1 (pc' := cond (fx_cb .ne 0 0) 31 21) (lc' := [(4, .int (g 60 6)), (3, .int y), (0, .ref 13), (1, .ref 15), (2, .ref 60)]) (stk' := []) (mem' := cm g l a b R) (by intro _ _ _; eq_refl) ?_
  rw [show (fx_cb .ne 0 0) = false from by decide]
  dsimp only [cond]
  refine he_s 2 (pc' := 25) (lc' := [(4, .int (g 60 6)), (3, .int y), (0, .ref 13), (1, .ref 15), (2, .ref 60)]) (stk' := [.ref 9]) (mem' := cm g l a b R) (by intro _ _ _; eq_refl) ?_
  obtain ⟨gc1, hrc1, hmc1, frc1⟩ := ha_misfit (a := a) (b := b) (R := R) h
  refine he_ivV hrc1 (by omega) (by rfl) (by rfl) (by rfl) (by rfl) (by rfl) (by rfl) ?_
  have hfc1 := cfr_tr cfr_rf frc1
  have hAc1 := cn_L_fr hA frc1 (by decide) (by decide)
  have hTc1 := tfd_tr tfd_rf (tfd_c (a := a) frc1)
  refine he_s 4 (pc' := 86) (lc' := [(4, .int (g 60 6)), (3, .int y), (0, .ref 13), (1, .ref 15), (2, .ref 60)]) (stk' := [.int (gc1 9 10)]) (mem' := cm gc1 l a b R) (by intro _ _ _; eq_refl) ?_
  try rw [hmc1.2.2.1]
  refine he_s 1 (pc' := cond (fx_cb .eq (sp_m T n p) 0) 90 89) (lc' := [(4, .int (g 60 6)), (3, .int y), (0, .ref 13), (1, .ref 15), (2, .ref 60)]) (stk' := []) (mem' := cm gc1 l a b R) (by intro _ _ _; eq_refl) ?_
  rw [show (fx_cb .eq (sp_m T n p) 0) = false from cb_nz_eq hmc1.1]
  dsimp only [cond]
  exact he_ret ⟨_, hTc1, hmc1, rfl⟩ (by rfl) (by rfl) (by rfl)
theorem ha_rs21 (hg : ctx a b T n) (hA : cn_L 15 A g b) (hO : opn a) (h : co g l T n p) (hc : c ≤ 30) (h60 : g 60 6 = nI c) (h67 : g 60 7 = 1) (hw : g 9 7 = 21) : ∃ (v : Option Value) (mem' : fx_M), (fun R1 => ∃ (g' : Nat → Nat → Int32) (l' : Nat → Nat → Int64) (a' : Nat → Nat → Int32), tfd g l a g' l' a' ∧ tRes g' l' a' T n A (tl_k T n A c 0 p 21) ∧ R1 = (none, cm g' l' a' b R)) (v, mem') ∧ hr_T 6 122 [.ref 13, .ref 15, .ref 60] (cm g l a b R) v mem' := by
  refine he_meth (F := fun R1 => ∃ (g' : Nat → Nat → Int32) (l' : Nat → Nat → Int64) (a' : Nat → Nat → Int32), tfd g l a g' l' a' ∧ tRes g' l' a' T n A (tl_k T n A c 0 p 21) ∧ R1 = (none, cm g' l' a' b R)) (M := gk_m122) (by rfl) (by rfl) ?_
  refine he_s 8 (pc' := 15) (lc' := [(4, .int (g 60 6)), (3, .int (g 9 7)), (0, .ref 13), (1, .ref 15), (2, .ref 60)]) (stk' := [.int (g 9 7)]) (mem' := cm g l a b R) (by intro _ _ _; eq_refl) ?_
  try rw [hw]
  try rw [h60]
  refine he_ivS (ha_isT21 (g := g) (l := l) (a := a) (b := b) (R := R)) (by omega) (by rfl) (by rfl) (by rfl) (by rfl) (by rfl) ?_
  refine he_s 1 (pc' := cond (fx_cb .ne 0 0) 31 21) (lc' := [(4, .int (nI c)), (3, .int 21), (0, .ref 13), (1, .ref 15), (2, .ref 60)]) (stk' := []) (mem' := cm g l a b R) (by intro _ _ _; eq_refl) ?_
  rw [show (fx_cb .ne 0 0) = false from by decide]
  dsimp only [cond]
  refine he_s 2 (pc' := 25) (lc' := [(4, .int (nI c)), (3, .int 21), (0, .ref 13), (1, .ref 15), (2, .ref 60)]) (stk' := [.ref 9]) (mem' := cm g l a b R) (by intro _ _ _; eq_refl) ?_
  obtain ⟨gc1, hrc1, hmc1, frc1⟩ := ha_misfit (a := a) (b := b) (R := R) h
  refine he_ivV hrc1 (by omega) (by rfl) (by rfl) (by rfl) (by rfl) (by rfl) (by rfl) ?_
  have fc1_60_6 : gc1 60 6 = nI c := (congrFun (frc1.1 60 (by decide)) 6).trans h60
  have hfc1 := cfr_tr cfr_rf frc1
  have hAc1 := cn_L_fr hA frc1 (by decide) (by decide)
  have hTc1 := tfd_tr tfd_rf (tfd_c (a := a) frc1)
  refine he_s 4 (pc' := 86) (lc' := [(4, .int (nI c)), (3, .int 21), (0, .ref 13), (1, .ref 15), (2, .ref 60)]) (stk' := [.int (gc1 9 10)]) (mem' := cm gc1 l a b R) (by intro _ _ _; eq_refl) ?_
  try rw [hmc1.2.2.1]
  refine he_s 1 (pc' := cond (fx_cb .eq (sp_m T n p) 0) 90 89) (lc' := [(4, .int (nI c)), (3, .int 21), (0, .ref 13), (1, .ref 15), (2, .ref 60)]) (stk' := []) (mem' := cm gc1 l a b R) (by intro _ _ _; eq_refl) ?_
  rw [show (fx_cb .eq (sp_m T n p) 0) = false from cb_nz_eq hmc1.1]
  dsimp only [cond]
  refine he_ret ⟨_, _, _, hTc1, ?_, rfl⟩ (by rfl) (by rfl) (by rfl)
  exact hmc1
theorem ha_re (hg : ctx a b T n) (hA : cn_L 15 A g b) (hO : opn a) (h : co g l T n p) (hc : c ≤ 30) (hd : d ≤ 3) (h60 : g 60 6 = nI c) (h13 : g 13 2 = nI d) (h67 : g 60 7 = 1) (hd0 : 0 < d) : ∃ (v : Option Value) (mem' : fx_M), (fun R1 => ∃ (g' : Nat → Nat → Int32) (l' : Nat → Nat → Int64) (a' : Nat → Nat → Int32), tfd g l a g' l' a' ∧ tRes g' l' a' T n A (tl_k T n A c d p 21) ∧ R1 = (none, cm g' l' a' b R)) (v, mem') ∧ hr_T 5 120 [.ref 13, .ref 60] (cm g l a b R) v mem' := by
  refine he_meth (F := fun R1 => ∃ (g' : Nat → Nat → Int32) (l' : Nat → Nat → Int64) (a' : Nat → Nat → Int32), tfd g l a g' l' a' ∧ tRes g' l' a' T n A (tl_k T n A c d p 21) ∧ R1 = (none, cm g' l' a' b R)) (M := gk_m120) (by rfl) (by rfl) ?_
  refine he_s 12 (pc' := 22) (lc' := [(0, .ref 13), (1, .ref 60)]) (stk' := [.int ((g 13 2) - 1), .ref 14, .ref 66]) (mem' := cm (fm_u g 13 2 ((g 13 2) - 1)) l a b R) (by intro _ _ _; eq_refl) ?_
  try rw [h13]
  rw [show ((nI d) - 1 : Int32) = nI (d - 1) from by simp only [show (1 : Int32) = nI 1 from rfl, tg_sub2 (x := d) (y := 1) (by omega), nI_add, fm_mul]]
  have hmw1 : co (fm_u g 13 2 (nI (d - 1))) l T n p := co_t h (by decide)
  have hAw1 : cn_L 15 A (fm_u g 13 2 (nI (d - 1))) b := cn_15u hA (by decide) (by decide)
  have hTw1 : tfd g l a (fm_u g 13 2 (nI (d - 1))) l a := tfd_tr tfd_rf (tfd_g (by decide))
  have fw1_60_6 : (fm_u g 13 2 (nI (d - 1))) 60 6 = nI c := (congrFun (fm_un (by decide)) 6).trans h60
  have fw1_60_7 : (fm_u g 13 2 (nI (d - 1))) 60 7 = 1 := (congrFun (fm_un (by decide)) 7).trans h67
  have fw1_13_2 : (fm_u g 13 2 (nI (d - 1))) 13 2 = nI (d - 1) := fm_ue
  refine he_ldI (by rfl) (by rfl) (fx_inN (i := d - 1) (by omega) (by omega)) ?_
  rw [show Int32.toNatClampNeg (nI (d - 1)) = d - 1 from nI_clamp (by omega)]
  obtain ⟨ko2, hko2, eko2⟩ := nI_bd (x := a 14 (d - 1)) (n := 29) (hO (d - 1) (by omega)).1 (hO (d - 1) (by omega)).2
  rw [eko2]
  refine he_s 2 (pc' := 27) (lc' := [(0, .ref 13), (1, .ref 60)]) (stk' := [.int ((fm_u g 13 2 (nI (d - 1))) 60 6), .int (nI ko2), .ref 66]) (mem' := cm (fm_u g 13 2 (nI (d - 1))) l a b R) (by intro _ _ _; eq_refl) ?_
  try rw [fw1_60_6]
  refine he_stI (mem' := cm (fm_u g 13 2 (nI (d - 1))) l (fm_u a 66 (nI ko2 : Int32).toNatClampNeg (nI c)) b R) (by rfl) (by rfl) (fx_inN (i := ko2) (by omega) (by omega)) cm_si66 ?_
  rw [show Int32.toNatClampNeg (nI ko2) = ko2 from nI_clamp (by omega)]
  have hgs3 : ctx (fm_u a 66 ko2 (nI c)) b T n := ctx_t hg (by decide)
  have hTs3 : tfd g l a (fm_u g 13 2 (nI (d - 1))) l (fm_u a 66 ko2 (nI c)) := tfd_tr hTw1 (tfd_a (by decide))
  have hOs3 : opn (fm_u a 66 ko2 (nI c)) := opn_n hO (by decide)
  have ras3 : tfr a (fm_u a 66 ko2 (nI c)) := tfr_u tfr_rf (by decide)
  refine he_s 2 (pc' := 32) (lc' := [(0, .ref 13), (1, .ref 60)]) (stk' := [.ref 9]) (mem' := cm (fm_u g 13 2 (nI (d - 1))) l (fm_u a 66 ko2 (nI c)) b R) (by intro _ _ _; eq_refl) ?_
  obtain ⟨gc4, lc4, hrc4, hmc4, frc4⟩ := ha_scano (R := R) hgs3 hmw1
  refine he_ivV hrc4 (by omega) (by rfl) (by rfl) (by rfl) (by rfl) (by rfl) (by rfl) ?_
  have fc4_60_6 : gc4 60 6 = nI c := (congrFun (frc4.1 60 (by decide)) 6).trans fw1_60_6
  have fc4_60_7 : gc4 60 7 = 1 := (congrFun (frc4.1 60 (by decide)) 7).trans fw1_60_7
  have fc4_13_2 : gc4 13 2 = nI (d - 1) := (congrFun (frc4.1 13 (by decide)) 2).trans fw1_13_2
  have hfc4 := cfr_tr cfr_rf frc4
  have hAc4 := cn_L_fr hAw1 frc4 (by decide) (by decide)
  have hTc4 := tfd_tr hTs3 (tfd_c (a := (fm_u a 66 ko2 (nI c))) frc4)
  refine he_s 3 (pc' := 41) (lc' := [(0, .ref 13), (1, .ref 60)]) (stk' := [.int 59, .ref 9]) (mem' := cm gc4 lc4 (fm_u a 66 ko2 (nI c)) b R) (by intro _ _ _; eq_refl) ?_
  obtain ⟨vc5, memc5, ⟨xc5, gc5, lc5, frc5, hxc5, hRc5⟩, hrc5⟩ := ha_ps0 (w := 59) (R := R) hgs3 (by decide) hmc4
  cases hRc5
  refine he_ivV hrc5 (by omega) (by rfl) (by rfl) (by rfl) (by rfl) (by rfl) (by rfl) ?_
  have fc5_60_6 : gc5 60 6 = nI c := (congrFun (frc5.1 60 (by decide)) 6).trans fc4_60_6
  have fc5_60_7 : gc5 60 7 = 1 := (congrFun (frc5.1 60 (by decide)) 7).trans fc4_60_7
  have fc5_13_2 : gc5 13 2 = nI (d - 1) := (congrFun (frc5.1 13 (by decide)) 2).trans fc4_13_2
  have hfc5 := cfr_tr hfc4 frc5
  have hAc5 := cn_L_fr hAc4 frc5 (by decide) (by decide)
  have hTc5 := tfd_tr hTc4 (tfd_c (a := (fm_u a 66 ko2 (nI c))) frc5)
  rcases hxc5 with ⟨hwc5, rfl, hmc5⟩ | ⟨hwc5, rfl, hmc5⟩
  · refine he_s 1 (pc' := 45) (lc' := [(0, .ref 13), (1, .ref 60)]) (stk' := []) (mem' := cm gc5 lc5 (fm_u a 66 ko2 (nI c)) b R) (by intro _ _ _; eq_refl) ?_
    refine he_ret ⟨_, _, _, hTc5, ?_, rfl⟩ (by rfl) (by rfl) (by rfl)
    rw [show tl_k T n A c d p 21 = (if d = 0 then sp_mis T n p else sp_sign T n 59 (sp_n T n p) (fun q => .inr (A, 4 * c + (d - 1), q))) from rfl, if_neg (by omega), sp_sign_t hwc5]
    exact ⟨rfl, hmc5, (by dsimp only; omega), by rw [show (4 * c + (d - 1)) / 4 = c by omega]; exact fc5_60_6, by rw [show (4 * c + (d - 1)) % 4 = d - 1 by omega]; exact fc5_13_2, hOs3, fc5_60_7⟩
  · refine he_s 1 (pc' := 45) (lc' := [(0, .ref 13), (1, .ref 60)]) (stk' := []) (mem' := cm gc5 lc5 (fm_u a 66 ko2 (nI c)) b R) (by intro _ _ _; eq_refl) ?_
    refine he_ret ⟨_, _, _, hTc5, ?_, rfl⟩ (by rfl) (by rfl) (by rfl)
    rw [show tl_k T n A c d p 21 = (if d = 0 then sp_mis T n p else sp_sign T n 59 (sp_n T n p) (fun q => .inr (A, 4 * c + (d - 1), q))) from rfl, if_neg (by omega), sp_sign_f hwc5]
    exact hmc5
end CTS
