/-! ===== the class's lake: cells, shores; cells and walkers added ===== -/
theorem bi_31 : ∀ c, c < 32 → ((nI c &&& 31).toBitVec.smod 32#32).toNat = c := by decide +kernel
theorem bi_1 : ∀ i, i < 32 → (1#32).getLsbD i = decide (i = 0) := by decide +kernel
theorem bi_sl : ∀ k, k < 32 → ∀ c, c < 32 → ((1 : Int32) <<< (nI k &&& 31)).toBitVec.getLsbD c = decide (c = k) := by decide +kernel
/-- a bit of a number -/
theorem bi_v (x : Int32) {c : Nat} (h : c < 32) : (x >>> (nI c &&& 31)) &&& 1 = if x.toBitVec.getLsbD c = true then 1 else 0 := by
  apply Int32.toBitVec_inj.mp
  rw [Int32.toBitVec_and, Int32.toBitVec_shiftRight]
  apply BitVec.eq_of_getLsbD_eq
  intro i hi
  rw [BitVec.getLsbD_and, show (1 : Int32).toBitVec = 1#32 from rfl, bi_1 i hi]
  show ((x.toBitVec.sshiftRight (((nI c &&& 31).toBitVec.smod 32#32).toNat)).getLsbD i && decide (i = 0)) = _
  rw [bi_31 c h]
  by_cases e : i = 0
  · subst e
    rw [BitVec.getLsbD_sshiftRight, decide_eq_true rfl, Bool.and_true, if_pos (show c + 0 < 32 from h), Nat.add_zero]
    cases x.toBitVec.getLsbD c
    · rfl
    · rfl
  · rw [decide_eq_false e, Bool.and_false]
    split
    · rw [show (1 : Int32).toBitVec = 1#32 from rfl, bi_1 i hi, decide_eq_false e]
    · show false = (0#32).getLsbD i
      rw [BitVec.getLsbD_zero]
theorem bi_or (x : Int32) {c k : Nat} (hc : c < 32) (hk : k < 32) : ((x ||| ((1 : Int32) <<< (nI k &&& 31))) >>> (nI c &&& 31)) &&& 1 = if c = k then 1 else (x >>> (nI c &&& 31)) &&& 1 := by
  rw [bi_v _ hc, bi_v _ hc, Int32.toBitVec_or, BitVec.getLsbD_or, bi_sl k hk c hc]
  by_cases e : c = k
  · rw [decide_eq_true e, Bool.or_true, if_pos rfl, if_pos e]
  · rw [decide_eq_false e, Bool.or_false, if_neg e]
/-- the class's lake at o, as it was read -/
def cd_L (o : Nat) (A : sp_A) (g : Nat → Nat → Int32) (a : Nat → Nat → Int32) (b : Nat → Nat → Int64) : Prop := cn_L o A g b ∧ (∀ c, c < 10 → (g o 9 >>> (nI c &&& 31)) &&& 1 = if sp_sh A c = true then 1 else 0) ∧ (∀ i, i < 10 → a (o + 2) i = A.2.1 i) ∧ (∀ i, i < 10 → a (o + 3) i = A.2.2 i) ∧ ∀ i L w, A.1.2[i]? = some (L, w) → a (o + 13) i = nI w ∧ 1 ≤ w ∧ w ≤ 99
/-- nothing changes but the draft -/
def cdr (g : Nat → Nat → Int32) (a : Nat → Nat → Int32) (b : Nat → Nat → Int64) (g' : Nat → Nat → Int32) (a' : Nat → Nat → Int32) (b' : Nat → Nat → Int64) : Prop := ∀ j, ¬ (41 ≤ j ∧ j ≤ 66) → g' j = g j ∧ a' j = a j ∧ b' j = b j
theorem sp_sh_lt {A : sp_A} {c : Nat} (h : sp_sh A c = true) : c < A.1.1.length := by
  unfold sp_sh at h
  split at h
  · next q hq => exact (List.getElem?_eq_some_iff.mp hq).1
  · cases h
theorem sp_sh_ge {A : sp_A} {c : Nat} (h : A.1.1.length ≤ c) : sp_sh A c = false := by
  cases e : sp_sh A c
  · rfl
  · have := sp_sh_lt e; omega
section CLK
variable {g : Nat → Nat → Int32} {l : Nat → Nat → Int64} {a : Nat → Nat → Int32} {b : Nat → Nat → Int64} {R : fx_M} {T : Nat → Nat} {n p : Nat}
variable {F : Int32} {P : Nat} {A : sp_A}
theorem cd_fr {g' : Nat → Nat → Int32} {l' : Nat → Nat → Int64} {o : Nat} (h : cd_L o A g a b) (hf : cfr g l g' l') (h1 : o ≠ 9) (h2 : o + 11 ≠ 9) : cd_L o A g' a b := ⟨cn_L_fr h.1 hf h1 h2, fun c hc => by rw [congrFun (hf.1 o h1) 9]; exact h.2.1 c hc, h.2.2⟩
theorem cdr_rf : cdr g a b g a b := fun _ _ => ⟨rfl, rfl, rfl⟩
theorem cdr_tr {g1 g2 a1 a2 : Nat → Nat → Int32} {b1 b2 : Nat → Nat → Int64} (h : cdr g a b g1 a1 b1) (h2 : cdr g1 a1 b1 g2 a2 b2) : cdr g a b g2 a2 b2 := fun j hj => ⟨(h2 j hj).1.trans (h j hj).1, (h2 j hj).2.1.trans (h j hj).2.1, (h2 j hj).2.2.trans (h j hj).2.2⟩
theorem ha_ic41 {i N : Nat} (h8 : g 41 8 = nI N) (hN : N ≤ 10) (hi : i < N) : hr_T 1 34 [.ref 41, .int (nI i)] (cm g l a b R) (some (.int 1)) (cm g l a b R) := by
  suffices h : ∃ (v : Option Value) (mem' : fx_M), (fun R1 => R1 = (some (.int 1), cm g l a b R)) (v, mem') ∧ hr_T 1 34 [.ref 41, .int (nI i)] (cm g l a b R) v mem' by
    obtain ⟨v, mem', h1, h2⟩ := h
    cases h1
    exact h2
  refine he_meth (F := fun R1 => R1 = (some (.int 1), cm g l a b R)) (M := gk_m34) (by rfl) (by rfl) ?_
  refine he_s 1 (pc' := 1) (lc' := [(0, .ref 41), (1, .int (nI i))]) (stk' := [.int (nI i)]) (mem' := cm g l a b R) (by intro _ _ _; eq_refl) ?_
  refine he_s 1 (pc' := cond (fx_cb .lt (nI i) 0) 16 4) (lc' := [(0, .ref 41), (1, .int (nI i))]) (stk' := []) (mem' := cm g l a b R) (by intro _ _ _; eq_refl) ?_
  rw [show (fx_cb .lt (nI i) 0) = false from cb_ltF (a := i) (b := 0) (by omega) (by omega) (by omega)]
  dsimp only [cond]
  refine he_s 3 (pc' := 9) (lc' := [(0, .ref 41), (1, .int (nI i))]) (stk' := [.int (g 41 8), .int (nI i)]) (mem' := cm g l a b R) (by intro _ _ _; eq_refl) ?_
  try rw [h8]
  refine he_s 1 (pc' := cond (fx_cb .ge (nI i) (nI N)) 16 12) (lc' := [(0, .ref 41), (1, .int (nI i))]) (stk' := []) (mem' := cm g l a b R) (by intro _ _ _; eq_refl) ?_
  rw [show (fx_cb .ge (nI i) (nI N)) = false from cb_geF (a := i) (b := N) (by omega) (by omega) (by omega)]
  dsimp only [cond]
  refine he_s 2 (pc' := 17) (lc' := [(0, .ref 41), (1, .int (nI i))]) (stk' := [.int 1]) (mem' := cm g l a b R) (by intro _ _ _; eq_refl) ?_
  exact he_ret rfl (by rfl) (by rfl) (by rfl)
theorem ha_ic15 {i N : Nat} (h8 : g 15 8 = nI N) (hN : N ≤ 10) (hi : i < N) : hr_T 1 34 [.ref 15, .int (nI i)] (cm g l a b R) (some (.int 1)) (cm g l a b R) := by
  suffices h : ∃ (v : Option Value) (mem' : fx_M), (fun R1 => R1 = (some (.int 1), cm g l a b R)) (v, mem') ∧ hr_T 1 34 [.ref 15, .int (nI i)] (cm g l a b R) v mem' by
    obtain ⟨v, mem', h1, h2⟩ := h
    cases h1
    exact h2
  refine he_meth (F := fun R1 => R1 = (some (.int 1), cm g l a b R)) (M := gk_m34) (by rfl) (by rfl) ?_
  refine he_s 1 (pc' := 1) (lc' := [(0, .ref 15), (1, .int (nI i))]) (stk' := [.int (nI i)]) (mem' := cm g l a b R) (by intro _ _ _; eq_refl) ?_
  refine he_s 1 (pc' := cond (fx_cb .lt (nI i) 0) 16 4) (lc' := [(0, .ref 15), (1, .int (nI i))]) (stk' := []) (mem' := cm g l a b R) (by intro _ _ _; eq_refl) ?_
  rw [show (fx_cb .lt (nI i) 0) = false from cb_ltF (a := i) (b := 0) (by omega) (by omega) (by omega)]
  dsimp only [cond]
  refine he_s 3 (pc' := 9) (lc' := [(0, .ref 15), (1, .int (nI i))]) (stk' := [.int (g 15 8), .int (nI i)]) (mem' := cm g l a b R) (by intro _ _ _; eq_refl) ?_
  try rw [h8]
  refine he_s 1 (pc' := cond (fx_cb .ge (nI i) (nI N)) 16 12) (lc' := [(0, .ref 15), (1, .int (nI i))]) (stk' := []) (mem' := cm g l a b R) (by intro _ _ _; eq_refl) ?_
  rw [show (fx_cb .ge (nI i) (nI N)) = false from cb_geF (a := i) (b := N) (by omega) (by omega) (by omega)]
  dsimp only [cond]
  refine he_s 2 (pc' := 17) (lc' := [(0, .ref 15), (1, .int (nI i))]) (stk' := [.int 1]) (mem' := cm g l a b R) (by intro _ _ _; eq_refl) ?_
  exact he_ret rfl (by rfl) (by rfl) (by rfl)
theorem ha_icq41 {x : Int32} : ∃ (v : Option Value) (mem' : fx_M), (fun R1 => ∃ v : Int32, (v = 0 ∨ v = 1) ∧ R1 = (some (.int v), cm g l a b R)) (v, mem') ∧ hr_T 1 34 [.ref 41, .int x] (cm g l a b R) v mem' := by
  refine he_meth (F := fun R1 => ∃ v : Int32, (v = 0 ∨ v = 1) ∧ R1 = (some (.int v), cm g l a b R)) (M := gk_m34) (by rfl) (by rfl) ?_
  refine he_s 1 (pc' := 1) (lc' := [(0, .ref 41), (1, .int x)]) (stk' := [.int x]) (mem' := cm g l a b R) (by intro _ _ _; eq_refl) ?_
  refine he_s 1 (pc' := cond (fx_cb .lt x 0) 16 4) (lc' := [(0, .ref 41), (1, .int x)]) (stk' := []) (mem' := cm g l a b R) (by intro _ _ _; eq_refl) ?_
  cases y1 : fx_cb .lt x 0
  · refine he_s 3 (pc' := 9) (lc' := [(0, .ref 41), (1, .int x)]) (stk' := [.int (g 41 8), .int x]) (mem' := cm g l a b R) (by intro _ _ _; eq_refl) ?_
    refine he_s 1 (pc' := cond (fx_cb .ge x (g 41 8)) 16 12) (lc' := [(0, .ref 41), (1, .int x)]) (stk' := []) (mem' := cm g l a b R) (by intro _ _ _; eq_refl) ?_
    cases y2 : fx_cb .ge x (g 41 8)
    · refine he_s 2 (pc' := 17) (lc' := [(0, .ref 41), (1, .int x)]) (stk' := [.int 1]) (mem' := cm g l a b R) (by intro _ _ _; eq_refl) ?_
      exact he_ret ⟨1, by decide, rfl⟩ (by rfl) (by rfl) (by rfl)
    · refine he_s 1 (pc' := 17) (lc' := [(0, .ref 41), (1, .int x)]) (stk' := [.int 0]) (mem' := cm g l a b R) (by intro _ _ _; eq_refl) ?_
      exact he_ret ⟨0, by decide, rfl⟩ (by rfl) (by rfl) (by rfl)
  · refine he_s 1 (pc' := 17) (lc' := [(0, .ref 41), (1, .int x)]) (stk' := [.int 0]) (mem' := cm g l a b R) (by intro _ _ _; eq_refl) ?_
    exact he_ret ⟨0, by decide, rfl⟩ (by rfl) (by rfl) (by rfl)
theorem ha_icq15 {x : Int32} : ∃ (v : Option Value) (mem' : fx_M), (fun R1 => ∃ v : Int32, (v = 0 ∨ v = 1) ∧ R1 = (some (.int v), cm g l a b R)) (v, mem') ∧ hr_T 1 34 [.ref 15, .int x] (cm g l a b R) v mem' := by
  refine he_meth (F := fun R1 => ∃ v : Int32, (v = 0 ∨ v = 1) ∧ R1 = (some (.int v), cm g l a b R)) (M := gk_m34) (by rfl) (by rfl) ?_
  refine he_s 1 (pc' := 1) (lc' := [(0, .ref 15), (1, .int x)]) (stk' := [.int x]) (mem' := cm g l a b R) (by intro _ _ _; eq_refl) ?_
  refine he_s 1 (pc' := cond (fx_cb .lt x 0) 16 4) (lc' := [(0, .ref 15), (1, .int x)]) (stk' := []) (mem' := cm g l a b R) (by intro _ _ _; eq_refl) ?_
  cases y1 : fx_cb .lt x 0
  · refine he_s 3 (pc' := 9) (lc' := [(0, .ref 15), (1, .int x)]) (stk' := [.int (g 15 8), .int x]) (mem' := cm g l a b R) (by intro _ _ _; eq_refl) ?_
    refine he_s 1 (pc' := cond (fx_cb .ge x (g 15 8)) 16 12) (lc' := [(0, .ref 15), (1, .int x)]) (stk' := []) (mem' := cm g l a b R) (by intro _ _ _; eq_refl) ?_
    cases y2 : fx_cb .ge x (g 15 8)
    · refine he_s 2 (pc' := 17) (lc' := [(0, .ref 15), (1, .int x)]) (stk' := [.int 1]) (mem' := cm g l a b R) (by intro _ _ _; eq_refl) ?_
      exact he_ret ⟨1, by decide, rfl⟩ (by rfl) (by rfl) (by rfl)
    · refine he_s 1 (pc' := 17) (lc' := [(0, .ref 15), (1, .int x)]) (stk' := [.int 0]) (mem' := cm g l a b R) (by intro _ _ _; eq_refl) ?_
      exact he_ret ⟨0, by decide, rfl⟩ (by rfl) (by rfl) (by rfl)
  · refine he_s 1 (pc' := 17) (lc' := [(0, .ref 15), (1, .int x)]) (stk' := [.int 0]) (mem' := cm g l a b R) (by intro _ _ _; eq_refl) ?_
    exact he_ret ⟨0, by decide, rfl⟩ (by rfl) (by rfl) (by rfl)
theorem ha_is411 {i N : Nat} (h8 : g 41 8 = nI N) (hN : N ≤ 10) (hi : i < N) (hb : (g 41 9 >>> (nI i &&& 31)) &&& 1 = 1) : hr_T 2 35 [.ref 41, .int (nI i)] (cm g l a b R) (some (.int 1)) (cm g l a b R) := by
  suffices h : ∃ (v : Option Value) (mem' : fx_M), (fun R1 => R1 = (some (.int 1), cm g l a b R)) (v, mem') ∧ hr_T 2 35 [.ref 41, .int (nI i)] (cm g l a b R) v mem' by
    obtain ⟨v, mem', h1, h2⟩ := h
    cases h1
    exact h2
  refine he_meth (F := fun R1 => R1 = (some (.int 1), cm g l a b R)) (M := gk_m35) (by rfl) (by rfl) ?_
  refine he_s 2 (pc' := 2) (lc' := [(0, .ref 41), (1, .int (nI i))]) (stk' := [.int (nI i), .ref 41]) (mem' := cm g l a b R) (by intro _ _ _; eq_refl) ?_
  refine he_ivV (ha_ic41 h8 hN (i := i) (by omega)) (by omega) (by rfl) (by rfl) (by rfl) (by rfl) (by rfl) (by rfl) ?_
  refine he_s 1 (pc' := cond (fx_cb .eq 1 0) 23 8) (lc' := [(0, .ref 41), (1, .int (nI i))]) (stk' := []) (mem' := cm g l a b R) (by intro _ _ _; eq_refl) ?_
  rw [show (fx_cb .eq 1 0) = false from by decide]
  dsimp only [cond]
  refine he_s 6 (pc' := 16) (lc' := [(0, .ref 41), (1, .int (nI i))]) (stk' := [.int (((g 41 9) >>> ((nI i) &&& 31)) &&& 1)]) (mem' := cm g l a b R) (by intro _ _ _; eq_refl) ?_
  refine he_s 1 (pc' := cond (fx_cb .eq (((g 41 9) >>> ((nI i) &&& 31)) &&& 1) 0) 23 19) (lc' := [(0, .ref 41), (1, .int (nI i))]) (stk' := []) (mem' := cm g l a b R) (by intro _ _ _; eq_refl) ?_
  rw [show (fx_cb .eq (((g 41 9) >>> ((nI i) &&& 31)) &&& 1) 0) = false from (by rw [hb]; decide)]
  dsimp only [cond]
  refine he_s 2 (pc' := 24) (lc' := [(0, .ref 41), (1, .int (nI i))]) (stk' := [.int 1]) (mem' := cm g l a b R) (by intro _ _ _; eq_refl) ?_
  exact he_ret rfl (by rfl) (by rfl) (by rfl)
theorem ha_is410 {i N : Nat} (h8 : g 41 8 = nI N) (hN : N ≤ 10) (hi : i < N) (hb : (g 41 9 >>> (nI i &&& 31)) &&& 1 = 0) : hr_T 2 35 [.ref 41, .int (nI i)] (cm g l a b R) (some (.int 0)) (cm g l a b R) := by
  suffices h : ∃ (v : Option Value) (mem' : fx_M), (fun R1 => R1 = (some (.int 0), cm g l a b R)) (v, mem') ∧ hr_T 2 35 [.ref 41, .int (nI i)] (cm g l a b R) v mem' by
    obtain ⟨v, mem', h1, h2⟩ := h
    cases h1
    exact h2
  refine he_meth (F := fun R1 => R1 = (some (.int 0), cm g l a b R)) (M := gk_m35) (by rfl) (by rfl) ?_
  refine he_s 2 (pc' := 2) (lc' := [(0, .ref 41), (1, .int (nI i))]) (stk' := [.int (nI i), .ref 41]) (mem' := cm g l a b R) (by intro _ _ _; eq_refl) ?_
  refine he_ivV (ha_ic41 h8 hN (i := i) (by omega)) (by omega) (by rfl) (by rfl) (by rfl) (by rfl) (by rfl) (by rfl) ?_
  refine he_s 1 (pc' := cond (fx_cb .eq 1 0) 23 8) (lc' := [(0, .ref 41), (1, .int (nI i))]) (stk' := []) (mem' := cm g l a b R) (by intro _ _ _; eq_refl) ?_
  rw [show (fx_cb .eq 1 0) = false from by decide]
  dsimp only [cond]
  refine he_s 6 (pc' := 16) (lc' := [(0, .ref 41), (1, .int (nI i))]) (stk' := [.int (((g 41 9) >>> ((nI i) &&& 31)) &&& 1)]) (mem' := cm g l a b R) (by intro _ _ _; eq_refl) ?_
  refine he_s 1 (pc' := cond (fx_cb .eq (((g 41 9) >>> ((nI i) &&& 31)) &&& 1) 0) 23 19) (lc' := [(0, .ref 41), (1, .int (nI i))]) (stk' := []) (mem' := cm g l a b R) (by intro _ _ _; eq_refl) ?_
  rw [show (fx_cb .eq (((g 41 9) >>> ((nI i) &&& 31)) &&& 1) 0) = true from (by rw [hb]; decide)]
  dsimp only [cond]
  refine he_s 1 (pc' := 24) (lc' := [(0, .ref 41), (1, .int (nI i))]) (stk' := [.int 0]) (mem' := cm g l a b R) (by intro _ _ _; eq_refl) ?_
  exact he_ret rfl (by rfl) (by rfl) (by rfl)
theorem ha_isq41 {x : Int32} : ∃ (v : Option Value) (mem' : fx_M), (fun R1 => ∃ v : Int32, (v = 0 ∨ v = 1) ∧ R1 = (some (.int v), cm g l a b R)) (v, mem') ∧ hr_T 2 35 [.ref 41, .int x] (cm g l a b R) v mem' := by
  refine he_meth (F := fun R1 => ∃ v : Int32, (v = 0 ∨ v = 1) ∧ R1 = (some (.int v), cm g l a b R)) (M := gk_m35) (by rfl) (by rfl) ?_
  refine he_s 2 (pc' := 2) (lc' := [(0, .ref 41), (1, .int x)]) (stk' := [.int x, .ref 41]) (mem' := cm g l a b R) (by intro _ _ _; eq_refl) ?_
  obtain ⟨vc1, memc1, ⟨xc1, hxc1, hRc1⟩, hrc1⟩ := ha_icq41 (g := g) (l := l) (a := a) (b := b) (R := R) (x := x)
  cases hRc1
  refine he_ivV hrc1 (by omega) (by rfl) (by rfl) (by rfl) (by rfl) (by rfl) (by rfl) ?_
  rcases hxc1 with rfl | rfl
  · refine he_s 1 (pc' := cond (fx_cb .eq 0 0) 23 8) (lc' := [(0, .ref 41), (1, .int x)]) (stk' := []) (mem' := cm g l a b R) (by intro _ _ _; eq_refl) ?_
    rw [show (fx_cb .eq 0 0) = true from by decide]
    dsimp only [cond]
    refine he_s 1 (pc' := 24) (lc' := [(0, .ref 41), (1, .int x)]) (stk' := [.int 0]) (mem' := cm g l a b R) (by intro _ _ _; eq_refl) ?_
    exact he_ret ⟨0, by decide, rfl⟩ (by rfl) (by rfl) (by rfl)
  · refine he_s 1 (pc' := cond (fx_cb .eq 1 0) 23 8) (lc' := [(0, .ref 41), (1, .int x)]) (stk' := []) (mem' := cm g l a b R) (by intro _ _ _; eq_refl) ?_
    rw [show (fx_cb .eq 1 0) = false from by decide]
    dsimp only [cond]
    refine he_s 6 (pc' := 16) (lc' := [(0, .ref 41), (1, .int x)]) (stk' := [.int (((g 41 9) >>> (x &&& 31)) &&& 1)]) (mem' := cm g l a b R) (by intro _ _ _; eq_refl) ?_
    refine he_s 1 (pc' := cond (fx_cb .eq (((g 41 9) >>> (x &&& 31)) &&& 1) 0) 23 19) (lc' := [(0, .ref 41), (1, .int x)]) (stk' := []) (mem' := cm g l a b R) (by intro _ _ _; eq_refl) ?_
    cases y2 : fx_cb .eq (((g 41 9) >>> (x &&& 31)) &&& 1) 0
    · refine he_s 2 (pc' := 24) (lc' := [(0, .ref 41), (1, .int x)]) (stk' := [.int 1]) (mem' := cm g l a b R) (by intro _ _ _; eq_refl) ?_
      exact he_ret ⟨1, by decide, rfl⟩ (by rfl) (by rfl) (by rfl)
    · refine he_s 1 (pc' := 24) (lc' := [(0, .ref 41), (1, .int x)]) (stk' := [.int 0]) (mem' := cm g l a b R) (by intro _ _ _; eq_refl) ?_
      exact he_ret ⟨0, by decide, rfl⟩ (by rfl) (by rfl) (by rfl)
theorem ha_is151 {i N : Nat} (h8 : g 15 8 = nI N) (hN : N ≤ 10) (hi : i < N) (hb : (g 15 9 >>> (nI i &&& 31)) &&& 1 = 1) : hr_T 2 35 [.ref 15, .int (nI i)] (cm g l a b R) (some (.int 1)) (cm g l a b R) := by
  suffices h : ∃ (v : Option Value) (mem' : fx_M), (fun R1 => R1 = (some (.int 1), cm g l a b R)) (v, mem') ∧ hr_T 2 35 [.ref 15, .int (nI i)] (cm g l a b R) v mem' by
    obtain ⟨v, mem', h1, h2⟩ := h
    cases h1
    exact h2
  refine he_meth (F := fun R1 => R1 = (some (.int 1), cm g l a b R)) (M := gk_m35) (by rfl) (by rfl) ?_
  refine he_s 2 (pc' := 2) (lc' := [(0, .ref 15), (1, .int (nI i))]) (stk' := [.int (nI i), .ref 15]) (mem' := cm g l a b R) (by intro _ _ _; eq_refl) ?_
  refine he_ivV (ha_ic15 h8 hN (i := i) (by omega)) (by omega) (by rfl) (by rfl) (by rfl) (by rfl) (by rfl) (by rfl) ?_
  refine he_s 1 (pc' := cond (fx_cb .eq 1 0) 23 8) (lc' := [(0, .ref 15), (1, .int (nI i))]) (stk' := []) (mem' := cm g l a b R) (by intro _ _ _; eq_refl) ?_
  rw [show (fx_cb .eq 1 0) = false from by decide]
  dsimp only [cond]
  refine he_s 6 (pc' := 16) (lc' := [(0, .ref 15), (1, .int (nI i))]) (stk' := [.int (((g 15 9) >>> ((nI i) &&& 31)) &&& 1)]) (mem' := cm g l a b R) (by intro _ _ _; eq_refl) ?_
  refine he_s 1 (pc' := cond (fx_cb .eq (((g 15 9) >>> ((nI i) &&& 31)) &&& 1) 0) 23 19) (lc' := [(0, .ref 15), (1, .int (nI i))]) (stk' := []) (mem' := cm g l a b R) (by intro _ _ _; eq_refl) ?_
  rw [show (fx_cb .eq (((g 15 9) >>> ((nI i) &&& 31)) &&& 1) 0) = false from (by rw [hb]; decide)]
  dsimp only [cond]
  refine he_s 2 (pc' := 24) (lc' := [(0, .ref 15), (1, .int (nI i))]) (stk' := [.int 1]) (mem' := cm g l a b R) (by intro _ _ _; eq_refl) ?_
  exact he_ret rfl (by rfl) (by rfl) (by rfl)
theorem ha_is150 {i N : Nat} (h8 : g 15 8 = nI N) (hN : N ≤ 10) (hi : i < N) (hb : (g 15 9 >>> (nI i &&& 31)) &&& 1 = 0) : hr_T 2 35 [.ref 15, .int (nI i)] (cm g l a b R) (some (.int 0)) (cm g l a b R) := by
  suffices h : ∃ (v : Option Value) (mem' : fx_M), (fun R1 => R1 = (some (.int 0), cm g l a b R)) (v, mem') ∧ hr_T 2 35 [.ref 15, .int (nI i)] (cm g l a b R) v mem' by
    obtain ⟨v, mem', h1, h2⟩ := h
    cases h1
    exact h2
  refine he_meth (F := fun R1 => R1 = (some (.int 0), cm g l a b R)) (M := gk_m35) (by rfl) (by rfl) ?_
  refine he_s 2 (pc' := 2) (lc' := [(0, .ref 15), (1, .int (nI i))]) (stk' := [.int (nI i), .ref 15]) (mem' := cm g l a b R) (by intro _ _ _; eq_refl) ?_
  refine he_ivV (ha_ic15 h8 hN (i := i) (by omega)) (by omega) (by rfl) (by rfl) (by rfl) (by rfl) (by rfl) (by rfl) ?_
  refine he_s 1 (pc' := cond (fx_cb .eq 1 0) 23 8) (lc' := [(0, .ref 15), (1, .int (nI i))]) (stk' := []) (mem' := cm g l a b R) (by intro _ _ _; eq_refl) ?_
  rw [show (fx_cb .eq 1 0) = false from by decide]
  dsimp only [cond]
  refine he_s 6 (pc' := 16) (lc' := [(0, .ref 15), (1, .int (nI i))]) (stk' := [.int (((g 15 9) >>> ((nI i) &&& 31)) &&& 1)]) (mem' := cm g l a b R) (by intro _ _ _; eq_refl) ?_
  refine he_s 1 (pc' := cond (fx_cb .eq (((g 15 9) >>> ((nI i) &&& 31)) &&& 1) 0) 23 19) (lc' := [(0, .ref 15), (1, .int (nI i))]) (stk' := []) (mem' := cm g l a b R) (by intro _ _ _; eq_refl) ?_
  rw [show (fx_cb .eq (((g 15 9) >>> ((nI i) &&& 31)) &&& 1) 0) = true from (by rw [hb]; decide)]
  dsimp only [cond]
  refine he_s 1 (pc' := 24) (lc' := [(0, .ref 15), (1, .int (nI i))]) (stk' := [.int 0]) (mem' := cm g l a b R) (by intro _ _ _; eq_refl) ?_
  exact he_ret rfl (by rfl) (by rfl) (by rfl)
theorem ha_isq15 {x : Int32} : ∃ (v : Option Value) (mem' : fx_M), (fun R1 => ∃ v : Int32, (v = 0 ∨ v = 1) ∧ R1 = (some (.int v), cm g l a b R)) (v, mem') ∧ hr_T 2 35 [.ref 15, .int x] (cm g l a b R) v mem' := by
  refine he_meth (F := fun R1 => ∃ v : Int32, (v = 0 ∨ v = 1) ∧ R1 = (some (.int v), cm g l a b R)) (M := gk_m35) (by rfl) (by rfl) ?_
  refine he_s 2 (pc' := 2) (lc' := [(0, .ref 15), (1, .int x)]) (stk' := [.int x, .ref 15]) (mem' := cm g l a b R) (by intro _ _ _; eq_refl) ?_
  obtain ⟨vc1, memc1, ⟨xc1, hxc1, hRc1⟩, hrc1⟩ := ha_icq15 (g := g) (l := l) (a := a) (b := b) (R := R) (x := x)
  cases hRc1
  refine he_ivV hrc1 (by omega) (by rfl) (by rfl) (by rfl) (by rfl) (by rfl) (by rfl) ?_
  rcases hxc1 with rfl | rfl
  · refine he_s 1 (pc' := cond (fx_cb .eq 0 0) 23 8) (lc' := [(0, .ref 15), (1, .int x)]) (stk' := []) (mem' := cm g l a b R) (by intro _ _ _; eq_refl) ?_
    rw [show (fx_cb .eq 0 0) = true from by decide]
    dsimp only [cond]
    refine he_s 1 (pc' := 24) (lc' := [(0, .ref 15), (1, .int x)]) (stk' := [.int 0]) (mem' := cm g l a b R) (by intro _ _ _; eq_refl) ?_
    exact he_ret ⟨0, by decide, rfl⟩ (by rfl) (by rfl) (by rfl)
  · refine he_s 1 (pc' := cond (fx_cb .eq 1 0) 23 8) (lc' := [(0, .ref 15), (1, .int x)]) (stk' := []) (mem' := cm g l a b R) (by intro _ _ _; eq_refl) ?_
    rw [show (fx_cb .eq 1 0) = false from by decide]
    dsimp only [cond]
    refine he_s 6 (pc' := 16) (lc' := [(0, .ref 15), (1, .int x)]) (stk' := [.int (((g 15 9) >>> (x &&& 31)) &&& 1)]) (mem' := cm g l a b R) (by intro _ _ _; eq_refl) ?_
    refine he_s 1 (pc' := cond (fx_cb .eq (((g 15 9) >>> (x &&& 31)) &&& 1) 0) 23 19) (lc' := [(0, .ref 15), (1, .int x)]) (stk' := []) (mem' := cm g l a b R) (by intro _ _ _; eq_refl) ?_
    cases y2 : fx_cb .eq (((g 15 9) >>> (x &&& 31)) &&& 1) 0
    · refine he_s 2 (pc' := 24) (lc' := [(0, .ref 15), (1, .int x)]) (stk' := [.int 1]) (mem' := cm g l a b R) (by intro _ _ _; eq_refl) ?_
      exact he_ret ⟨1, by decide, rfl⟩ (by rfl) (by rfl) (by rfl)
    · refine he_s 1 (pc' := 24) (lc' := [(0, .ref 15), (1, .int x)]) (stk' := [.int 0]) (mem' := cm g l a b R) (by intro _ _ _; eq_refl) ?_
      exact he_ret ⟨0, by decide, rfl⟩ (by rfl) (by rfl) (by rfl)
theorem ha_ip41 {i j N : Nat} (h8 : g 41 8 = nI N) (hN : N ≤ 10) (hi : i < N) (hj : j < N) (hij : ¬ i = j) : hr_T 2 37 [.ref 41, .int (nI i), .int (nI j)] (cm g l a b R) (some (.int 1)) (cm g l a b R) := by
  suffices h : ∃ (v : Option Value) (mem' : fx_M), (fun R1 => R1 = (some (.int 1), cm g l a b R)) (v, mem') ∧ hr_T 2 37 [.ref 41, .int (nI i), .int (nI j)] (cm g l a b R) v mem' by
    obtain ⟨v, mem', h1, h2⟩ := h
    cases h1
    exact h2
  refine he_meth (F := fun R1 => R1 = (some (.int 1), cm g l a b R)) (M := gk_m37) (by rfl) (by rfl) ?_
  refine he_s 2 (pc' := 2) (lc' := [(0, .ref 41), (1, .int (nI i)), (2, .int (nI j))]) (stk' := [.int (nI i), .ref 41]) (mem' := cm g l a b R) (by intro _ _ _; eq_refl) ?_
  refine he_ivV (ha_ic41 h8 hN (i := i) (by omega)) (by omega) (by rfl) (by rfl) (by rfl) (by rfl) (by rfl) (by rfl) ?_
  refine he_s 1 (pc' := cond (fx_cb .eq 1 0) 25 8) (lc' := [(0, .ref 41), (1, .int (nI i)), (2, .int (nI j))]) (stk' := []) (mem' := cm g l a b R) (by intro _ _ _; eq_refl) ?_
  rw [show (fx_cb .eq 1 0) = false from by decide]
  dsimp only [cond]
  refine he_s 2 (pc' := 10) (lc' := [(0, .ref 41), (1, .int (nI i)), (2, .int (nI j))]) (stk' := [.int (nI j), .ref 41]) (mem' := cm g l a b R) (by intro _ _ _; eq_refl) ?_
  refine he_ivV (ha_ic41 h8 hN (i := j) (by omega)) (by omega) (by rfl) (by rfl) (by rfl) (by rfl) (by rfl) (by rfl) ?_
  refine he_s 1 (pc' := cond (fx_cb .eq 1 0) 25 16) (lc' := [(0, .ref 41), (1, .int (nI i)), (2, .int (nI j))]) (stk' := []) (mem' := cm g l a b R) (by intro _ _ _; eq_refl) ?_
  rw [show (fx_cb .eq 1 0) = false from by decide]
  dsimp only [cond]
  refine he_s 2 (pc' := 18) (lc' := [(0, .ref 41), (1, .int (nI i)), (2, .int (nI j))]) (stk' := [.int (nI j), .int (nI i)]) (mem' := cm g l a b R) (by intro _ _ _; eq_refl) ?_
  refine he_s 1 (pc' := cond (fx_cb .eq (nI i) (nI j)) 25 21) (lc' := [(0, .ref 41), (1, .int (nI i)), (2, .int (nI j))]) (stk' := []) (mem' := cm g l a b R) (by intro _ _ _; eq_refl) ?_
  rw [show (fx_cb .eq (nI i) (nI j)) = false from cb_eqF (a := i) (b := j) (by omega) (by omega) (by omega)]
  dsimp only [cond]
  refine he_s 2 (pc' := 26) (lc' := [(0, .ref 41), (1, .int (nI i)), (2, .int (nI j))]) (stk' := [.int 1]) (mem' := cm g l a b R) (by intro _ _ _; eq_refl) ?_
  exact he_ret rfl (by rfl) (by rfl) (by rfl)
theorem ha_ip15 {i j N : Nat} (h8 : g 15 8 = nI N) (hN : N ≤ 10) (hi : i < N) (hj : j < N) (hij : ¬ i = j) : hr_T 2 37 [.ref 15, .int (nI i), .int (nI j)] (cm g l a b R) (some (.int 1)) (cm g l a b R) := by
  suffices h : ∃ (v : Option Value) (mem' : fx_M), (fun R1 => R1 = (some (.int 1), cm g l a b R)) (v, mem') ∧ hr_T 2 37 [.ref 15, .int (nI i), .int (nI j)] (cm g l a b R) v mem' by
    obtain ⟨v, mem', h1, h2⟩ := h
    cases h1
    exact h2
  refine he_meth (F := fun R1 => R1 = (some (.int 1), cm g l a b R)) (M := gk_m37) (by rfl) (by rfl) ?_
  refine he_s 2 (pc' := 2) (lc' := [(0, .ref 15), (1, .int (nI i)), (2, .int (nI j))]) (stk' := [.int (nI i), .ref 15]) (mem' := cm g l a b R) (by intro _ _ _; eq_refl) ?_
  refine he_ivV (ha_ic15 h8 hN (i := i) (by omega)) (by omega) (by rfl) (by rfl) (by rfl) (by rfl) (by rfl) (by rfl) ?_
  refine he_s 1 (pc' := cond (fx_cb .eq 1 0) 25 8) (lc' := [(0, .ref 15), (1, .int (nI i)), (2, .int (nI j))]) (stk' := []) (mem' := cm g l a b R) (by intro _ _ _; eq_refl) ?_
  rw [show (fx_cb .eq 1 0) = false from by decide]
  dsimp only [cond]
  refine he_s 2 (pc' := 10) (lc' := [(0, .ref 15), (1, .int (nI i)), (2, .int (nI j))]) (stk' := [.int (nI j), .ref 15]) (mem' := cm g l a b R) (by intro _ _ _; eq_refl) ?_
  refine he_ivV (ha_ic15 h8 hN (i := j) (by omega)) (by omega) (by rfl) (by rfl) (by rfl) (by rfl) (by rfl) (by rfl) ?_
  refine he_s 1 (pc' := cond (fx_cb .eq 1 0) 25 16) (lc' := [(0, .ref 15), (1, .int (nI i)), (2, .int (nI j))]) (stk' := []) (mem' := cm g l a b R) (by intro _ _ _; eq_refl) ?_
  rw [show (fx_cb .eq 1 0) = false from by decide]
  dsimp only [cond]
  refine he_s 2 (pc' := 18) (lc' := [(0, .ref 15), (1, .int (nI i)), (2, .int (nI j))]) (stk' := [.int (nI j), .int (nI i)]) (mem' := cm g l a b R) (by intro _ _ _; eq_refl) ?_
  refine he_s 1 (pc' := cond (fx_cb .eq (nI i) (nI j)) 25 21) (lc' := [(0, .ref 15), (1, .int (nI i)), (2, .int (nI j))]) (stk' := []) (mem' := cm g l a b R) (by intro _ _ _; eq_refl) ?_
  rw [show (fx_cb .eq (nI i) (nI j)) = false from cb_eqF (a := i) (b := j) (by omega) (by omega) (by omega)]
  dsimp only [cond]
  refine he_s 2 (pc' := 26) (lc' := [(0, .ref 15), (1, .int (nI i)), (2, .int (nI j))]) (stk' := [.int 1]) (mem' := cm g l a b R) (by intro _ _ _; eq_refl) ?_
  exact he_ret rfl (by rfl) (by rfl) (by rfl)
theorem sp_nC_add {f : Nat → Int64} {l : List (List Nat)} {L : List Nat} (h : sp_nC f l) (hL : sp_lo L) (h8 : L.length ≤ 8) : sp_nC (vp_updL f l.length (Int64.ofNat (sp_cd L))) (l ++ [L]) := by
  refine ⟨fun i M hi => ?_, fun M hM => ?_⟩
  · unfold vp_updL
    by_cases e : i = l.length
    · rw [if_pos e]
      rw [e, List.getElem?_append_right (Nat.le_refl _), Nat.sub_self] at hi
      cases hi
      rfl
    · rw [if_neg e]
      have hlt := (List.getElem?_eq_some_iff.mp hi).1
      rw [List.length_append, show ([L] : List (List Nat)).length = 1 from rfl] at hlt
      rw [List.getElem?_append_left (by omega)] at hi
      exact h.1 i M hi
  · rcases List.mem_append.mp hM with z | z
    · exact h.2 M z
    · rw [List.mem_singleton.mp z]; exact ⟨hL, h8⟩
theorem sp_sh_add {A : sp_A} {L : List Nat} {s : Bool} {c : Nat} : sp_sh (sp_addC A L s) c = if c = A.1.1.length then s else sp_sh A c := by
  unfold sp_sh sp_addC
  dsimp only
  by_cases e : c = A.1.1.length
  · rw [if_pos e, e, List.getElem?_append_right (Nat.le_refl _), Nat.sub_self]
    rfl
  · rw [if_neg e]
    by_cases e2 : c < A.1.1.length
    · rw [List.getElem?_append_left e2]
    · rw [List.getElem?_append_right (by omega), List.getElem?_eq_none (by rw [show ([(L, s)] : List (List Nat × Bool)).length = 1 from rfl]; omega), List.getElem?_eq_none (by omega)]
theorem ha_add0 {L : List Nat} {m : Int32} (h : cd_L 41 A g a b) (h10 : A.1.1.length < 10) (hL : sp_lo L) (h8 : L.length ≤ 8) : ∃ (g' a' : Nat → Nat → Int32) (b' : Nat → Nat → Int64), hr_T 1 32 [.ref 41, .long (Int64.ofNat (sp_cd L)), .int 0, .int m] (cm g l a b R) none (cm g' l a' b' R) ∧ cd_L 41 (sp_addC A L false) g' a' b' ∧ cdr g a b g' a' b' := by
  obtain ⟨⟨k1, k2, k3, k4, k5, k6⟩, k7, k8, k9, k10⟩ := id h
  have hN := h10
  refine ⟨fm_u (fm_u g 41 9 (g 41 9 ||| 0)) 41 8 (nI (A.1.1.length + 1)), fm_u a 48 A.1.1.length m, fm_uf b 42 (vp_updL (b 42) A.1.1.length (Int64.ofNat (sp_cd L))), hr_meth (by rfl) (by rfl) ?_, ⟨⟨?_, ?_, k3, k4, ?_, k6⟩, fun c hc => ?_, k8, k9, k10⟩, fun j hj => ⟨?_, ?_, ?_⟩⟩
  · refine hr_s 3 (pc' := 6) (lc' := [(0, .ref 41), (1, .long (Int64.ofNat (sp_cd L))), (3, .int 0), (4, .int m)]) (stk' := [.int 10, .int (g 41 8)]) (mem' := cm g l a b R) (by intro _ _ _; eq_refl) ?_
    rw [k1]
    refine hr_s 1 (pc' := cond (fx_cb .lt (nI A.1.1.length) 10) 10 9) (lc' := [(0, .ref 41), (1, .long (Int64.ofNat (sp_cd L))), (3, .int 0), (4, .int m)]) (stk' := []) (mem' := cm g l a b R) (by intro _ _ _; eq_refl) ?_
    rw [show (fx_cb .lt (nI A.1.1.length) 10) = true from cb_ltT (a := A.1.1.length) (b := 10) (by omega) (by omega) (by omega)]
    dsimp only [cond]
    refine hr_s 5 (pc' := 19) (lc' := [(0, .ref 41), (1, .long (Int64.ofNat (sp_cd L))), (3, .int 0), (4, .int m)]) (stk' := [.long (Int64.ofNat (sp_cd L)), .int (g 41 8), .ref 42]) (mem' := cm g l a b R) (by intro _ _ _; eq_refl) ?_
    rw [k1]
    refine hr_stL (mem' := cm g l a (fm_uf b 42 (vp_updL (b 42) (nI A.1.1.length).toNatClampNeg (Int64.ofNat (sp_cd L)))) R) (by rfl) (by rfl) (fx_inN (i := A.1.1.length) (by omega) (by omega)) cm_sl42 ?_
    rw [nI_clamp (by omega)]
    refine hr_s 8 (pc' := 41) (lc' := [(0, .ref 41), (1, .long (Int64.ofNat (sp_cd L))), (3, .int 0), (4, .int m)]) (stk' := [.int m, .int (g 41 8), .ref 48]) (mem' := cm g l a (fm_uf b 42 (vp_updL (b 42) A.1.1.length (Int64.ofNat (sp_cd L)))) R) (by intro _ _ _; eq_refl) ?_
    rw [k1]
    refine hr_stI (mem' := cm g l (fm_u a 48 (nI A.1.1.length).toNatClampNeg m) (fm_uf b 42 (vp_updL (b 42) A.1.1.length (Int64.ofNat (sp_cd L)))) R) (by rfl) (by rfl) (fx_inN (i := A.1.1.length) (by omega) (by omega)) cm_si48 ?_
    rw [nI_clamp (by omega)]
    refine hr_s 6 (pc' := 61) (lc' := [(0, .ref 41), (1, .long (Int64.ofNat (sp_cd L))), (3, .int 0), (4, .int m)]) (stk' := [.int 0, .int (g 41 9), .ref 41]) (mem' := cm g l (fm_u a 48 A.1.1.length m) (fm_uf b 42 (vp_updL (b 42) A.1.1.length (Int64.ofNat (sp_cd L)))) R) (by intro _ _ _; eq_refl) ?_
    refine hr_s 7 (pc' := 72) (lc' := [(0, .ref 41), (1, .long (Int64.ofNat (sp_cd L))), (3, .int 0), (4, .int m)]) (stk' := [.int (g 41 8 + 1), .ref 41]) (mem' := cm (fm_u g 41 9 (g 41 9 ||| 0)) l (fm_u a 48 A.1.1.length m) (fm_uf b 42 (vp_updL (b 42) A.1.1.length (Int64.ofNat (sp_cd L)))) R) (by intro _ _ _; eq_refl) ?_
    rw [k1, show nI A.1.1.length + 1 = nI (A.1.1.length + 1) from nI_add _ 1]
    refine hr_s 1 (pc' := 75) (lc' := [(0, .ref 41), (1, .long (Int64.ofNat (sp_cd L))), (3, .int 0), (4, .int m)]) (stk' := []) (mem' := cm (fm_u (fm_u g 41 9 (g 41 9 ||| 0)) 41 8 (nI (A.1.1.length + 1))) l (fm_u a 48 A.1.1.length m) (fm_uf b 42 (vp_updL (b 42) A.1.1.length (Int64.ofNat (sp_cd L)))) R) (by intro _ _ _; eq_refl) ?_
    exact hr_ret (by rfl) (by rfl) (by rfl)
  · show nI (A.1.1.length + 1) = nI (A.1.1 ++ [(L, _)]).length
    rw [List.length_append]
    rfl
  · show (A.1.1 ++ [(L, _)]).length ≤ 10
    rw [List.length_append, show ([(L, false)] : List (List Nat × Bool)).length = 1 from rfl]
    omega
  · show sp_nC (vp_updL (b 42) A.1.1.length (Int64.ofNat (sp_cd L))) ((A.1.1 ++ [(L, _)]).map Prod.fst)
    rw [List.map_append, show A.1.1.length = (A.1.1.map Prod.fst).length from (List.length_map _).symm]
    exact sp_nC_add k5 hL h8
  · rw [sp_sh_add]
    show ((g 41 9 ||| 0) >>> (nI c &&& 31)) &&& 1 = _
    rw [show g 41 9 ||| 0 = g 41 9 from Int32.or_zero]
    by_cases e : c = A.1.1.length
    · rw [if_pos e]
      have := k7 c hc
      rw [e, sp_sh_ge (Nat.le_refl _)] at this
      rw [e]; exact this
    · rw [if_neg e]; exact k7 c hc
  · exact (fm_un (by omega)).trans (fm_un (by omega))
  · exact fm_un (by omega)
  · exact fm_uf_n (by omega)
theorem ha_add1 {L : List Nat} {m : Int32} (h : cd_L 41 A g a b) (h10 : A.1.1.length < 10) (hL : sp_lo L) (h8 : L.length ≤ 8) : ∃ (g' a' : Nat → Nat → Int32) (b' : Nat → Nat → Int64), hr_T 1 32 [.ref 41, .long (Int64.ofNat (sp_cd L)), .int 1, .int m] (cm g l a b R) none (cm g' l a' b' R) ∧ cd_L 41 (sp_addC A L true) g' a' b' ∧ cdr g a b g' a' b' := by
  obtain ⟨⟨k1, k2, k3, k4, k5, k6⟩, k7, k8, k9, k10⟩ := id h
  have hN := h10
  refine ⟨fm_u (fm_u g 41 9 (g 41 9 ||| (1 : Int32) <<< (nI A.1.1.length &&& 31))) 41 8 (nI (A.1.1.length + 1)), fm_u a 48 A.1.1.length 0, fm_uf b 42 (vp_updL (b 42) A.1.1.length (Int64.ofNat (sp_cd L))), hr_meth (by rfl) (by rfl) ?_, ⟨⟨?_, ?_, k3, k4, ?_, k6⟩, fun c hc => ?_, k8, k9, k10⟩, fun j hj => ⟨?_, ?_, ?_⟩⟩
  · refine hr_s 3 (pc' := 6) (lc' := [(0, .ref 41), (1, .long (Int64.ofNat (sp_cd L))), (3, .int 1), (4, .int m)]) (stk' := [.int 10, .int (g 41 8)]) (mem' := cm g l a b R) (by intro _ _ _; eq_refl) ?_
    rw [k1]
    refine hr_s 1 (pc' := cond (fx_cb .lt (nI A.1.1.length) 10) 10 9) (lc' := [(0, .ref 41), (1, .long (Int64.ofNat (sp_cd L))), (3, .int 1), (4, .int m)]) (stk' := []) (mem' := cm g l a b R) (by intro _ _ _; eq_refl) ?_
    rw [show (fx_cb .lt (nI A.1.1.length) 10) = true from cb_ltT (a := A.1.1.length) (b := 10) (by omega) (by omega) (by omega)]
    dsimp only [cond]
    refine hr_s 5 (pc' := 19) (lc' := [(0, .ref 41), (1, .long (Int64.ofNat (sp_cd L))), (3, .int 1), (4, .int m)]) (stk' := [.long (Int64.ofNat (sp_cd L)), .int (g 41 8), .ref 42]) (mem' := cm g l a b R) (by intro _ _ _; eq_refl) ?_
    rw [k1]
    refine hr_stL (mem' := cm g l a (fm_uf b 42 (vp_updL (b 42) (nI A.1.1.length).toNatClampNeg (Int64.ofNat (sp_cd L)))) R) (by rfl) (by rfl) (fx_inN (i := A.1.1.length) (by omega) (by omega)) cm_sl42 ?_
    rw [nI_clamp (by omega)]
    refine hr_s 9 (pc' := 41) (lc' := [(0, .ref 41), (1, .long (Int64.ofNat (sp_cd L))), (3, .int 1), (4, .int m)]) (stk' := [.int 0, .int (g 41 8), .ref 48]) (mem' := cm g l a (fm_uf b 42 (vp_updL (b 42) A.1.1.length (Int64.ofNat (sp_cd L)))) R) (by intro _ _ _; eq_refl) ?_
    rw [k1]
    refine hr_stI (mem' := cm g l (fm_u a 48 (nI A.1.1.length).toNatClampNeg 0) (fm_uf b 42 (vp_updL (b 42) A.1.1.length (Int64.ofNat (sp_cd L)))) R) (by rfl) (by rfl) (fx_inN (i := A.1.1.length) (by omega) (by omega)) cm_si48 ?_
    rw [nI_clamp (by omega)]
    refine hr_s 10 (pc' := 61) (lc' := [(0, .ref 41), (1, .long (Int64.ofNat (sp_cd L))), (3, .int 1), (4, .int m)]) (stk' := [.int ((1 : Int32) <<< (g 41 8 &&& 31)), .int (g 41 9), .ref 41]) (mem' := cm g l (fm_u a 48 A.1.1.length 0) (fm_uf b 42 (vp_updL (b 42) A.1.1.length (Int64.ofNat (sp_cd L)))) R) (by intro _ _ _; eq_refl) ?_
    rw [k1]
    refine hr_s 7 (pc' := 72) (lc' := [(0, .ref 41), (1, .long (Int64.ofNat (sp_cd L))), (3, .int 1), (4, .int m)]) (stk' := [.int (g 41 8 + 1), .ref 41]) (mem' := cm (fm_u g 41 9 (g 41 9 ||| (1 : Int32) <<< (nI A.1.1.length &&& 31))) l (fm_u a 48 A.1.1.length 0) (fm_uf b 42 (vp_updL (b 42) A.1.1.length (Int64.ofNat (sp_cd L)))) R) (by intro _ _ _; eq_refl) ?_
    rw [k1, show nI A.1.1.length + 1 = nI (A.1.1.length + 1) from nI_add _ 1]
    refine hr_s 1 (pc' := 75) (lc' := [(0, .ref 41), (1, .long (Int64.ofNat (sp_cd L))), (3, .int 1), (4, .int m)]) (stk' := []) (mem' := cm (fm_u (fm_u g 41 9 (g 41 9 ||| (1 : Int32) <<< (nI A.1.1.length &&& 31))) 41 8 (nI (A.1.1.length + 1))) l (fm_u a 48 A.1.1.length 0) (fm_uf b 42 (vp_updL (b 42) A.1.1.length (Int64.ofNat (sp_cd L)))) R) (by intro _ _ _; eq_refl) ?_
    exact hr_ret (by rfl) (by rfl) (by rfl)
  · show nI (A.1.1.length + 1) = nI (A.1.1 ++ [(L, _)]).length
    rw [List.length_append]
    rfl
  · show (A.1.1 ++ [(L, _)]).length ≤ 10
    rw [List.length_append, show ([(L, true)] : List (List Nat × Bool)).length = 1 from rfl]
    omega
  · show sp_nC (vp_updL (b 42) A.1.1.length (Int64.ofNat (sp_cd L))) ((A.1.1 ++ [(L, _)]).map Prod.fst)
    rw [List.map_append, show A.1.1.length = (A.1.1.map Prod.fst).length from (List.length_map _).symm]
    exact sp_nC_add k5 hL h8
  · rw [sp_sh_add]
    show ((g 41 9 ||| (1 : Int32) <<< (nI A.1.1.length &&& 31)) >>> (nI c &&& 31)) &&& 1 = _
    rw [bi_or _ (by omega) (by omega)]
    by_cases e : c = A.1.1.length
    · rw [if_pos e, if_pos e, if_pos rfl]
    · rw [if_neg e, if_neg e]; exact k7 c hc
  · exact (fm_un (by omega)).trans (fm_un (by omega))
  · exact fm_un (by omega)
  · exact fm_uf_n (by omega)
theorem sp_W_get {l : List (List Nat × Nat)} {L : List Nat} {w : Nat} {i : Nat} {M : List Nat} {v : Nat} (h : (l ++ [(L, w)])[i]? = some (M, v)) : i < l.length ∧ l[i]? = some (M, v) ∨ i = l.length ∧ v = w := by
  have hlt := (List.getElem?_eq_some_iff.mp h).1
  rw [List.length_append, show ([(L, w)] : List (List Nat × Nat)).length = 1 from rfl] at hlt
  by_cases e : i = l.length
  · rw [e, List.getElem?_append_right (Nat.le_refl _), Nat.sub_self] at h
    cases h
    exact Or.inr ⟨e, rfl⟩
  · rw [List.getElem?_append_left (by omega)] at h
    exact Or.inl ⟨by omega, h⟩
theorem ha_addW {L : List Nat} {w i : Nat} (h : cd_L 41 A g a b) (h8' : A.1.2.length < 8) (hL : sp_lo L) (h8 : L.length ≤ 8) (hi : i < A.1.1.length) (hw1 : 1 ≤ w) (hw : w ≤ 99) : ∃ (g' a' : Nat → Nat → Int32) (b' : Nat → Nat → Int64), hr_T 2 33 [.ref 41, .long (Int64.ofNat (sp_cd L)), .int (nI w), .int (nI i)] (cm g l a b R) none (cm g' l a' b' R) ∧ cd_L 41 (sp_addW A L w) g' a' b' ∧ cdr g a b g' a' b' := by
  obtain ⟨⟨k1, k2, k3, k4, k5, k6⟩, k7, k8, k9, k10⟩ := id h
  refine ⟨fm_u g 52 7 (nI (A.1.2.length + 1)), fm_u (fm_u (fm_u a 54 A.1.2.length (nI w)) 55 A.1.2.length (nI i)) 45 i (a 45 i ||| ((1 : Int32) <<< (nI A.1.2.length &&& 31))), (fm_uf b 53 (vp_updL (b 53) A.1.2.length (Int64.ofNat (sp_cd L)))), hr_meth (by rfl) (by rfl) ?_, ⟨⟨k1, k2, ?_, ?_, k5, ?_⟩, k7, k8, k9, fun j M v hj => ?_⟩, fun j hj => ⟨?_, ?_, ?_⟩⟩
  · refine hr_s 3 (pc' := 7) (lc' := [(0, .ref 41), (1, .long (Int64.ofNat (sp_cd L))), (3, .int (nI w)), (4, .int (nI i))]) (stk' := [.int (g 52 7)]) (mem' := cm g l a b R) (by intro _ _ _; eq_refl) ?_
    rw [show g 52 7 = nI A.1.2.length from k3]
    refine hr_s 3 (pc' := 13) (lc' := [(5, .int (nI A.1.2.length)), (0, .ref 41), (1, .long (Int64.ofNat (sp_cd L))), (3, .int (nI w)), (4, .int (nI i))]) (stk' := [.int 8, .int (nI A.1.2.length)]) (mem' := cm g l a b R) (by intro _ _ _; eq_refl) ?_
    refine hr_s 1 (pc' := cond (fx_cb .ge (nI A.1.2.length) 8) 25 16) (lc' := [(5, .int (nI A.1.2.length)), (0, .ref 41), (1, .long (Int64.ofNat (sp_cd L))), (3, .int (nI w)), (4, .int (nI i))]) (stk' := []) (mem' := cm g l a b R) (by intro _ _ _; eq_refl) ?_
    rw [show (fx_cb .ge (nI A.1.2.length) 8) = false from cb_geF (a := A.1.2.length) (b := 8) (by omega) (by omega) (by omega)]
    dsimp only [cond]
    refine hr_s 2 (pc' := 19) (lc' := [(5, .int (nI A.1.2.length)), (0, .ref 41), (1, .long (Int64.ofNat (sp_cd L))), (3, .int (nI w)), (4, .int (nI i))]) (stk' := [.int (nI i), .ref 41]) (mem' := cm g l a b R) (by intro _ _ _; eq_refl) ?_
    refine hr_ivV (ha_ic41 k1 k2 hi) (by omega) (by rfl) (by rfl) (by rfl) (by rfl) (by rfl) (by rfl) ?_
    refine hr_s 6 (pc' := 36) (lc' := [(5, .int (nI A.1.2.length)), (0, .ref 41), (1, .long (Int64.ofNat (sp_cd L))), (3, .int (nI w)), (4, .int (nI i))]) (stk' := [.long (Int64.ofNat (sp_cd L)), .int (nI A.1.2.length), .ref 53]) (mem' := cm g l a b R) (by intro _ _ _; eq_refl) ?_
    refine hr_stL (mem' := cm g l a (fm_uf b 53 (vp_updL (b 53) (nI A.1.2.length).toNatClampNeg (Int64.ofNat (sp_cd L)))) R) (by rfl) (by rfl) (fx_inN (i := A.1.2.length) (by omega) (by omega)) cm_sl53 ?_
    rw [show (nI A.1.2.length).toNatClampNeg = A.1.2.length from nI_clamp (by omega)]
    refine hr_s 5 (pc' := 47) (lc' := [(5, .int (nI A.1.2.length)), (0, .ref 41), (1, .long (Int64.ofNat (sp_cd L))), (3, .int (nI w)), (4, .int (nI i))]) (stk' := [.int (nI w), .int (nI A.1.2.length), .ref 54]) (mem' := cm g l a (fm_uf b 53 (vp_updL (b 53) A.1.2.length (Int64.ofNat (sp_cd L)))) R) (by intro _ _ _; eq_refl) ?_
    refine hr_stI (mem' := cm g l (fm_u a 54 (nI A.1.2.length).toNatClampNeg (nI w)) (fm_uf b 53 (vp_updL (b 53) A.1.2.length (Int64.ofNat (sp_cd L)))) R) (by rfl) (by rfl) (fx_inN (i := A.1.2.length) (by omega) (by omega)) cm_si54 ?_
    rw [show (nI A.1.2.length).toNatClampNeg = A.1.2.length from nI_clamp (by omega)]
    refine hr_s 5 (pc' := 59) (lc' := [(5, .int (nI A.1.2.length)), (0, .ref 41), (1, .long (Int64.ofNat (sp_cd L))), (3, .int (nI w)), (4, .int (nI i))]) (stk' := [.int (nI i), .int (nI A.1.2.length), .ref 55]) (mem' := cm g l (fm_u a 54 A.1.2.length (nI w)) (fm_uf b 53 (vp_updL (b 53) A.1.2.length (Int64.ofNat (sp_cd L)))) R) (by intro _ _ _; eq_refl) ?_
    refine hr_stI (mem' := cm g l (fm_u (fm_u a 54 A.1.2.length (nI w)) 55 (nI A.1.2.length).toNatClampNeg (nI i)) (fm_uf b 53 (vp_updL (b 53) A.1.2.length (Int64.ofNat (sp_cd L)))) R) (by rfl) (by rfl) (fx_inN (i := A.1.2.length) (by omega) (by omega)) cm_si55 ?_
    rw [show (nI A.1.2.length).toNatClampNeg = A.1.2.length from nI_clamp (by omega)]
    refine hr_s 4 (pc' := 67) (lc' := [(5, .int (nI A.1.2.length)), (0, .ref 41), (1, .long (Int64.ofNat (sp_cd L))), (3, .int (nI w)), (4, .int (nI i))]) (stk' := [.int (nI i), .ref 45, .int (nI i), .ref 45]) (mem' := cm g l (fm_u (fm_u a 54 A.1.2.length (nI w)) 55 A.1.2.length (nI i)) (fm_uf b 53 (vp_updL (b 53) A.1.2.length (Int64.ofNat (sp_cd L)))) R) (by intro _ _ _; eq_refl) ?_
    refine hr_ldI (by rfl) (by rfl) (fx_inN (i := i) (by omega) (by omega)) ?_
    rw [show (nI i).toNatClampNeg = i from nI_clamp (by omega)]
    refine hr_s 4 (pc' := 73) (lc' := [(5, .int (nI A.1.2.length)), (0, .ref 41), (1, .long (Int64.ofNat (sp_cd L))), (3, .int (nI w)), (4, .int (nI i))]) (stk' := [.int (a 45 i ||| ((1 : Int32) <<< (nI A.1.2.length &&& 31))), .int (nI i), .ref 45]) (mem' := cm g l (fm_u (fm_u a 54 A.1.2.length (nI w)) 55 A.1.2.length (nI i)) (fm_uf b 53 (vp_updL (b 53) A.1.2.length (Int64.ofNat (sp_cd L)))) R) (by intro _ _ _; eq_refl) ?_
    refine hr_stI (mem' := cm g l (fm_u (fm_u (fm_u a 54 A.1.2.length (nI w)) 55 A.1.2.length (nI i)) 45 (nI i).toNatClampNeg (a 45 i ||| ((1 : Int32) <<< (nI A.1.2.length &&& 31)))) (fm_uf b 53 (vp_updL (b 53) A.1.2.length (Int64.ofNat (sp_cd L)))) R) (by rfl) (by rfl) (fx_inN (i := i) (by omega) (by omega)) cm_si45 ?_
    rw [show (nI i).toNatClampNeg = i from nI_clamp (by omega)]
    refine hr_s 6 (pc' := 84) (lc' := [(5, .int (nI A.1.2.length)), (0, .ref 41), (1, .long (Int64.ofNat (sp_cd L))), (3, .int (nI w)), (4, .int (nI i))]) (stk' := [.int (g 52 7 + 1), .ref 52]) (mem' := cm g l (fm_u (fm_u (fm_u a 54 A.1.2.length (nI w)) 55 A.1.2.length (nI i)) 45 i (a 45 i ||| ((1 : Int32) <<< (nI A.1.2.length &&& 31)))) (fm_uf b 53 (vp_updL (b 53) A.1.2.length (Int64.ofNat (sp_cd L)))) R) (by intro _ _ _; eq_refl) ?_
    rw [show g 52 7 = nI A.1.2.length from k3, show nI A.1.2.length + 1 = nI (A.1.2.length + 1) from nI_add _ 1]
    refine hr_s 1 (pc' := 87) (lc' := [(5, .int (nI A.1.2.length)), (0, .ref 41), (1, .long (Int64.ofNat (sp_cd L))), (3, .int (nI w)), (4, .int (nI i))]) (stk' := []) (mem' := cm (fm_u g 52 7 (nI (A.1.2.length + 1))) l (fm_u (fm_u (fm_u a 54 A.1.2.length (nI w)) 55 A.1.2.length (nI i)) 45 i (a 45 i ||| ((1 : Int32) <<< (nI A.1.2.length &&& 31)))) (fm_uf b 53 (vp_updL (b 53) A.1.2.length (Int64.ofNat (sp_cd L)))) R) (by intro _ _ _; eq_refl) ?_
    exact hr_ret (by rfl) (by rfl) (by rfl)
  · show nI (A.1.2.length + 1) = nI (A.1.2 ++ [(L, w)]).length
    rw [List.length_append]
    rfl
  · show (A.1.2 ++ [(L, w)]).length ≤ 8
    rw [List.length_append, show ([(L, w)] : List (List Nat × Nat)).length = 1 from rfl]
    omega
  · show sp_nC (vp_updL (b 53) A.1.2.length (Int64.ofNat (sp_cd L))) ((A.1.2 ++ [(L, w)]).map Prod.fst)
    rw [List.map_append, show A.1.2.length = (A.1.2.map Prod.fst).length from (List.length_map _).symm]
    exact sp_nC_add k6 hL h8
  · show upd (a 54) A.1.2.length (nI w) j = nI v ∧ _
    rcases sp_W_get hj with ⟨j1, j2⟩ | ⟨j1, rfl⟩
    · rw [pk_un (by omega)]
      exact k10 j M v j2
    · rw [j1, pk_us]
      exact ⟨rfl, hw1, hw⟩
  · exact fm_un (by omega)
  · exact (fm_un (by omega)).trans ((fm_un (by omega)).trans (fm_un (by omega)))
  · exact fm_uf_n (by omega)
end CLK
