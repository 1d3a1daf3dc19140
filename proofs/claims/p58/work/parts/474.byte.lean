/-! ===== fx: the text: a byte, a token ===== -/
section FTX
variable {g : Nat → Int32} {tp bt : Int64} {a : Nat → Nat → Int32} {b : Nat → Nat → Int64}
/-- a byte of the text -/
def fm_byte (a : Nat → Nat → Int32) (S k : Nat) : Int32 := if k < S then a 7 k &&& 255 else -1
theorem fm_255 (x : Int32) : ∃ n, n ≤ 255 ∧ x &&& 255 = nI n := by
  have h1 : (x &&& 255).toBitVec.toNat ≤ 255 := by
    rw [Int32.toBitVec_and, BitVec.toNat_and]
    exact Nat.and_le_right
  refine ⟨(x &&& 255).toBitVec.toNat, h1, ?_⟩
  apply Int32.toBitVec_inj.mp
  show _ = BitVec.ofNat 32 _
  rw [BitVec.ofNat_toNat, BitVec.setWidth_eq]
theorem fm_byte_or (a : Nat → Nat → Int32) (S k : Nat) : (fm_byte a S k = -1 ∧ S ≤ k) ∨ (k < S ∧ ∃ n, n ≤ 255 ∧ fm_byte a S k = nI n) := by
  unfold fm_byte
  by_cases h : k < S
  · rw [if_pos h]; exact Or.inr ⟨h, fm_255 _⟩
  · rw [if_neg h]; exact Or.inl ⟨rfl, by omega⟩
theorem fr_byteAt {S k : Nat} (hS : g 11 = nI S) (hS9 : S ≤ 900) (hk : k < 2147483648) : fr_T 1 221 [.ref 0, .int (nI k)] (fm g tp bt a b) (some (.int (fm_byte a S k))) (fm g tp bt a b) := by
  refine fr_meth (by rfl) (by rfl) ?_
  unfold fm_byte
  refine fr_s 3 (pc' := 5) (lc' := [(0, .ref 0), (1, .int (nI k))]) (stk' := [.int (g 11), .int (nI k)]) (mem' := fm g tp bt a b) (by intro _ _ _; eq_refl) ?_
  try rw [hS]
  by_cases h : k < S
  · rw [if_pos h]
    refine fr_s 1 (pc' := cond (fx_cb .ge (nI k) (nI S)) 21 8) (lc' := [(0, .ref 0), (1, .int (nI k))]) (stk' := []) (mem' := fm g tp bt a b) (by intro _ _ _; eq_refl) ?_
    rw [show (fx_cb .ge (nI k) (nI S)) = false from cb_geF (a := k) (b := S) (by omega) (by omega) (by omega)]
    dsimp only [cond]
    refine fr_s 3 (pc' := 13) (lc' := [(0, .ref 0), (1, .int (nI k))]) (stk' := [.int (nI k), .ref 7]) (mem' := fm g tp bt a b) (by intro _ _ _; eq_refl) ?_
    refine fr_ldB (by rfl) (by rfl) (fx_inN (i := k) (by omega) (by omega)) ?_
    rw [nI_clamp (by omega)]
    refine fr_s 3 (pc' := 22) (lc' := [(0, .ref 0), (1, .int (nI k))]) (stk' := [.int ((a 7 k) &&& 255)]) (mem' := fm g tp bt a b) (by intro _ _ _; eq_refl) ?_
    exact fr_ret (by rfl) (by rfl) (by rfl)
  · rw [if_neg h]
    refine fr_s 1 (pc' := cond (fx_cb .ge (nI k) (nI S)) 21 8) (lc' := [(0, .ref 0), (1, .int (nI k))]) (stk' := []) (mem' := fm g tp bt a b) (by intro _ _ _; eq_refl) ?_
    rw [show (fx_cb .ge (nI k) (nI S)) = true from cb_geT (a := k) (b := S) (by omega) (by omega) (by omega)]
    dsimp only [cond]
    refine fr_s 1 (pc' := 22) (lc' := [(0, .ref 0), (1, .int (nI k))]) (stk' := [.int (-1)]) (mem' := fm g tp bt a b) (by intro _ _ _; eq_refl) ?_
    exact fr_ret (by rfl) (by rfl) (by rfl)
theorem fr_isSmall1 {n : Nat} {mem : fx_M} (h1 : 97 ≤ n) (h2 : n ≤ 122) : fr_T 1 222 [.int (nI n)] mem (some (.int 1)) mem := by
  refine fr_meth (by rfl) (by rfl) ?_
  refine fr_s 2 (pc' := 3) (lc' := [(0, .int (nI n))]) (stk' := [.int 97, .int (nI n)]) (mem' := mem) (by intro _ _ _; eq_refl) ?_
  refine fr_s 1 (pc' := cond (fx_cb .lt (nI n) 97) 16 6) (lc' := [(0, .int (nI n))]) (stk' := []) (mem' := mem) (by intro _ _ _; eq_refl) ?_
  rw [show (fx_cb .lt (nI n) 97) = false from cb_ltF (a := n) (b := 97) (by omega) (by omega) (by omega)]
  dsimp only [cond]
  refine fr_s 2 (pc' := 9) (lc' := [(0, .int (nI n))]) (stk' := [.int 122, .int (nI n)]) (mem' := mem) (by intro _ _ _; eq_refl) ?_
  refine fr_s 1 (pc' := cond (fx_cb .gt (nI n) 122) 16 12) (lc' := [(0, .int (nI n))]) (stk' := []) (mem' := mem) (by intro _ _ _; eq_refl) ?_
  rw [show (fx_cb .gt (nI n) 122) = false from cb_gtF (a := n) (b := 122) (by omega) (by omega) (by omega)]
  dsimp only [cond]
  refine fr_s 2 (pc' := 17) (lc' := [(0, .int (nI n))]) (stk' := [.int 1]) (mem' := mem) (by intro _ _ _; eq_refl) ?_
  exact fr_ret (by rfl) (by rfl) (by rfl)
theorem fr_isSmall0 {n : Nat} {mem : fx_M} (hn : n < 2147483648) (h : ¬ (97 ≤ n ∧ n ≤ 122)) : fr_T 1 222 [.int (nI n)] mem (some (.int 0)) mem := by
  refine fr_meth (by rfl) (by rfl) ?_
  refine fr_s 2 (pc' := 3) (lc' := [(0, .int (nI n))]) (stk' := [.int 97, .int (nI n)]) (mem' := mem) (by intro _ _ _; eq_refl) ?_
  refine fr_s 1 (pc' := cond (fx_cb .lt (nI n) 97) 16 6) (lc' := [(0, .int (nI n))]) (stk' := []) (mem' := mem) (by intro _ _ _; eq_refl) ?_
  by_cases h7 : n < 97
  · rw [show (fx_cb .lt (nI n) 97) = true from cb_ltT (a := n) (b := 97) (by omega) (by omega) (by omega)]
    dsimp only [cond]
    refine fr_s 1 (pc' := 17) (lc' := [(0, .int (nI n))]) (stk' := [.int 0]) (mem' := mem) (by intro _ _ _; eq_refl) ?_
    exact fr_ret (by rfl) (by rfl) (by rfl)
  · rw [show (fx_cb .lt (nI n) 97) = false from cb_ltF (a := n) (b := 97) (by omega) (by omega) (by omega)]
    dsimp only [cond]
    refine fr_s 2 (pc' := 9) (lc' := [(0, .int (nI n))]) (stk' := [.int 122, .int (nI n)]) (mem' := mem) (by intro _ _ _; eq_refl) ?_
    refine fr_s 1 (pc' := cond (fx_cb .gt (nI n) 122) 16 12) (lc' := [(0, .int (nI n))]) (stk' := []) (mem' := mem) (by intro _ _ _; eq_refl) ?_
    by_cases h8 : 122 < n
    · rw [show (fx_cb .gt (nI n) 122) = true from cb_gtT (a := n) (b := 122) (by omega) (by omega) (by omega)]
      dsimp only [cond]
      refine fr_s 1 (pc' := 17) (lc' := [(0, .int (nI n))]) (stk' := [.int 0]) (mem' := mem) (by intro _ _ _; eq_refl) ?_
      exact fr_ret (by rfl) (by rfl) (by rfl)
    · rw [show (fx_cb .gt (nI n) 122) = false from cb_gtF (a := n) (b := 122) (by omega) (by omega) (by omega)]
      dsimp only [cond]
      refine fr_s 2 (pc' := 17) (lc' := [(0, .int (nI n))]) (stk' := [.int 1]) (mem' := mem) (by intro _ _ _; eq_refl) ?_
      exact absurd ⟨by omega, by omega⟩ h
theorem fr_isSmallN  {mem : fx_M}  : fr_T 1 222 [.int (-1)] mem (some (.int 0)) mem := by
  refine fr_meth (by rfl) (by rfl) ?_
  refine fr_s 2 (pc' := 3) (lc' := [(0, .int (-1))]) (stk' := [.int 97, .int (-1)]) (mem' := mem) (by intro _ _ _; eq_refl) ?_
  refine fr_s 1 (pc' := cond (fx_cb .lt (-1) 97) 16 6) (lc' := [(0, .int (-1))]) (stk' := []) (mem' := mem) (by intro _ _ _; eq_refl) ?_
  rw [show (fx_cb .lt (-1) 97) = true from by decide]
  dsimp only [cond]
  refine fr_s 1 (pc' := 17) (lc' := [(0, .int (-1))]) (stk' := [.int 0]) (mem' := mem) (by intro _ _ _; eq_refl) ?_
  exact fr_ret (by rfl) (by rfl) (by rfl)
theorem fr_isDigit1 {n : Nat} {mem : fx_M} (h1 : 48 ≤ n) (h2 : n ≤ 57) : fr_T 1 223 [.int (nI n)] mem (some (.int 1)) mem := by
  refine fr_meth (by rfl) (by rfl) ?_
  refine fr_s 2 (pc' := 3) (lc' := [(0, .int (nI n))]) (stk' := [.int 48, .int (nI n)]) (mem' := mem) (by intro _ _ _; eq_refl) ?_
  refine fr_s 1 (pc' := cond (fx_cb .lt (nI n) 48) 16 6) (lc' := [(0, .int (nI n))]) (stk' := []) (mem' := mem) (by intro _ _ _; eq_refl) ?_
  rw [show (fx_cb .lt (nI n) 48) = false from cb_ltF (a := n) (b := 48) (by omega) (by omega) (by omega)]
  dsimp only [cond]
  refine fr_s 2 (pc' := 9) (lc' := [(0, .int (nI n))]) (stk' := [.int 57, .int (nI n)]) (mem' := mem) (by intro _ _ _; eq_refl) ?_
  refine fr_s 1 (pc' := cond (fx_cb .gt (nI n) 57) 16 12) (lc' := [(0, .int (nI n))]) (stk' := []) (mem' := mem) (by intro _ _ _; eq_refl) ?_
  rw [show (fx_cb .gt (nI n) 57) = false from cb_gtF (a := n) (b := 57) (by omega) (by omega) (by omega)]
  dsimp only [cond]
  refine fr_s 2 (pc' := 17) (lc' := [(0, .int (nI n))]) (stk' := [.int 1]) (mem' := mem) (by intro _ _ _; eq_refl) ?_
  exact fr_ret (by rfl) (by rfl) (by rfl)
theorem fr_isDigit0 {n : Nat} {mem : fx_M} (hn : n < 2147483648) (h : ¬ (48 ≤ n ∧ n ≤ 57)) : fr_T 1 223 [.int (nI n)] mem (some (.int 0)) mem := by
  refine fr_meth (by rfl) (by rfl) ?_
  refine fr_s 2 (pc' := 3) (lc' := [(0, .int (nI n))]) (stk' := [.int 48, .int (nI n)]) (mem' := mem) (by intro _ _ _; eq_refl) ?_
  refine fr_s 1 (pc' := cond (fx_cb .lt (nI n) 48) 16 6) (lc' := [(0, .int (nI n))]) (stk' := []) (mem' := mem) (by intro _ _ _; eq_refl) ?_
  by_cases h3 : n < 48
  · rw [show (fx_cb .lt (nI n) 48) = true from cb_ltT (a := n) (b := 48) (by omega) (by omega) (by omega)]
    dsimp only [cond]
    refine fr_s 1 (pc' := 17) (lc' := [(0, .int (nI n))]) (stk' := [.int 0]) (mem' := mem) (by intro _ _ _; eq_refl) ?_
    exact fr_ret (by rfl) (by rfl) (by rfl)
  · rw [show (fx_cb .lt (nI n) 48) = false from cb_ltF (a := n) (b := 48) (by omega) (by omega) (by omega)]
    dsimp only [cond]
    refine fr_s 2 (pc' := 9) (lc' := [(0, .int (nI n))]) (stk' := [.int 57, .int (nI n)]) (mem' := mem) (by intro _ _ _; eq_refl) ?_
    refine fr_s 1 (pc' := cond (fx_cb .gt (nI n) 57) 16 12) (lc' := [(0, .int (nI n))]) (stk' := []) (mem' := mem) (by intro _ _ _; eq_refl) ?_
    by_cases h4 : 57 < n
    · rw [show (fx_cb .gt (nI n) 57) = true from cb_gtT (a := n) (b := 57) (by omega) (by omega) (by omega)]
      dsimp only [cond]
      refine fr_s 1 (pc' := 17) (lc' := [(0, .int (nI n))]) (stk' := [.int 0]) (mem' := mem) (by intro _ _ _; eq_refl) ?_
      exact fr_ret (by rfl) (by rfl) (by rfl)
    · rw [show (fx_cb .gt (nI n) 57) = false from cb_gtF (a := n) (b := 57) (by omega) (by omega) (by omega)]
      dsimp only [cond]
      refine fr_s 2 (pc' := 17) (lc' := [(0, .int (nI n))]) (stk' := [.int 1]) (mem' := mem) (by intro _ _ _; eq_refl) ?_
      exact absurd ⟨by omega, by omega⟩ h
theorem fr_isDigitN  {mem : fx_M}  : fr_T 1 223 [.int (-1)] mem (some (.int 0)) mem := by
  refine fr_meth (by rfl) (by rfl) ?_
  refine fr_s 2 (pc' := 3) (lc' := [(0, .int (-1))]) (stk' := [.int 48, .int (-1)]) (mem' := mem) (by intro _ _ _; eq_refl) ?_
  refine fr_s 1 (pc' := cond (fx_cb .lt (-1) 48) 16 6) (lc' := [(0, .int (-1))]) (stk' := []) (mem' := mem) (by intro _ _ _; eq_refl) ?_
  rw [show (fx_cb .lt (-1) 48) = true from by decide]
  dsimp only [cond]
  refine fr_s 1 (pc' := 17) (lc' := [(0, .int (-1))]) (stk' := [.int 0]) (mem' := mem) (by intro _ _ _; eq_refl) ?_
  exact fr_ret (by rfl) (by rfl) (by rfl)
end FTX
