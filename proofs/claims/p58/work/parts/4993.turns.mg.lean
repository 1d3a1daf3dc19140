section MH10_0
/-! ===== fx: queues: bits, swaps, turns, gaps ===== -/
section FQ1
variable {g : Nat → Int32} {tp bt : Int64} {a0 a : Nat → Nat → Int32} {b : Nat → Nat → Int64}
/-- how many of the first w bits are set -/
def fm_pw (S : Nat) : Nat → Nat
  | 0 => 0
  | w + 1 => if fm_b (nI S) (nI w) = 1 then fm_pw S w + 1 else fm_pw S w
theorem fm_pw_s (S w : Nat) (h : fm_b (nI S) (nI w) = 1) : fm_pw S (w + 1) = fm_pw S w + 1 := if_pos h
theorem fm_pw_z (S w : Nat) (h : fm_b (nI S) (nI w) = 0) : fm_pw S (w + 1) = fm_pw S w := if_neg (by rw [h]; decide)
theorem fm_pw_m (S w : Nat) : fm_pw S w ≤ fm_pw S (w + 1) := by
  rcases fm_b_01 (nI S) (nI w) with h | h
  · rw [fm_pw_z S w h]; omega
  · rw [fm_pw_s S w h]; omega
theorem fm_pw_w (S : Nat) : ∀ w, fm_pw S w ≤ w := by
  intro w
  induction w with
  | zero => exact Nat.le_refl _
  | succ w ih =>
    rcases fm_b_01 (nI S) (nI w) with h | h
    · rw [fm_pw_z S w h]; omega
    · rw [fm_pw_s S w h]; omega
theorem fm_pw_le (S w : Nat) : ∀ k, fm_pw S w ≤ fm_pw S (w + k) := by
  intro k
  induction k with
  | zero => exact Nat.le_refl _
  | succ k ih => exact Nat.le_trans ih (fm_pw_m S (w + k))
def fm_pwk (S : Nat) : Bool := S == 0 || (nI S &&& (nI S - 1) == nI (S &&& (S - 1)) && decide ((S &&& (S - 1)) < S) && fm_pw S 8 == fm_pw (S &&& (S - 1)) 8 + 1 && fx_cb .eq (nI S) 0 == false)
theorem fm_pwk_all : ∀ S, S < 256 → fm_pwk S = true := by decide +kernel
def fm_pw0 (N S : Nat) : Bool := decide (S = 0) || decide (2 ^ N ≤ S) || decide (fm_pw S N ≠ 0)
theorem fm_pw0_all : ∀ N, N < 9 → ∀ S, S < 256 → fm_pw0 N S = true := by decide +kernel
theorem fm_pw_pos {N S : Nat} (hN : N ≤ 8) (h0 : 1 ≤ S) (hS : S < 2 ^ N) : fm_pw S N ≠ 0 := by
  have h8 : 2 ^ N ≤ 2 ^ 8 := Nat.pow_le_pow_right (by decide) hN
  have := fm_pw0_all N (by omega) S (by omega)
  unfold fm_pw0 at this
  simp only [Bool.or_eq_true, decide_eq_true_eq] at this
  omega
theorem fr_bitsN {S : Nat} {mem : fx_M} (hS : S < 256) : fr_T 1 261 [.int (nI S)] mem (some (.int (nI (fm_pw S 8)))) mem := by
  have main : ∃ (v : Option Value) (mem' : fx_M), (fun R => R = (some (.int (nI (fm_pw S 8))), mem)) (v, mem') ∧ fr_T 1 261 [.int (nI S)] mem v mem' := by
    refine fe_meth (F := fun R => R = (some (.int (nI (fm_pw S 8))), mem)) (M := gk_m261) (by rfl) (by rfl) ?_
    have loop : ∀ (r k n : Nat), k < r → k < 256 → n + fm_pw k 8 = fm_pw S 8 → fe_R 0 gk_m261 4 [(2, .int (nI k)), (1, .int (nI n)), (0, .int (nI S))] [] mem (fun R => R = (some (.int (nI (fm_pw S 8))), mem)) := by
      intro r
      induction r with
      | zero => intro k n h; exact absurd h (Nat.not_lt_zero _)
      | succ r ih =>
        intro k n h hk hs
        refine fe_s 1 (pc' := 5) (lc' := [(2, .int (nI k)), (1, .int (nI n)), (0, .int (nI S))]) (stk' := [.int (nI k)]) (mem' := mem) (by intro _ _ _; eq_refl) ?_
        refine fe_s 1 (pc' := cond (fx_cb .eq (nI k) 0) 20 8) (lc' := [(2, .int (nI k)), (1, .int (nI n)), (0, .int (nI S))]) (stk' := []) (mem' := mem) (by intro _ _ _; eq_refl) ?_
        by_cases e : k = 0
        · subst e
          rw [show fx_cb .eq (nI 0) 0 = true from by decide]
          dsimp only [cond]
          refine fe_s 1 (pc' := 21) (lc' := [(2, .int (nI 0)), (1, .int (nI n)), (0, .int (nI S))]) (stk' := [.int (nI n)]) (mem' := mem) (by intro _ _ _; eq_refl) ?_
          rw [show fm_pw 0 8 = 0 from by decide] at hs
          obtain rfl : n = fm_pw S 8 := by omega
          exact fe_ret rfl (by rfl) (by rfl) (by rfl)
        · have hk2 := fm_pwk_all k hk
          unfold fm_pwk at hk2
          simp only [Bool.or_eq_true, Bool.and_eq_true, beq_iff_eq, decide_eq_true_eq] at hk2
          obtain ⟨⟨⟨h1, h2⟩, h3⟩, h4⟩ := hk2.resolve_left e
          rw [h4]
          dsimp only [cond]
          refine fe_s 8 (pc' := 4) (lc' := [(2, .int (nI k &&& (nI k - 1))), (1, .int (nI n + 1)), (0, .int (nI S))]) (stk' := []) (mem' := mem) (by intro _ _ _; eq_refl) ?_
          rw [h1, show (nI n + 1 : Int32) = nI (n + 1) from nI_add n 1]
          exact ih _ (n + 1) (by omega) (by omega) (by omega)
    refine fe_s 4 (pc' := 4) (lc' := [(2, .int (nI S)), (1, .int 0), (0, .int (nI S))]) (stk' := []) (mem' := mem) (by intro _ _ _; eq_refl) ?_
    exact loop (S + 1) S 0 (by omega) hS (by omega)
  obtain ⟨v, mem', e, h⟩ := main
  cases e
  exact h
theorem fr_swaps {x y : Nat} (hx : x < 4) (hy : y < 4) : fr_T 1 332 [.ref 0, .int (nI x), .int (nI y)] (fm g tp bt a b) none (fm g tp bt (fm_u (fm_u a 10 x (a 10 y)) 10 y (a 10 x)) b) := by
  refine fr_meth (by rfl) (by rfl) ?_
  refine fr_s 3 (pc' := 5) (lc' := [(0, .ref 0), (1, .int (nI x)), (2, .int (nI y))]) (stk' := [.int (nI x), .ref 10]) (mem' := fm g tp bt a b) (by intro _ _ _; eq_refl) ?_
  refine fr_ldI (by rfl) (by rfl) (fx_inN (i := x) (by omega) (by omega)) ?_
  rw [show Int32.toNatClampNeg (nI x) = x from nI_clamp (by omega)]
  refine fr_s 7 (pc' := 17) (lc' := [(3, .int (a 10 x)), (0, .ref 0), (1, .int (nI x)), (2, .int (nI y))]) (stk' := [.int (nI y), .ref 10, .int (nI x), .ref 10]) (mem' := fm g tp bt a b) (by intro _ _ _; eq_refl) ?_
  refine fr_ldI (by rfl) (by rfl) (fx_inN (i := y) (by omega) (by omega)) ?_
  rw [show Int32.toNatClampNeg (nI y) = y from nI_clamp (by omega)]
  refine fr_stI (mem' := fm g tp bt (fm_u a 10 (nI x : Int32).toNatClampNeg (a 10 y)) b) (by rfl) (by rfl) (fx_inN (i := x) (by omega) (by omega)) fm_si10 ?_
  rw [show Int32.toNatClampNeg (nI x) = x from nI_clamp (by omega)]
  refine fr_s 4 (pc' := 25) (lc' := [(3, .int (a 10 x)), (0, .ref 0), (1, .int (nI x)), (2, .int (nI y))]) (stk' := [.int (a 10 x), .int (nI y), .ref 10]) (mem' := fm g tp bt (fm_u a 10 x (a 10 y)) b) (by intro _ _ _; eq_refl) ?_
  refine fr_stI (mem' := fm g tp bt (fm_u (fm_u a 10 x (a 10 y)) 10 (nI y : Int32).toNatClampNeg (a 10 x)) b) (by rfl) (by rfl) (fx_inN (i := y) (by omega) (by omega)) fm_si10 ?_
  rw [show Int32.toNatClampNeg (nI y) = y from nI_clamp (by omega)]
  exact fr_ret (by rfl) (by rfl) (by rfl)
/-- the order of a queue of n: who goes first .. fourth; m its number -/
def fm_tu (n : Nat) (a : Nat → Nat → Int32) (m : Nat) : Prop := ∃ x y z w : Nat, (x < 8 ∧ y < 8 ∧ z < 8 ∧ w < 8) ∧ (0 < n → a 10 0 = nI x) ∧ (1 < n → a 10 1 = nI y) ∧ (2 < n → a 10 2 = nI z) ∧ (3 < n → a 10 3 = nI w) ∧ (1 < n → x ≠ y) ∧ (2 < n → x ≠ z ∧ y ≠ z) ∧ (3 < n → x ≠ w ∧ y ≠ w ∧ z ≠ w) ∧ m = 512 * x + 64 * y + 8 * z + w ∧ (n ≤ 1 → y = 0) ∧ (n ≤ 2 → z = 0) ∧ (n ≤ 3 → w = 0)
/-- the gaps of a queue of n; m their number -/
def fm_ga (n : Nat) (a : Nat → Nat → Int32) (m : Nat) : Prop := ∃ x y z : Nat, (1 ≤ x ∧ x ≤ 6 ∧ 1 ≤ y ∧ y ≤ 6 ∧ 1 ≤ z ∧ z ≤ 6) ∧ (0 < n → a 11 0 = nI 0) ∧ (1 < n → a 11 1 = nI x) ∧ (2 < n → a 11 2 = nI y) ∧ (3 < n → a 11 3 = nI z) ∧ m = 36 * x + 6 * y + z ∧ (n ≤ 1 → x = 1) ∧ (n ≤ 2 → y = 1) ∧ (n ≤ 3 → z = 1)
theorem fm_tu_le {n m : Nat} {a : Nat → Nat → Int32} (h : fm_tu n a m) : m < 4096 := by
  obtain ⟨x, y, z, w, h1, -, -, -, -, -, -, -, h2, -⟩ := h
  omega
theorem fm_ga_le {n m : Nat} {a : Nat → Nat → Int32} (h : fm_ga n a m) : m ≤ 258 := by
  obtain ⟨x, y, z, h1, -, -, -, -, h2, -⟩ := h
  omega
theorem fm_tu_at {n m : Nat} {a : Nat → Nat → Int32} (h : fm_tu n a m) (hn : n ≤ 4) {i : Nat} (hi : i < n) : ∃ W, W < 8 ∧ a 10 i = nI W := by
  obtain ⟨x, y, z, w, ⟨h1, h2, h3, h4⟩, e0, e1, e2, e3, -⟩ := h
  match i, hi with
  | 0, _ => exact ⟨x, h1, e0 (by omega)⟩
  | 1, _ => exact ⟨y, h2, e1 (by omega)⟩
  | 2, _ => exact ⟨z, h3, e2 (by omega)⟩
  | 3, _ => exact ⟨w, h4, e3 (by omega)⟩
  | i + 4, _ => exact absurd hn (by omega)
theorem fm_ga_at {n m : Nat} {a : Nat → Nat → Int32} (h : fm_ga n a m) (hn : n ≤ 4) {i : Nat} (hi : i < n) : ∃ W, W ≤ 6 ∧ a 11 i = nI W := by
  obtain ⟨x, y, z, ⟨-, h1, -, h2, -, h3⟩, e0, e1, e2, e3, -⟩ := h
  match i, hi with
  | 0, _ => exact ⟨0, by omega, e0 (by omega)⟩
  | 1, _ => exact ⟨x, h1, e1 (by omega)⟩
  | 2, _ => exact ⟨y, h2, e2 (by omega)⟩
  | 3, _ => exact ⟨z, h3, e3 (by omega)⟩
  | i + 4, _ => exact absurd hn (by omega)
theorem fm_tu_eq {n m : Nat} {a a' : Nat → Nat → Int32} (h : fm_tu n a m) (e : a' 10 = a 10) : fm_tu n a' m := by
  unfold fm_tu at h ⊢
  rw [e]; exact h
theorem fm_ga_eq {n m : Nat} {a a' : Nat → Nat → Int32} (h : fm_ga n a m) (e : a' 11 = a 11) : fm_ga n a' m := by
  unfold fm_ga at h ⊢
  rw [e]; exact h
set_option maxHeartbeats 8000000 in
theorem fr_turnsOn {n m : Nat} (hn : n ≤ 4) (ht : fm_tu n a m) : ∃ (v : Option Value) (mem' : fx_M), (fun R => ∃ (v : Int32) (a' : Nat → Nat → Int32), (∀ t, t ≠ 10 → a' t = a t) ∧ (v = 0 ∧ a' = a ∨ v = 1 ∧ ∃ m', m < m' ∧ fm_tu n a' m') ∧ R = (some (.int v), fm g tp bt a' b)) (v, mem') ∧ fr_T 2 331 [.ref 0, .int (nI n)] (fm g tp bt a b) v mem' := by
  refine fe_meth (F := fun R => ∃ (v : Int32) (a' : Nat → Nat → Int32), (∀ t, t ≠ 10 → a' t = a t) ∧ (v = 0 ∧ a' = a ∨ v = 1 ∧ ∃ m', m < m' ∧ fm_tu n a' m') ∧ R = (some (.int v), fm g tp bt a' b)) (M := gk_m331) (by rfl) (by rfl) ?_
  obtain ⟨x, y, z, w, hb, e0, e1, e2, e3, d1, d2, d3, em, z1, z2, z3⟩ := ht
  rcases (by omega : n = 0 ∨ n = 1 ∨ n = 2 ∨ n = 3 ∨ n = 4) with rfl | rfl | rfl | rfl | rfl
  · show fe_R 1 gk_m331 0 [(0, .ref 0), (1, .int 0)] [] (fm g tp bt a b) _
    refine fe_s 5 (pc' := 5) (lc' := [(2, .int (0 - 2)), (0, .ref 0), (1, .int 0)]) (stk' := [.int (0 - 2)]) (mem' := fm g tp bt a b) (by intro _ _ _; eq_refl) ?_
    rw [show (0 - 2 : Int32) = (-2) from rfl]
    refine fe_s 1 (pc' := cond (fx_cb .lt (-2) 0) 31 8) (lc' := [(2, .int (-2)), (0, .ref 0), (1, .int 0)]) (stk' := []) (mem' := fm g tp bt a b) (by intro _ _ _; eq_refl) ?_
    rw [show (fx_cb .lt (-2) 0) = true from by decide]
    dsimp only [cond]
    refine fe_s 1 (pc' := 32) (lc' := [(2, .int (-2)), (0, .ref 0), (1, .int 0)]) (stk' := [.int (-2)]) (mem' := fm g tp bt a b) (by intro _ _ _; eq_refl) ?_
    refine fe_s 1 (pc' := cond (fx_cb .ge (-2) 0) 37 35) (lc' := [(2, .int (-2)), (0, .ref 0), (1, .int 0)]) (stk' := []) (mem' := fm g tp bt a b) (by intro _ _ _; eq_refl) ?_
    rw [show (fx_cb .ge (-2) 0) = false from by decide]
    dsimp only [cond]
    refine fe_s 1 (pc' := 36) (lc' := [(2, .int (-2)), (0, .ref 0), (1, .int 0)]) (stk' := [.int 0]) (mem' := fm g tp bt a b) (by intro _ _ _; eq_refl) ?_
    exact fe_ret ⟨_, _, fun _ _ => rfl, Or.inl ⟨rfl, rfl⟩, rfl⟩ (by rfl) (by rfl) (by rfl)
  · show fe_R 1 gk_m331 0 [(0, .ref 0), (1, .int 1)] [] (fm g tp bt a b) _
    refine fe_s 5 (pc' := 5) (lc' := [(2, .int (1 - 2)), (0, .ref 0), (1, .int 1)]) (stk' := [.int (1 - 2)]) (mem' := fm g tp bt a b) (by intro _ _ _; eq_refl) ?_
    rw [show (1 - 2 : Int32) = (-1) from rfl]
    refine fe_s 1 (pc' := cond (fx_cb .lt (-1) 0) 31 8) (lc' := [(2, .int (-1)), (0, .ref 0), (1, .int 1)]) (stk' := []) (mem' := fm g tp bt a b) (by intro _ _ _; eq_refl) ?_
    rw [show (fx_cb .lt (-1) 0) = true from by decide]
    dsimp only [cond]
    refine fe_s 1 (pc' := 32) (lc' := [(2, .int (-1)), (0, .ref 0), (1, .int 1)]) (stk' := [.int (-1)]) (mem' := fm g tp bt a b) (by intro _ _ _; eq_refl) ?_
    refine fe_s 1 (pc' := cond (fx_cb .ge (-1) 0) 37 35) (lc' := [(2, .int (-1)), (0, .ref 0), (1, .int 1)]) (stk' := []) (mem' := fm g tp bt a b) (by intro _ _ _; eq_refl) ?_
    rw [show (fx_cb .ge (-1) 0) = false from by decide]
    dsimp only [cond]
    refine fe_s 1 (pc' := 36) (lc' := [(2, .int (-1)), (0, .ref 0), (1, .int 1)]) (stk' := [.int 0]) (mem' := fm g tp bt a b) (by intro _ _ _; eq_refl) ?_
    exact fe_ret ⟨_, _, fun _ _ => rfl, Or.inl ⟨rfl, rfl⟩, rfl⟩ (by rfl) (by rfl) (by rfl)
  · show fe_R 1 gk_m331 0 [(0, .ref 0), (1, .int 2)] [] (fm g tp bt a b) _
    refine fe_s 5 (pc' := 5) (lc' := [(2, .int (2 - 2)), (0, .ref 0), (1, .int 2)]) (stk' := [.int (2 - 2)]) (mem' := fm g tp bt a b) (by intro _ _ _; eq_refl) ?_
    rw [show (2 - 2 : Int32) = 0 from rfl]
    refine fe_s 1 (pc' := cond (fx_cb .lt 0 0) 31 8) (lc' := [(2, .int 0), (0, .ref 0), (1, .int 2)]) (stk' := []) (mem' := fm g tp bt a b) (by intro _ _ _; eq_refl) ?_
    rw [show (fx_cb .lt 0 0) = false from by decide]
    dsimp only [cond]
    refine fe_s 3 (pc' := 13) (lc' := [(2, .int 0), (0, .ref 0), (1, .int 2)]) (stk' := [.int 0, .ref 10]) (mem' := fm g tp bt a b) (by intro _ _ _; eq_refl) ?_
    refine fe_ldI (by rfl) (by rfl) (fx_inN (i := 0) (by omega) (by omega)) ?_
    rw [show Int32.toNatClampNeg (0) = 0 from rfl]
    rw [e0 (by omega)]
    refine fe_s 5 (pc' := 21) (lc' := [(2, .int 0), (0, .ref 0), (1, .int 2)]) (stk' := [.int (0 + 1), .ref 10, .int (nI x)]) (mem' := fm g tp bt a b) (by intro _ _ _; eq_refl) ?_
    rw [show (0 + 1 : Int32) = 1 from rfl]
    refine fe_ldI (by rfl) (by rfl) (fx_inN (i := 1) (by omega) (by omega)) ?_
    rw [show Int32.toNatClampNeg (1) = 1 from rfl]
    rw [e1 (by omega)]
    refine fe_s 1 (pc' := cond (fx_cb .le (nI x) (nI y)) 31 25) (lc' := [(2, .int 0), (0, .ref 0), (1, .int 2)]) (stk' := []) (mem' := fm g tp bt a b) (by intro _ _ _; eq_refl) ?_
    by_cases h101 : x ≤ y
    · rw [show (fx_cb .le (nI x) (nI y)) = true from cb_leT (a := x) (b := y) (by omega) (by omega) (by omega)]
      dsimp only [cond]
      refine fe_s 1 (pc' := 32) (lc' := [(2, .int 0), (0, .ref 0), (1, .int 2)]) (stk' := [.int 0]) (mem' := fm g tp bt a b) (by intro _ _ _; eq_refl) ?_
      refine fe_s 1 (pc' := cond (fx_cb .ge 0 0) 37 35) (lc' := [(2, .int 0), (0, .ref 0), (1, .int 2)]) (stk' := []) (mem' := fm g tp bt a b) (by intro _ _ _; eq_refl) ?_
      rw [show (fx_cb .ge 0 0) = true from by decide]
      dsimp only [cond]
      refine fe_s 7 (pc' := 46) (lc' := [(3, .int (2 - 1)), (2, .int 0), (0, .ref 0), (1, .int 2)]) (stk' := [.int (2 - 1), .ref 10]) (mem' := fm g tp bt a b) (by intro _ _ _; eq_refl) ?_
      rw [show (2 - 1 : Int32) = 1 from rfl]
      refine fe_ldI (by rfl) (by rfl) (fx_inN (i := 1) (by omega) (by omega)) ?_
      rw [show Int32.toNatClampNeg (1) = 1 from rfl]
      rw [e1 (by omega)]
      refine fe_s 3 (pc' := 52) (lc' := [(3, .int 1), (2, .int 0), (0, .ref 0), (1, .int 2)]) (stk' := [.int 0, .ref 10, .int (nI y)]) (mem' := fm g tp bt a b) (by intro _ _ _; eq_refl) ?_
      refine fe_ldI (by rfl) (by rfl) (fx_inN (i := 0) (by omega) (by omega)) ?_
      rw [show Int32.toNatClampNeg (0) = 0 from rfl]
      rw [e0 (by omega)]
      refine fe_s 1 (pc' := cond (fx_cb .ge (nI y) (nI x)) 62 56) (lc' := [(3, .int 1), (2, .int 0), (0, .ref 0), (1, .int 2)]) (stk' := []) (mem' := fm g tp bt a b) (by intro _ _ _; eq_refl) ?_
      by_cases h102 : x ≤ y
      · rw [show (fx_cb .ge (nI y) (nI x)) = true from cb_geT (a := y) (b := x) (by omega) (by omega) (by omega)]
        dsimp only [cond]
        refine fe_s 3 (pc' := 65) (lc' := [(3, .int 1), (2, .int 0), (0, .ref 0), (1, .int 2)]) (stk' := [.int 1, .int 0, .ref 0]) (mem' := fm g tp bt a b) (by intro _ _ _; eq_refl) ?_
        obtain ⟨as103, has103⟩ : ∃ zz, zz = fm_u (fm_u a 10 0 (a 10 1)) 10 1 (a 10 0) := ⟨_, rfl⟩
        have cs103 := fr_swaps (g := g) (tp := tp) (bt := bt) (a := a) (b := b) (x := 0) (y := 1) (by omega) (by omega)
        rw [← has103] at cs103
        have hqs103_0 : as103 10 0 = nI y := by rw [has103, fm_us, if_neg (by decide), fm_us, if_pos (by decide), e1 (by omega)]
        have hqs103_1 : as103 10 1 = nI x := by rw [has103, fm_us, if_pos (by decide), e0 (by omega)]
        have hos103 : ∀ t, t ≠ 10 → as103 t = a t := fun t ht => by rw [has103, fm_utt ht, fm_utt ht]
        refine fe_ivV cs103 (by omega) (by rfl) (by rfl) (by rfl) (by rfl) (by rfl) (by rfl) ?_
        refine fe_s 10 (pc' := 81) (lc' := [(4, .int (0 + 1)), (3, .int 1), (2, .int 0), (0, .ref 0), (1, .int 2)]) (stk' := [.int ((2 - (0 + 1)) + 0), .int (0 + 1)]) (mem' := fm g tp bt as103 b) (by intro _ _ _; eq_refl) ?_
        rw [show (0 + 1 : Int32) = 1 from rfl]
        rw [show ((2 - (1)) + 0 : Int32) = 1 from rfl]
        refine fe_s 1 (pc' := cond (fx_cb .ge 1 1) 102 84) (lc' := [(4, .int 1), (3, .int 1), (2, .int 0), (0, .ref 0), (1, .int 2)]) (stk' := []) (mem' := fm g tp bt as103 b) (by intro _ _ _; eq_refl) ?_
        rw [show (fx_cb .ge 1 1) = true from by decide]
        dsimp only [cond]
        refine fe_s 1 (pc' := 103) (lc' := [(4, .int 1), (3, .int 1), (2, .int 0), (0, .ref 0), (1, .int 2)]) (stk' := [.int 1]) (mem' := fm g tp bt as103 b) (by intro _ _ _; eq_refl) ?_
        exact fe_ret ⟨_, _, hos103, Or.inr ⟨rfl, 512 * y + 64 * x + 8 * z + w, by omega, y, x, z, w, by omega, fun _ => hqs103_0, fun _ => hqs103_1, fun hh => absurd hh (by decide), fun hh => absurd hh (by decide), by omega, by omega, by omega, rfl, by omega, by omega, by omega⟩, rfl⟩ (by rfl) (by rfl) (by rfl)
      · rw [show (fx_cb .ge (nI y) (nI x)) = false from cb_geF (a := y) (b := x) (by omega) (by omega) (by omega)]
        dsimp only [cond]
        refine fe_s 5 (pc' := 46) (lc' := [(3, .int (1 + (-1))), (2, .int 0), (0, .ref 0), (1, .int 2)]) (stk' := [.int (1 + (-1)), .ref 10]) (mem' := fm g tp bt a b) (by intro _ _ _; eq_refl) ?_
        rw [show (1 + (-1) : Int32) = 0 from rfl]
        refine fe_ldI (by rfl) (by rfl) (fx_inN (i := 0) (by omega) (by omega)) ?_
        rw [show Int32.toNatClampNeg (0) = 0 from rfl]
        rw [e0 (by omega)]
        refine fe_s 3 (pc' := 52) (lc' := [(3, .int 0), (2, .int 0), (0, .ref 0), (1, .int 2)]) (stk' := [.int 0, .ref 10, .int (nI x)]) (mem' := fm g tp bt a b) (by intro _ _ _; eq_refl) ?_
        refine fe_ldI (by rfl) (by rfl) (fx_inN (i := 0) (by omega) (by omega)) ?_
        rw [show Int32.toNatClampNeg (0) = 0 from rfl]
        rw [e0 (by omega)]
        refine fe_s 1 (pc' := cond (fx_cb .ge (nI x) (nI x)) 62 56) (lc' := [(3, .int 0), (2, .int 0), (0, .ref 0), (1, .int 2)]) (stk' := []) (mem' := fm g tp bt a b) (by intro _ _ _; eq_refl) ?_
        rw [show (fx_cb .ge (nI x) (nI x)) = true from cb_geT (a := x) (b := x) (by omega) (by omega) (by omega)]
        dsimp only [cond]
        refine fe_s 3 (pc' := 65) (lc' := [(3, .int 0), (2, .int 0), (0, .ref 0), (1, .int 2)]) (stk' := [.int 0, .int 0, .ref 0]) (mem' := fm g tp bt a b) (by intro _ _ _; eq_refl) ?_
        obtain ⟨as104, has104⟩ : ∃ zz, zz = fm_u (fm_u a 10 0 (a 10 0)) 10 0 (a 10 0) := ⟨_, rfl⟩
        have cs104 := fr_swaps (g := g) (tp := tp) (bt := bt) (a := a) (b := b) (x := 0) (y := 0) (by omega) (by omega)
        rw [← has104] at cs104
        have hqs104_0 : as104 10 0 = nI x := by rw [has104, fm_us, if_pos (by decide), e0 (by omega)]
        have hqs104_1 : as104 10 1 = nI y := by rw [has104, fm_us, if_neg (by decide), fm_us, if_neg (by decide), e1 (by omega)]
        have hos104 : ∀ t, t ≠ 10 → as104 t = a t := fun t ht => by rw [has104, fm_utt ht, fm_utt ht]
        refine fe_ivV cs104 (by omega) (by rfl) (by rfl) (by rfl) (by rfl) (by rfl) (by rfl) ?_
        refine fe_s 10 (pc' := 81) (lc' := [(4, .int (0 + 1)), (3, .int 0), (2, .int 0), (0, .ref 0), (1, .int 2)]) (stk' := [.int ((2 - (0 + 1)) + 0), .int (0 + 1)]) (mem' := fm g tp bt as104 b) (by intro _ _ _; eq_refl) ?_
        rw [show (0 + 1 : Int32) = 1 from rfl]
        rw [show ((2 - (1)) + 0 : Int32) = 1 from rfl]
        refine fe_s 1 (pc' := cond (fx_cb .ge 1 1) 102 84) (lc' := [(4, .int 1), (3, .int 0), (2, .int 0), (0, .ref 0), (1, .int 2)]) (stk' := []) (mem' := fm g tp bt as104 b) (by intro _ _ _; eq_refl) ?_
        rw [show (fx_cb .ge 1 1) = true from by decide]
        dsimp only [cond]
        refine fe_s 1 (pc' := 103) (lc' := [(4, .int 1), (3, .int 0), (2, .int 0), (0, .ref 0), (1, .int 2)]) (stk' := [.int 1]) (mem' := fm g tp bt as104 b) (by intro _ _ _; eq_refl) ?_
        exact fe_ret ⟨_, _, hos104, Or.inr ⟨rfl, 512 * x + 64 * y + 8 * z + w, by omega, x, y, z, w, by omega, fun _ => hqs104_0, fun _ => hqs104_1, fun hh => absurd hh (by decide), fun hh => absurd hh (by decide), by omega, by omega, by omega, rfl, by omega, by omega, by omega⟩, rfl⟩ (by rfl) (by rfl) (by rfl)
    · rw [show (fx_cb .le (nI x) (nI y)) = false from cb_leF (a := x) (b := y) (by omega) (by omega) (by omega)]
      dsimp only [cond]
      refine fe_s 3 (pc' := 5) (lc' := [(2, .int (0 + (-1))), (0, .ref 0), (1, .int 2)]) (stk' := [.int (0 + (-1))]) (mem' := fm g tp bt a b) (by intro _ _ _; eq_refl) ?_
      rw [show (0 + (-1) : Int32) = (-1) from rfl]
      refine fe_s 1 (pc' := cond (fx_cb .lt (-1) 0) 31 8) (lc' := [(2, .int (-1)), (0, .ref 0), (1, .int 2)]) (stk' := []) (mem' := fm g tp bt a b) (by intro _ _ _; eq_refl) ?_
      rw [show (fx_cb .lt (-1) 0) = true from by decide]
      dsimp only [cond]
      refine fe_s 1 (pc' := 32) (lc' := [(2, .int (-1)), (0, .ref 0), (1, .int 2)]) (stk' := [.int (-1)]) (mem' := fm g tp bt a b) (by intro _ _ _; eq_refl) ?_
      refine fe_s 1 (pc' := cond (fx_cb .ge (-1) 0) 37 35) (lc' := [(2, .int (-1)), (0, .ref 0), (1, .int 2)]) (stk' := []) (mem' := fm g tp bt a b) (by intro _ _ _; eq_refl) ?_
      rw [show (fx_cb .ge (-1) 0) = false from by decide]
      dsimp only [cond]
      refine fe_s 1 (pc' := 36) (lc' := [(2, .int (-1)), (0, .ref 0), (1, .int 2)]) (stk' := [.int 0]) (mem' := fm g tp bt a b) (by intro _ _ _; eq_refl) ?_
      exact fe_ret ⟨_, _, fun _ _ => rfl, Or.inl ⟨rfl, rfl⟩, rfl⟩ (by rfl) (by rfl) (by rfl)
  · show fe_R 1 gk_m331 0 [(0, .ref 0), (1, .int 3)] [] (fm g tp bt a b) _
    refine fe_s 5 (pc' := 5) (lc' := [(2, .int (3 - 2)), (0, .ref 0), (1, .int 3)]) (stk' := [.int (3 - 2)]) (mem' := fm g tp bt a b) (by intro _ _ _; eq_refl) ?_
    rw [show (3 - 2 : Int32) = 1 from rfl]
    refine fe_s 1 (pc' := cond (fx_cb .lt 1 0) 31 8) (lc' := [(2, .int 1), (0, .ref 0), (1, .int 3)]) (stk' := []) (mem' := fm g tp bt a b) (by intro _ _ _; eq_refl) ?_
    rw [show (fx_cb .lt 1 0) = false from by decide]
    dsimp only [cond]
    refine fe_s 3 (pc' := 13) (lc' := [(2, .int 1), (0, .ref 0), (1, .int 3)]) (stk' := [.int 1, .ref 10]) (mem' := fm g tp bt a b) (by intro _ _ _; eq_refl) ?_
    refine fe_ldI (by rfl) (by rfl) (fx_inN (i := 1) (by omega) (by omega)) ?_
    rw [show Int32.toNatClampNeg (1) = 1 from rfl]
    rw [e1 (by omega)]
    refine fe_s 5 (pc' := 21) (lc' := [(2, .int 1), (0, .ref 0), (1, .int 3)]) (stk' := [.int (1 + 1), .ref 10, .int (nI y)]) (mem' := fm g tp bt a b) (by intro _ _ _; eq_refl) ?_
    rw [show (1 + 1 : Int32) = 2 from rfl]
    refine fe_ldI (by rfl) (by rfl) (fx_inN (i := 2) (by omega) (by omega)) ?_
    rw [show Int32.toNatClampNeg (2) = 2 from rfl]
    rw [e2 (by omega)]
    refine fe_s 1 (pc' := cond (fx_cb .le (nI y) (nI z)) 31 25) (lc' := [(2, .int 1), (0, .ref 0), (1, .int 3)]) (stk' := []) (mem' := fm g tp bt a b) (by intro _ _ _; eq_refl) ?_
    by_cases h105 : y ≤ z
    · rw [show (fx_cb .le (nI y) (nI z)) = true from cb_leT (a := y) (b := z) (by omega) (by omega) (by omega)]
      dsimp only [cond]
      refine fe_s 1 (pc' := 32) (lc' := [(2, .int 1), (0, .ref 0), (1, .int 3)]) (stk' := [.int 1]) (mem' := fm g tp bt a b) (by intro _ _ _; eq_refl) ?_
      refine fe_s 1 (pc' := cond (fx_cb .ge 1 0) 37 35) (lc' := [(2, .int 1), (0, .ref 0), (1, .int 3)]) (stk' := []) (mem' := fm g tp bt a b) (by intro _ _ _; eq_refl) ?_
      rw [show (fx_cb .ge 1 0) = true from by decide]
      dsimp only [cond]
      refine fe_s 7 (pc' := 46) (lc' := [(3, .int (3 - 1)), (2, .int 1), (0, .ref 0), (1, .int 3)]) (stk' := [.int (3 - 1), .ref 10]) (mem' := fm g tp bt a b) (by intro _ _ _; eq_refl) ?_
      rw [show (3 - 1 : Int32) = 2 from rfl]
      refine fe_ldI (by rfl) (by rfl) (fx_inN (i := 2) (by omega) (by omega)) ?_
      rw [show Int32.toNatClampNeg (2) = 2 from rfl]
      rw [e2 (by omega)]
      refine fe_s 3 (pc' := 52) (lc' := [(3, .int 2), (2, .int 1), (0, .ref 0), (1, .int 3)]) (stk' := [.int 1, .ref 10, .int (nI z)]) (mem' := fm g tp bt a b) (by intro _ _ _; eq_refl) ?_
      refine fe_ldI (by rfl) (by rfl) (fx_inN (i := 1) (by omega) (by omega)) ?_
      rw [show Int32.toNatClampNeg (1) = 1 from rfl]
      rw [e1 (by omega)]
      refine fe_s 1 (pc' := cond (fx_cb .ge (nI z) (nI y)) 62 56) (lc' := [(3, .int 2), (2, .int 1), (0, .ref 0), (1, .int 3)]) (stk' := []) (mem' := fm g tp bt a b) (by intro _ _ _; eq_refl) ?_
      by_cases h106 : y ≤ z
      · rw [show (fx_cb .ge (nI z) (nI y)) = true from cb_geT (a := z) (b := y) (by omega) (by omega) (by omega)]
        dsimp only [cond]
        refine fe_s 3 (pc' := 65) (lc' := [(3, .int 2), (2, .int 1), (0, .ref 0), (1, .int 3)]) (stk' := [.int 2, .int 1, .ref 0]) (mem' := fm g tp bt a b) (by intro _ _ _; eq_refl) ?_
        obtain ⟨as107, has107⟩ : ∃ zz, zz = fm_u (fm_u a 10 1 (a 10 2)) 10 2 (a 10 1) := ⟨_, rfl⟩
        have cs107 := fr_swaps (g := g) (tp := tp) (bt := bt) (a := a) (b := b) (x := 1) (y := 2) (by omega) (by omega)
        rw [← has107] at cs107
        have hqs107_0 : as107 10 0 = nI x := by rw [has107, fm_us, if_neg (by decide), fm_us, if_neg (by decide), e0 (by omega)]
        have hqs107_1 : as107 10 1 = nI z := by rw [has107, fm_us, if_neg (by decide), fm_us, if_pos (by decide), e2 (by omega)]
        have hqs107_2 : as107 10 2 = nI y := by rw [has107, fm_us, if_pos (by decide), e1 (by omega)]
        have hos107 : ∀ t, t ≠ 10 → as107 t = a t := fun t ht => by rw [has107, fm_utt ht, fm_utt ht]
        refine fe_ivV cs107 (by omega) (by rfl) (by rfl) (by rfl) (by rfl) (by rfl) (by rfl) ?_
        refine fe_s 10 (pc' := 81) (lc' := [(4, .int (1 + 1)), (3, .int 2), (2, .int 1), (0, .ref 0), (1, .int 3)]) (stk' := [.int ((3 - (1 + 1)) + 1), .int (1 + 1)]) (mem' := fm g tp bt as107 b) (by intro _ _ _; eq_refl) ?_
        rw [show (1 + 1 : Int32) = 2 from rfl]
        rw [show ((3 - (2)) + 1 : Int32) = 2 from rfl]
        refine fe_s 1 (pc' := cond (fx_cb .ge 2 2) 102 84) (lc' := [(4, .int 2), (3, .int 2), (2, .int 1), (0, .ref 0), (1, .int 3)]) (stk' := []) (mem' := fm g tp bt as107 b) (by intro _ _ _; eq_refl) ?_
        rw [show (fx_cb .ge 2 2) = true from by decide]
        dsimp only [cond]
        refine fe_s 1 (pc' := 103) (lc' := [(4, .int 2), (3, .int 2), (2, .int 1), (0, .ref 0), (1, .int 3)]) (stk' := [.int 1]) (mem' := fm g tp bt as107 b) (by intro _ _ _; eq_refl) ?_
        exact fe_ret ⟨_, _, hos107, Or.inr ⟨rfl, 512 * x + 64 * z + 8 * y + w, by omega, x, z, y, w, by omega, fun _ => hqs107_0, fun _ => hqs107_1, fun _ => hqs107_2, fun hh => absurd hh (by decide), by omega, by omega, by omega, rfl, by omega, by omega, by omega⟩, rfl⟩ (by rfl) (by rfl) (by rfl)
      · rw [show (fx_cb .ge (nI z) (nI y)) = false from cb_geF (a := z) (b := y) (by omega) (by omega) (by omega)]
        dsimp only [cond]
        refine fe_s 5 (pc' := 46) (lc' := [(3, .int (2 + (-1))), (2, .int 1), (0, .ref 0), (1, .int 3)]) (stk' := [.int (2 + (-1)), .ref 10]) (mem' := fm g tp bt a b) (by intro _ _ _; eq_refl) ?_
        rw [show (2 + (-1) : Int32) = 1 from rfl]
        refine fe_ldI (by rfl) (by rfl) (fx_inN (i := 1) (by omega) (by omega)) ?_
        rw [show Int32.toNatClampNeg (1) = 1 from rfl]
        rw [e1 (by omega)]
        refine fe_s 3 (pc' := 52) (lc' := [(3, .int 1), (2, .int 1), (0, .ref 0), (1, .int 3)]) (stk' := [.int 1, .ref 10, .int (nI y)]) (mem' := fm g tp bt a b) (by intro _ _ _; eq_refl) ?_
        refine fe_ldI (by rfl) (by rfl) (fx_inN (i := 1) (by omega) (by omega)) ?_
        rw [show Int32.toNatClampNeg (1) = 1 from rfl]
        rw [e1 (by omega)]
        refine fe_s 1 (pc' := cond (fx_cb .ge (nI y) (nI y)) 62 56) (lc' := [(3, .int 1), (2, .int 1), (0, .ref 0), (1, .int 3)]) (stk' := []) (mem' := fm g tp bt a b) (by intro _ _ _; eq_refl) ?_
        rw [show (fx_cb .ge (nI y) (nI y)) = true from cb_geT (a := y) (b := y) (by omega) (by omega) (by omega)]
        dsimp only [cond]
        refine fe_s 3 (pc' := 65) (lc' := [(3, .int 1), (2, .int 1), (0, .ref 0), (1, .int 3)]) (stk' := [.int 1, .int 1, .ref 0]) (mem' := fm g tp bt a b) (by intro _ _ _; eq_refl) ?_
        obtain ⟨as108, has108⟩ : ∃ zz, zz = fm_u (fm_u a 10 1 (a 10 1)) 10 1 (a 10 1) := ⟨_, rfl⟩
        have cs108 := fr_swaps (g := g) (tp := tp) (bt := bt) (a := a) (b := b) (x := 1) (y := 1) (by omega) (by omega)
        rw [← has108] at cs108
        have hqs108_0 : as108 10 0 = nI x := by rw [has108, fm_us, if_neg (by decide), fm_us, if_neg (by decide), e0 (by omega)]
        have hqs108_1 : as108 10 1 = nI y := by rw [has108, fm_us, if_pos (by decide), e1 (by omega)]
        have hqs108_2 : as108 10 2 = nI z := by rw [has108, fm_us, if_neg (by decide), fm_us, if_neg (by decide), e2 (by omega)]
        have hos108 : ∀ t, t ≠ 10 → as108 t = a t := fun t ht => by rw [has108, fm_utt ht, fm_utt ht]
        refine fe_ivV cs108 (by omega) (by rfl) (by rfl) (by rfl) (by rfl) (by rfl) (by rfl) ?_
        refine fe_s 10 (pc' := 81) (lc' := [(4, .int (1 + 1)), (3, .int 1), (2, .int 1), (0, .ref 0), (1, .int 3)]) (stk' := [.int ((3 - (1 + 1)) + 1), .int (1 + 1)]) (mem' := fm g tp bt as108 b) (by intro _ _ _; eq_refl) ?_
        rw [show (1 + 1 : Int32) = 2 from rfl]
        rw [show ((3 - (2)) + 1 : Int32) = 2 from rfl]
        refine fe_s 1 (pc' := cond (fx_cb .ge 2 2) 102 84) (lc' := [(4, .int 2), (3, .int 1), (2, .int 1), (0, .ref 0), (1, .int 3)]) (stk' := []) (mem' := fm g tp bt as108 b) (by intro _ _ _; eq_refl) ?_
        rw [show (fx_cb .ge 2 2) = true from by decide]
        dsimp only [cond]
        refine fe_s 1 (pc' := 103) (lc' := [(4, .int 2), (3, .int 1), (2, .int 1), (0, .ref 0), (1, .int 3)]) (stk' := [.int 1]) (mem' := fm g tp bt as108 b) (by intro _ _ _; eq_refl) ?_
        exact fe_ret ⟨_, _, hos108, Or.inr ⟨rfl, 512 * x + 64 * y + 8 * z + w, by omega, x, y, z, w, by omega, fun _ => hqs108_0, fun _ => hqs108_1, fun _ => hqs108_2, fun hh => absurd hh (by decide), by omega, by omega, by omega, rfl, by omega, by omega, by omega⟩, rfl⟩ (by rfl) (by rfl) (by rfl)
    · rw [show (fx_cb .le (nI y) (nI z)) = false from cb_leF (a := y) (b := z) (by omega) (by omega) (by omega)]
      dsimp only [cond]
      refine fe_s 3 (pc' := 5) (lc' := [(2, .int (1 + (-1))), (0, .ref 0), (1, .int 3)]) (stk' := [.int (1 + (-1))]) (mem' := fm g tp bt a b) (by intro _ _ _; eq_refl) ?_
      rw [show (1 + (-1) : Int32) = 0 from rfl]
      refine fe_s 1 (pc' := cond (fx_cb .lt 0 0) 31 8) (lc' := [(2, .int 0), (0, .ref 0), (1, .int 3)]) (stk' := []) (mem' := fm g tp bt a b) (by intro _ _ _; eq_refl) ?_
      rw [show (fx_cb .lt 0 0) = false from by decide]
      dsimp only [cond]
      refine fe_s 3 (pc' := 13) (lc' := [(2, .int 0), (0, .ref 0), (1, .int 3)]) (stk' := [.int 0, .ref 10]) (mem' := fm g tp bt a b) (by intro _ _ _; eq_refl) ?_
      refine fe_ldI (by rfl) (by rfl) (fx_inN (i := 0) (by omega) (by omega)) ?_
      rw [show Int32.toNatClampNeg (0) = 0 from rfl]
      rw [e0 (by omega)]
      refine fe_s 5 (pc' := 21) (lc' := [(2, .int 0), (0, .ref 0), (1, .int 3)]) (stk' := [.int (0 + 1), .ref 10, .int (nI x)]) (mem' := fm g tp bt a b) (by intro _ _ _; eq_refl) ?_
      rw [show (0 + 1 : Int32) = 1 from rfl]
      refine fe_ldI (by rfl) (by rfl) (fx_inN (i := 1) (by omega) (by omega)) ?_
      rw [show Int32.toNatClampNeg (1) = 1 from rfl]
      rw [e1 (by omega)]
      refine fe_s 1 (pc' := cond (fx_cb .le (nI x) (nI y)) 31 25) (lc' := [(2, .int 0), (0, .ref 0), (1, .int 3)]) (stk' := []) (mem' := fm g tp bt a b) (by intro _ _ _; eq_refl) ?_
      by_cases h109 : x ≤ y
      · rw [show (fx_cb .le (nI x) (nI y)) = true from cb_leT (a := x) (b := y) (by omega) (by omega) (by omega)]
        dsimp only [cond]
        refine fe_s 1 (pc' := 32) (lc' := [(2, .int 0), (0, .ref 0), (1, .int 3)]) (stk' := [.int 0]) (mem' := fm g tp bt a b) (by intro _ _ _; eq_refl) ?_
        refine fe_s 1 (pc' := cond (fx_cb .ge 0 0) 37 35) (lc' := [(2, .int 0), (0, .ref 0), (1, .int 3)]) (stk' := []) (mem' := fm g tp bt a b) (by intro _ _ _; eq_refl) ?_
        rw [show (fx_cb .ge 0 0) = true from by decide]
        dsimp only [cond]
        refine fe_s 7 (pc' := 46) (lc' := [(3, .int (3 - 1)), (2, .int 0), (0, .ref 0), (1, .int 3)]) (stk' := [.int (3 - 1), .ref 10]) (mem' := fm g tp bt a b) (by intro _ _ _; eq_refl) ?_
        rw [show (3 - 1 : Int32) = 2 from rfl]
        refine fe_ldI (by rfl) (by rfl) (fx_inN (i := 2) (by omega) (by omega)) ?_
        rw [show Int32.toNatClampNeg (2) = 2 from rfl]
        rw [e2 (by omega)]
        refine fe_s 3 (pc' := 52) (lc' := [(3, .int 2), (2, .int 0), (0, .ref 0), (1, .int 3)]) (stk' := [.int 0, .ref 10, .int (nI z)]) (mem' := fm g tp bt a b) (by intro _ _ _; eq_refl) ?_
        refine fe_ldI (by rfl) (by rfl) (fx_inN (i := 0) (by omega) (by omega)) ?_
        rw [show Int32.toNatClampNeg (0) = 0 from rfl]
        rw [e0 (by omega)]
        refine fe_s 1 (pc' := cond (fx_cb .ge (nI z) (nI x)) 62 56) (lc' := [(3, .int 2), (2, .int 0), (0, .ref 0), (1, .int 3)]) (stk' := []) (mem' := fm g tp bt a b) (by intro _ _ _; eq_refl) ?_
        by_cases h110 : x ≤ z
        · rw [show (fx_cb .ge (nI z) (nI x)) = true from cb_geT (a := z) (b := x) (by omega) (by omega) (by omega)]
          dsimp only [cond]
          refine fe_s 3 (pc' := 65) (lc' := [(3, .int 2), (2, .int 0), (0, .ref 0), (1, .int 3)]) (stk' := [.int 2, .int 0, .ref 0]) (mem' := fm g tp bt a b) (by intro _ _ _; eq_refl) ?_
          obtain ⟨as111, has111⟩ : ∃ zz, zz = fm_u (fm_u a 10 0 (a 10 2)) 10 2 (a 10 0) := ⟨_, rfl⟩
          have cs111 := fr_swaps (g := g) (tp := tp) (bt := bt) (a := a) (b := b) (x := 0) (y := 2) (by omega) (by omega)
          rw [← has111] at cs111
          have hqs111_0 : as111 10 0 = nI z := by rw [has111, fm_us, if_neg (by decide), fm_us, if_pos (by decide), e2 (by omega)]
          have hqs111_1 : as111 10 1 = nI y := by rw [has111, fm_us, if_neg (by decide), fm_us, if_neg (by decide), e1 (by omega)]
          have hqs111_2 : as111 10 2 = nI x := by rw [has111, fm_us, if_pos (by decide), e0 (by omega)]
          have hos111 : ∀ t, t ≠ 10 → as111 t = a t := fun t ht => by rw [has111, fm_utt ht, fm_utt ht]
          refine fe_ivV cs111 (by omega) (by rfl) (by rfl) (by rfl) (by rfl) (by rfl) (by rfl) ?_
          refine fe_s 10 (pc' := 81) (lc' := [(4, .int (0 + 1)), (3, .int 2), (2, .int 0), (0, .ref 0), (1, .int 3)]) (stk' := [.int ((3 - (0 + 1)) + 0), .int (0 + 1)]) (mem' := fm g tp bt as111 b) (by intro _ _ _; eq_refl) ?_
          rw [show (0 + 1 : Int32) = 1 from rfl]
          rw [show ((3 - (1)) + 0 : Int32) = 2 from rfl]
          refine fe_s 1 (pc' := cond (fx_cb .ge 1 2) 102 84) (lc' := [(4, .int 1), (3, .int 2), (2, .int 0), (0, .ref 0), (1, .int 3)]) (stk' := []) (mem' := fm g tp bt as111 b) (by intro _ _ _; eq_refl) ?_
          rw [show (fx_cb .ge 1 2) = false from by decide]
          dsimp only [cond]
          refine fe_s 7 (pc' := 93) (lc' := [(4, .int 1), (3, .int 2), (2, .int 0), (0, .ref 0), (1, .int 3)]) (stk' := [.int ((3 - 1) + 0), .int 1, .ref 0]) (mem' := fm g tp bt as111 b) (by intro _ _ _; eq_refl) ?_
          rw [show ((3 - 1) + 0 : Int32) = 2 from rfl]
          obtain ⟨as112, has112⟩ : ∃ zz, zz = fm_u (fm_u as111 10 1 (as111 10 2)) 10 2 (as111 10 1) := ⟨_, rfl⟩
          have cs112 := fr_swaps (g := g) (tp := tp) (bt := bt) (a := as111) (b := b) (x := 1) (y := 2) (by omega) (by omega)
          rw [← has112] at cs112
          have hqs112_0 : as112 10 0 = nI z := by rw [has112, fm_us, if_neg (by decide), fm_us, if_neg (by decide), hqs111_0]
          have hqs112_1 : as112 10 1 = nI x := by rw [has112, fm_us, if_neg (by decide), fm_us, if_pos (by decide), hqs111_2]
          have hqs112_2 : as112 10 2 = nI y := by rw [has112, fm_us, if_pos (by decide), hqs111_1]
          have hos112 : ∀ t, t ≠ 10 → as112 t = a t := fun t ht => by rw [has112, fm_utt ht, fm_utt ht]; exact hos111 t ht
          refine fe_ivV cs112 (by omega) (by rfl) (by rfl) (by rfl) (by rfl) (by rfl) (by rfl) ?_
          refine fe_s 8 (pc' := 81) (lc' := [(4, .int (1 + 1)), (3, .int 2), (2, .int 0), (0, .ref 0), (1, .int 3)]) (stk' := [.int ((3 - (1 + 1)) + 0), .int (1 + 1)]) (mem' := fm g tp bt as112 b) (by intro _ _ _; eq_refl) ?_
          rw [show (1 + 1 : Int32) = 2 from rfl]
          rw [show ((3 - (2)) + 0 : Int32) = 1 from rfl]
          refine fe_s 1 (pc' := cond (fx_cb .ge 2 1) 102 84) (lc' := [(4, .int 2), (3, .int 2), (2, .int 0), (0, .ref 0), (1, .int 3)]) (stk' := []) (mem' := fm g tp bt as112 b) (by intro _ _ _; eq_refl) ?_
          rw [show (fx_cb .ge 2 1) = true from by decide]
          dsimp only [cond]
          refine fe_s 1 (pc' := 103) (lc' := [(4, .int 2), (3, .int 2), (2, .int 0), (0, .ref 0), (1, .int 3)]) (stk' := [.int 1]) (mem' := fm g tp bt as112 b) (by intro _ _ _; eq_refl) ?_
          exact fe_ret ⟨_, _, hos112, Or.inr ⟨rfl, 512 * z + 64 * x + 8 * y + w, by omega, z, x, y, w, by omega, fun _ => hqs112_0, fun _ => hqs112_1, fun _ => hqs112_2, fun hh => absurd hh (by decide), by omega, by omega, by omega, rfl, by omega, by omega, by omega⟩, rfl⟩ (by rfl) (by rfl) (by rfl)
        · rw [show (fx_cb .ge (nI z) (nI x)) = false from cb_geF (a := z) (b := x) (by omega) (by omega) (by omega)]
          dsimp only [cond]
          refine fe_s 5 (pc' := 46) (lc' := [(3, .int (2 + (-1))), (2, .int 0), (0, .ref 0), (1, .int 3)]) (stk' := [.int (2 + (-1)), .ref 10]) (mem' := fm g tp bt a b) (by intro _ _ _; eq_refl) ?_
          rw [show (2 + (-1) : Int32) = 1 from rfl]
          refine fe_ldI (by rfl) (by rfl) (fx_inN (i := 1) (by omega) (by omega)) ?_
          rw [show Int32.toNatClampNeg (1) = 1 from rfl]
          rw [e1 (by omega)]
          refine fe_s 3 (pc' := 52) (lc' := [(3, .int 1), (2, .int 0), (0, .ref 0), (1, .int 3)]) (stk' := [.int 0, .ref 10, .int (nI y)]) (mem' := fm g tp bt a b) (by intro _ _ _; eq_refl) ?_
          refine fe_ldI (by rfl) (by rfl) (fx_inN (i := 0) (by omega) (by omega)) ?_
          rw [show Int32.toNatClampNeg (0) = 0 from rfl]
          rw [e0 (by omega)]
          refine fe_s 1 (pc' := cond (fx_cb .ge (nI y) (nI x)) 62 56) (lc' := [(3, .int 1), (2, .int 0), (0, .ref 0), (1, .int 3)]) (stk' := []) (mem' := fm g tp bt a b) (by intro _ _ _; eq_refl) ?_
          by_cases h113 : x ≤ y
          · rw [show (fx_cb .ge (nI y) (nI x)) = true from cb_geT (a := y) (b := x) (by omega) (by omega) (by omega)]
            dsimp only [cond]
            refine fe_s 3 (pc' := 65) (lc' := [(3, .int 1), (2, .int 0), (0, .ref 0), (1, .int 3)]) (stk' := [.int 1, .int 0, .ref 0]) (mem' := fm g tp bt a b) (by intro _ _ _; eq_refl) ?_
            obtain ⟨as114, has114⟩ : ∃ zz, zz = fm_u (fm_u a 10 0 (a 10 1)) 10 1 (a 10 0) := ⟨_, rfl⟩
            have cs114 := fr_swaps (g := g) (tp := tp) (bt := bt) (a := a) (b := b) (x := 0) (y := 1) (by omega) (by omega)
            rw [← has114] at cs114
            have hqs114_0 : as114 10 0 = nI y := by rw [has114, fm_us, if_neg (by decide), fm_us, if_pos (by decide), e1 (by omega)]
            have hqs114_1 : as114 10 1 = nI x := by rw [has114, fm_us, if_pos (by decide), e0 (by omega)]
            have hqs114_2 : as114 10 2 = nI z := by rw [has114, fm_us, if_neg (by decide), fm_us, if_neg (by decide), e2 (by omega)]
            have hos114 : ∀ t, t ≠ 10 → as114 t = a t := fun t ht => by rw [has114, fm_utt ht, fm_utt ht]
            refine fe_ivV cs114 (by omega) (by rfl) (by rfl) (by rfl) (by rfl) (by rfl) (by rfl) ?_
            refine fe_s 10 (pc' := 81) (lc' := [(4, .int (0 + 1)), (3, .int 1), (2, .int 0), (0, .ref 0), (1, .int 3)]) (stk' := [.int ((3 - (0 + 1)) + 0), .int (0 + 1)]) (mem' := fm g tp bt as114 b) (by intro _ _ _; eq_refl) ?_
            rw [show (0 + 1 : Int32) = 1 from rfl]
            rw [show ((3 - (1)) + 0 : Int32) = 2 from rfl]
            refine fe_s 1 (pc' := cond (fx_cb .ge 1 2) 102 84) (lc' := [(4, .int 1), (3, .int 1), (2, .int 0), (0, .ref 0), (1, .int 3)]) (stk' := []) (mem' := fm g tp bt as114 b) (by intro _ _ _; eq_refl) ?_
            rw [show (fx_cb .ge 1 2) = false from by decide]
            dsimp only [cond]
            refine fe_s 7 (pc' := 93) (lc' := [(4, .int 1), (3, .int 1), (2, .int 0), (0, .ref 0), (1, .int 3)]) (stk' := [.int ((3 - 1) + 0), .int 1, .ref 0]) (mem' := fm g tp bt as114 b) (by intro _ _ _; eq_refl) ?_
            rw [show ((3 - 1) + 0 : Int32) = 2 from rfl]
            obtain ⟨as115, has115⟩ : ∃ zz, zz = fm_u (fm_u as114 10 1 (as114 10 2)) 10 2 (as114 10 1) := ⟨_, rfl⟩
            have cs115 := fr_swaps (g := g) (tp := tp) (bt := bt) (a := as114) (b := b) (x := 1) (y := 2) (by omega) (by omega)
            rw [← has115] at cs115
            have hqs115_0 : as115 10 0 = nI y := by rw [has115, fm_us, if_neg (by decide), fm_us, if_neg (by decide), hqs114_0]
            have hqs115_1 : as115 10 1 = nI z := by rw [has115, fm_us, if_neg (by decide), fm_us, if_pos (by decide), hqs114_2]
            have hqs115_2 : as115 10 2 = nI x := by rw [has115, fm_us, if_pos (by decide), hqs114_1]
            have hos115 : ∀ t, t ≠ 10 → as115 t = a t := fun t ht => by rw [has115, fm_utt ht, fm_utt ht]; exact hos114 t ht
            refine fe_ivV cs115 (by omega) (by rfl) (by rfl) (by rfl) (by rfl) (by rfl) (by rfl) ?_
            refine fe_s 8 (pc' := 81) (lc' := [(4, .int (1 + 1)), (3, .int 1), (2, .int 0), (0, .ref 0), (1, .int 3)]) (stk' := [.int ((3 - (1 + 1)) + 0), .int (1 + 1)]) (mem' := fm g tp bt as115 b) (by intro _ _ _; eq_refl) ?_
            rw [show (1 + 1 : Int32) = 2 from rfl]
            rw [show ((3 - (2)) + 0 : Int32) = 1 from rfl]
            refine fe_s 1 (pc' := cond (fx_cb .ge 2 1) 102 84) (lc' := [(4, .int 2), (3, .int 1), (2, .int 0), (0, .ref 0), (1, .int 3)]) (stk' := []) (mem' := fm g tp bt as115 b) (by intro _ _ _; eq_refl) ?_
            rw [show (fx_cb .ge 2 1) = true from by decide]
            dsimp only [cond]
            refine fe_s 1 (pc' := 103) (lc' := [(4, .int 2), (3, .int 1), (2, .int 0), (0, .ref 0), (1, .int 3)]) (stk' := [.int 1]) (mem' := fm g tp bt as115 b) (by intro _ _ _; eq_refl) ?_
            exact fe_ret ⟨_, _, hos115, Or.inr ⟨rfl, 512 * y + 64 * z + 8 * x + w, by omega, y, z, x, w, by omega, fun _ => hqs115_0, fun _ => hqs115_1, fun _ => hqs115_2, fun hh => absurd hh (by decide), by omega, by omega, by omega, rfl, by omega, by omega, by omega⟩, rfl⟩ (by rfl) (by rfl) (by rfl)
          · rw [show (fx_cb .ge (nI y) (nI x)) = false from cb_geF (a := y) (b := x) (by omega) (by omega) (by omega)]
            dsimp only [cond]
            refine fe_s 5 (pc' := 46) (lc' := [(3, .int (1 + (-1))), (2, .int 0), (0, .ref 0), (1, .int 3)]) (stk' := [.int (1 + (-1)), .ref 10]) (mem' := fm g tp bt a b) (by intro _ _ _; eq_refl) ?_
            rw [show (1 + (-1) : Int32) = 0 from rfl]
            refine fe_ldI (by rfl) (by rfl) (fx_inN (i := 0) (by omega) (by omega)) ?_
            rw [show Int32.toNatClampNeg (0) = 0 from rfl]
            rw [e0 (by omega)]
            refine fe_s 3 (pc' := 52) (lc' := [(3, .int 0), (2, .int 0), (0, .ref 0), (1, .int 3)]) (stk' := [.int 0, .ref 10, .int (nI x)]) (mem' := fm g tp bt a b) (by intro _ _ _; eq_refl) ?_
            refine fe_ldI (by rfl) (by rfl) (fx_inN (i := 0) (by omega) (by omega)) ?_
            rw [show Int32.toNatClampNeg (0) = 0 from rfl]
            rw [e0 (by omega)]
            refine fe_s 1 (pc' := cond (fx_cb .ge (nI x) (nI x)) 62 56) (lc' := [(3, .int 0), (2, .int 0), (0, .ref 0), (1, .int 3)]) (stk' := []) (mem' := fm g tp bt a b) (by intro _ _ _; eq_refl) ?_
            rw [show (fx_cb .ge (nI x) (nI x)) = true from cb_geT (a := x) (b := x) (by omega) (by omega) (by omega)]
            dsimp only [cond]
            refine fe_s 3 (pc' := 65) (lc' := [(3, .int 0), (2, .int 0), (0, .ref 0), (1, .int 3)]) (stk' := [.int 0, .int 0, .ref 0]) (mem' := fm g tp bt a b) (by intro _ _ _; eq_refl) ?_
            obtain ⟨as116, has116⟩ : ∃ zz, zz = fm_u (fm_u a 10 0 (a 10 0)) 10 0 (a 10 0) := ⟨_, rfl⟩
            have cs116 := fr_swaps (g := g) (tp := tp) (bt := bt) (a := a) (b := b) (x := 0) (y := 0) (by omega) (by omega)
            rw [← has116] at cs116
            have hqs116_0 : as116 10 0 = nI x := by rw [has116, fm_us, if_pos (by decide), e0 (by omega)]
            have hqs116_1 : as116 10 1 = nI y := by rw [has116, fm_us, if_neg (by decide), fm_us, if_neg (by decide), e1 (by omega)]
            have hqs116_2 : as116 10 2 = nI z := by rw [has116, fm_us, if_neg (by decide), fm_us, if_neg (by decide), e2 (by omega)]
            have hos116 : ∀ t, t ≠ 10 → as116 t = a t := fun t ht => by rw [has116, fm_utt ht, fm_utt ht]
            refine fe_ivV cs116 (by omega) (by rfl) (by rfl) (by rfl) (by rfl) (by rfl) (by rfl) ?_
            refine fe_s 10 (pc' := 81) (lc' := [(4, .int (0 + 1)), (3, .int 0), (2, .int 0), (0, .ref 0), (1, .int 3)]) (stk' := [.int ((3 - (0 + 1)) + 0), .int (0 + 1)]) (mem' := fm g tp bt as116 b) (by intro _ _ _; eq_refl) ?_
            rw [show (0 + 1 : Int32) = 1 from rfl]
            rw [show ((3 - (1)) + 0 : Int32) = 2 from rfl]
            refine fe_s 1 (pc' := cond (fx_cb .ge 1 2) 102 84) (lc' := [(4, .int 1), (3, .int 0), (2, .int 0), (0, .ref 0), (1, .int 3)]) (stk' := []) (mem' := fm g tp bt as116 b) (by intro _ _ _; eq_refl) ?_
            rw [show (fx_cb .ge 1 2) = false from by decide]
            dsimp only [cond]
            refine fe_s 7 (pc' := 93) (lc' := [(4, .int 1), (3, .int 0), (2, .int 0), (0, .ref 0), (1, .int 3)]) (stk' := [.int ((3 - 1) + 0), .int 1, .ref 0]) (mem' := fm g tp bt as116 b) (by intro _ _ _; eq_refl) ?_
            rw [show ((3 - 1) + 0 : Int32) = 2 from rfl]
            obtain ⟨as117, has117⟩ : ∃ zz, zz = fm_u (fm_u as116 10 1 (as116 10 2)) 10 2 (as116 10 1) := ⟨_, rfl⟩
            have cs117 := fr_swaps (g := g) (tp := tp) (bt := bt) (a := as116) (b := b) (x := 1) (y := 2) (by omega) (by omega)
            rw [← has117] at cs117
            have hqs117_0 : as117 10 0 = nI x := by rw [has117, fm_us, if_neg (by decide), fm_us, if_neg (by decide), hqs116_0]
            have hqs117_1 : as117 10 1 = nI z := by rw [has117, fm_us, if_neg (by decide), fm_us, if_pos (by decide), hqs116_2]
            have hqs117_2 : as117 10 2 = nI y := by rw [has117, fm_us, if_pos (by decide), hqs116_1]
            have hos117 : ∀ t, t ≠ 10 → as117 t = a t := fun t ht => by rw [has117, fm_utt ht, fm_utt ht]; exact hos116 t ht
            refine fe_ivV cs117 (by omega) (by rfl) (by rfl) (by rfl) (by rfl) (by rfl) (by rfl) ?_
            refine fe_s 8 (pc' := 81) (lc' := [(4, .int (1 + 1)), (3, .int 0), (2, .int 0), (0, .ref 0), (1, .int 3)]) (stk' := [.int ((3 - (1 + 1)) + 0), .int (1 + 1)]) (mem' := fm g tp bt as117 b) (by intro _ _ _; eq_refl) ?_
            rw [show (1 + 1 : Int32) = 2 from rfl]
            rw [show ((3 - (2)) + 0 : Int32) = 1 from rfl]
            refine fe_s 1 (pc' := cond (fx_cb .ge 2 1) 102 84) (lc' := [(4, .int 2), (3, .int 0), (2, .int 0), (0, .ref 0), (1, .int 3)]) (stk' := []) (mem' := fm g tp bt as117 b) (by intro _ _ _; eq_refl) ?_
            rw [show (fx_cb .ge 2 1) = true from by decide]
            dsimp only [cond]
            refine fe_s 1 (pc' := 103) (lc' := [(4, .int 2), (3, .int 0), (2, .int 0), (0, .ref 0), (1, .int 3)]) (stk' := [.int 1]) (mem' := fm g tp bt as117 b) (by intro _ _ _; eq_refl) ?_
            exact fe_ret ⟨_, _, hos117, Or.inr ⟨rfl, 512 * x + 64 * z + 8 * y + w, by omega, x, z, y, w, by omega, fun _ => hqs117_0, fun _ => hqs117_1, fun _ => hqs117_2, fun hh => absurd hh (by decide), by omega, by omega, by omega, rfl, by omega, by omega, by omega⟩, rfl⟩ (by rfl) (by rfl) (by rfl)
      · rw [show (fx_cb .le (nI x) (nI y)) = false from cb_leF (a := x) (b := y) (by omega) (by omega) (by omega)]
        dsimp only [cond]
        refine fe_s 3 (pc' := 5) (lc' := [(2, .int (0 + (-1))), (0, .ref 0), (1, .int 3)]) (stk' := [.int (0 + (-1))]) (mem' := fm g tp bt a b) (by intro _ _ _; eq_refl) ?_
        rw [show (0 + (-1) : Int32) = (-1) from rfl]
        refine fe_s 1 (pc' := cond (fx_cb .lt (-1) 0) 31 8) (lc' := [(2, .int (-1)), (0, .ref 0), (1, .int 3)]) (stk' := []) (mem' := fm g tp bt a b) (by intro _ _ _; eq_refl) ?_
        rw [show (fx_cb .lt (-1) 0) = true from by decide]
        dsimp only [cond]
        refine fe_s 1 (pc' := 32) (lc' := [(2, .int (-1)), (0, .ref 0), (1, .int 3)]) (stk' := [.int (-1)]) (mem' := fm g tp bt a b) (by intro _ _ _; eq_refl) ?_
        refine fe_s 1 (pc' := cond (fx_cb .ge (-1) 0) 37 35) (lc' := [(2, .int (-1)), (0, .ref 0), (1, .int 3)]) (stk' := []) (mem' := fm g tp bt a b) (by intro _ _ _; eq_refl) ?_
        rw [show (fx_cb .ge (-1) 0) = false from by decide]
        dsimp only [cond]
        refine fe_s 1 (pc' := 36) (lc' := [(2, .int (-1)), (0, .ref 0), (1, .int 3)]) (stk' := [.int 0]) (mem' := fm g tp bt a b) (by intro _ _ _; eq_refl) ?_
        exact fe_ret ⟨_, _, fun _ _ => rfl, Or.inl ⟨rfl, rfl⟩, rfl⟩ (by rfl) (by rfl) (by rfl)
  · show fe_R 1 gk_m331 0 [(0, .ref 0), (1, .int 4)] [] (fm g tp bt a b) _
    refine fe_s 5 (pc' := 5) (lc' := [(2, .int (4 - 2)), (0, .ref 0), (1, .int 4)]) (stk' := [.int (4 - 2)]) (mem' := fm g tp bt a b) (by intro _ _ _; eq_refl) ?_
    rw [show (4 - 2 : Int32) = 2 from rfl]
    refine fe_s 1 (pc' := cond (fx_cb .lt 2 0) 31 8) (lc' := [(2, .int 2), (0, .ref 0), (1, .int 4)]) (stk' := []) (mem' := fm g tp bt a b) (by intro _ _ _; eq_refl) ?_
    rw [show (fx_cb .lt 2 0) = false from by decide]
    dsimp only [cond]
    refine fe_s 3 (pc' := 13) (lc' := [(2, .int 2), (0, .ref 0), (1, .int 4)]) (stk' := [.int 2, .ref 10]) (mem' := fm g tp bt a b) (by intro _ _ _; eq_refl) ?_
    refine fe_ldI (by rfl) (by rfl) (fx_inN (i := 2) (by omega) (by omega)) ?_
    rw [show Int32.toNatClampNeg (2) = 2 from rfl]
    rw [e2 (by omega)]
    refine fe_s 5 (pc' := 21) (lc' := [(2, .int 2), (0, .ref 0), (1, .int 4)]) (stk' := [.int (2 + 1), .ref 10, .int (nI z)]) (mem' := fm g tp bt a b) (by intro _ _ _; eq_refl) ?_
    rw [show (2 + 1 : Int32) = 3 from rfl]
    refine fe_ldI (by rfl) (by rfl) (fx_inN (i := 3) (by omega) (by omega)) ?_
    rw [show Int32.toNatClampNeg (3) = 3 from rfl]
    rw [e3 (by omega)]
    refine fe_s 1 (pc' := cond (fx_cb .le (nI z) (nI w)) 31 25) (lc' := [(2, .int 2), (0, .ref 0), (1, .int 4)]) (stk' := []) (mem' := fm g tp bt a b) (by intro _ _ _; eq_refl) ?_
    by_cases h118 : z ≤ w
    · rw [show (fx_cb .le (nI z) (nI w)) = true from cb_leT (a := z) (b := w) (by omega) (by omega) (by omega)]
      dsimp only [cond]
      refine fe_s 1 (pc' := 32) (lc' := [(2, .int 2), (0, .ref 0), (1, .int 4)]) (stk' := [.int 2]) (mem' := fm g tp bt a b) (by intro _ _ _; eq_refl) ?_
      refine fe_s 1 (pc' := cond (fx_cb .ge 2 0) 37 35) (lc' := [(2, .int 2), (0, .ref 0), (1, .int 4)]) (stk' := []) (mem' := fm g tp bt a b) (by intro _ _ _; eq_refl) ?_
      rw [show (fx_cb .ge 2 0) = true from by decide]
      dsimp only [cond]
      refine fe_s 7 (pc' := 46) (lc' := [(3, .int (4 - 1)), (2, .int 2), (0, .ref 0), (1, .int 4)]) (stk' := [.int (4 - 1), .ref 10]) (mem' := fm g tp bt a b) (by intro _ _ _; eq_refl) ?_
      rw [show (4 - 1 : Int32) = 3 from rfl]
      refine fe_ldI (by rfl) (by rfl) (fx_inN (i := 3) (by omega) (by omega)) ?_
      rw [show Int32.toNatClampNeg (3) = 3 from rfl]
      rw [e3 (by omega)]
      refine fe_s 3 (pc' := 52) (lc' := [(3, .int 3), (2, .int 2), (0, .ref 0), (1, .int 4)]) (stk' := [.int 2, .ref 10, .int (nI w)]) (mem' := fm g tp bt a b) (by intro _ _ _; eq_refl) ?_
      refine fe_ldI (by rfl) (by rfl) (fx_inN (i := 2) (by omega) (by omega)) ?_
      rw [show Int32.toNatClampNeg (2) = 2 from rfl]
      rw [e2 (by omega)]
      refine fe_s 1 (pc' := cond (fx_cb .ge (nI w) (nI z)) 62 56) (lc' := [(3, .int 3), (2, .int 2), (0, .ref 0), (1, .int 4)]) (stk' := []) (mem' := fm g tp bt a b) (by intro _ _ _; eq_refl) ?_
      by_cases h119 : z ≤ w
      · rw [show (fx_cb .ge (nI w) (nI z)) = true from cb_geT (a := w) (b := z) (by omega) (by omega) (by omega)]
        dsimp only [cond]
        refine fe_s 3 (pc' := 65) (lc' := [(3, .int 3), (2, .int 2), (0, .ref 0), (1, .int 4)]) (stk' := [.int 3, .int 2, .ref 0]) (mem' := fm g tp bt a b) (by intro _ _ _; eq_refl) ?_
        obtain ⟨as120, has120⟩ : ∃ zz, zz = fm_u (fm_u a 10 2 (a 10 3)) 10 3 (a 10 2) := ⟨_, rfl⟩
        have cs120 := fr_swaps (g := g) (tp := tp) (bt := bt) (a := a) (b := b) (x := 2) (y := 3) (by omega) (by omega)
        rw [← has120] at cs120
        have hqs120_0 : as120 10 0 = nI x := by rw [has120, fm_us, if_neg (by decide), fm_us, if_neg (by decide), e0 (by omega)]
        have hqs120_1 : as120 10 1 = nI y := by rw [has120, fm_us, if_neg (by decide), fm_us, if_neg (by decide), e1 (by omega)]
        have hqs120_2 : as120 10 2 = nI w := by rw [has120, fm_us, if_neg (by decide), fm_us, if_pos (by decide), e3 (by omega)]
        have hqs120_3 : as120 10 3 = nI z := by rw [has120, fm_us, if_pos (by decide), e2 (by omega)]
        have hos120 : ∀ t, t ≠ 10 → as120 t = a t := fun t ht => by rw [has120, fm_utt ht, fm_utt ht]
        refine fe_ivV cs120 (by omega) (by rfl) (by rfl) (by rfl) (by rfl) (by rfl) (by rfl) ?_
        refine fe_s 10 (pc' := 81) (lc' := [(4, .int (2 + 1)), (3, .int 3), (2, .int 2), (0, .ref 0), (1, .int 4)]) (stk' := [.int ((4 - (2 + 1)) + 2), .int (2 + 1)]) (mem' := fm g tp bt as120 b) (by intro _ _ _; eq_refl) ?_
        rw [show (2 + 1 : Int32) = 3 from rfl]
        rw [show ((4 - (3)) + 2 : Int32) = 3 from rfl]
        refine fe_s 1 (pc' := cond (fx_cb .ge 3 3) 102 84) (lc' := [(4, .int 3), (3, .int 3), (2, .int 2), (0, .ref 0), (1, .int 4)]) (stk' := []) (mem' := fm g tp bt as120 b) (by intro _ _ _; eq_refl) ?_
        rw [show (fx_cb .ge 3 3) = true from by decide]
        dsimp only [cond]
        refine fe_s 1 (pc' := 103) (lc' := [(4, .int 3), (3, .int 3), (2, .int 2), (0, .ref 0), (1, .int 4)]) (stk' := [.int 1]) (mem' := fm g tp bt as120 b) (by intro _ _ _; eq_refl) ?_
        exact fe_ret ⟨_, _, hos120, Or.inr ⟨rfl, 512 * x + 64 * y + 8 * w + z, by omega, x, y, w, z, by omega, fun _ => hqs120_0, fun _ => hqs120_1, fun _ => hqs120_2, fun _ => hqs120_3, by omega, by omega, by omega, rfl, by omega, by omega, by omega⟩, rfl⟩ (by rfl) (by rfl) (by rfl)
      · rw [show (fx_cb .ge (nI w) (nI z)) = false from cb_geF (a := w) (b := z) (by omega) (by omega) (by omega)]
        dsimp only [cond]
        refine fe_s 5 (pc' := 46) (lc' := [(3, .int (3 + (-1))), (2, .int 2), (0, .ref 0), (1, .int 4)]) (stk' := [.int (3 + (-1)), .ref 10]) (mem' := fm g tp bt a b) (by intro _ _ _; eq_refl) ?_
        rw [show (3 + (-1) : Int32) = 2 from rfl]
        refine fe_ldI (by rfl) (by rfl) (fx_inN (i := 2) (by omega) (by omega)) ?_
        rw [show Int32.toNatClampNeg (2) = 2 from rfl]
        rw [e2 (by omega)]
        refine fe_s 3 (pc' := 52) (lc' := [(3, .int 2), (2, .int 2), (0, .ref 0), (1, .int 4)]) (stk' := [.int 2, .ref 10, .int (nI z)]) (mem' := fm g tp bt a b) (by intro _ _ _; eq_refl) ?_
        refine fe_ldI (by rfl) (by rfl) (fx_inN (i := 2) (by omega) (by omega)) ?_
        rw [show Int32.toNatClampNeg (2) = 2 from rfl]
        rw [e2 (by omega)]
        refine fe_s 1 (pc' := cond (fx_cb .ge (nI z) (nI z)) 62 56) (lc' := [(3, .int 2), (2, .int 2), (0, .ref 0), (1, .int 4)]) (stk' := []) (mem' := fm g tp bt a b) (by intro _ _ _; eq_refl) ?_
        rw [show (fx_cb .ge (nI z) (nI z)) = true from cb_geT (a := z) (b := z) (by omega) (by omega) (by omega)]
        dsimp only [cond]
        refine fe_s 3 (pc' := 65) (lc' := [(3, .int 2), (2, .int 2), (0, .ref 0), (1, .int 4)]) (stk' := [.int 2, .int 2, .ref 0]) (mem' := fm g tp bt a b) (by intro _ _ _; eq_refl) ?_
        obtain ⟨as121, has121⟩ : ∃ zz, zz = fm_u (fm_u a 10 2 (a 10 2)) 10 2 (a 10 2) := ⟨_, rfl⟩
        have cs121 := fr_swaps (g := g) (tp := tp) (bt := bt) (a := a) (b := b) (x := 2) (y := 2) (by omega) (by omega)
        rw [← has121] at cs121
        have hqs121_0 : as121 10 0 = nI x := by rw [has121, fm_us, if_neg (by decide), fm_us, if_neg (by decide), e0 (by omega)]
        have hqs121_1 : as121 10 1 = nI y := by rw [has121, fm_us, if_neg (by decide), fm_us, if_neg (by decide), e1 (by omega)]
        have hqs121_2 : as121 10 2 = nI z := by rw [has121, fm_us, if_pos (by decide), e2 (by omega)]
        have hqs121_3 : as121 10 3 = nI w := by rw [has121, fm_us, if_neg (by decide), fm_us, if_neg (by decide), e3 (by omega)]
        have hos121 : ∀ t, t ≠ 10 → as121 t = a t := fun t ht => by rw [has121, fm_utt ht, fm_utt ht]
        refine fe_ivV cs121 (by omega) (by rfl) (by rfl) (by rfl) (by rfl) (by rfl) (by rfl) ?_
        refine fe_s 10 (pc' := 81) (lc' := [(4, .int (2 + 1)), (3, .int 2), (2, .int 2), (0, .ref 0), (1, .int 4)]) (stk' := [.int ((4 - (2 + 1)) + 2), .int (2 + 1)]) (mem' := fm g tp bt as121 b) (by intro _ _ _; eq_refl) ?_
        rw [show (2 + 1 : Int32) = 3 from rfl]
        rw [show ((4 - (3)) + 2 : Int32) = 3 from rfl]
        refine fe_s 1 (pc' := cond (fx_cb .ge 3 3) 102 84) (lc' := [(4, .int 3), (3, .int 2), (2, .int 2), (0, .ref 0), (1, .int 4)]) (stk' := []) (mem' := fm g tp bt as121 b) (by intro _ _ _; eq_refl) ?_
        rw [show (fx_cb .ge 3 3) = true from by decide]
        dsimp only [cond]
        refine fe_s 1 (pc' := 103) (lc' := [(4, .int 3), (3, .int 2), (2, .int 2), (0, .ref 0), (1, .int 4)]) (stk' := [.int 1]) (mem' := fm g tp bt as121 b) (by intro _ _ _; eq_refl) ?_
        exact fe_ret ⟨_, _, hos121, Or.inr ⟨rfl, 512 * x + 64 * y + 8 * z + w, by omega, x, y, z, w, by omega, fun _ => hqs121_0, fun _ => hqs121_1, fun _ => hqs121_2, fun _ => hqs121_3, by omega, by omega, by omega, rfl, by omega, by omega, by omega⟩, rfl⟩ (by rfl) (by rfl) (by rfl)
    · rw [show (fx_cb .le (nI z) (nI w)) = false from cb_leF (a := z) (b := w) (by omega) (by omega) (by omega)]
      dsimp only [cond]
      refine fe_s 3 (pc' := 5) (lc' := [(2, .int (2 + (-1))), (0, .ref 0), (1, .int 4)]) (stk' := [.int (2 + (-1))]) (mem' := fm g tp bt a b) (by intro _ _ _; eq_refl) ?_
      rw [show (2 + (-1) : Int32) = 1 from rfl]
      refine fe_s 1 (pc' := cond (fx_cb .lt 1 0) 31 8) (lc' := [(2, .int 1), (0, .ref 0), (1, .int 4)]) (stk' := []) (mem' := fm g tp bt a b) (by intro _ _ _; eq_refl) ?_
      rw [show (fx_cb .lt 1 0) = false from by decide]
      dsimp only [cond]
      refine fe_s 3 (pc' := 13) (lc' := [(2, .int 1), (0, .ref 0), (1, .int 4)]) (stk' := [.int 1, .ref 10]) (mem' := fm g tp bt a b) (by intro _ _ _; eq_refl) ?_
      refine fe_ldI (by rfl) (by rfl) (fx_inN (i := 1) (by omega) (by omega)) ?_
      rw [show Int32.toNatClampNeg (1) = 1 from rfl]
      rw [e1 (by omega)]
      refine fe_s 5 (pc' := 21) (lc' := [(2, .int 1), (0, .ref 0), (1, .int 4)]) (stk' := [.int (1 + 1), .ref 10, .int (nI y)]) (mem' := fm g tp bt a b) (by intro _ _ _; eq_refl) ?_
      rw [show (1 + 1 : Int32) = 2 from rfl]
      refine fe_ldI (by rfl) (by rfl) (fx_inN (i := 2) (by omega) (by omega)) ?_
      rw [show Int32.toNatClampNeg (2) = 2 from rfl]
      rw [e2 (by omega)]
      refine fe_s 1 (pc' := cond (fx_cb .le (nI y) (nI z)) 31 25) (lc' := [(2, .int 1), (0, .ref 0), (1, .int 4)]) (stk' := []) (mem' := fm g tp bt a b) (by intro _ _ _; eq_refl) ?_
      by_cases h122 : y ≤ z
      · rw [show (fx_cb .le (nI y) (nI z)) = true from cb_leT (a := y) (b := z) (by omega) (by omega) (by omega)]
        dsimp only [cond]
        refine fe_s 1 (pc' := 32) (lc' := [(2, .int 1), (0, .ref 0), (1, .int 4)]) (stk' := [.int 1]) (mem' := fm g tp bt a b) (by intro _ _ _; eq_refl) ?_
        refine fe_s 1 (pc' := cond (fx_cb .ge 1 0) 37 35) (lc' := [(2, .int 1), (0, .ref 0), (1, .int 4)]) (stk' := []) (mem' := fm g tp bt a b) (by intro _ _ _; eq_refl) ?_
        rw [show (fx_cb .ge 1 0) = true from by decide]
        dsimp only [cond]
        refine fe_s 7 (pc' := 46) (lc' := [(3, .int (4 - 1)), (2, .int 1), (0, .ref 0), (1, .int 4)]) (stk' := [.int (4 - 1), .ref 10]) (mem' := fm g tp bt a b) (by intro _ _ _; eq_refl) ?_
        rw [show (4 - 1 : Int32) = 3 from rfl]
        refine fe_ldI (by rfl) (by rfl) (fx_inN (i := 3) (by omega) (by omega)) ?_
        rw [show Int32.toNatClampNeg (3) = 3 from rfl]
        rw [e3 (by omega)]
        refine fe_s 3 (pc' := 52) (lc' := [(3, .int 3), (2, .int 1), (0, .ref 0), (1, .int 4)]) (stk' := [.int 1, .ref 10, .int (nI w)]) (mem' := fm g tp bt a b) (by intro _ _ _; eq_refl) ?_
        refine fe_ldI (by rfl) (by rfl) (fx_inN (i := 1) (by omega) (by omega)) ?_
        rw [show Int32.toNatClampNeg (1) = 1 from rfl]
        rw [e1 (by omega)]
        refine fe_s 1 (pc' := cond (fx_cb .ge (nI w) (nI y)) 62 56) (lc' := [(3, .int 3), (2, .int 1), (0, .ref 0), (1, .int 4)]) (stk' := []) (mem' := fm g tp bt a b) (by intro _ _ _; eq_refl) ?_
        by_cases h123 : y ≤ w
        · rw [show (fx_cb .ge (nI w) (nI y)) = true from cb_geT (a := w) (b := y) (by omega) (by omega) (by omega)]
          dsimp only [cond]
          refine fe_s 3 (pc' := 65) (lc' := [(3, .int 3), (2, .int 1), (0, .ref 0), (1, .int 4)]) (stk' := [.int 3, .int 1, .ref 0]) (mem' := fm g tp bt a b) (by intro _ _ _; eq_refl) ?_
          obtain ⟨as124, has124⟩ : ∃ zz, zz = fm_u (fm_u a 10 1 (a 10 3)) 10 3 (a 10 1) := ⟨_, rfl⟩
          have cs124 := fr_swaps (g := g) (tp := tp) (bt := bt) (a := a) (b := b) (x := 1) (y := 3) (by omega) (by omega)
          rw [← has124] at cs124
          have hqs124_0 : as124 10 0 = nI x := by rw [has124, fm_us, if_neg (by decide), fm_us, if_neg (by decide), e0 (by omega)]
          have hqs124_1 : as124 10 1 = nI w := by rw [has124, fm_us, if_neg (by decide), fm_us, if_pos (by decide), e3 (by omega)]
          have hqs124_2 : as124 10 2 = nI z := by rw [has124, fm_us, if_neg (by decide), fm_us, if_neg (by decide), e2 (by omega)]
          have hqs124_3 : as124 10 3 = nI y := by rw [has124, fm_us, if_pos (by decide), e1 (by omega)]
          have hos124 : ∀ t, t ≠ 10 → as124 t = a t := fun t ht => by rw [has124, fm_utt ht, fm_utt ht]
          refine fe_ivV cs124 (by omega) (by rfl) (by rfl) (by rfl) (by rfl) (by rfl) (by rfl) ?_
          refine fe_s 10 (pc' := 81) (lc' := [(4, .int (1 + 1)), (3, .int 3), (2, .int 1), (0, .ref 0), (1, .int 4)]) (stk' := [.int ((4 - (1 + 1)) + 1), .int (1 + 1)]) (mem' := fm g tp bt as124 b) (by intro _ _ _; eq_refl) ?_
          rw [show (1 + 1 : Int32) = 2 from rfl]
          rw [show ((4 - (2)) + 1 : Int32) = 3 from rfl]
          refine fe_s 1 (pc' := cond (fx_cb .ge 2 3) 102 84) (lc' := [(4, .int 2), (3, .int 3), (2, .int 1), (0, .ref 0), (1, .int 4)]) (stk' := []) (mem' := fm g tp bt as124 b) (by intro _ _ _; eq_refl) ?_
          rw [show (fx_cb .ge 2 3) = false from by decide]
          dsimp only [cond]
          refine fe_s 7 (pc' := 93) (lc' := [(4, .int 2), (3, .int 3), (2, .int 1), (0, .ref 0), (1, .int 4)]) (stk' := [.int ((4 - 2) + 1), .int 2, .ref 0]) (mem' := fm g tp bt as124 b) (by intro _ _ _; eq_refl) ?_
          rw [show ((4 - 2) + 1 : Int32) = 3 from rfl]
          obtain ⟨as125, has125⟩ : ∃ zz, zz = fm_u (fm_u as124 10 2 (as124 10 3)) 10 3 (as124 10 2) := ⟨_, rfl⟩
          have cs125 := fr_swaps (g := g) (tp := tp) (bt := bt) (a := as124) (b := b) (x := 2) (y := 3) (by omega) (by omega)
          rw [← has125] at cs125
          have hqs125_0 : as125 10 0 = nI x := by rw [has125, fm_us, if_neg (by decide), fm_us, if_neg (by decide), hqs124_0]
          have hqs125_1 : as125 10 1 = nI w := by rw [has125, fm_us, if_neg (by decide), fm_us, if_neg (by decide), hqs124_1]
          have hqs125_2 : as125 10 2 = nI y := by rw [has125, fm_us, if_neg (by decide), fm_us, if_pos (by decide), hqs124_3]
          have hqs125_3 : as125 10 3 = nI z := by rw [has125, fm_us, if_pos (by decide), hqs124_2]
          have hos125 : ∀ t, t ≠ 10 → as125 t = a t := fun t ht => by rw [has125, fm_utt ht, fm_utt ht]; exact hos124 t ht
          refine fe_ivV cs125 (by omega) (by rfl) (by rfl) (by rfl) (by rfl) (by rfl) (by rfl) ?_
          refine fe_s 8 (pc' := 81) (lc' := [(4, .int (2 + 1)), (3, .int 3), (2, .int 1), (0, .ref 0), (1, .int 4)]) (stk' := [.int ((4 - (2 + 1)) + 1), .int (2 + 1)]) (mem' := fm g tp bt as125 b) (by intro _ _ _; eq_refl) ?_
          rw [show (2 + 1 : Int32) = 3 from rfl]
          rw [show ((4 - (3)) + 1 : Int32) = 2 from rfl]
          refine fe_s 1 (pc' := cond (fx_cb .ge 3 2) 102 84) (lc' := [(4, .int 3), (3, .int 3), (2, .int 1), (0, .ref 0), (1, .int 4)]) (stk' := []) (mem' := fm g tp bt as125 b) (by intro _ _ _; eq_refl) ?_
          rw [show (fx_cb .ge 3 2) = true from by decide]
          dsimp only [cond]
          refine fe_s 1 (pc' := 103) (lc' := [(4, .int 3), (3, .int 3), (2, .int 1), (0, .ref 0), (1, .int 4)]) (stk' := [.int 1]) (mem' := fm g tp bt as125 b) (by intro _ _ _; eq_refl) ?_
          exact fe_ret ⟨_, _, hos125, Or.inr ⟨rfl, 512 * x + 64 * w + 8 * y + z, by omega, x, w, y, z, by omega, fun _ => hqs125_0, fun _ => hqs125_1, fun _ => hqs125_2, fun _ => hqs125_3, by omega, by omega, by omega, rfl, by omega, by omega, by omega⟩, rfl⟩ (by rfl) (by rfl) (by rfl)
        · rw [show (fx_cb .ge (nI w) (nI y)) = false from cb_geF (a := w) (b := y) (by omega) (by omega) (by omega)]
          dsimp only [cond]
          refine fe_s 5 (pc' := 46) (lc' := [(3, .int (3 + (-1))), (2, .int 1), (0, .ref 0), (1, .int 4)]) (stk' := [.int (3 + (-1)), .ref 10]) (mem' := fm g tp bt a b) (by intro _ _ _; eq_refl) ?_
          rw [show (3 + (-1) : Int32) = 2 from rfl]
          refine fe_ldI (by rfl) (by rfl) (fx_inN (i := 2) (by omega) (by omega)) ?_
          rw [show Int32.toNatClampNeg (2) = 2 from rfl]
          rw [e2 (by omega)]
          refine fe_s 3 (pc' := 52) (lc' := [(3, .int 2), (2, .int 1), (0, .ref 0), (1, .int 4)]) (stk' := [.int 1, .ref 10, .int (nI z)]) (mem' := fm g tp bt a b) (by intro _ _ _; eq_refl) ?_
          refine fe_ldI (by rfl) (by rfl) (fx_inN (i := 1) (by omega) (by omega)) ?_
          rw [show Int32.toNatClampNeg (1) = 1 from rfl]
          rw [e1 (by omega)]
          refine fe_s 1 (pc' := cond (fx_cb .ge (nI z) (nI y)) 62 56) (lc' := [(3, .int 2), (2, .int 1), (0, .ref 0), (1, .int 4)]) (stk' := []) (mem' := fm g tp bt a b) (by intro _ _ _; eq_refl) ?_
          by_cases h126 : y ≤ z
          · rw [show (fx_cb .ge (nI z) (nI y)) = true from cb_geT (a := z) (b := y) (by omega) (by omega) (by omega)]
            dsimp only [cond]
            refine fe_s 3 (pc' := 65) (lc' := [(3, .int 2), (2, .int 1), (0, .ref 0), (1, .int 4)]) (stk' := [.int 2, .int 1, .ref 0]) (mem' := fm g tp bt a b) (by intro _ _ _; eq_refl) ?_
            obtain ⟨as127, has127⟩ : ∃ zz, zz = fm_u (fm_u a 10 1 (a 10 2)) 10 2 (a 10 1) := ⟨_, rfl⟩
            have cs127 := fr_swaps (g := g) (tp := tp) (bt := bt) (a := a) (b := b) (x := 1) (y := 2) (by omega) (by omega)
            rw [← has127] at cs127
            have hqs127_0 : as127 10 0 = nI x := by rw [has127, fm_us, if_neg (by decide), fm_us, if_neg (by decide), e0 (by omega)]
            have hqs127_1 : as127 10 1 = nI z := by rw [has127, fm_us, if_neg (by decide), fm_us, if_pos (by decide), e2 (by omega)]
            have hqs127_2 : as127 10 2 = nI y := by rw [has127, fm_us, if_pos (by decide), e1 (by omega)]
            have hqs127_3 : as127 10 3 = nI w := by rw [has127, fm_us, if_neg (by decide), fm_us, if_neg (by decide), e3 (by omega)]
            have hos127 : ∀ t, t ≠ 10 → as127 t = a t := fun t ht => by rw [has127, fm_utt ht, fm_utt ht]
            refine fe_ivV cs127 (by omega) (by rfl) (by rfl) (by rfl) (by rfl) (by rfl) (by rfl) ?_
            refine fe_s 10 (pc' := 81) (lc' := [(4, .int (1 + 1)), (3, .int 2), (2, .int 1), (0, .ref 0), (1, .int 4)]) (stk' := [.int ((4 - (1 + 1)) + 1), .int (1 + 1)]) (mem' := fm g tp bt as127 b) (by intro _ _ _; eq_refl) ?_
            rw [show (1 + 1 : Int32) = 2 from rfl]
            rw [show ((4 - (2)) + 1 : Int32) = 3 from rfl]
            refine fe_s 1 (pc' := cond (fx_cb .ge 2 3) 102 84) (lc' := [(4, .int 2), (3, .int 2), (2, .int 1), (0, .ref 0), (1, .int 4)]) (stk' := []) (mem' := fm g tp bt as127 b) (by intro _ _ _; eq_refl) ?_
            rw [show (fx_cb .ge 2 3) = false from by decide]
            dsimp only [cond]
            refine fe_s 7 (pc' := 93) (lc' := [(4, .int 2), (3, .int 2), (2, .int 1), (0, .ref 0), (1, .int 4)]) (stk' := [.int ((4 - 2) + 1), .int 2, .ref 0]) (mem' := fm g tp bt as127 b) (by intro _ _ _; eq_refl) ?_
            rw [show ((4 - 2) + 1 : Int32) = 3 from rfl]
            obtain ⟨as128, has128⟩ : ∃ zz, zz = fm_u (fm_u as127 10 2 (as127 10 3)) 10 3 (as127 10 2) := ⟨_, rfl⟩
            have cs128 := fr_swaps (g := g) (tp := tp) (bt := bt) (a := as127) (b := b) (x := 2) (y := 3) (by omega) (by omega)
            rw [← has128] at cs128
            have hqs128_0 : as128 10 0 = nI x := by rw [has128, fm_us, if_neg (by decide), fm_us, if_neg (by decide), hqs127_0]
            have hqs128_1 : as128 10 1 = nI z := by rw [has128, fm_us, if_neg (by decide), fm_us, if_neg (by decide), hqs127_1]
            have hqs128_2 : as128 10 2 = nI w := by rw [has128, fm_us, if_neg (by decide), fm_us, if_pos (by decide), hqs127_3]
            have hqs128_3 : as128 10 3 = nI y := by rw [has128, fm_us, if_pos (by decide), hqs127_2]
            have hos128 : ∀ t, t ≠ 10 → as128 t = a t := fun t ht => by rw [has128, fm_utt ht, fm_utt ht]; exact hos127 t ht
            refine fe_ivV cs128 (by omega) (by rfl) (by rfl) (by rfl) (by rfl) (by rfl) (by rfl) ?_
            refine fe_s 8 (pc' := 81) (lc' := [(4, .int (2 + 1)), (3, .int 2), (2, .int 1), (0, .ref 0), (1, .int 4)]) (stk' := [.int ((4 - (2 + 1)) + 1), .int (2 + 1)]) (mem' := fm g tp bt as128 b) (by intro _ _ _; eq_refl) ?_
            rw [show (2 + 1 : Int32) = 3 from rfl]
            rw [show ((4 - (3)) + 1 : Int32) = 2 from rfl]
            refine fe_s 1 (pc' := cond (fx_cb .ge 3 2) 102 84) (lc' := [(4, .int 3), (3, .int 2), (2, .int 1), (0, .ref 0), (1, .int 4)]) (stk' := []) (mem' := fm g tp bt as128 b) (by intro _ _ _; eq_refl) ?_
            rw [show (fx_cb .ge 3 2) = true from by decide]
            dsimp only [cond]
            refine fe_s 1 (pc' := 103) (lc' := [(4, .int 3), (3, .int 2), (2, .int 1), (0, .ref 0), (1, .int 4)]) (stk' := [.int 1]) (mem' := fm g tp bt as128 b) (by intro _ _ _; eq_refl) ?_
            exact fe_ret ⟨_, _, hos128, Or.inr ⟨rfl, 512 * x + 64 * z + 8 * w + y, by omega, x, z, w, y, by omega, fun _ => hqs128_0, fun _ => hqs128_1, fun _ => hqs128_2, fun _ => hqs128_3, by omega, by omega, by omega, rfl, by omega, by omega, by omega⟩, rfl⟩ (by rfl) (by rfl) (by rfl)
          · rw [show (fx_cb .ge (nI z) (nI y)) = false from cb_geF (a := z) (b := y) (by omega) (by omega) (by omega)]
            dsimp only [cond]
            refine fe_s 5 (pc' := 46) (lc' := [(3, .int (2 + (-1))), (2, .int 1), (0, .ref 0), (1, .int 4)]) (stk' := [.int (2 + (-1)), .ref 10]) (mem' := fm g tp bt a b) (by intro _ _ _; eq_refl) ?_
            rw [show (2 + (-1) : Int32) = 1 from rfl]
            refine fe_ldI (by rfl) (by rfl) (fx_inN (i := 1) (by omega) (by omega)) ?_
            rw [show Int32.toNatClampNeg (1) = 1 from rfl]
            rw [e1 (by omega)]
            refine fe_s 3 (pc' := 52) (lc' := [(3, .int 1), (2, .int 1), (0, .ref 0), (1, .int 4)]) (stk' := [.int 1, .ref 10, .int (nI y)]) (mem' := fm g tp bt a b) (by intro _ _ _; eq_refl) ?_
            refine fe_ldI (by rfl) (by rfl) (fx_inN (i := 1) (by omega) (by omega)) ?_
            rw [show Int32.toNatClampNeg (1) = 1 from rfl]
            rw [e1 (by omega)]
            refine fe_s 1 (pc' := cond (fx_cb .ge (nI y) (nI y)) 62 56) (lc' := [(3, .int 1), (2, .int 1), (0, .ref 0), (1, .int 4)]) (stk' := []) (mem' := fm g tp bt a b) (by intro _ _ _; eq_refl) ?_
            rw [show (fx_cb .ge (nI y) (nI y)) = true from cb_geT (a := y) (b := y) (by omega) (by omega) (by omega)]
            dsimp only [cond]
            refine fe_s 3 (pc' := 65) (lc' := [(3, .int 1), (2, .int 1), (0, .ref 0), (1, .int 4)]) (stk' := [.int 1, .int 1, .ref 0]) (mem' := fm g tp bt a b) (by intro _ _ _; eq_refl) ?_
            obtain ⟨as129, has129⟩ : ∃ zz, zz = fm_u (fm_u a 10 1 (a 10 1)) 10 1 (a 10 1) := ⟨_, rfl⟩
            have cs129 := fr_swaps (g := g) (tp := tp) (bt := bt) (a := a) (b := b) (x := 1) (y := 1) (by omega) (by omega)
            rw [← has129] at cs129
            have hqs129_0 : as129 10 0 = nI x := by rw [has129, fm_us, if_neg (by decide), fm_us, if_neg (by decide), e0 (by omega)]
            have hqs129_1 : as129 10 1 = nI y := by rw [has129, fm_us, if_pos (by decide), e1 (by omega)]
            have hqs129_2 : as129 10 2 = nI z := by rw [has129, fm_us, if_neg (by decide), fm_us, if_neg (by decide), e2 (by omega)]
            have hqs129_3 : as129 10 3 = nI w := by rw [has129, fm_us, if_neg (by decide), fm_us, if_neg (by decide), e3 (by omega)]
            have hos129 : ∀ t, t ≠ 10 → as129 t = a t := fun t ht => by rw [has129, fm_utt ht, fm_utt ht]
            refine fe_ivV cs129 (by omega) (by rfl) (by rfl) (by rfl) (by rfl) (by rfl) (by rfl) ?_
            refine fe_s 10 (pc' := 81) (lc' := [(4, .int (1 + 1)), (3, .int 1), (2, .int 1), (0, .ref 0), (1, .int 4)]) (stk' := [.int ((4 - (1 + 1)) + 1), .int (1 + 1)]) (mem' := fm g tp bt as129 b) (by intro _ _ _; eq_refl) ?_
            rw [show (1 + 1 : Int32) = 2 from rfl]
            rw [show ((4 - (2)) + 1 : Int32) = 3 from rfl]
            refine fe_s 1 (pc' := cond (fx_cb .ge 2 3) 102 84) (lc' := [(4, .int 2), (3, .int 1), (2, .int 1), (0, .ref 0), (1, .int 4)]) (stk' := []) (mem' := fm g tp bt as129 b) (by intro _ _ _; eq_refl) ?_
            rw [show (fx_cb .ge 2 3) = false from by decide]
            dsimp only [cond]
            refine fe_s 7 (pc' := 93) (lc' := [(4, .int 2), (3, .int 1), (2, .int 1), (0, .ref 0), (1, .int 4)]) (stk' := [.int ((4 - 2) + 1), .int 2, .ref 0]) (mem' := fm g tp bt as129 b) (by intro _ _ _; eq_refl) ?_
            rw [show ((4 - 2) + 1 : Int32) = 3 from rfl]
            obtain ⟨as130, has130⟩ : ∃ zz, zz = fm_u (fm_u as129 10 2 (as129 10 3)) 10 3 (as129 10 2) := ⟨_, rfl⟩
            have cs130 := fr_swaps (g := g) (tp := tp) (bt := bt) (a := as129) (b := b) (x := 2) (y := 3) (by omega) (by omega)
            rw [← has130] at cs130
            have hqs130_0 : as130 10 0 = nI x := by rw [has130, fm_us, if_neg (by decide), fm_us, if_neg (by decide), hqs129_0]
            have hqs130_1 : as130 10 1 = nI y := by rw [has130, fm_us, if_neg (by decide), fm_us, if_neg (by decide), hqs129_1]
            have hqs130_2 : as130 10 2 = nI w := by rw [has130, fm_us, if_neg (by decide), fm_us, if_pos (by decide), hqs129_3]
            have hqs130_3 : as130 10 3 = nI z := by rw [has130, fm_us, if_pos (by decide), hqs129_2]
            have hos130 : ∀ t, t ≠ 10 → as130 t = a t := fun t ht => by rw [has130, fm_utt ht, fm_utt ht]; exact hos129 t ht
            refine fe_ivV cs130 (by omega) (by rfl) (by rfl) (by rfl) (by rfl) (by rfl) (by rfl) ?_
            refine fe_s 8 (pc' := 81) (lc' := [(4, .int (2 + 1)), (3, .int 1), (2, .int 1), (0, .ref 0), (1, .int 4)]) (stk' := [.int ((4 - (2 + 1)) + 1), .int (2 + 1)]) (mem' := fm g tp bt as130 b) (by intro _ _ _; eq_refl) ?_
            rw [show (2 + 1 : Int32) = 3 from rfl]
            rw [show ((4 - (3)) + 1 : Int32) = 2 from rfl]
            refine fe_s 1 (pc' := cond (fx_cb .ge 3 2) 102 84) (lc' := [(4, .int 3), (3, .int 1), (2, .int 1), (0, .ref 0), (1, .int 4)]) (stk' := []) (mem' := fm g tp bt as130 b) (by intro _ _ _; eq_refl) ?_
            rw [show (fx_cb .ge 3 2) = true from by decide]
            dsimp only [cond]
            refine fe_s 1 (pc' := 103) (lc' := [(4, .int 3), (3, .int 1), (2, .int 1), (0, .ref 0), (1, .int 4)]) (stk' := [.int 1]) (mem' := fm g tp bt as130 b) (by intro _ _ _; eq_refl) ?_
            exact fe_ret ⟨_, _, hos130, Or.inr ⟨rfl, 512 * x + 64 * y + 8 * w + z, by omega, x, y, w, z, by omega, fun _ => hqs130_0, fun _ => hqs130_1, fun _ => hqs130_2, fun _ => hqs130_3, by omega, by omega, by omega, rfl, by omega, by omega, by omega⟩, rfl⟩ (by rfl) (by rfl) (by rfl)
      · rw [show (fx_cb .le (nI y) (nI z)) = false from cb_leF (a := y) (b := z) (by omega) (by omega) (by omega)]
        dsimp only [cond]
        refine fe_s 3 (pc' := 5) (lc' := [(2, .int (1 + (-1))), (0, .ref 0), (1, .int 4)]) (stk' := [.int (1 + (-1))]) (mem' := fm g tp bt a b) (by intro _ _ _; eq_refl) ?_
        rw [show (1 + (-1) : Int32) = 0 from rfl]
        refine fe_s 1 (pc' := cond (fx_cb .lt 0 0) 31 8) (lc' := [(2, .int 0), (0, .ref 0), (1, .int 4)]) (stk' := []) (mem' := fm g tp bt a b) (by intro _ _ _; eq_refl) ?_
        rw [show (fx_cb .lt 0 0) = false from by decide]
        dsimp only [cond]
        refine fe_s 3 (pc' := 13) (lc' := [(2, .int 0), (0, .ref 0), (1, .int 4)]) (stk' := [.int 0, .ref 10]) (mem' := fm g tp bt a b) (by intro _ _ _; eq_refl) ?_
        refine fe_ldI (by rfl) (by rfl) (fx_inN (i := 0) (by omega) (by omega)) ?_
        rw [show Int32.toNatClampNeg (0) = 0 from rfl]
        rw [e0 (by omega)]
        refine fe_s 5 (pc' := 21) (lc' := [(2, .int 0), (0, .ref 0), (1, .int 4)]) (stk' := [.int (0 + 1), .ref 10, .int (nI x)]) (mem' := fm g tp bt a b) (by intro _ _ _; eq_refl) ?_
        rw [show (0 + 1 : Int32) = 1 from rfl]
        refine fe_ldI (by rfl) (by rfl) (fx_inN (i := 1) (by omega) (by omega)) ?_
        rw [show Int32.toNatClampNeg (1) = 1 from rfl]
        rw [e1 (by omega)]
        refine fe_s 1 (pc' := cond (fx_cb .le (nI x) (nI y)) 31 25) (lc' := [(2, .int 0), (0, .ref 0), (1, .int 4)]) (stk' := []) (mem' := fm g tp bt a b) (by intro _ _ _; eq_refl) ?_
        by_cases h131 : x ≤ y
        · rw [show (fx_cb .le (nI x) (nI y)) = true from cb_leT (a := x) (b := y) (by omega) (by omega) (by omega)]
          dsimp only [cond]
          refine fe_s 1 (pc' := 32) (lc' := [(2, .int 0), (0, .ref 0), (1, .int 4)]) (stk' := [.int 0]) (mem' := fm g tp bt a b) (by intro _ _ _; eq_refl) ?_
          refine fe_s 1 (pc' := cond (fx_cb .ge 0 0) 37 35) (lc' := [(2, .int 0), (0, .ref 0), (1, .int 4)]) (stk' := []) (mem' := fm g tp bt a b) (by intro _ _ _; eq_refl) ?_
          rw [show (fx_cb .ge 0 0) = true from by decide]
          dsimp only [cond]
          refine fe_s 7 (pc' := 46) (lc' := [(3, .int (4 - 1)), (2, .int 0), (0, .ref 0), (1, .int 4)]) (stk' := [.int (4 - 1), .ref 10]) (mem' := fm g tp bt a b) (by intro _ _ _; eq_refl) ?_
          rw [show (4 - 1 : Int32) = 3 from rfl]
          refine fe_ldI (by rfl) (by rfl) (fx_inN (i := 3) (by omega) (by omega)) ?_
          rw [show Int32.toNatClampNeg (3) = 3 from rfl]
          rw [e3 (by omega)]
          refine fe_s 3 (pc' := 52) (lc' := [(3, .int 3), (2, .int 0), (0, .ref 0), (1, .int 4)]) (stk' := [.int 0, .ref 10, .int (nI w)]) (mem' := fm g tp bt a b) (by intro _ _ _; eq_refl) ?_
          refine fe_ldI (by rfl) (by rfl) (fx_inN (i := 0) (by omega) (by omega)) ?_
          rw [show Int32.toNatClampNeg (0) = 0 from rfl]
          rw [e0 (by omega)]
          refine fe_s 1 (pc' := cond (fx_cb .ge (nI w) (nI x)) 62 56) (lc' := [(3, .int 3), (2, .int 0), (0, .ref 0), (1, .int 4)]) (stk' := []) (mem' := fm g tp bt a b) (by intro _ _ _; eq_refl) ?_
          by_cases h132 : x ≤ w
          · rw [show (fx_cb .ge (nI w) (nI x)) = true from cb_geT (a := w) (b := x) (by omega) (by omega) (by omega)]
            dsimp only [cond]
            refine fe_s 3 (pc' := 65) (lc' := [(3, .int 3), (2, .int 0), (0, .ref 0), (1, .int 4)]) (stk' := [.int 3, .int 0, .ref 0]) (mem' := fm g tp bt a b) (by intro _ _ _; eq_refl) ?_
            obtain ⟨as133, has133⟩ : ∃ zz, zz = fm_u (fm_u a 10 0 (a 10 3)) 10 3 (a 10 0) := ⟨_, rfl⟩
            have cs133 := fr_swaps (g := g) (tp := tp) (bt := bt) (a := a) (b := b) (x := 0) (y := 3) (by omega) (by omega)
            rw [← has133] at cs133
            have hqs133_0 : as133 10 0 = nI w := by rw [has133, fm_us, if_neg (by decide), fm_us, if_pos (by decide), e3 (by omega)]
            have hqs133_1 : as133 10 1 = nI y := by rw [has133, fm_us, if_neg (by decide), fm_us, if_neg (by decide), e1 (by omega)]
            have hqs133_2 : as133 10 2 = nI z := by rw [has133, fm_us, if_neg (by decide), fm_us, if_neg (by decide), e2 (by omega)]
            have hqs133_3 : as133 10 3 = nI x := by rw [has133, fm_us, if_pos (by decide), e0 (by omega)]
            have hos133 : ∀ t, t ≠ 10 → as133 t = a t := fun t ht => by rw [has133, fm_utt ht, fm_utt ht]
            refine fe_ivV cs133 (by omega) (by rfl) (by rfl) (by rfl) (by rfl) (by rfl) (by rfl) ?_
            refine fe_s 10 (pc' := 81) (lc' := [(4, .int (0 + 1)), (3, .int 3), (2, .int 0), (0, .ref 0), (1, .int 4)]) (stk' := [.int ((4 - (0 + 1)) + 0), .int (0 + 1)]) (mem' := fm g tp bt as133 b) (by intro _ _ _; eq_refl) ?_
            rw [show (0 + 1 : Int32) = 1 from rfl]
            rw [show ((4 - (1)) + 0 : Int32) = 3 from rfl]
            refine fe_s 1 (pc' := cond (fx_cb .ge 1 3) 102 84) (lc' := [(4, .int 1), (3, .int 3), (2, .int 0), (0, .ref 0), (1, .int 4)]) (stk' := []) (mem' := fm g tp bt as133 b) (by intro _ _ _; eq_refl) ?_
            rw [show (fx_cb .ge 1 3) = false from by decide]
            dsimp only [cond]
            refine fe_s 7 (pc' := 93) (lc' := [(4, .int 1), (3, .int 3), (2, .int 0), (0, .ref 0), (1, .int 4)]) (stk' := [.int ((4 - 1) + 0), .int 1, .ref 0]) (mem' := fm g tp bt as133 b) (by intro _ _ _; eq_refl) ?_
            rw [show ((4 - 1) + 0 : Int32) = 3 from rfl]
            obtain ⟨as134, has134⟩ : ∃ zz, zz = fm_u (fm_u as133 10 1 (as133 10 3)) 10 3 (as133 10 1) := ⟨_, rfl⟩
            have cs134 := fr_swaps (g := g) (tp := tp) (bt := bt) (a := as133) (b := b) (x := 1) (y := 3) (by omega) (by omega)
            rw [← has134] at cs134
            have hqs134_0 : as134 10 0 = nI w := by rw [has134, fm_us, if_neg (by decide), fm_us, if_neg (by decide), hqs133_0]
            have hqs134_1 : as134 10 1 = nI x := by rw [has134, fm_us, if_neg (by decide), fm_us, if_pos (by decide), hqs133_3]
            have hqs134_2 : as134 10 2 = nI z := by rw [has134, fm_us, if_neg (by decide), fm_us, if_neg (by decide), hqs133_2]
            have hqs134_3 : as134 10 3 = nI y := by rw [has134, fm_us, if_pos (by decide), hqs133_1]
            have hos134 : ∀ t, t ≠ 10 → as134 t = a t := fun t ht => by rw [has134, fm_utt ht, fm_utt ht]; exact hos133 t ht
            refine fe_ivV cs134 (by omega) (by rfl) (by rfl) (by rfl) (by rfl) (by rfl) (by rfl) ?_
            refine fe_s 8 (pc' := 81) (lc' := [(4, .int (1 + 1)), (3, .int 3), (2, .int 0), (0, .ref 0), (1, .int 4)]) (stk' := [.int ((4 - (1 + 1)) + 0), .int (1 + 1)]) (mem' := fm g tp bt as134 b) (by intro _ _ _; eq_refl) ?_
            rw [show (1 + 1 : Int32) = 2 from rfl]
            rw [show ((4 - (2)) + 0 : Int32) = 2 from rfl]
            refine fe_s 1 (pc' := cond (fx_cb .ge 2 2) 102 84) (lc' := [(4, .int 2), (3, .int 3), (2, .int 0), (0, .ref 0), (1, .int 4)]) (stk' := []) (mem' := fm g tp bt as134 b) (by intro _ _ _; eq_refl) ?_
            rw [show (fx_cb .ge 2 2) = true from by decide]
            dsimp only [cond]
            refine fe_s 1 (pc' := 103) (lc' := [(4, .int 2), (3, .int 3), (2, .int 0), (0, .ref 0), (1, .int 4)]) (stk' := [.int 1]) (mem' := fm g tp bt as134 b) (by intro _ _ _; eq_refl) ?_
            exact fe_ret ⟨_, _, hos134, Or.inr ⟨rfl, 512 * w + 64 * x + 8 * z + y, by omega, w, x, z, y, by omega, fun _ => hqs134_0, fun _ => hqs134_1, fun _ => hqs134_2, fun _ => hqs134_3, by omega, by omega, by omega, rfl, by omega, by omega, by omega⟩, rfl⟩ (by rfl) (by rfl) (by rfl)
          · rw [show (fx_cb .ge (nI w) (nI x)) = false from cb_geF (a := w) (b := x) (by omega) (by omega) (by omega)]
            dsimp only [cond]
            refine fe_s 5 (pc' := 46) (lc' := [(3, .int (3 + (-1))), (2, .int 0), (0, .ref 0), (1, .int 4)]) (stk' := [.int (3 + (-1)), .ref 10]) (mem' := fm g tp bt a b) (by intro _ _ _; eq_refl) ?_
            rw [show (3 + (-1) : Int32) = 2 from rfl]
            refine fe_ldI (by rfl) (by rfl) (fx_inN (i := 2) (by omega) (by omega)) ?_
            rw [show Int32.toNatClampNeg (2) = 2 from rfl]
            rw [e2 (by omega)]
            refine fe_s 3 (pc' := 52) (lc' := [(3, .int 2), (2, .int 0), (0, .ref 0), (1, .int 4)]) (stk' := [.int 0, .ref 10, .int (nI z)]) (mem' := fm g tp bt a b) (by intro _ _ _; eq_refl) ?_
            refine fe_ldI (by rfl) (by rfl) (fx_inN (i := 0) (by omega) (by omega)) ?_
            rw [show Int32.toNatClampNeg (0) = 0 from rfl]
            rw [e0 (by omega)]
            refine fe_s 1 (pc' := cond (fx_cb .ge (nI z) (nI x)) 62 56) (lc' := [(3, .int 2), (2, .int 0), (0, .ref 0), (1, .int 4)]) (stk' := []) (mem' := fm g tp bt a b) (by intro _ _ _; eq_refl) ?_
            by_cases h135 : x ≤ z
            · rw [show (fx_cb .ge (nI z) (nI x)) = true from cb_geT (a := z) (b := x) (by omega) (by omega) (by omega)]
              dsimp only [cond]
              refine fe_s 3 (pc' := 65) (lc' := [(3, .int 2), (2, .int 0), (0, .ref 0), (1, .int 4)]) (stk' := [.int 2, .int 0, .ref 0]) (mem' := fm g tp bt a b) (by intro _ _ _; eq_refl) ?_
              obtain ⟨as136, has136⟩ : ∃ zz, zz = fm_u (fm_u a 10 0 (a 10 2)) 10 2 (a 10 0) := ⟨_, rfl⟩
              have cs136 := fr_swaps (g := g) (tp := tp) (bt := bt) (a := a) (b := b) (x := 0) (y := 2) (by omega) (by omega)
              rw [← has136] at cs136
              have hqs136_0 : as136 10 0 = nI z := by rw [has136, fm_us, if_neg (by decide), fm_us, if_pos (by decide), e2 (by omega)]
              have hqs136_1 : as136 10 1 = nI y := by rw [has136, fm_us, if_neg (by decide), fm_us, if_neg (by decide), e1 (by omega)]
              have hqs136_2 : as136 10 2 = nI x := by rw [has136, fm_us, if_pos (by decide), e0 (by omega)]
              have hqs136_3 : as136 10 3 = nI w := by rw [has136, fm_us, if_neg (by decide), fm_us, if_neg (by decide), e3 (by omega)]
              have hos136 : ∀ t, t ≠ 10 → as136 t = a t := fun t ht => by rw [has136, fm_utt ht, fm_utt ht]
              refine fe_ivV cs136 (by omega) (by rfl) (by rfl) (by rfl) (by rfl) (by rfl) (by rfl) ?_
              refine fe_s 10 (pc' := 81) (lc' := [(4, .int (0 + 1)), (3, .int 2), (2, .int 0), (0, .ref 0), (1, .int 4)]) (stk' := [.int ((4 - (0 + 1)) + 0), .int (0 + 1)]) (mem' := fm g tp bt as136 b) (by intro _ _ _; eq_refl) ?_
              rw [show (0 + 1 : Int32) = 1 from rfl]
              rw [show ((4 - (1)) + 0 : Int32) = 3 from rfl]
              refine fe_s 1 (pc' := cond (fx_cb .ge 1 3) 102 84) (lc' := [(4, .int 1), (3, .int 2), (2, .int 0), (0, .ref 0), (1, .int 4)]) (stk' := []) (mem' := fm g tp bt as136 b) (by intro _ _ _; eq_refl) ?_
              rw [show (fx_cb .ge 1 3) = false from by decide]
              dsimp only [cond]
              refine fe_s 7 (pc' := 93) (lc' := [(4, .int 1), (3, .int 2), (2, .int 0), (0, .ref 0), (1, .int 4)]) (stk' := [.int ((4 - 1) + 0), .int 1, .ref 0]) (mem' := fm g tp bt as136 b) (by intro _ _ _; eq_refl) ?_
              rw [show ((4 - 1) + 0 : Int32) = 3 from rfl]
              obtain ⟨as137, has137⟩ : ∃ zz, zz = fm_u (fm_u as136 10 1 (as136 10 3)) 10 3 (as136 10 1) := ⟨_, rfl⟩
              have cs137 := fr_swaps (g := g) (tp := tp) (bt := bt) (a := as136) (b := b) (x := 1) (y := 3) (by omega) (by omega)
              rw [← has137] at cs137
              have hqs137_0 : as137 10 0 = nI z := by rw [has137, fm_us, if_neg (by decide), fm_us, if_neg (by decide), hqs136_0]
              have hqs137_1 : as137 10 1 = nI w := by rw [has137, fm_us, if_neg (by decide), fm_us, if_pos (by decide), hqs136_3]
              have hqs137_2 : as137 10 2 = nI x := by rw [has137, fm_us, if_neg (by decide), fm_us, if_neg (by decide), hqs136_2]
              have hqs137_3 : as137 10 3 = nI y := by rw [has137, fm_us, if_pos (by decide), hqs136_1]
              have hos137 : ∀ t, t ≠ 10 → as137 t = a t := fun t ht => by rw [has137, fm_utt ht, fm_utt ht]; exact hos136 t ht
              refine fe_ivV cs137 (by omega) (by rfl) (by rfl) (by rfl) (by rfl) (by rfl) (by rfl) ?_
              refine fe_s 8 (pc' := 81) (lc' := [(4, .int (1 + 1)), (3, .int 2), (2, .int 0), (0, .ref 0), (1, .int 4)]) (stk' := [.int ((4 - (1 + 1)) + 0), .int (1 + 1)]) (mem' := fm g tp bt as137 b) (by intro _ _ _; eq_refl) ?_
              rw [show (1 + 1 : Int32) = 2 from rfl]
              rw [show ((4 - (2)) + 0 : Int32) = 2 from rfl]
              refine fe_s 1 (pc' := cond (fx_cb .ge 2 2) 102 84) (lc' := [(4, .int 2), (3, .int 2), (2, .int 0), (0, .ref 0), (1, .int 4)]) (stk' := []) (mem' := fm g tp bt as137 b) (by intro _ _ _; eq_refl) ?_
              rw [show (fx_cb .ge 2 2) = true from by decide]
              dsimp only [cond]
              refine fe_s 1 (pc' := 103) (lc' := [(4, .int 2), (3, .int 2), (2, .int 0), (0, .ref 0), (1, .int 4)]) (stk' := [.int 1]) (mem' := fm g tp bt as137 b) (by intro _ _ _; eq_refl) ?_
              exact fe_ret ⟨_, _, hos137, Or.inr ⟨rfl, 512 * z + 64 * w + 8 * x + y, by omega, z, w, x, y, by omega, fun _ => hqs137_0, fun _ => hqs137_1, fun _ => hqs137_2, fun _ => hqs137_3, by omega, by omega, by omega, rfl, by omega, by omega, by omega⟩, rfl⟩ (by rfl) (by rfl) (by rfl)
            · rw [show (fx_cb .ge (nI z) (nI x)) = false from cb_geF (a := z) (b := x) (by omega) (by omega) (by omega)]
              dsimp only [cond]
              refine fe_s 5 (pc' := 46) (lc' := [(3, .int (2 + (-1))), (2, .int 0), (0, .ref 0), (1, .int 4)]) (stk' := [.int (2 + (-1)), .ref 10]) (mem' := fm g tp bt a b) (by intro _ _ _; eq_refl) ?_
              rw [show (2 + (-1) : Int32) = 1 from rfl]
              refine fe_ldI (by rfl) (by rfl) (fx_inN (i := 1) (by omega) (by omega)) ?_
              rw [show Int32.toNatClampNeg (1) = 1 from rfl]
              rw [e1 (by omega)]
              refine fe_s 3 (pc' := 52) (lc' := [(3, .int 1), (2, .int 0), (0, .ref 0), (1, .int 4)]) (stk' := [.int 0, .ref 10, .int (nI y)]) (mem' := fm g tp bt a b) (by intro _ _ _; eq_refl) ?_
              refine fe_ldI (by rfl) (by rfl) (fx_inN (i := 0) (by omega) (by omega)) ?_
              rw [show Int32.toNatClampNeg (0) = 0 from rfl]
              rw [e0 (by omega)]
              refine fe_s 1 (pc' := cond (fx_cb .ge (nI y) (nI x)) 62 56) (lc' := [(3, .int 1), (2, .int 0), (0, .ref 0), (1, .int 4)]) (stk' := []) (mem' := fm g tp bt a b) (by intro _ _ _; eq_refl) ?_
              by_cases h138 : x ≤ y
              · rw [show (fx_cb .ge (nI y) (nI x)) = true from cb_geT (a := y) (b := x) (by omega) (by omega) (by omega)]
                dsimp only [cond]
                refine fe_s 3 (pc' := 65) (lc' := [(3, .int 1), (2, .int 0), (0, .ref 0), (1, .int 4)]) (stk' := [.int 1, .int 0, .ref 0]) (mem' := fm g tp bt a b) (by intro _ _ _; eq_refl) ?_
                obtain ⟨as139, has139⟩ : ∃ zz, zz = fm_u (fm_u a 10 0 (a 10 1)) 10 1 (a 10 0) := ⟨_, rfl⟩
                have cs139 := fr_swaps (g := g) (tp := tp) (bt := bt) (a := a) (b := b) (x := 0) (y := 1) (by omega) (by omega)
                rw [← has139] at cs139
                have hqs139_0 : as139 10 0 = nI y := by rw [has139, fm_us, if_neg (by decide), fm_us, if_pos (by decide), e1 (by omega)]
                have hqs139_1 : as139 10 1 = nI x := by rw [has139, fm_us, if_pos (by decide), e0 (by omega)]
                have hqs139_2 : as139 10 2 = nI z := by rw [has139, fm_us, if_neg (by decide), fm_us, if_neg (by decide), e2 (by omega)]
                have hqs139_3 : as139 10 3 = nI w := by rw [has139, fm_us, if_neg (by decide), fm_us, if_neg (by decide), e3 (by omega)]
                have hos139 : ∀ t, t ≠ 10 → as139 t = a t := fun t ht => by rw [has139, fm_utt ht, fm_utt ht]
                refine fe_ivV cs139 (by omega) (by rfl) (by rfl) (by rfl) (by rfl) (by rfl) (by rfl) ?_
                refine fe_s 10 (pc' := 81) (lc' := [(4, .int (0 + 1)), (3, .int 1), (2, .int 0), (0, .ref 0), (1, .int 4)]) (stk' := [.int ((4 - (0 + 1)) + 0), .int (0 + 1)]) (mem' := fm g tp bt as139 b) (by intro _ _ _; eq_refl) ?_
                rw [show (0 + 1 : Int32) = 1 from rfl]
                rw [show ((4 - (1)) + 0 : Int32) = 3 from rfl]
                refine fe_s 1 (pc' := cond (fx_cb .ge 1 3) 102 84) (lc' := [(4, .int 1), (3, .int 1), (2, .int 0), (0, .ref 0), (1, .int 4)]) (stk' := []) (mem' := fm g tp bt as139 b) (by intro _ _ _; eq_refl) ?_
                rw [show (fx_cb .ge 1 3) = false from by decide]
                dsimp only [cond]
                refine fe_s 7 (pc' := 93) (lc' := [(4, .int 1), (3, .int 1), (2, .int 0), (0, .ref 0), (1, .int 4)]) (stk' := [.int ((4 - 1) + 0), .int 1, .ref 0]) (mem' := fm g tp bt as139 b) (by intro _ _ _; eq_refl) ?_
                rw [show ((4 - 1) + 0 : Int32) = 3 from rfl]
                obtain ⟨as140, has140⟩ : ∃ zz, zz = fm_u (fm_u as139 10 1 (as139 10 3)) 10 3 (as139 10 1) := ⟨_, rfl⟩
                have cs140 := fr_swaps (g := g) (tp := tp) (bt := bt) (a := as139) (b := b) (x := 1) (y := 3) (by omega) (by omega)
                rw [← has140] at cs140
                have hqs140_0 : as140 10 0 = nI y := by rw [has140, fm_us, if_neg (by decide), fm_us, if_neg (by decide), hqs139_0]
                have hqs140_1 : as140 10 1 = nI w := by rw [has140, fm_us, if_neg (by decide), fm_us, if_pos (by decide), hqs139_3]
                have hqs140_2 : as140 10 2 = nI z := by rw [has140, fm_us, if_neg (by decide), fm_us, if_neg (by decide), hqs139_2]
                have hqs140_3 : as140 10 3 = nI x := by rw [has140, fm_us, if_pos (by decide), hqs139_1]
                have hos140 : ∀ t, t ≠ 10 → as140 t = a t := fun t ht => by rw [has140, fm_utt ht, fm_utt ht]; exact hos139 t ht
                refine fe_ivV cs140 (by omega) (by rfl) (by rfl) (by rfl) (by rfl) (by rfl) (by rfl) ?_
                refine fe_s 8 (pc' := 81) (lc' := [(4, .int (1 + 1)), (3, .int 1), (2, .int 0), (0, .ref 0), (1, .int 4)]) (stk' := [.int ((4 - (1 + 1)) + 0), .int (1 + 1)]) (mem' := fm g tp bt as140 b) (by intro _ _ _; eq_refl) ?_
                rw [show (1 + 1 : Int32) = 2 from rfl]
                rw [show ((4 - (2)) + 0 : Int32) = 2 from rfl]
                refine fe_s 1 (pc' := cond (fx_cb .ge 2 2) 102 84) (lc' := [(4, .int 2), (3, .int 1), (2, .int 0), (0, .ref 0), (1, .int 4)]) (stk' := []) (mem' := fm g tp bt as140 b) (by intro _ _ _; eq_refl) ?_
                rw [show (fx_cb .ge 2 2) = true from by decide]
                dsimp only [cond]
                refine fe_s 1 (pc' := 103) (lc' := [(4, .int 2), (3, .int 1), (2, .int 0), (0, .ref 0), (1, .int 4)]) (stk' := [.int 1]) (mem' := fm g tp bt as140 b) (by intro _ _ _; eq_refl) ?_
                exact fe_ret ⟨_, _, hos140, Or.inr ⟨rfl, 512 * y + 64 * w + 8 * z + x, by omega, y, w, z, x, by omega, fun _ => hqs140_0, fun _ => hqs140_1, fun _ => hqs140_2, fun _ => hqs140_3, by omega, by omega, by omega, rfl, by omega, by omega, by omega⟩, rfl⟩ (by rfl) (by rfl) (by rfl)
              · rw [show (fx_cb .ge (nI y) (nI x)) = false from cb_geF (a := y) (b := x) (by omega) (by omega) (by omega)]
                dsimp only [cond]
                refine fe_s 5 (pc' := 46) (lc' := [(3, .int (1 + (-1))), (2, .int 0), (0, .ref 0), (1, .int 4)]) (stk' := [.int (1 + (-1)), .ref 10]) (mem' := fm g tp bt a b) (by intro _ _ _; eq_refl) ?_
                rw [show (1 + (-1) : Int32) = 0 from rfl]
                refine fe_ldI (by rfl) (by rfl) (fx_inN (i := 0) (by omega) (by omega)) ?_
                rw [show Int32.toNatClampNeg (0) = 0 from rfl]
                rw [e0 (by omega)]
                refine fe_s 3 (pc' := 52) (lc' := [(3, .int 0), (2, .int 0), (0, .ref 0), (1, .int 4)]) (stk' := [.int 0, .ref 10, .int (nI x)]) (mem' := fm g tp bt a b) (by intro _ _ _; eq_refl) ?_
                refine fe_ldI (by rfl) (by rfl) (fx_inN (i := 0) (by omega) (by omega)) ?_
                rw [show Int32.toNatClampNeg (0) = 0 from rfl]
                rw [e0 (by omega)]
                refine fe_s 1 (pc' := cond (fx_cb .ge (nI x) (nI x)) 62 56) (lc' := [(3, .int 0), (2, .int 0), (0, .ref 0), (1, .int 4)]) (stk' := []) (mem' := fm g tp bt a b) (by intro _ _ _; eq_refl) ?_
                rw [show (fx_cb .ge (nI x) (nI x)) = true from cb_geT (a := x) (b := x) (by omega) (by omega) (by omega)]
                dsimp only [cond]
                refine fe_s 3 (pc' := 65) (lc' := [(3, .int 0), (2, .int 0), (0, .ref 0), (1, .int 4)]) (stk' := [.int 0, .int 0, .ref 0]) (mem' := fm g tp bt a b) (by intro _ _ _; eq_refl) ?_
                obtain ⟨as141, has141⟩ : ∃ zz, zz = fm_u (fm_u a 10 0 (a 10 0)) 10 0 (a 10 0) := ⟨_, rfl⟩
                have cs141 := fr_swaps (g := g) (tp := tp) (bt := bt) (a := a) (b := b) (x := 0) (y := 0) (by omega) (by omega)
                rw [← has141] at cs141
                have hqs141_0 : as141 10 0 = nI x := by rw [has141, fm_us, if_pos (by decide), e0 (by omega)]
                have hqs141_1 : as141 10 1 = nI y := by rw [has141, fm_us, if_neg (by decide), fm_us, if_neg (by decide), e1 (by omega)]
                have hqs141_2 : as141 10 2 = nI z := by rw [has141, fm_us, if_neg (by decide), fm_us, if_neg (by decide), e2 (by omega)]
                have hqs141_3 : as141 10 3 = nI w := by rw [has141, fm_us, if_neg (by decide), fm_us, if_neg (by decide), e3 (by omega)]
                have hos141 : ∀ t, t ≠ 10 → as141 t = a t := fun t ht => by rw [has141, fm_utt ht, fm_utt ht]
                refine fe_ivV cs141 (by omega) (by rfl) (by rfl) (by rfl) (by rfl) (by rfl) (by rfl) ?_
                refine fe_s 10 (pc' := 81) (lc' := [(4, .int (0 + 1)), (3, .int 0), (2, .int 0), (0, .ref 0), (1, .int 4)]) (stk' := [.int ((4 - (0 + 1)) + 0), .int (0 + 1)]) (mem' := fm g tp bt as141 b) (by intro _ _ _; eq_refl) ?_
                rw [show (0 + 1 : Int32) = 1 from rfl]
                rw [show ((4 - (1)) + 0 : Int32) = 3 from rfl]
                refine fe_s 1 (pc' := cond (fx_cb .ge 1 3) 102 84) (lc' := [(4, .int 1), (3, .int 0), (2, .int 0), (0, .ref 0), (1, .int 4)]) (stk' := []) (mem' := fm g tp bt as141 b) (by intro _ _ _; eq_refl) ?_
                rw [show (fx_cb .ge 1 3) = false from by decide]
                dsimp only [cond]
                refine fe_s 7 (pc' := 93) (lc' := [(4, .int 1), (3, .int 0), (2, .int 0), (0, .ref 0), (1, .int 4)]) (stk' := [.int ((4 - 1) + 0), .int 1, .ref 0]) (mem' := fm g tp bt as141 b) (by intro _ _ _; eq_refl) ?_
                rw [show ((4 - 1) + 0 : Int32) = 3 from rfl]
                obtain ⟨as142, has142⟩ : ∃ zz, zz = fm_u (fm_u as141 10 1 (as141 10 3)) 10 3 (as141 10 1) := ⟨_, rfl⟩
                have cs142 := fr_swaps (g := g) (tp := tp) (bt := bt) (a := as141) (b := b) (x := 1) (y := 3) (by omega) (by omega)
                rw [← has142] at cs142
                have hqs142_0 : as142 10 0 = nI x := by rw [has142, fm_us, if_neg (by decide), fm_us, if_neg (by decide), hqs141_0]
                have hqs142_1 : as142 10 1 = nI w := by rw [has142, fm_us, if_neg (by decide), fm_us, if_pos (by decide), hqs141_3]
                have hqs142_2 : as142 10 2 = nI z := by rw [has142, fm_us, if_neg (by decide), fm_us, if_neg (by decide), hqs141_2]
                have hqs142_3 : as142 10 3 = nI y := by rw [has142, fm_us, if_pos (by decide), hqs141_1]
                have hos142 : ∀ t, t ≠ 10 → as142 t = a t := fun t ht => by rw [has142, fm_utt ht, fm_utt ht]; exact hos141 t ht
                refine fe_ivV cs142 (by omega) (by rfl) (by rfl) (by rfl) (by rfl) (by rfl) (by rfl) ?_
                refine fe_s 8 (pc' := 81) (lc' := [(4, .int (1 + 1)), (3, .int 0), (2, .int 0), (0, .ref 0), (1, .int 4)]) (stk' := [.int ((4 - (1 + 1)) + 0), .int (1 + 1)]) (mem' := fm g tp bt as142 b) (by intro _ _ _; eq_refl) ?_
                rw [show (1 + 1 : Int32) = 2 from rfl]
                rw [show ((4 - (2)) + 0 : Int32) = 2 from rfl]
                refine fe_s 1 (pc' := cond (fx_cb .ge 2 2) 102 84) (lc' := [(4, .int 2), (3, .int 0), (2, .int 0), (0, .ref 0), (1, .int 4)]) (stk' := []) (mem' := fm g tp bt as142 b) (by intro _ _ _; eq_refl) ?_
                rw [show (fx_cb .ge 2 2) = true from by decide]
                dsimp only [cond]
                refine fe_s 1 (pc' := 103) (lc' := [(4, .int 2), (3, .int 0), (2, .int 0), (0, .ref 0), (1, .int 4)]) (stk' := [.int 1]) (mem' := fm g tp bt as142 b) (by intro _ _ _; eq_refl) ?_
                exact fe_ret ⟨_, _, hos142, Or.inr ⟨rfl, 512 * x + 64 * w + 8 * z + y, by omega, x, w, z, y, by omega, fun _ => hqs142_0, fun _ => hqs142_1, fun _ => hqs142_2, fun _ => hqs142_3, by omega, by omega, by omega, rfl, by omega, by omega, by omega⟩, rfl⟩ (by rfl) (by rfl) (by rfl)
        · rw [show (fx_cb .le (nI x) (nI y)) = false from cb_leF (a := x) (b := y) (by omega) (by omega) (by omega)]
          dsimp only [cond]
          refine fe_s 3 (pc' := 5) (lc' := [(2, .int (0 + (-1))), (0, .ref 0), (1, .int 4)]) (stk' := [.int (0 + (-1))]) (mem' := fm g tp bt a b) (by intro _ _ _; eq_refl) ?_
          rw [show (0 + (-1) : Int32) = (-1) from rfl]
          refine fe_s 1 (pc' := cond (fx_cb .lt (-1) 0) 31 8) (lc' := [(2, .int (-1)), (0, .ref 0), (1, .int 4)]) (stk' := []) (mem' := fm g tp bt a b) (by intro _ _ _; eq_refl) ?_
          rw [show (fx_cb .lt (-1) 0) = true from by decide]
          dsimp only [cond]
          refine fe_s 1 (pc' := 32) (lc' := [(2, .int (-1)), (0, .ref 0), (1, .int 4)]) (stk' := [.int (-1)]) (mem' := fm g tp bt a b) (by intro _ _ _; eq_refl) ?_
          refine fe_s 1 (pc' := cond (fx_cb .ge (-1) 0) 37 35) (lc' := [(2, .int (-1)), (0, .ref 0), (1, .int 4)]) (stk' := []) (mem' := fm g tp bt a b) (by intro _ _ _; eq_refl) ?_
          rw [show (fx_cb .ge (-1) 0) = false from by decide]
          dsimp only [cond]
          refine fe_s 1 (pc' := 36) (lc' := [(2, .int (-1)), (0, .ref 0), (1, .int 4)]) (stk' := [.int 0]) (mem' := fm g tp bt a b) (by intro _ _ _; eq_refl) ?_
          exact fe_ret ⟨_, _, fun _ _ => rfl, Or.inl ⟨rfl, rfl⟩, rfl⟩ (by rfl) (by rfl) (by rfl)
end FQ1
end MH10_0
section MH10_1
/-! ===== fx: queues: gaps ===== -/
section FQ1b
variable {g : Nat → Int32} {tp bt : Int64} {a0 a : Nat → Nat → Int32} {b : Nat → Nat → Int64}
set_option maxHeartbeats 8000000 in
theorem fr_gapsOn {n m : Nat} (hn : n ≤ 4) (ht : fm_ga n a m) : ∃ (v : Option Value) (mem' : fx_M), (fun R => ∃ (v : Int32) (a' : Nat → Nat → Int32), (∀ t, t ≠ 11 → a' t = a t) ∧ (v = 0 ∨ v = 1 ∧ ∃ m', m < m' ∧ fm_ga n a' m') ∧ R = (some (.int v), fm g tp bt a' b)) (v, mem') ∧ fr_T 1 330 [.ref 0, .int (nI n)] (fm g tp bt a b) v mem' := by
  refine fe_meth (F := fun R => ∃ (v : Int32) (a' : Nat → Nat → Int32), (∀ t, t ≠ 11 → a' t = a t) ∧ (v = 0 ∨ v = 1 ∧ ∃ m', m < m' ∧ fm_ga n a' m') ∧ R = (some (.int v), fm g tp bt a' b)) (M := gk_m330) (by rfl) (by rfl) ?_
  obtain ⟨x, y, z, hb, e0, e1, e2, e3, em, z1, z2, z3⟩ := ht
  rcases (by omega : n = 0 ∨ n = 1 ∨ n = 2 ∨ n = 3 ∨ n = 4) with rfl | rfl | rfl | rfl | rfl
  · show fe_R 0 gk_m330 0 [(0, .ref 0), (1, .int 0)] [] (fm g tp bt a b) _
    refine fe_s 5 (pc' := 5) (lc' := [(2, .int (0 - 1)), (0, .ref 0), (1, .int 0)]) (stk' := [.int (0 - 1)]) (mem' := fm g tp bt a b) (by intro _ _ _; eq_refl) ?_
    rw [show (0 - 1 : Int32) = (-1) from rfl]
    refine fe_s 1 (pc' := cond (fx_cb .le (-1) 0) 32 8) (lc' := [(2, .int (-1)), (0, .ref 0), (1, .int 0)]) (stk' := []) (mem' := fm g tp bt a b) (by intro _ _ _; eq_refl) ?_
    rw [show (fx_cb .le (-1) 0) = true from by decide]
    dsimp only [cond]
    refine fe_s 1 (pc' := 33) (lc' := [(2, .int (-1)), (0, .ref 0), (1, .int 0)]) (stk' := [.int (-1)]) (mem' := fm g tp bt a b) (by intro _ _ _; eq_refl) ?_
    refine fe_s 1 (pc' := cond (fx_cb .gt (-1) 0) 38 36) (lc' := [(2, .int (-1)), (0, .ref 0), (1, .int 0)]) (stk' := []) (mem' := fm g tp bt a b) (by intro _ _ _; eq_refl) ?_
    rw [show (fx_cb .gt (-1) 0) = false from by decide]
    dsimp only [cond]
    refine fe_s 1 (pc' := 37) (lc' := [(2, .int (-1)), (0, .ref 0), (1, .int 0)]) (stk' := [.int 0]) (mem' := fm g tp bt a b) (by intro _ _ _; eq_refl) ?_
    exact fe_ret ⟨_, _, fun _ _ => rfl, Or.inl rfl, rfl⟩ (by rfl) (by rfl) (by rfl)
  · show fe_R 0 gk_m330 0 [(0, .ref 0), (1, .int 1)] [] (fm g tp bt a b) _
    refine fe_s 5 (pc' := 5) (lc' := [(2, .int (1 - 1)), (0, .ref 0), (1, .int 1)]) (stk' := [.int (1 - 1)]) (mem' := fm g tp bt a b) (by intro _ _ _; eq_refl) ?_
    rw [show (1 - 1 : Int32) = 0 from rfl]
    refine fe_s 1 (pc' := cond (fx_cb .le 0 0) 32 8) (lc' := [(2, .int 0), (0, .ref 0), (1, .int 1)]) (stk' := []) (mem' := fm g tp bt a b) (by intro _ _ _; eq_refl) ?_
    rw [show (fx_cb .le 0 0) = true from by decide]
    dsimp only [cond]
    refine fe_s 1 (pc' := 33) (lc' := [(2, .int 0), (0, .ref 0), (1, .int 1)]) (stk' := [.int 0]) (mem' := fm g tp bt a b) (by intro _ _ _; eq_refl) ?_
    refine fe_s 1 (pc' := cond (fx_cb .gt 0 0) 38 36) (lc' := [(2, .int 0), (0, .ref 0), (1, .int 1)]) (stk' := []) (mem' := fm g tp bt a b) (by intro _ _ _; eq_refl) ?_
    rw [show (fx_cb .gt 0 0) = false from by decide]
    dsimp only [cond]
    refine fe_s 1 (pc' := 37) (lc' := [(2, .int 0), (0, .ref 0), (1, .int 1)]) (stk' := [.int 0]) (mem' := fm g tp bt a b) (by intro _ _ _; eq_refl) ?_
    exact fe_ret ⟨_, _, fun _ _ => rfl, Or.inl rfl, rfl⟩ (by rfl) (by rfl) (by rfl)
  · show fe_R 0 gk_m330 0 [(0, .ref 0), (1, .int 2)] [] (fm g tp bt a b) _
    refine fe_s 5 (pc' := 5) (lc' := [(2, .int (2 - 1)), (0, .ref 0), (1, .int 2)]) (stk' := [.int (2 - 1)]) (mem' := fm g tp bt a b) (by intro _ _ _; eq_refl) ?_
    rw [show (2 - 1 : Int32) = 1 from rfl]
    refine fe_s 1 (pc' := cond (fx_cb .le 1 0) 32 8) (lc' := [(2, .int 1), (0, .ref 0), (1, .int 2)]) (stk' := []) (mem' := fm g tp bt a b) (by intro _ _ _; eq_refl) ?_
    rw [show (fx_cb .le 1 0) = false from by decide]
    dsimp only [cond]
    refine fe_s 3 (pc' := 13) (lc' := [(2, .int 1), (0, .ref 0), (1, .int 2)]) (stk' := [.int 1, .ref 11]) (mem' := fm g tp bt a b) (by intro _ _ _; eq_refl) ?_
    refine fe_ldI (by rfl) (by rfl) (fx_inN (i := 1) (by omega) (by omega)) ?_
    rw [show Int32.toNatClampNeg (1) = 1 from rfl]
    rw [e1 (by omega)]
    refine fe_s 1 (pc' := 16) (lc' := [(2, .int 1), (0, .ref 0), (1, .int 2)]) (stk' := [.int 6, .int (nI x)]) (mem' := fm g tp bt a b) (by intro _ _ _; eq_refl) ?_
    refine fe_s 1 (pc' := cond (fx_cb .ne (nI x) 6) 32 19) (lc' := [(2, .int 1), (0, .ref 0), (1, .int 2)]) (stk' := []) (mem' := fm g tp bt a b) (by intro _ _ _; eq_refl) ?_
    by_cases h101 : x = 6
    · rw [show (fx_cb .ne (nI x) 6) = false from cb_neF (a := x) (b := 6) (by omega) (by omega) (by omega)]
      dsimp only [cond]
      refine fe_s 4 (pc' := 25) (lc' := [(2, .int 1), (0, .ref 0), (1, .int 2)]) (stk' := [.int 1, .int 1, .ref 11]) (mem' := fm g tp bt a b) (by intro _ _ _; eq_refl) ?_
      refine fe_stI (mem' := fm g tp bt (fm_u a 11 (1 : Int32).toNatClampNeg 1) b) (by rfl) (by rfl) (fx_inN (i := 1) (by omega) (by omega)) fm_si11 ?_
      rw [show Int32.toNatClampNeg (1) = 1 from rfl]
      obtain ⟨as102, has102⟩ : ∃ zz, zz = fm_u a 11 1 1 := ⟨_, rfl⟩
      rw [← has102]
      have hqs102_0 : as102 11 0 = nI 0 := by rw [has102, fm_us, if_neg (by decide), e0 (by omega)]
      have hqs102_1 : as102 11 1 = nI 1 := by rw [has102, fm_us, if_pos (by decide)]; rfl
      have hos102 : ∀ t, t ≠ 11 → as102 t = a t := fun t ht => by rw [has102, fm_utt ht]
      refine fe_s 3 (pc' := 5) (lc' := [(2, .int (1 + (-1))), (0, .ref 0), (1, .int 2)]) (stk' := [.int (1 + (-1))]) (mem' := fm g tp bt as102 b) (by intro _ _ _; eq_refl) ?_
      rw [show (1 + (-1) : Int32) = 0 from rfl]
      refine fe_s 1 (pc' := cond (fx_cb .le 0 0) 32 8) (lc' := [(2, .int 0), (0, .ref 0), (1, .int 2)]) (stk' := []) (mem' := fm g tp bt as102 b) (by intro _ _ _; eq_refl) ?_
      rw [show (fx_cb .le 0 0) = true from by decide]
      dsimp only [cond]
      refine fe_s 1 (pc' := 33) (lc' := [(2, .int 0), (0, .ref 0), (1, .int 2)]) (stk' := [.int 0]) (mem' := fm g tp bt as102 b) (by intro _ _ _; eq_refl) ?_
      refine fe_s 1 (pc' := cond (fx_cb .gt 0 0) 38 36) (lc' := [(2, .int 0), (0, .ref 0), (1, .int 2)]) (stk' := []) (mem' := fm g tp bt as102 b) (by intro _ _ _; eq_refl) ?_
      rw [show (fx_cb .gt 0 0) = false from by decide]
      dsimp only [cond]
      refine fe_s 1 (pc' := 37) (lc' := [(2, .int 0), (0, .ref 0), (1, .int 2)]) (stk' := [.int 0]) (mem' := fm g tp bt as102 b) (by intro _ _ _; eq_refl) ?_
      exact fe_ret ⟨_, _, hos102, Or.inl rfl, rfl⟩ (by rfl) (by rfl) (by rfl)
    · rw [show (fx_cb .ne (nI x) 6) = true from cb_neT (a := x) (b := 6) (by omega) (by omega) (by omega)]
      dsimp only [cond]
      refine fe_s 1 (pc' := 33) (lc' := [(2, .int 1), (0, .ref 0), (1, .int 2)]) (stk' := [.int 1]) (mem' := fm g tp bt a b) (by intro _ _ _; eq_refl) ?_
      refine fe_s 1 (pc' := cond (fx_cb .gt 1 0) 38 36) (lc' := [(2, .int 1), (0, .ref 0), (1, .int 2)]) (stk' := []) (mem' := fm g tp bt a b) (by intro _ _ _; eq_refl) ?_
      rw [show (fx_cb .gt 1 0) = true from by decide]
      dsimp only [cond]
      refine fe_s 4 (pc' := 44) (lc' := [(2, .int 1), (0, .ref 0), (1, .int 2)]) (stk' := [.int 1, .ref 11, .int 1, .ref 11]) (mem' := fm g tp bt a b) (by intro _ _ _; eq_refl) ?_
      refine fe_ldI (by rfl) (by rfl) (fx_inN (i := 1) (by omega) (by omega)) ?_
      rw [show Int32.toNatClampNeg (1) = 1 from rfl]
      rw [e1 (by omega)]
      refine fe_s 2 (pc' := 47) (lc' := [(2, .int 1), (0, .ref 0), (1, .int 2)]) (stk' := [.int ((nI x) + 1), .int 1, .ref 11]) (mem' := fm g tp bt a b) (by intro _ _ _; eq_refl) ?_
      rw [show ((nI x) + 1 : Int32) = nI (x + 1) from by simp only [show (1 : Int32) = nI 1 from rfl, nI_add, fm_mul]]
      refine fe_stI (mem' := fm g tp bt (fm_u a 11 (1 : Int32).toNatClampNeg (nI (x + 1))) b) (by rfl) (by rfl) (fx_inN (i := 1) (by omega) (by omega)) fm_si11 ?_
      rw [show Int32.toNatClampNeg (1) = 1 from rfl]
      obtain ⟨as103, has103⟩ : ∃ zz, zz = fm_u a 11 1 (nI (x + 1)) := ⟨_, rfl⟩
      rw [← has103]
      have hqs103_0 : as103 11 0 = nI 0 := by rw [has103, fm_us, if_neg (by decide), e0 (by omega)]
      have hqs103_1 : as103 11 1 = nI (x + 1) := by rw [has103, fm_us, if_pos (by decide)]
      have hos103 : ∀ t, t ≠ 11 → as103 t = a t := fun t ht => by rw [has103, fm_utt ht]
      refine fe_s 1 (pc' := 49) (lc' := [(2, .int 1), (0, .ref 0), (1, .int 2)]) (stk' := [.int 1]) (mem' := fm g tp bt as103 b) (by intro _ _ _; eq_refl) ?_
      exact fe_ret ⟨_, _, hos103, Or.inr ⟨rfl, 36 * (x + 1) + 6 * y + z, by omega, (x + 1), y, z, by omega, fun _ => hqs103_0, fun _ => hqs103_1, fun hh => absurd hh (by decide), fun hh => absurd hh (by decide), rfl, by omega, by omega, by omega⟩, rfl⟩ (by rfl) (by rfl) (by rfl)
  · show fe_R 0 gk_m330 0 [(0, .ref 0), (1, .int 3)] [] (fm g tp bt a b) _
    refine fe_s 5 (pc' := 5) (lc' := [(2, .int (3 - 1)), (0, .ref 0), (1, .int 3)]) (stk' := [.int (3 - 1)]) (mem' := fm g tp bt a b) (by intro _ _ _; eq_refl) ?_
    rw [show (3 - 1 : Int32) = 2 from rfl]
    refine fe_s 1 (pc' := cond (fx_cb .le 2 0) 32 8) (lc' := [(2, .int 2), (0, .ref 0), (1, .int 3)]) (stk' := []) (mem' := fm g tp bt a b) (by intro _ _ _; eq_refl) ?_
    rw [show (fx_cb .le 2 0) = false from by decide]
    dsimp only [cond]
    refine fe_s 3 (pc' := 13) (lc' := [(2, .int 2), (0, .ref 0), (1, .int 3)]) (stk' := [.int 2, .ref 11]) (mem' := fm g tp bt a b) (by intro _ _ _; eq_refl) ?_
    refine fe_ldI (by rfl) (by rfl) (fx_inN (i := 2) (by omega) (by omega)) ?_
    rw [show Int32.toNatClampNeg (2) = 2 from rfl]
    rw [e2 (by omega)]
    refine fe_s 1 (pc' := 16) (lc' := [(2, .int 2), (0, .ref 0), (1, .int 3)]) (stk' := [.int 6, .int (nI y)]) (mem' := fm g tp bt a b) (by intro _ _ _; eq_refl) ?_
    refine fe_s 1 (pc' := cond (fx_cb .ne (nI y) 6) 32 19) (lc' := [(2, .int 2), (0, .ref 0), (1, .int 3)]) (stk' := []) (mem' := fm g tp bt a b) (by intro _ _ _; eq_refl) ?_
    by_cases h104 : y = 6
    · rw [show (fx_cb .ne (nI y) 6) = false from cb_neF (a := y) (b := 6) (by omega) (by omega) (by omega)]
      dsimp only [cond]
      refine fe_s 4 (pc' := 25) (lc' := [(2, .int 2), (0, .ref 0), (1, .int 3)]) (stk' := [.int 1, .int 2, .ref 11]) (mem' := fm g tp bt a b) (by intro _ _ _; eq_refl) ?_
      refine fe_stI (mem' := fm g tp bt (fm_u a 11 (2 : Int32).toNatClampNeg 1) b) (by rfl) (by rfl) (fx_inN (i := 2) (by omega) (by omega)) fm_si11 ?_
      rw [show Int32.toNatClampNeg (2) = 2 from rfl]
      obtain ⟨as105, has105⟩ : ∃ zz, zz = fm_u a 11 2 1 := ⟨_, rfl⟩
      rw [← has105]
      have hqs105_0 : as105 11 0 = nI 0 := by rw [has105, fm_us, if_neg (by decide), e0 (by omega)]
      have hqs105_1 : as105 11 1 = nI x := by rw [has105, fm_us, if_neg (by decide), e1 (by omega)]
      have hqs105_2 : as105 11 2 = nI 1 := by rw [has105, fm_us, if_pos (by decide)]; rfl
      have hos105 : ∀ t, t ≠ 11 → as105 t = a t := fun t ht => by rw [has105, fm_utt ht]
      refine fe_s 3 (pc' := 5) (lc' := [(2, .int (2 + (-1))), (0, .ref 0), (1, .int 3)]) (stk' := [.int (2 + (-1))]) (mem' := fm g tp bt as105 b) (by intro _ _ _; eq_refl) ?_
      rw [show (2 + (-1) : Int32) = 1 from rfl]
      refine fe_s 1 (pc' := cond (fx_cb .le 1 0) 32 8) (lc' := [(2, .int 1), (0, .ref 0), (1, .int 3)]) (stk' := []) (mem' := fm g tp bt as105 b) (by intro _ _ _; eq_refl) ?_
      rw [show (fx_cb .le 1 0) = false from by decide]
      dsimp only [cond]
      refine fe_s 3 (pc' := 13) (lc' := [(2, .int 1), (0, .ref 0), (1, .int 3)]) (stk' := [.int 1, .ref 11]) (mem' := fm g tp bt as105 b) (by intro _ _ _; eq_refl) ?_
      refine fe_ldI (by rfl) (by rfl) (fx_inN (i := 1) (by omega) (by omega)) ?_
      rw [show Int32.toNatClampNeg (1) = 1 from rfl]
      rw [hqs105_1]
      refine fe_s 1 (pc' := 16) (lc' := [(2, .int 1), (0, .ref 0), (1, .int 3)]) (stk' := [.int 6, .int (nI x)]) (mem' := fm g tp bt as105 b) (by intro _ _ _; eq_refl) ?_
      refine fe_s 1 (pc' := cond (fx_cb .ne (nI x) 6) 32 19) (lc' := [(2, .int 1), (0, .ref 0), (1, .int 3)]) (stk' := []) (mem' := fm g tp bt as105 b) (by intro _ _ _; eq_refl) ?_
      by_cases h106 : x = 6
      · rw [show (fx_cb .ne (nI x) 6) = false from cb_neF (a := x) (b := 6) (by omega) (by omega) (by omega)]
        dsimp only [cond]
        refine fe_s 4 (pc' := 25) (lc' := [(2, .int 1), (0, .ref 0), (1, .int 3)]) (stk' := [.int 1, .int 1, .ref 11]) (mem' := fm g tp bt as105 b) (by intro _ _ _; eq_refl) ?_
        refine fe_stI (mem' := fm g tp bt (fm_u as105 11 (1 : Int32).toNatClampNeg 1) b) (by rfl) (by rfl) (fx_inN (i := 1) (by omega) (by omega)) fm_si11 ?_
        rw [show Int32.toNatClampNeg (1) = 1 from rfl]
        obtain ⟨as107, has107⟩ : ∃ zz, zz = fm_u as105 11 1 1 := ⟨_, rfl⟩
        rw [← has107]
        have hqs107_0 : as107 11 0 = nI 0 := by rw [has107, fm_us, if_neg (by decide), hqs105_0]
        have hqs107_1 : as107 11 1 = nI 1 := by rw [has107, fm_us, if_pos (by decide)]; rfl
        have hqs107_2 : as107 11 2 = nI 1 := by rw [has107, fm_us, if_neg (by decide), hqs105_2]
        have hos107 : ∀ t, t ≠ 11 → as107 t = a t := fun t ht => by rw [has107, fm_utt ht]; exact hos105 t ht
        refine fe_s 3 (pc' := 5) (lc' := [(2, .int (1 + (-1))), (0, .ref 0), (1, .int 3)]) (stk' := [.int (1 + (-1))]) (mem' := fm g tp bt as107 b) (by intro _ _ _; eq_refl) ?_
        rw [show (1 + (-1) : Int32) = 0 from rfl]
        refine fe_s 1 (pc' := cond (fx_cb .le 0 0) 32 8) (lc' := [(2, .int 0), (0, .ref 0), (1, .int 3)]) (stk' := []) (mem' := fm g tp bt as107 b) (by intro _ _ _; eq_refl) ?_
        rw [show (fx_cb .le 0 0) = true from by decide]
        dsimp only [cond]
        refine fe_s 1 (pc' := 33) (lc' := [(2, .int 0), (0, .ref 0), (1, .int 3)]) (stk' := [.int 0]) (mem' := fm g tp bt as107 b) (by intro _ _ _; eq_refl) ?_
        refine fe_s 1 (pc' := cond (fx_cb .gt 0 0) 38 36) (lc' := [(2, .int 0), (0, .ref 0), (1, .int 3)]) (stk' := []) (mem' := fm g tp bt as107 b) (by intro _ _ _; eq_refl) ?_
        rw [show (fx_cb .gt 0 0) = false from by decide]
        dsimp only [cond]
        refine fe_s 1 (pc' := 37) (lc' := [(2, .int 0), (0, .ref 0), (1, .int 3)]) (stk' := [.int 0]) (mem' := fm g tp bt as107 b) (by intro _ _ _; eq_refl) ?_
        exact fe_ret ⟨_, _, hos107, Or.inl rfl, rfl⟩ (by rfl) (by rfl) (by rfl)
      · rw [show (fx_cb .ne (nI x) 6) = true from cb_neT (a := x) (b := 6) (by omega) (by omega) (by omega)]
        dsimp only [cond]
        refine fe_s 1 (pc' := 33) (lc' := [(2, .int 1), (0, .ref 0), (1, .int 3)]) (stk' := [.int 1]) (mem' := fm g tp bt as105 b) (by intro _ _ _; eq_refl) ?_
        refine fe_s 1 (pc' := cond (fx_cb .gt 1 0) 38 36) (lc' := [(2, .int 1), (0, .ref 0), (1, .int 3)]) (stk' := []) (mem' := fm g tp bt as105 b) (by intro _ _ _; eq_refl) ?_
        rw [show (fx_cb .gt 1 0) = true from by decide]
        dsimp only [cond]
        refine fe_s 4 (pc' := 44) (lc' := [(2, .int 1), (0, .ref 0), (1, .int 3)]) (stk' := [.int 1, .ref 11, .int 1, .ref 11]) (mem' := fm g tp bt as105 b) (by intro _ _ _; eq_refl) ?_
        refine fe_ldI (by rfl) (by rfl) (fx_inN (i := 1) (by omega) (by omega)) ?_
        rw [show Int32.toNatClampNeg (1) = 1 from rfl]
        rw [hqs105_1]
        refine fe_s 2 (pc' := 47) (lc' := [(2, .int 1), (0, .ref 0), (1, .int 3)]) (stk' := [.int ((nI x) + 1), .int 1, .ref 11]) (mem' := fm g tp bt as105 b) (by intro _ _ _; eq_refl) ?_
        rw [show ((nI x) + 1 : Int32) = nI (x + 1) from by simp only [show (1 : Int32) = nI 1 from rfl, nI_add, fm_mul]]
        refine fe_stI (mem' := fm g tp bt (fm_u as105 11 (1 : Int32).toNatClampNeg (nI (x + 1))) b) (by rfl) (by rfl) (fx_inN (i := 1) (by omega) (by omega)) fm_si11 ?_
        rw [show Int32.toNatClampNeg (1) = 1 from rfl]
        obtain ⟨as108, has108⟩ : ∃ zz, zz = fm_u as105 11 1 (nI (x + 1)) := ⟨_, rfl⟩
        rw [← has108]
        have hqs108_0 : as108 11 0 = nI 0 := by rw [has108, fm_us, if_neg (by decide), hqs105_0]
        have hqs108_1 : as108 11 1 = nI (x + 1) := by rw [has108, fm_us, if_pos (by decide)]
        have hqs108_2 : as108 11 2 = nI 1 := by rw [has108, fm_us, if_neg (by decide), hqs105_2]
        have hos108 : ∀ t, t ≠ 11 → as108 t = a t := fun t ht => by rw [has108, fm_utt ht]; exact hos105 t ht
        refine fe_s 1 (pc' := 49) (lc' := [(2, .int 1), (0, .ref 0), (1, .int 3)]) (stk' := [.int 1]) (mem' := fm g tp bt as108 b) (by intro _ _ _; eq_refl) ?_
        exact fe_ret ⟨_, _, hos108, Or.inr ⟨rfl, 36 * (x + 1) + 6 * 1 + z, by omega, (x + 1), 1, z, by omega, fun _ => hqs108_0, fun _ => hqs108_1, fun _ => hqs108_2, fun hh => absurd hh (by decide), rfl, by omega, by omega, by omega⟩, rfl⟩ (by rfl) (by rfl) (by rfl)
    · rw [show (fx_cb .ne (nI y) 6) = true from cb_neT (a := y) (b := 6) (by omega) (by omega) (by omega)]
      dsimp only [cond]
      refine fe_s 1 (pc' := 33) (lc' := [(2, .int 2), (0, .ref 0), (1, .int 3)]) (stk' := [.int 2]) (mem' := fm g tp bt a b) (by intro _ _ _; eq_refl) ?_
      refine fe_s 1 (pc' := cond (fx_cb .gt 2 0) 38 36) (lc' := [(2, .int 2), (0, .ref 0), (1, .int 3)]) (stk' := []) (mem' := fm g tp bt a b) (by intro _ _ _; eq_refl) ?_
      rw [show (fx_cb .gt 2 0) = true from by decide]
      dsimp only [cond]
      refine fe_s 4 (pc' := 44) (lc' := [(2, .int 2), (0, .ref 0), (1, .int 3)]) (stk' := [.int 2, .ref 11, .int 2, .ref 11]) (mem' := fm g tp bt a b) (by intro _ _ _; eq_refl) ?_
      refine fe_ldI (by rfl) (by rfl) (fx_inN (i := 2) (by omega) (by omega)) ?_
      rw [show Int32.toNatClampNeg (2) = 2 from rfl]
      rw [e2 (by omega)]
      refine fe_s 2 (pc' := 47) (lc' := [(2, .int 2), (0, .ref 0), (1, .int 3)]) (stk' := [.int ((nI y) + 1), .int 2, .ref 11]) (mem' := fm g tp bt a b) (by intro _ _ _; eq_refl) ?_
      rw [show ((nI y) + 1 : Int32) = nI (y + 1) from by simp only [show (1 : Int32) = nI 1 from rfl, nI_add, fm_mul]]
      refine fe_stI (mem' := fm g tp bt (fm_u a 11 (2 : Int32).toNatClampNeg (nI (y + 1))) b) (by rfl) (by rfl) (fx_inN (i := 2) (by omega) (by omega)) fm_si11 ?_
      rw [show Int32.toNatClampNeg (2) = 2 from rfl]
      obtain ⟨as109, has109⟩ : ∃ zz, zz = fm_u a 11 2 (nI (y + 1)) := ⟨_, rfl⟩
      rw [← has109]
      have hqs109_0 : as109 11 0 = nI 0 := by rw [has109, fm_us, if_neg (by decide), e0 (by omega)]
      have hqs109_1 : as109 11 1 = nI x := by rw [has109, fm_us, if_neg (by decide), e1 (by omega)]
      have hqs109_2 : as109 11 2 = nI (y + 1) := by rw [has109, fm_us, if_pos (by decide)]
      have hos109 : ∀ t, t ≠ 11 → as109 t = a t := fun t ht => by rw [has109, fm_utt ht]
      refine fe_s 1 (pc' := 49) (lc' := [(2, .int 2), (0, .ref 0), (1, .int 3)]) (stk' := [.int 1]) (mem' := fm g tp bt as109 b) (by intro _ _ _; eq_refl) ?_
      exact fe_ret ⟨_, _, hos109, Or.inr ⟨rfl, 36 * x + 6 * (y + 1) + z, by omega, x, (y + 1), z, by omega, fun _ => hqs109_0, fun _ => hqs109_1, fun _ => hqs109_2, fun hh => absurd hh (by decide), rfl, by omega, by omega, by omega⟩, rfl⟩ (by rfl) (by rfl) (by rfl)
  · show fe_R 0 gk_m330 0 [(0, .ref 0), (1, .int 4)] [] (fm g tp bt a b) _
    refine fe_s 5 (pc' := 5) (lc' := [(2, .int (4 - 1)), (0, .ref 0), (1, .int 4)]) (stk' := [.int (4 - 1)]) (mem' := fm g tp bt a b) (by intro _ _ _; eq_refl) ?_
    rw [show (4 - 1 : Int32) = 3 from rfl]
    refine fe_s 1 (pc' := cond (fx_cb .le 3 0) 32 8) (lc' := [(2, .int 3), (0, .ref 0), (1, .int 4)]) (stk' := []) (mem' := fm g tp bt a b) (by intro _ _ _; eq_refl) ?_
    rw [show (fx_cb .le 3 0) = false from by decide]
    dsimp only [cond]
    refine fe_s 3 (pc' := 13) (lc' := [(2, .int 3), (0, .ref 0), (1, .int 4)]) (stk' := [.int 3, .ref 11]) (mem' := fm g tp bt a b) (by intro _ _ _; eq_refl) ?_
    refine fe_ldI (by rfl) (by rfl) (fx_inN (i := 3) (by omega) (by omega)) ?_
    rw [show Int32.toNatClampNeg (3) = 3 from rfl]
    rw [e3 (by omega)]
    refine fe_s 1 (pc' := 16) (lc' := [(2, .int 3), (0, .ref 0), (1, .int 4)]) (stk' := [.int 6, .int (nI z)]) (mem' := fm g tp bt a b) (by intro _ _ _; eq_refl) ?_
    refine fe_s 1 (pc' := cond (fx_cb .ne (nI z) 6) 32 19) (lc' := [(2, .int 3), (0, .ref 0), (1, .int 4)]) (stk' := []) (mem' := fm g tp bt a b) (by intro _ _ _; eq_refl) ?_
    by_cases h110 : z = 6
    · rw [show (fx_cb .ne (nI z) 6) = false from cb_neF (a := z) (b := 6) (by omega) (by omega) (by omega)]
      dsimp only [cond]
      refine fe_s 4 (pc' := 25) (lc' := [(2, .int 3), (0, .ref 0), (1, .int 4)]) (stk' := [.int 1, .int 3, .ref 11]) (mem' := fm g tp bt a b) (by intro _ _ _; eq_refl) ?_
      refine fe_stI (mem' := fm g tp bt (fm_u a 11 (3 : Int32).toNatClampNeg 1) b) (by rfl) (by rfl) (fx_inN (i := 3) (by omega) (by omega)) fm_si11 ?_
      rw [show Int32.toNatClampNeg (3) = 3 from rfl]
      obtain ⟨as111, has111⟩ : ∃ zz, zz = fm_u a 11 3 1 := ⟨_, rfl⟩
      rw [← has111]
      have hqs111_0 : as111 11 0 = nI 0 := by rw [has111, fm_us, if_neg (by decide), e0 (by omega)]
      have hqs111_1 : as111 11 1 = nI x := by rw [has111, fm_us, if_neg (by decide), e1 (by omega)]
      have hqs111_2 : as111 11 2 = nI y := by rw [has111, fm_us, if_neg (by decide), e2 (by omega)]
      have hqs111_3 : as111 11 3 = nI 1 := by rw [has111, fm_us, if_pos (by decide)]; rfl
      have hos111 : ∀ t, t ≠ 11 → as111 t = a t := fun t ht => by rw [has111, fm_utt ht]
      refine fe_s 3 (pc' := 5) (lc' := [(2, .int (3 + (-1))), (0, .ref 0), (1, .int 4)]) (stk' := [.int (3 + (-1))]) (mem' := fm g tp bt as111 b) (by intro _ _ _; eq_refl) ?_
      rw [show (3 + (-1) : Int32) = 2 from rfl]
      refine fe_s 1 (pc' := cond (fx_cb .le 2 0) 32 8) (lc' := [(2, .int 2), (0, .ref 0), (1, .int 4)]) (stk' := []) (mem' := fm g tp bt as111 b) (by intro _ _ _; eq_refl) ?_
      rw [show (fx_cb .le 2 0) = false from by decide]
      dsimp only [cond]
      refine fe_s 3 (pc' := 13) (lc' := [(2, .int 2), (0, .ref 0), (1, .int 4)]) (stk' := [.int 2, .ref 11]) (mem' := fm g tp bt as111 b) (by intro _ _ _; eq_refl) ?_
      refine fe_ldI (by rfl) (by rfl) (fx_inN (i := 2) (by omega) (by omega)) ?_
      rw [show Int32.toNatClampNeg (2) = 2 from rfl]
      rw [hqs111_2]
      refine fe_s 1 (pc' := 16) (lc' := [(2, .int 2), (0, .ref 0), (1, .int 4)]) (stk' := [.int 6, .int (nI y)]) (mem' := fm g tp bt as111 b) (by intro _ _ _; eq_refl) ?_
      refine fe_s 1 (pc' := cond (fx_cb .ne (nI y) 6) 32 19) (lc' := [(2, .int 2), (0, .ref 0), (1, .int 4)]) (stk' := []) (mem' := fm g tp bt as111 b) (by intro _ _ _; eq_refl) ?_
      by_cases h112 : y = 6
      · rw [show (fx_cb .ne (nI y) 6) = false from cb_neF (a := y) (b := 6) (by omega) (by omega) (by omega)]
        dsimp only [cond]
        refine fe_s 4 (pc' := 25) (lc' := [(2, .int 2), (0, .ref 0), (1, .int 4)]) (stk' := [.int 1, .int 2, .ref 11]) (mem' := fm g tp bt as111 b) (by intro _ _ _; eq_refl) ?_
        refine fe_stI (mem' := fm g tp bt (fm_u as111 11 (2 : Int32).toNatClampNeg 1) b) (by rfl) (by rfl) (fx_inN (i := 2) (by omega) (by omega)) fm_si11 ?_
        rw [show Int32.toNatClampNeg (2) = 2 from rfl]
        obtain ⟨as113, has113⟩ : ∃ zz, zz = fm_u as111 11 2 1 := ⟨_, rfl⟩
        rw [← has113]
        have hqs113_0 : as113 11 0 = nI 0 := by rw [has113, fm_us, if_neg (by decide), hqs111_0]
        have hqs113_1 : as113 11 1 = nI x := by rw [has113, fm_us, if_neg (by decide), hqs111_1]
        have hqs113_2 : as113 11 2 = nI 1 := by rw [has113, fm_us, if_pos (by decide)]; rfl
        have hqs113_3 : as113 11 3 = nI 1 := by rw [has113, fm_us, if_neg (by decide), hqs111_3]
        have hos113 : ∀ t, t ≠ 11 → as113 t = a t := fun t ht => by rw [has113, fm_utt ht]; exact hos111 t ht
        refine fe_s 3 (pc' := 5) (lc' := [(2, .int (2 + (-1))), (0, .ref 0), (1, .int 4)]) (stk' := [.int (2 + (-1))]) (mem' := fm g tp bt as113 b) (by intro _ _ _; eq_refl) ?_
        rw [show (2 + (-1) : Int32) = 1 from rfl]
        refine fe_s 1 (pc' := cond (fx_cb .le 1 0) 32 8) (lc' := [(2, .int 1), (0, .ref 0), (1, .int 4)]) (stk' := []) (mem' := fm g tp bt as113 b) (by intro _ _ _; eq_refl) ?_
        rw [show (fx_cb .le 1 0) = false from by decide]
        dsimp only [cond]
        refine fe_s 3 (pc' := 13) (lc' := [(2, .int 1), (0, .ref 0), (1, .int 4)]) (stk' := [.int 1, .ref 11]) (mem' := fm g tp bt as113 b) (by intro _ _ _; eq_refl) ?_
        refine fe_ldI (by rfl) (by rfl) (fx_inN (i := 1) (by omega) (by omega)) ?_
        rw [show Int32.toNatClampNeg (1) = 1 from rfl]
        rw [hqs113_1]
        refine fe_s 1 (pc' := 16) (lc' := [(2, .int 1), (0, .ref 0), (1, .int 4)]) (stk' := [.int 6, .int (nI x)]) (mem' := fm g tp bt as113 b) (by intro _ _ _; eq_refl) ?_
        refine fe_s 1 (pc' := cond (fx_cb .ne (nI x) 6) 32 19) (lc' := [(2, .int 1), (0, .ref 0), (1, .int 4)]) (stk' := []) (mem' := fm g tp bt as113 b) (by intro _ _ _; eq_refl) ?_
        by_cases h114 : x = 6
        · rw [show (fx_cb .ne (nI x) 6) = false from cb_neF (a := x) (b := 6) (by omega) (by omega) (by omega)]
          dsimp only [cond]
          refine fe_s 4 (pc' := 25) (lc' := [(2, .int 1), (0, .ref 0), (1, .int 4)]) (stk' := [.int 1, .int 1, .ref 11]) (mem' := fm g tp bt as113 b) (by intro _ _ _; eq_refl) ?_
          refine fe_stI (mem' := fm g tp bt (fm_u as113 11 (1 : Int32).toNatClampNeg 1) b) (by rfl) (by rfl) (fx_inN (i := 1) (by omega) (by omega)) fm_si11 ?_
          rw [show Int32.toNatClampNeg (1) = 1 from rfl]
          obtain ⟨as115, has115⟩ : ∃ zz, zz = fm_u as113 11 1 1 := ⟨_, rfl⟩
          rw [← has115]
          have hqs115_0 : as115 11 0 = nI 0 := by rw [has115, fm_us, if_neg (by decide), hqs113_0]
          have hqs115_1 : as115 11 1 = nI 1 := by rw [has115, fm_us, if_pos (by decide)]; rfl
          have hqs115_2 : as115 11 2 = nI 1 := by rw [has115, fm_us, if_neg (by decide), hqs113_2]
          have hqs115_3 : as115 11 3 = nI 1 := by rw [has115, fm_us, if_neg (by decide), hqs113_3]
          have hos115 : ∀ t, t ≠ 11 → as115 t = a t := fun t ht => by rw [has115, fm_utt ht]; exact hos113 t ht
          refine fe_s 3 (pc' := 5) (lc' := [(2, .int (1 + (-1))), (0, .ref 0), (1, .int 4)]) (stk' := [.int (1 + (-1))]) (mem' := fm g tp bt as115 b) (by intro _ _ _; eq_refl) ?_
          rw [show (1 + (-1) : Int32) = 0 from rfl]
          refine fe_s 1 (pc' := cond (fx_cb .le 0 0) 32 8) (lc' := [(2, .int 0), (0, .ref 0), (1, .int 4)]) (stk' := []) (mem' := fm g tp bt as115 b) (by intro _ _ _; eq_refl) ?_
          rw [show (fx_cb .le 0 0) = true from by decide]
          dsimp only [cond]
          refine fe_s 1 (pc' := 33) (lc' := [(2, .int 0), (0, .ref 0), (1, .int 4)]) (stk' := [.int 0]) (mem' := fm g tp bt as115 b) (by intro _ _ _; eq_refl) ?_
          refine fe_s 1 (pc' := cond (fx_cb .gt 0 0) 38 36) (lc' := [(2, .int 0), (0, .ref 0), (1, .int 4)]) (stk' := []) (mem' := fm g tp bt as115 b) (by intro _ _ _; eq_refl) ?_
          rw [show (fx_cb .gt 0 0) = false from by decide]
          dsimp only [cond]
          refine fe_s 1 (pc' := 37) (lc' := [(2, .int 0), (0, .ref 0), (1, .int 4)]) (stk' := [.int 0]) (mem' := fm g tp bt as115 b) (by intro _ _ _; eq_refl) ?_
          exact fe_ret ⟨_, _, hos115, Or.inl rfl, rfl⟩ (by rfl) (by rfl) (by rfl)
        · rw [show (fx_cb .ne (nI x) 6) = true from cb_neT (a := x) (b := 6) (by omega) (by omega) (by omega)]
          dsimp only [cond]
          refine fe_s 1 (pc' := 33) (lc' := [(2, .int 1), (0, .ref 0), (1, .int 4)]) (stk' := [.int 1]) (mem' := fm g tp bt as113 b) (by intro _ _ _; eq_refl) ?_
          refine fe_s 1 (pc' := cond (fx_cb .gt 1 0) 38 36) (lc' := [(2, .int 1), (0, .ref 0), (1, .int 4)]) (stk' := []) (mem' := fm g tp bt as113 b) (by intro _ _ _; eq_refl) ?_
          rw [show (fx_cb .gt 1 0) = true from by decide]
          dsimp only [cond]
          refine fe_s 4 (pc' := 44) (lc' := [(2, .int 1), (0, .ref 0), (1, .int 4)]) (stk' := [.int 1, .ref 11, .int 1, .ref 11]) (mem' := fm g tp bt as113 b) (by intro _ _ _; eq_refl) ?_
          refine fe_ldI (by rfl) (by rfl) (fx_inN (i := 1) (by omega) (by omega)) ?_
          rw [show Int32.toNatClampNeg (1) = 1 from rfl]
          rw [hqs113_1]
          refine fe_s 2 (pc' := 47) (lc' := [(2, .int 1), (0, .ref 0), (1, .int 4)]) (stk' := [.int ((nI x) + 1), .int 1, .ref 11]) (mem' := fm g tp bt as113 b) (by intro _ _ _; eq_refl) ?_
          rw [show ((nI x) + 1 : Int32) = nI (x + 1) from by simp only [show (1 : Int32) = nI 1 from rfl, nI_add, fm_mul]]
          refine fe_stI (mem' := fm g tp bt (fm_u as113 11 (1 : Int32).toNatClampNeg (nI (x + 1))) b) (by rfl) (by rfl) (fx_inN (i := 1) (by omega) (by omega)) fm_si11 ?_
          rw [show Int32.toNatClampNeg (1) = 1 from rfl]
          obtain ⟨as116, has116⟩ : ∃ zz, zz = fm_u as113 11 1 (nI (x + 1)) := ⟨_, rfl⟩
          rw [← has116]
          have hqs116_0 : as116 11 0 = nI 0 := by rw [has116, fm_us, if_neg (by decide), hqs113_0]
          have hqs116_1 : as116 11 1 = nI (x + 1) := by rw [has116, fm_us, if_pos (by decide)]
          have hqs116_2 : as116 11 2 = nI 1 := by rw [has116, fm_us, if_neg (by decide), hqs113_2]
          have hqs116_3 : as116 11 3 = nI 1 := by rw [has116, fm_us, if_neg (by decide), hqs113_3]
          have hos116 : ∀ t, t ≠ 11 → as116 t = a t := fun t ht => by rw [has116, fm_utt ht]; exact hos113 t ht
          refine fe_s 1 (pc' := 49) (lc' := [(2, .int 1), (0, .ref 0), (1, .int 4)]) (stk' := [.int 1]) (mem' := fm g tp bt as116 b) (by intro _ _ _; eq_refl) ?_
          exact fe_ret ⟨_, _, hos116, Or.inr ⟨rfl, 36 * (x + 1) + 6 * 1 + 1, by omega, (x + 1), 1, 1, by omega, fun _ => hqs116_0, fun _ => hqs116_1, fun _ => hqs116_2, fun _ => hqs116_3, rfl, by omega, by omega, by omega⟩, rfl⟩ (by rfl) (by rfl) (by rfl)
      · rw [show (fx_cb .ne (nI y) 6) = true from cb_neT (a := y) (b := 6) (by omega) (by omega) (by omega)]
        dsimp only [cond]
        refine fe_s 1 (pc' := 33) (lc' := [(2, .int 2), (0, .ref 0), (1, .int 4)]) (stk' := [.int 2]) (mem' := fm g tp bt as111 b) (by intro _ _ _; eq_refl) ?_
        refine fe_s 1 (pc' := cond (fx_cb .gt 2 0) 38 36) (lc' := [(2, .int 2), (0, .ref 0), (1, .int 4)]) (stk' := []) (mem' := fm g tp bt as111 b) (by intro _ _ _; eq_refl) ?_
        rw [show (fx_cb .gt 2 0) = true from by decide]
        dsimp only [cond]
        refine fe_s 4 (pc' := 44) (lc' := [(2, .int 2), (0, .ref 0), (1, .int 4)]) (stk' := [.int 2, .ref 11, .int 2, .ref 11]) (mem' := fm g tp bt as111 b) (by intro _ _ _; eq_refl) ?_
        refine fe_ldI (by rfl) (by rfl) (fx_inN (i := 2) (by omega) (by omega)) ?_
        rw [show Int32.toNatClampNeg (2) = 2 from rfl]
        rw [hqs111_2]
        refine fe_s 2 (pc' := 47) (lc' := [(2, .int 2), (0, .ref 0), (1, .int 4)]) (stk' := [.int ((nI y) + 1), .int 2, .ref 11]) (mem' := fm g tp bt as111 b) (by intro _ _ _; eq_refl) ?_
        rw [show ((nI y) + 1 : Int32) = nI (y + 1) from by simp only [show (1 : Int32) = nI 1 from rfl, nI_add, fm_mul]]
        refine fe_stI (mem' := fm g tp bt (fm_u as111 11 (2 : Int32).toNatClampNeg (nI (y + 1))) b) (by rfl) (by rfl) (fx_inN (i := 2) (by omega) (by omega)) fm_si11 ?_
        rw [show Int32.toNatClampNeg (2) = 2 from rfl]
        obtain ⟨as117, has117⟩ : ∃ zz, zz = fm_u as111 11 2 (nI (y + 1)) := ⟨_, rfl⟩
        rw [← has117]
        have hqs117_0 : as117 11 0 = nI 0 := by rw [has117, fm_us, if_neg (by decide), hqs111_0]
        have hqs117_1 : as117 11 1 = nI x := by rw [has117, fm_us, if_neg (by decide), hqs111_1]
        have hqs117_2 : as117 11 2 = nI (y + 1) := by rw [has117, fm_us, if_pos (by decide)]
        have hqs117_3 : as117 11 3 = nI 1 := by rw [has117, fm_us, if_neg (by decide), hqs111_3]
        have hos117 : ∀ t, t ≠ 11 → as117 t = a t := fun t ht => by rw [has117, fm_utt ht]; exact hos111 t ht
        refine fe_s 1 (pc' := 49) (lc' := [(2, .int 2), (0, .ref 0), (1, .int 4)]) (stk' := [.int 1]) (mem' := fm g tp bt as117 b) (by intro _ _ _; eq_refl) ?_
        exact fe_ret ⟨_, _, hos117, Or.inr ⟨rfl, 36 * x + 6 * (y + 1) + 1, by omega, x, (y + 1), 1, by omega, fun _ => hqs117_0, fun _ => hqs117_1, fun _ => hqs117_2, fun _ => hqs117_3, rfl, by omega, by omega, by omega⟩, rfl⟩ (by rfl) (by rfl) (by rfl)
    · rw [show (fx_cb .ne (nI z) 6) = true from cb_neT (a := z) (b := 6) (by omega) (by omega) (by omega)]
      dsimp only [cond]
      refine fe_s 1 (pc' := 33) (lc' := [(2, .int 3), (0, .ref 0), (1, .int 4)]) (stk' := [.int 3]) (mem' := fm g tp bt a b) (by intro _ _ _; eq_refl) ?_
      refine fe_s 1 (pc' := cond (fx_cb .gt 3 0) 38 36) (lc' := [(2, .int 3), (0, .ref 0), (1, .int 4)]) (stk' := []) (mem' := fm g tp bt a b) (by intro _ _ _; eq_refl) ?_
      rw [show (fx_cb .gt 3 0) = true from by decide]
      dsimp only [cond]
      refine fe_s 4 (pc' := 44) (lc' := [(2, .int 3), (0, .ref 0), (1, .int 4)]) (stk' := [.int 3, .ref 11, .int 3, .ref 11]) (mem' := fm g tp bt a b) (by intro _ _ _; eq_refl) ?_
      refine fe_ldI (by rfl) (by rfl) (fx_inN (i := 3) (by omega) (by omega)) ?_
      rw [show Int32.toNatClampNeg (3) = 3 from rfl]
      rw [e3 (by omega)]
      refine fe_s 2 (pc' := 47) (lc' := [(2, .int 3), (0, .ref 0), (1, .int 4)]) (stk' := [.int ((nI z) + 1), .int 3, .ref 11]) (mem' := fm g tp bt a b) (by intro _ _ _; eq_refl) ?_
      rw [show ((nI z) + 1 : Int32) = nI (z + 1) from by simp only [show (1 : Int32) = nI 1 from rfl, nI_add, fm_mul]]
      refine fe_stI (mem' := fm g tp bt (fm_u a 11 (3 : Int32).toNatClampNeg (nI (z + 1))) b) (by rfl) (by rfl) (fx_inN (i := 3) (by omega) (by omega)) fm_si11 ?_
      rw [show Int32.toNatClampNeg (3) = 3 from rfl]
      obtain ⟨as118, has118⟩ : ∃ zz, zz = fm_u a 11 3 (nI (z + 1)) := ⟨_, rfl⟩
      rw [← has118]
      have hqs118_0 : as118 11 0 = nI 0 := by rw [has118, fm_us, if_neg (by decide), e0 (by omega)]
      have hqs118_1 : as118 11 1 = nI x := by rw [has118, fm_us, if_neg (by decide), e1 (by omega)]
      have hqs118_2 : as118 11 2 = nI y := by rw [has118, fm_us, if_neg (by decide), e2 (by omega)]
      have hqs118_3 : as118 11 3 = nI (z + 1) := by rw [has118, fm_us, if_pos (by decide)]
      have hos118 : ∀ t, t ≠ 11 → as118 t = a t := fun t ht => by rw [has118, fm_utt ht]
      refine fe_s 1 (pc' := 49) (lc' := [(2, .int 3), (0, .ref 0), (1, .int 4)]) (stk' := [.int 1]) (mem' := fm g tp bt as118 b) (by intro _ _ _; eq_refl) ?_
      exact fe_ret ⟨_, _, hos118, Or.inr ⟨rfl, 36 * x + 6 * y + (z + 1), by omega, x, y, (z + 1), by omega, fun _ => hqs118_0, fun _ => hqs118_1, fun _ => hqs118_2, fun _ => hqs118_3, rfl, by omega, by omega, by omega⟩, rfl⟩ (by rfl) (by rfl) (by rfl)
end FQ1b
end MH10_1
