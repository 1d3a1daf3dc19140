section MH23_0
/-! ===== fx: trials ===== -/
section FTT
variable {g : Nat → Int32} {tp bt : Int64} {a0 a : Nat → Nat → Int32} {b : Nat → Nat → Int64}
theorem fm_maxI {a b : Nat} (ha : a < 2147483648) (hb : b < 2147483648) : (if nI a < nI b then nI b else nI a) = nI (max a b) := by
  by_cases h : a < b
  · rw [if_pos ((nI_ltI (by omega) (by omega)).mpr h), Nat.max_eq_right (by omega)]
  · rw [if_neg (fun z => h ((nI_ltI (by omega) (by omega)).mp z)), Nat.max_eq_left (by omega)]
/-- the fewest trials, by weights and breaks -/
def fm_ra (p r : Nat → Nat) (m : Nat) : Nat → Nat
  | 0 => 1000000
  | x + 1 => min (fm_ra p r m x) (1 + max (p x) (r (m - (x + 1))))
def fm_rf (p : Nat → Nat) : Nat → Nat → Nat
  | 0 => fun _ => 0
  | n + 1 => fun j => if j = n + 1 then fm_ra p (fm_rf p n) (n + 1) (n + 1) else fm_rf p n j
def fm_trow (p : Nat → Nat) (m : Nat) : Nat := fm_rf p m m
def fm_tr : Nat → Nat → Nat
  | 0 => fun m => if m = 0 then 0 else 1000000
  | k + 1 => fm_trow (fm_tr k)
theorem fm_rf_le (p : Nat → Nat) : ∀ n j, j ≤ n → fm_rf p n j = fm_trow p j := by
  intro n
  induction n with
  | zero =>
    intro j hj
    obtain rfl : j = 0 := by omega
    rfl
  | succ n ih =>
    intro j hj
    by_cases e : j = n + 1
    · subst e; rfl
    · show (if j = n + 1 then _ else fm_rf p n j) = _
      rw [if_neg e]
      exact ih j (by omega)
theorem fm_ra_eq (p : Nat → Nat) {r s : Nat → Nat} {m : Nat} (h : ∀ j, j < m → r j = s j) : ∀ x, x ≤ m → fm_ra p r m x = fm_ra p s m x := by
  intro x
  induction x with
  | zero => intro _; rfl
  | succ x ih =>
    intro hx
    show min _ _ = min _ _
    rw [ih (by omega), h (m - (x + 1)) (by omega)]
theorem fm_tr_s (k m : Nat) : fm_tr (k + 1) (m + 1) = fm_ra (fm_tr k) (fm_tr (k + 1)) (m + 1) (m + 1) := by
  show fm_rf (fm_tr k) (m + 1) (m + 1) = _
  show (if m + 1 = m + 1 then fm_ra (fm_tr k) (fm_rf (fm_tr k) m) (m + 1) (m + 1) else _) = _
  rw [if_pos rfl]
  exact fm_ra_eq _ (fun j hj => fm_rf_le _ m j (by omega)) _ (Nat.le_refl _)
theorem fm_tr_0 (k : Nat) : fm_tr k 0 = 0 := by cases k <;> rfl
theorem fm_ra_le (p r : Nat → Nat) (m : Nat) : ∀ x, fm_ra p r m x ≤ 1000000 := by
  intro x
  induction x with
  | zero => exact Nat.le_refl _
  | succ x ih => exact Nat.le_trans (Nat.min_le_left _ _) ih
theorem fm_tr_le (k m : Nat) : fm_tr k m ≤ 1000000 := by
  cases k with
  | zero =>
    show (if m = 0 then 0 else 1000000) ≤ _
    split <;> omega
  | succ k =>
    cases m with
    | zero => rw [fm_tr_0]; omega
    | succ m => rw [fm_tr_s]; exact fm_ra_le _ _ _ _
theorem fm_ra_1 (p r : Nat → Nat) (m : Nat) : ∀ x, 0 < x → fm_ra p r m x ≤ 1 + max (p 0) (r (m - 1)) := by
  intro x
  induction x with
  | zero => intro h; omega
  | succ x ih =>
    intro _
    rcases Nat.eq_zero_or_pos x with rfl | h
    · exact Nat.min_le_right _ _
    · exact Nat.le_trans (Nat.min_le_left _ _) (ih h)
theorem fm_tr_m (k : Nat) : ∀ m, fm_tr (k + 1) m ≤ m := by
  intro m
  induction m with
  | zero => rw [fm_tr_0]; omega
  | succ m ih =>
    rw [fm_tr_s]
    have := fm_ra_1 (fm_tr k) (fm_tr (k + 1)) (m + 1) (m + 1) (by omega)
    rw [fm_tr_0, show m + 1 - 1 = m by omega] at this
    omega
theorem fm_ra_at (p r : Nat → Nat) (m : Nat) : ∀ x, fm_ra p r m x = 1000000 ∨ ∃ y, y < x ∧ fm_ra p r m x = 1 + max (p y) (r (m - (y + 1))) := by
  intro x
  induction x with
  | zero => exact Or.inl rfl
  | succ x ih =>
    show min _ _ = _ ∨ ∃ y, _ ∧ min _ _ = _
    by_cases h : fm_ra p r m x ≤ 1 + max (p x) (r (m - (x + 1)))
    · rw [Nat.min_eq_left h]
      rcases ih with e | ⟨y, hy, e⟩
      · exact Or.inl e
      · exact Or.inr ⟨y, by omega, e⟩
    · rw [Nat.min_eq_right (by omega)]
      exact Or.inr ⟨x, by omega, rfl⟩
theorem fm_tr_at (k : Nat) {m : Nat} (hm : 0 < m) (h60 : m ≤ 60) : ∃ x, 1 ≤ x ∧ x ≤ m ∧ fm_tr (k + 1) m = 1 + max (fm_tr k (x - 1)) (fm_tr (k + 1) (m - x)) := by
  obtain ⟨m, rfl⟩ : ∃ j, m = j + 1 := ⟨m - 1, by omega⟩
  have h1 := fm_tr_m k (m + 1)
  rcases fm_ra_at (fm_tr k) (fm_tr (k + 1)) (m + 1) (m + 1) with e | ⟨y, hy, e⟩
  · rw [fm_tr_s] at h1; omega
  · exact ⟨y + 1, by omega, by omega, by rw [fm_tr_s, e]; rfl⟩
/-- the table as far as it is -/
def fm_TB (n : Nat) (a : Nat → Nat → Int32) (k m : Nat) : Prop := (∀ k' m', m' ≤ n → (k' < k ∨ k' = k ∧ m' < m) → a 15 (61 * k' + m') = nI (fm_tr k' m')) ∧ ∀ i, i < 427 → 0 ≤ (a 15 i).toInt ∧ (a 15 i).toInt ≤ 1000000
theorem fm_TB_u {n : Nat} {a : Nat → Nat → Int32} {k m v : Nat} (h : fm_TB n a k m) (hn : n ≤ 60) (hm : m ≤ n) (hv : v ≤ 1000000) : fm_TB n (fm_u a 15 (61 * k + m) (nI v)) k m := by
  refine ⟨fun k' m' h1 h2 => ?_, fun i hi => ?_⟩
  · rw [fm_us, if_neg (by omega)]; exact h.1 k' m' h1 h2
  · rw [fm_us]
    split
    · rw [nI_i32 (by omega)]; omega
    · exact h.2 i hi
theorem fm_TB_n {n : Nat} {a : Nat → Nat → Int32} {k m : Nat} (h : fm_TB n a k m) (e : a 15 (61 * k + m) = nI (fm_tr k m)) : fm_TB n a k (m + 1) := ⟨fun k' m' h1 h2 => by
  by_cases e2 : k' = k ∧ m' = m
  · obtain ⟨rfl, rfl⟩ := e2; exact e
  · exact h.1 k' m' h1 (by omega), h.2⟩
theorem fm_TB_k {n : Nat} {a : Nat → Nat → Int32} {k : Nat} (h : fm_TB n a k (n + 1)) : fm_TB n a (k + 1) 0 := ⟨fun k' m' h1 h2 => h.1 k' m' h1 (by omega), h.2⟩
theorem fr_triedAt {n k m x : Nat} {a : Nat → Nat → Int32} (h1 : a 15 (61 * k + (x - 1)) = nI (fm_tr k (x - 1))) (h2 : a 15 (61 * (k + 1) + (m - x)) = nI (fm_tr (k + 1) (m - x))) (hk : k < 6) (hm : m ≤ 60) (hx : 1 ≤ x) (hxm : x ≤ m) : fr_T 1 345 [.ref 0, .int (nI m), .int (nI (k + 1)), .int (nI x)] (fm g tp bt a b) (some (.int (nI (1 + max (fm_tr k (x - 1)) (fm_tr (k + 1) (m - x)))))) (fm g tp bt a b) := by
  refine fr_meth (by rfl) (by rfl) ?_
  have t1 := fm_tr_le k (x - 1)
  have t2 := fm_tr_le (k + 1) (m - x)
  refine fr_s 12 (pc' := 15) (lc' := [(0, .ref 0), (1, .int (nI m)), (2, .int (nI (k + 1))), (3, .int (nI x))]) (stk' := [.int (((61 * ((nI (k + 1)) - 1)) + (nI x)) - 1), .ref 15, .int 1]) (mem' := fm g tp bt a b) (fun _ _ _ => rfl) ?_
  rw [show (((61 * ((nI (k + 1)) - 1)) + (nI x)) - 1 : Int32) = nI (((61 * k) + x) - 1) from by simp only [show (61 : Int32) = nI 61 from rfl, show (1 : Int32) = nI 1 from rfl, tg_sub2 (x := k + 1) (y := 1) (by omega), Nat.add_sub_cancel, tg_sub2 (x := (61 * k) + x) (y := 1) (by omega), nI_add, fm_mul]]
  refine fr_ldI (by rfl) (by rfl) (fx_inN (i := ((61 * k) + x) - 1) (by omega) (by omega)) ?_
  rw [show Int32.toNatClampNeg (nI (((61 * k) + x) - 1)) = ((61 * k) + x) - 1 from nI_clamp (by omega)]
  rw [show a 15 (((61 * k) + x) - 1) = nI (fm_tr k (x - 1)) from by rw [show ((61 * k) + x) - 1 = 61 * k + (x - 1) by omega]; exact h1]
  refine fr_s 9 (pc' := 28) (lc' := [(0, .ref 0), (1, .int (nI m)), (2, .int (nI (k + 1))), (3, .int (nI x))]) (stk' := [.int (((61 * (nI (k + 1))) + (nI m)) - (nI x)), .ref 15, .int (nI (fm_tr k (x - 1))), .int 1]) (mem' := fm g tp bt a b) (fun _ _ _ => rfl) ?_
  rw [show (((61 * (nI (k + 1))) + (nI m)) - (nI x) : Int32) = nI (((61 * (k + 1)) + m) - x) from by simp only [show (61 : Int32) = nI 61 from rfl, tg_sub2 (x := (61 * (k + 1)) + m) (y := x) (by omega), nI_add, fm_mul]]
  refine fr_ldI (by rfl) (by rfl) (fx_inN (i := ((61 * (k + 1)) + m) - x) (by omega) (by omega)) ?_
  rw [show Int32.toNatClampNeg (nI (((61 * (k + 1)) + m) - x)) = ((61 * (k + 1)) + m) - x from nI_clamp (by omega)]
  rw [show a 15 (((61 * (k + 1)) + m) - x) = nI (fm_tr (k + 1) (m - x)) from by rw [show ((61 * (k + 1)) + m) - x = 61 * (k + 1) + (m - x) by omega]; exact h2]
  refine fr_s 1 (pc' := 32) (lc' := [(0, .ref 0), (1, .int (nI m)), (2, .int (nI (k + 1))), (3, .int (nI x))]) (stk' := [.int (if (nI (fm_tr k (x - 1))) < (nI (fm_tr (k + 1) (m - x))) then (nI (fm_tr (k + 1) (m - x))) else (nI (fm_tr k (x - 1)))), .int 1]) (mem' := fm g tp bt a b) (fun _ _ _ => rfl) ?_
  rw [show (if (nI (fm_tr k (x - 1))) < (nI (fm_tr (k + 1) (m - x))) then (nI (fm_tr (k + 1) (m - x))) else (nI (fm_tr k (x - 1))) : Int32) = nI (max (fm_tr k (x - 1)) (fm_tr (k + 1) (m - x))) from fm_maxI (a := (fm_tr k (x - 1))) (b := (fm_tr (k + 1) (m - x))) (by omega) (by omega)]
  refine fr_s 1 (pc' := 33) (lc' := [(0, .ref 0), (1, .int (nI m)), (2, .int (nI (k + 1))), (3, .int (nI x))]) (stk' := [.int (1 + (nI (max (fm_tr k (x - 1)) (fm_tr (k + 1) (m - x)))))]) (mem' := fm g tp bt a b) (fun _ _ _ => rfl) ?_
  rw [show (1 + (nI (max (fm_tr k (x - 1)) (fm_tr (k + 1) (m - x)))) : Int32) = nI (1 + (max (fm_tr k (x - 1)) (fm_tr (k + 1) (m - x)))) from by simp only [show (1 : Int32) = nI 1 from rfl, nI_add, fm_mul]]
  exact fr_ret (by rfl) (by rfl) (by rfl)
end FTT
end MH23_0
section MH23_1
/-! ===== fx: trials, on ===== -/
section FTO
variable {g : Nat → Int32} {tp bt : Int64} {a0 a : Nat → Nat → Int32} {b : Nat → Nat → Int64}
def fm_S15 (a0 a : Nat → Nat → Int32) : Prop := ∀ t, t ≠ 15 → a t = a0 t
theorem fm_S15_u {a0 a : Nat → Nat → Int32} {i : Nat} {v : Int32} (h : fm_S15 a0 a) : fm_S15 a0 (fm_u a 15 i v) := fun t ht => by rw [fm_utt ht]; exact h t ht
set_option maxHeartbeats 4000000 in
theorem tro_x {n k m B : Nat} (hn : n ≤ 60) (hk : k < 6) (hm : m < n) (hK : (∀ (a' : Nat → Nat → Int32) (x5 : Int32), fm_S15 a0 a' → fm_TB n a' (k + 1) (m + 1) → a' 15 (61 * (k + 1) + (m + 1)) = nI (fm_tr (k + 1) (m + 1)) → fe_R 1 gk_m344 96 [(5, .int x5), (4, .int (nI (m + 1))), (3, .int (nI (k + 1))), (0, .ref 0), (1, .int (nI n)), (2, .int (nI B))] [] (fm g tp bt a' b) (fun R => ∃ a', fm_S15 a0 a' ∧ fm_TB n a' (B + 1) 0 ∧ R = (some (.int (nI (fm_tr B n))), fm g tp bt a' b)))) : ∀ (r x u : Nat), x + r = m + 2 → 1 ≤ x → u ≤ 1000000 → u = fm_ra (fm_tr k) (fm_tr (k + 1)) (m + 1) (x - 1) → ∀ a, fm_S15 a0 a → fm_TB n a (k + 1) (m + 1) → a 15 (61 * (k + 1) + (m + 1)) = nI u → fe_R 1 gk_m344 43 [(5, .int (nI x)), (4, .int (nI (m + 1))), (3, .int (nI (k + 1))), (0, .ref 0), (1, .int (nI n)), (2, .int (nI B))] [] (fm g tp bt a b) (fun R => ∃ a', fm_S15 a0 a' ∧ fm_TB n a' (B + 1) 0 ∧ R = (some (.int (nI (fm_tr B n))), fm g tp bt a' b)) := by
  intro r
  induction r with
  | zero =>
    intro x u hx h1x hu eu a hS hT hc
    obtain rfl : x = m + 2 := by omega
    refine fe_s 2 (pc' := 47) (lc' := [(5, .int (nI (m + 2))), (4, .int (nI (m + 1))), (3, .int (nI (k + 1))), (0, .ref 0), (1, .int (nI n)), (2, .int (nI B))]) (stk' := [.int (nI (m + 1)), .int (nI (m + 2))]) (mem' := fm g tp bt a b) (fun _ _ _ => rfl) ?_
    refine fe_s 1 (pc' := cond (fx_cb .gt (nI (m + 2)) (nI (m + 1))) 96 50) (lc' := [(5, .int (nI (m + 2))), (4, .int (nI (m + 1))), (3, .int (nI (k + 1))), (0, .ref 0), (1, .int (nI n)), (2, .int (nI B))]) (stk' := []) (mem' := fm g tp bt a b) (fun _ _ _ => rfl) ?_
    rw [show (fx_cb .gt (nI (m + 2)) (nI (m + 1))) = true from cb_gtT (a := m + 2) (b := m + 1) (by omega) (by omega) (by omega)]
    dsimp only [cond]
    refine fe_w (lc' := [(5, .int (nI (m + 2))), (4, .int (nI (m + 1))), (3, .int (nI (k + 1))), (0, .ref 0), (1, .int (nI n)), (2, .int (nI B))]) ⟨rfl, rfl, rfl, rfl, rfl, rfl, trivial⟩ (by show List.Nodup [5, 4, 3, 0, 1, 2]; decide) (by show List.Nodup [5, 4, 3, 0, 1, 2]; decide) ?_
    exact hK a _ hS hT (by rw [hc, eu, fm_tr_s, show m + 2 - 1 = m + 1 by omega])
  | succ r ih =>
    intro x u hx h1x hu eu a hS hT hc
    refine fe_s 2 (pc' := 47) (lc' := [(5, .int (nI x)), (4, .int (nI (m + 1))), (3, .int (nI (k + 1))), (0, .ref 0), (1, .int (nI n)), (2, .int (nI B))]) (stk' := [.int (nI (m + 1)), .int (nI x)]) (mem' := fm g tp bt a b) (fun _ _ _ => rfl) ?_
    refine fe_s 1 (pc' := cond (fx_cb .gt (nI x) (nI (m + 1))) 96 50) (lc' := [(5, .int (nI x)), (4, .int (nI (m + 1))), (3, .int (nI (k + 1))), (0, .ref 0), (1, .int (nI n)), (2, .int (nI B))]) (stk' := []) (mem' := fm g tp bt a b) (fun _ _ _ => rfl) ?_
    rw [show (fx_cb .gt (nI x) (nI (m + 1))) = false from cb_gtF (a := x) (b := m + 1) (by omega) (by omega) (by omega)]
    dsimp only [cond]
    refine fe_s 1 (pc' := 51) (lc' := [(5, .int (nI x)), (4, .int (nI (m + 1))), (3, .int (nI (k + 1))), (0, .ref 0), (1, .int (nI n)), (2, .int (nI B))]) (stk' := [.int (nI (k + 1))]) (mem' := fm g tp bt a b) (fun _ _ _ => rfl) ?_
    refine fe_s 1 (pc' := cond (fx_cb .le (nI (k + 1)) 0) 96 54) (lc' := [(5, .int (nI x)), (4, .int (nI (m + 1))), (3, .int (nI (k + 1))), (0, .ref 0), (1, .int (nI n)), (2, .int (nI B))]) (stk' := []) (mem' := fm g tp bt a b) (fun _ _ _ => rfl) ?_
    rw [show (fx_cb .le (nI (k + 1)) 0) = false from cb_leF (a := k + 1) (b := 0) (by omega) (by omega) (by omega)]
    dsimp only [cond]
    refine fe_s 14 (pc' := 76) (lc' := [(5, .int (nI x)), (4, .int (nI (m + 1))), (3, .int (nI (k + 1))), (0, .ref 0), (1, .int (nI n)), (2, .int (nI B))]) (stk' := [.int ((61 * (nI (k + 1))) + (nI (m + 1))), .ref 15, .int ((61 * (nI (k + 1))) + (nI (m + 1))), .ref 15]) (mem' := fm g tp bt a b) (fun _ _ _ => rfl) ?_
    rw [show ((61 * (nI (k + 1))) + (nI (m + 1)) : Int32) = nI ((61 * (k + 1)) + (m + 1)) from by simp only [show (61 : Int32) = nI 61 from rfl, nI_add, fm_mul]]
    refine fe_ldI (by rfl) (by rfl) (fx_inN (i := (61 * (k + 1)) + (m + 1)) (by omega) (by omega)) ?_
    rw [show Int32.toNatClampNeg (nI ((61 * (k + 1)) + (m + 1))) = (61 * (k + 1)) + (m + 1) from nI_clamp (by omega)]
    rw [show a 15 ((61 * (k + 1)) + (m + 1)) = nI u from by rw [show (61 * (k + 1)) + (m + 1) = 61 * (k + 1) + (m + 1) by omega]; exact hc]
    refine fe_s 4 (pc' := 83) (lc' := [(5, .int (nI x)), (4, .int (nI (m + 1))), (3, .int (nI (k + 1))), (0, .ref 0), (1, .int (nI n)), (2, .int (nI B))]) (stk' := [.int (nI x), .int (nI (k + 1)), .int (nI (m + 1)), .ref 0, .int (nI u), .int (nI ((61 * (k + 1)) + (m + 1))), .ref 15]) (mem' := fm g tp bt a b) (fun _ _ _ => rfl) ?_
    obtain ⟨w7, hw7⟩ : ∃ w, w = 1 + max (fm_tr k (x - 1)) (fm_tr (k + 1) (m + 1 - x)) := ⟨_, rfl⟩
    have hw1 := fm_tr_le k (x - 1)
    have hw2 := fm_tr_le (k + 1) (m + 1 - x)
    have cw7 := fr_triedAt (g := g) (tp := tp) (bt := bt) (b := b) (n := n) (k := k) (m := m + 1) (x := x) (a := a) (hT.1 k (x - 1) (by omega) (Or.inl (by omega))) (hT.1 (k + 1) (m + 1 - x) (by omega) (Or.inr ⟨rfl, by omega⟩)) (by omega) (by omega) (by omega) (by omega)
    rw [← hw7] at cw7
    have bw7 : w7 ≤ 1000001 := by omega
    refine fe_ivV cw7 (by omega) (by rfl) (by rfl) (by rfl) (by rfl) (by rfl) (by rfl) ?_
    refine fe_s 1 (pc' := 89) (lc' := [(5, .int (nI x)), (4, .int (nI (m + 1))), (3, .int (nI (k + 1))), (0, .ref 0), (1, .int (nI n)), (2, .int (nI B))]) (stk' := [.int (if (nI w7) < (nI u) then (nI w7) else (nI u)), .int (nI ((61 * (k + 1)) + (m + 1))), .ref 15]) (mem' := fm g tp bt a b) (fun _ _ _ => rfl) ?_
    rw [show (if (nI w7) < (nI u) then (nI w7) else (nI u) : Int32) = nI (min w7 u) from fm_minI (a := w7) (b := u) (by omega) (by omega)]
    refine fe_stI (mem' := fm g tp bt (fm_u a 15 (nI ((61 * (k + 1)) + (m + 1)) : Int32).toNatClampNeg (nI (min w7 u))) b) (by rfl) (by rfl) (fx_inN (i := (61 * (k + 1)) + (m + 1)) (by omega) (by omega)) fm_si15 ?_
    rw [show Int32.toNatClampNeg (nI ((61 * (k + 1)) + (m + 1))) = (61 * (k + 1)) + (m + 1) from nI_clamp (by omega)]
    obtain ⟨t8, ht8⟩ : ∃ z, z = fm_u a 15 ((61 * (k + 1)) + (m + 1)) (nI (min w7 u)) := ⟨_, rfl⟩
    rw [← ht8]
    refine fe_s 2 (pc' := 43) (lc' := [(5, .int ((nI x) + 1)), (4, .int (nI (m + 1))), (3, .int (nI (k + 1))), (0, .ref 0), (1, .int (nI n)), (2, .int (nI B))]) (stk' := []) (mem' := fm g tp bt t8 b) (fun _ _ _ => rfl) ?_
    rw [show ((nI x) + 1 : Int32) = nI (x + 1) from by simp only [show (1 : Int32) = nI 1 from rfl, nI_add, fm_mul]]
    refine fe_w (lc' := [(5, .int (nI (x + 1))), (4, .int (nI (m + 1))), (3, .int (nI (k + 1))), (0, .ref 0), (1, .int (nI n)), (2, .int (nI B))]) ⟨rfl, rfl, rfl, rfl, rfl, rfl, trivial⟩ (by show List.Nodup [5, 4, 3, 0, 1, 2]; decide) (by show List.Nodup [5, 4, 3, 0, 1, 2]; decide) ?_
    refine ih (x + 1) (min w7 u) (by omega) (by omega) (by omega) ?_ t8 ?_ ?_ ?_
    · obtain ⟨y, rfl⟩ : ∃ y, x = y + 1 := ⟨x - 1, by omega⟩
      rw [eu, hw7, show y + 1 + 1 - 1 = y + 1 by omega, show y + 1 - 1 = y by omega, Nat.min_comm]; rfl
    · rw [ht8]; exact fm_S15_u hS
    · rw [ht8, show (61 * (k + 1)) + (m + 1) = 61 * (k + 1) + (m + 1) by omega]; exact fm_TB_u hT hn (by omega) (by omega)
    · rw [ht8, fm_us, if_pos (by omega)]
set_option maxHeartbeats 4000000 in
theorem tro_m {n K B : Nat} (hn : n ≤ 60) (hK6 : K ≤ 6) (hK : (∀ a', fm_S15 a0 a' → fm_TB n a' K (n + 1) → ∀ x5 : Int32, fe_R 1 gk_m344 2 [(3, .int (nI (K + 1))), (0, .ref 0), (1, .int (nI n)), (2, .int (nI B))] [] (fm g tp bt a' b) (fun R => ∃ a', fm_S15 a0 a' ∧ fm_TB n a' (B + 1) 0 ∧ R = (some (.int (nI (fm_tr B n))), fm g tp bt a' b)))) : ∀ (r m : Nat), m + r = n + 1 → ∀ a, fm_S15 a0 a → fm_TB n a K m → fe_R 1 gk_m344 10 [(4, .int (nI m)), (3, .int (nI K)), (0, .ref 0), (1, .int (nI n)), (2, .int (nI B))] [] (fm g tp bt a b) (fun R => ∃ a', fm_S15 a0 a' ∧ fm_TB n a' (B + 1) 0 ∧ R = (some (.int (nI (fm_tr B n))), fm g tp bt a' b)) := by
  intro r
  induction r with
  | zero =>
    intro m hm a hS hT
    obtain rfl : m = n + 1 := by omega
    refine fe_s 2 (pc' := 13) (lc' := [(4, .int (nI (n + 1))), (3, .int (nI K)), (0, .ref 0), (1, .int (nI n)), (2, .int (nI B))]) (stk' := [.int (nI n), .int (nI (n + 1))]) (mem' := fm g tp bt a b) (fun _ _ _ => rfl) ?_
    refine fe_s 1 (pc' := cond (fx_cb .gt (nI (n + 1)) (nI n)) 102 16) (lc' := [(4, .int (nI (n + 1))), (3, .int (nI K)), (0, .ref 0), (1, .int (nI n)), (2, .int (nI B))]) (stk' := []) (mem' := fm g tp bt a b) (fun _ _ _ => rfl) ?_
    rw [show (fx_cb .gt (nI (n + 1)) (nI n)) = true from cb_gtT (a := n + 1) (b := n) (by omega) (by omega) (by omega)]
    dsimp only [cond]
    refine fe_s 1 (pc' := 105) (lc' := [(3, .int ((nI K) + 1)), (4, .int (nI (n + 1))), (0, .ref 0), (1, .int (nI n)), (2, .int (nI B))]) (stk' := []) (mem' := fm g tp bt a b) (fun _ _ _ => rfl) ?_
    rw [show ((nI K) + 1 : Int32) = nI (K + 1) from by simp only [show (1 : Int32) = nI 1 from rfl, nI_add, fm_mul]]
    refine fe_s 1 (pc' := fx_to 105 (-103)) (lc' := [(3, .int (nI (K + 1))), (4, .int (nI (n + 1))), (0, .ref 0), (1, .int (nI n)), (2, .int (nI B))]) (stk' := []) (mem' := fm g tp bt a b) (fun _ _ _ => rfl) ?_
    rw [show fx_to 105 (-103) = 2 from by decide]
    refine fe_w (lc' := [(3, .int (nI (K + 1))), (0, .ref 0), (1, .int (nI n)), (2, .int (nI B))]) ⟨rfl, rfl, rfl, rfl, trivial⟩ (by show List.Nodup [3, 0, 1, 2]; decide) (by show List.Nodup [3, 4, 0, 1, 2]; decide) ?_
    exact hK a hS hT 0
  | succ r ih =>
    intro m hm a hS hT
    cases m with
    | zero =>
      cases K with
      | zero =>
        have h0n : 0 ≤ n := Nat.zero_le _
        refine fe_s 2 (pc' := 13) (lc' := [(4, .int (nI 0)), (3, .int (nI 0)), (0, .ref 0), (1, .int (nI n)), (2, .int (nI B))]) (stk' := [.int (nI n), .int (nI 0)]) (mem' := fm g tp bt a b) (fun _ _ _ => rfl) ?_
        refine fe_s 1 (pc' := cond (fx_cb .gt (nI 0) (nI n)) 102 16) (lc' := [(4, .int (nI 0)), (3, .int (nI 0)), (0, .ref 0), (1, .int (nI n)), (2, .int (nI B))]) (stk' := []) (mem' := fm g tp bt a b) (fun _ _ _ => rfl) ?_
        rw [show (fx_cb .gt (nI 0) (nI n)) = false from cb_gtF (a := 0) (b := n) (by omega) (by omega) (by omega)]
        dsimp only [cond]
        refine fe_s 8 (pc' := 29) (lc' := [(4, .int (nI 0)), (3, .int (nI 0)), (0, .ref 0), (1, .int (nI n)), (2, .int (nI B))]) (stk' := [.int (nI 0), .int ((61 * (nI 0)) + (nI 0)), .ref 15]) (mem' := fm g tp bt a b) (fun _ _ _ => rfl) ?_
        rw [show ((61 * (nI 0)) + (nI 0) : Int32) = nI ((61 * 0) + 0) from by simp only [show (61 : Int32) = nI 61 from rfl, nI_add, fm_mul]]
        refine fe_s 1 (pc' := cond (fx_cb .ne (nI 0) 0) 36 32) (lc' := [(4, .int (nI 0)), (3, .int (nI 0)), (0, .ref 0), (1, .int (nI n)), (2, .int (nI B))]) (stk' := [.int (nI ((61 * 0) + 0)), .ref 15]) (mem' := fm g tp bt a b) (fun _ _ _ => rfl) ?_
        rw [show (fx_cb .ne (nI 0) 0) = false from cb_neF (a := 0) (b := 0) (by omega) (by omega) (by omega)]
        dsimp only [cond]
        refine fe_s 2 (pc' := 39) (lc' := [(4, .int (nI 0)), (3, .int (nI 0)), (0, .ref 0), (1, .int (nI n)), (2, .int (nI B))]) (stk' := [.int 0, .int (nI ((61 * 0) + 0)), .ref 15]) (mem' := fm g tp bt a b) (fun _ _ _ => rfl) ?_
        refine fe_stI (mem' := fm g tp bt (fm_u a 15 (nI ((61 * 0) + 0) : Int32).toNatClampNeg 0) b) (by rfl) (by rfl) (fx_inN (i := (61 * 0) + 0) (by omega) (by omega)) fm_si15 ?_
        rw [show Int32.toNatClampNeg (nI ((61 * 0) + 0)) = (61 * 0) + 0 from nI_clamp (by omega)]
        obtain ⟨t9, ht9⟩ : ∃ z, z = fm_u a 15 ((61 * 0) + 0) 0 := ⟨_, rfl⟩
        rw [← ht9]
        refine fe_s 4 (pc' := 47) (lc' := [(5, .int 1), (4, .int (nI 0)), (3, .int (nI 0)), (0, .ref 0), (1, .int (nI n)), (2, .int (nI B))]) (stk' := [.int (nI 0), .int 1]) (mem' := fm g tp bt t9 b) (fun _ _ _ => rfl) ?_
        refine fe_s 1 (pc' := cond (fx_cb .gt 1 (nI 0)) 96 50) (lc' := [(5, .int 1), (4, .int (nI 0)), (3, .int (nI 0)), (0, .ref 0), (1, .int (nI n)), (2, .int (nI B))]) (stk' := []) (mem' := fm g tp bt t9 b) (fun _ _ _ => rfl) ?_
        rw [show (fx_cb .gt 1 (nI 0)) = true from cb_gtT (a := 1) (b := 0) (by omega) (by omega) (by omega)]
        dsimp only [cond]
        refine fe_s 1 (pc' := 99) (lc' := [(4, .int ((nI 0) + 1)), (5, .int 1), (3, .int (nI 0)), (0, .ref 0), (1, .int (nI n)), (2, .int (nI B))]) (stk' := []) (mem' := fm g tp bt t9 b) (fun _ _ _ => rfl) ?_
        rw [show ((nI 0) + 1 : Int32) = nI (0 + 1) from by simp only [show (1 : Int32) = nI 1 from rfl, nI_add, fm_mul]]
        refine fe_s 1 (pc' := fx_to 99 (-89)) (lc' := [(4, .int (nI (0 + 1))), (5, .int 1), (3, .int (nI 0)), (0, .ref 0), (1, .int (nI n)), (2, .int (nI B))]) (stk' := []) (mem' := fm g tp bt t9 b) (fun _ _ _ => rfl) ?_
        rw [show fx_to 99 (-89) = 10 from by decide]
        have hS2 : fm_S15 a0 t9 := by rw [ht9]; exact fm_S15_u hS
        have hT2 : fm_TB n t9 0 0 := by rw [ht9, show (61 * 0) + 0 = 61 * 0 + 0 by omega, show (0 : Int32) = nI 0 from rfl]; exact fm_TB_u hT hn (by omega) (by omega)
        have hc2 : t9 15 (61 * 0 + 0) = nI 0 := by rw [ht9, fm_us, if_pos (by omega)]; rfl
        refine fe_w (lc' := [(4, .int (nI (0 + 1))), (3, .int (nI 0)), (0, .ref 0), (1, .int (nI n)), (2, .int (nI B))]) ⟨rfl, rfl, rfl, rfl, rfl, trivial⟩ (by show List.Nodup [4, 3, 0, 1, 2]; decide) (by show List.Nodup [4, 5, 3, 0, 1, 2]; decide) ?_
        exact ih (0 + 1) (by omega) t9 hS2 (fm_TB_n hT2 (hc2.trans (congrArg nI (fm_tr_0 _).symm)))
      | succ k =>
        have h0n : 0 ≤ n := Nat.zero_le _
        refine fe_s 2 (pc' := 13) (lc' := [(4, .int (nI 0)), (3, .int (nI (k + 1))), (0, .ref 0), (1, .int (nI n)), (2, .int (nI B))]) (stk' := [.int (nI n), .int (nI 0)]) (mem' := fm g tp bt a b) (fun _ _ _ => rfl) ?_
        refine fe_s 1 (pc' := cond (fx_cb .gt (nI 0) (nI n)) 102 16) (lc' := [(4, .int (nI 0)), (3, .int (nI (k + 1))), (0, .ref 0), (1, .int (nI n)), (2, .int (nI B))]) (stk' := []) (mem' := fm g tp bt a b) (fun _ _ _ => rfl) ?_
        rw [show (fx_cb .gt (nI 0) (nI n)) = false from cb_gtF (a := 0) (b := n) (by omega) (by omega) (by omega)]
        dsimp only [cond]
        refine fe_s 8 (pc' := 29) (lc' := [(4, .int (nI 0)), (3, .int (nI (k + 1))), (0, .ref 0), (1, .int (nI n)), (2, .int (nI B))]) (stk' := [.int (nI 0), .int ((61 * (nI (k + 1))) + (nI 0)), .ref 15]) (mem' := fm g tp bt a b) (fun _ _ _ => rfl) ?_
        rw [show ((61 * (nI (k + 1))) + (nI 0) : Int32) = nI ((61 * (k + 1)) + 0) from by simp only [show (61 : Int32) = nI 61 from rfl, nI_add, fm_mul]]
        refine fe_s 1 (pc' := cond (fx_cb .ne (nI 0) 0) 36 32) (lc' := [(4, .int (nI 0)), (3, .int (nI (k + 1))), (0, .ref 0), (1, .int (nI n)), (2, .int (nI B))]) (stk' := [.int (nI ((61 * (k + 1)) + 0)), .ref 15]) (mem' := fm g tp bt a b) (fun _ _ _ => rfl) ?_
        rw [show (fx_cb .ne (nI 0) 0) = false from cb_neF (a := 0) (b := 0) (by omega) (by omega) (by omega)]
        dsimp only [cond]
        refine fe_s 2 (pc' := 39) (lc' := [(4, .int (nI 0)), (3, .int (nI (k + 1))), (0, .ref 0), (1, .int (nI n)), (2, .int (nI B))]) (stk' := [.int 0, .int (nI ((61 * (k + 1)) + 0)), .ref 15]) (mem' := fm g tp bt a b) (fun _ _ _ => rfl) ?_
        refine fe_stI (mem' := fm g tp bt (fm_u a 15 (nI ((61 * (k + 1)) + 0) : Int32).toNatClampNeg 0) b) (by rfl) (by rfl) (fx_inN (i := (61 * (k + 1)) + 0) (by omega) (by omega)) fm_si15 ?_
        rw [show Int32.toNatClampNeg (nI ((61 * (k + 1)) + 0)) = (61 * (k + 1)) + 0 from nI_clamp (by omega)]
        obtain ⟨t10, ht10⟩ : ∃ z, z = fm_u a 15 ((61 * (k + 1)) + 0) 0 := ⟨_, rfl⟩
        rw [← ht10]
        refine fe_s 4 (pc' := 47) (lc' := [(5, .int 1), (4, .int (nI 0)), (3, .int (nI (k + 1))), (0, .ref 0), (1, .int (nI n)), (2, .int (nI B))]) (stk' := [.int (nI 0), .int 1]) (mem' := fm g tp bt t10 b) (fun _ _ _ => rfl) ?_
        refine fe_s 1 (pc' := cond (fx_cb .gt 1 (nI 0)) 96 50) (lc' := [(5, .int 1), (4, .int (nI 0)), (3, .int (nI (k + 1))), (0, .ref 0), (1, .int (nI n)), (2, .int (nI B))]) (stk' := []) (mem' := fm g tp bt t10 b) (fun _ _ _ => rfl) ?_
        rw [show (fx_cb .gt 1 (nI 0)) = true from cb_gtT (a := 1) (b := 0) (by omega) (by omega) (by omega)]
        dsimp only [cond]
        refine fe_s 1 (pc' := 99) (lc' := [(4, .int ((nI 0) + 1)), (5, .int 1), (3, .int (nI (k + 1))), (0, .ref 0), (1, .int (nI n)), (2, .int (nI B))]) (stk' := []) (mem' := fm g tp bt t10 b) (fun _ _ _ => rfl) ?_
        rw [show ((nI 0) + 1 : Int32) = nI (0 + 1) from by simp only [show (1 : Int32) = nI 1 from rfl, nI_add, fm_mul]]
        refine fe_s 1 (pc' := fx_to 99 (-89)) (lc' := [(4, .int (nI (0 + 1))), (5, .int 1), (3, .int (nI (k + 1))), (0, .ref 0), (1, .int (nI n)), (2, .int (nI B))]) (stk' := []) (mem' := fm g tp bt t10 b) (fun _ _ _ => rfl) ?_
        rw [show fx_to 99 (-89) = 10 from by decide]
        have hS2 : fm_S15 a0 t10 := by rw [ht10]; exact fm_S15_u hS
        have hT2 : fm_TB n t10 (k + 1) 0 := by rw [ht10, show (61 * (k + 1)) + 0 = 61 * (k + 1) + 0 by omega, show (0 : Int32) = nI 0 from rfl]; exact fm_TB_u hT hn (by omega) (by omega)
        have hc2 : t10 15 (61 * (k + 1) + 0) = nI 0 := by rw [ht10, fm_us, if_pos (by omega)]; rfl
        refine fe_w (lc' := [(4, .int (nI (0 + 1))), (3, .int (nI (k + 1))), (0, .ref 0), (1, .int (nI n)), (2, .int (nI B))]) ⟨rfl, rfl, rfl, rfl, rfl, trivial⟩ (by show List.Nodup [4, 3, 0, 1, 2]; decide) (by show List.Nodup [4, 5, 3, 0, 1, 2]; decide) ?_
        exact ih (0 + 1) (by omega) t10 hS2 (fm_TB_n hT2 (hc2.trans (congrArg nI (fm_tr_0 _).symm)))
    | succ m =>
      cases K with
      | zero =>
        refine fe_s 2 (pc' := 13) (lc' := [(4, .int (nI (m + 1))), (3, .int (nI 0)), (0, .ref 0), (1, .int (nI n)), (2, .int (nI B))]) (stk' := [.int (nI n), .int (nI (m + 1))]) (mem' := fm g tp bt a b) (fun _ _ _ => rfl) ?_
        refine fe_s 1 (pc' := cond (fx_cb .gt (nI (m + 1)) (nI n)) 102 16) (lc' := [(4, .int (nI (m + 1))), (3, .int (nI 0)), (0, .ref 0), (1, .int (nI n)), (2, .int (nI B))]) (stk' := []) (mem' := fm g tp bt a b) (fun _ _ _ => rfl) ?_
        rw [show (fx_cb .gt (nI (m + 1)) (nI n)) = false from cb_gtF (a := m + 1) (b := n) (by omega) (by omega) (by omega)]
        dsimp only [cond]
        refine fe_s 8 (pc' := 29) (lc' := [(4, .int (nI (m + 1))), (3, .int (nI 0)), (0, .ref 0), (1, .int (nI n)), (2, .int (nI B))]) (stk' := [.int (nI (m + 1)), .int ((61 * (nI 0)) + (nI (m + 1))), .ref 15]) (mem' := fm g tp bt a b) (fun _ _ _ => rfl) ?_
        rw [show ((61 * (nI 0)) + (nI (m + 1)) : Int32) = nI ((61 * 0) + (m + 1)) from by simp only [show (61 : Int32) = nI 61 from rfl, nI_add, fm_mul]]
        refine fe_s 1 (pc' := cond (fx_cb .ne (nI (m + 1)) 0) 36 32) (lc' := [(4, .int (nI (m + 1))), (3, .int (nI 0)), (0, .ref 0), (1, .int (nI n)), (2, .int (nI B))]) (stk' := [.int (nI ((61 * 0) + (m + 1))), .ref 15]) (mem' := fm g tp bt a b) (fun _ _ _ => rfl) ?_
        rw [show (fx_cb .ne (nI (m + 1)) 0) = true from cb_neT (a := m + 1) (b := 0) (by omega) (by omega) (by omega)]
        dsimp only [cond]
        refine fe_s 1 (pc' := 39) (lc' := [(4, .int (nI (m + 1))), (3, .int (nI 0)), (0, .ref 0), (1, .int (nI n)), (2, .int (nI B))]) (stk' := [.int 1000000, .int (nI ((61 * 0) + (m + 1))), .ref 15]) (mem' := fm g tp bt a b) (fun _ _ _ => rfl) ?_
        refine fe_stI (mem' := fm g tp bt (fm_u a 15 (nI ((61 * 0) + (m + 1)) : Int32).toNatClampNeg 1000000) b) (by rfl) (by rfl) (fx_inN (i := (61 * 0) + (m + 1)) (by omega) (by omega)) fm_si15 ?_
        rw [show Int32.toNatClampNeg (nI ((61 * 0) + (m + 1))) = (61 * 0) + (m + 1) from nI_clamp (by omega)]
        obtain ⟨t11, ht11⟩ : ∃ z, z = fm_u a 15 ((61 * 0) + (m + 1)) 1000000 := ⟨_, rfl⟩
        rw [← ht11]
        refine fe_s 4 (pc' := 47) (lc' := [(5, .int 1), (4, .int (nI (m + 1))), (3, .int (nI 0)), (0, .ref 0), (1, .int (nI n)), (2, .int (nI B))]) (stk' := [.int (nI (m + 1)), .int 1]) (mem' := fm g tp bt t11 b) (fun _ _ _ => rfl) ?_
        refine fe_s 1 (pc' := cond (fx_cb .gt 1 (nI (m + 1))) 96 50) (lc' := [(5, .int 1), (4, .int (nI (m + 1))), (3, .int (nI 0)), (0, .ref 0), (1, .int (nI n)), (2, .int (nI B))]) (stk' := []) (mem' := fm g tp bt t11 b) (fun _ _ _ => rfl) ?_
        rw [show (fx_cb .gt 1 (nI (m + 1))) = false from cb_gtF (a := 1) (b := m + 1) (by omega) (by omega) (by omega)]
        dsimp only [cond]
        refine fe_s 1 (pc' := 51) (lc' := [(5, .int 1), (4, .int (nI (m + 1))), (3, .int (nI 0)), (0, .ref 0), (1, .int (nI n)), (2, .int (nI B))]) (stk' := [.int (nI 0)]) (mem' := fm g tp bt t11 b) (fun _ _ _ => rfl) ?_
        refine fe_s 1 (pc' := cond (fx_cb .le (nI 0) 0) 96 54) (lc' := [(5, .int 1), (4, .int (nI (m + 1))), (3, .int (nI 0)), (0, .ref 0), (1, .int (nI n)), (2, .int (nI B))]) (stk' := []) (mem' := fm g tp bt t11 b) (fun _ _ _ => rfl) ?_
        rw [show (fx_cb .le (nI 0) 0) = true from cb_leT (a := 0) (b := 0) (by omega) (by omega) (by omega)]
        dsimp only [cond]
        refine fe_s 1 (pc' := 99) (lc' := [(4, .int ((nI (m + 1)) + 1)), (5, .int 1), (3, .int (nI 0)), (0, .ref 0), (1, .int (nI n)), (2, .int (nI B))]) (stk' := []) (mem' := fm g tp bt t11 b) (fun _ _ _ => rfl) ?_
        rw [show ((nI (m + 1)) + 1 : Int32) = nI ((m + 1) + 1) from by simp only [show (1 : Int32) = nI 1 from rfl, nI_add, fm_mul]]
        refine fe_s 1 (pc' := fx_to 99 (-89)) (lc' := [(4, .int (nI ((m + 1) + 1))), (5, .int 1), (3, .int (nI 0)), (0, .ref 0), (1, .int (nI n)), (2, .int (nI B))]) (stk' := []) (mem' := fm g tp bt t11 b) (fun _ _ _ => rfl) ?_
        rw [show fx_to 99 (-89) = 10 from by decide]
        have hS2 : fm_S15 a0 t11 := by rw [ht11]; exact fm_S15_u hS
        have hT2 : fm_TB n t11 0 (m + 1) := by rw [ht11, show (61 * 0) + (m + 1) = 61 * 0 + (m + 1) by omega, show (1000000 : Int32) = nI 1000000 from rfl]; exact fm_TB_u hT hn (by omega) (by omega)
        have hc2 : t11 15 (61 * 0 + (m + 1)) = nI 1000000 := by rw [ht11, fm_us, if_pos (by omega)]; rfl
        refine fe_w (lc' := [(4, .int (nI ((m + 1) + 1))), (3, .int (nI 0)), (0, .ref 0), (1, .int (nI n)), (2, .int (nI B))]) ⟨rfl, rfl, rfl, rfl, rfl, trivial⟩ (by show List.Nodup [4, 3, 0, 1, 2]; decide) (by show List.Nodup [4, 5, 3, 0, 1, 2]; decide) ?_
        exact ih ((m + 1) + 1) (by omega) t11 hS2 (fm_TB_n hT2 (hc2.trans (congrArg nI (show 1000000 = fm_tr 0 (m + 1) from rfl))))
      | succ k =>
        refine fe_s 2 (pc' := 13) (lc' := [(4, .int (nI (m + 1))), (3, .int (nI (k + 1))), (0, .ref 0), (1, .int (nI n)), (2, .int (nI B))]) (stk' := [.int (nI n), .int (nI (m + 1))]) (mem' := fm g tp bt a b) (fun _ _ _ => rfl) ?_
        refine fe_s 1 (pc' := cond (fx_cb .gt (nI (m + 1)) (nI n)) 102 16) (lc' := [(4, .int (nI (m + 1))), (3, .int (nI (k + 1))), (0, .ref 0), (1, .int (nI n)), (2, .int (nI B))]) (stk' := []) (mem' := fm g tp bt a b) (fun _ _ _ => rfl) ?_
        rw [show (fx_cb .gt (nI (m + 1)) (nI n)) = false from cb_gtF (a := m + 1) (b := n) (by omega) (by omega) (by omega)]
        dsimp only [cond]
        refine fe_s 8 (pc' := 29) (lc' := [(4, .int (nI (m + 1))), (3, .int (nI (k + 1))), (0, .ref 0), (1, .int (nI n)), (2, .int (nI B))]) (stk' := [.int (nI (m + 1)), .int ((61 * (nI (k + 1))) + (nI (m + 1))), .ref 15]) (mem' := fm g tp bt a b) (fun _ _ _ => rfl) ?_
        rw [show ((61 * (nI (k + 1))) + (nI (m + 1)) : Int32) = nI ((61 * (k + 1)) + (m + 1)) from by simp only [show (61 : Int32) = nI 61 from rfl, nI_add, fm_mul]]
        refine fe_s 1 (pc' := cond (fx_cb .ne (nI (m + 1)) 0) 36 32) (lc' := [(4, .int (nI (m + 1))), (3, .int (nI (k + 1))), (0, .ref 0), (1, .int (nI n)), (2, .int (nI B))]) (stk' := [.int (nI ((61 * (k + 1)) + (m + 1))), .ref 15]) (mem' := fm g tp bt a b) (fun _ _ _ => rfl) ?_
        rw [show (fx_cb .ne (nI (m + 1)) 0) = true from cb_neT (a := m + 1) (b := 0) (by omega) (by omega) (by omega)]
        dsimp only [cond]
        refine fe_s 1 (pc' := 39) (lc' := [(4, .int (nI (m + 1))), (3, .int (nI (k + 1))), (0, .ref 0), (1, .int (nI n)), (2, .int (nI B))]) (stk' := [.int 1000000, .int (nI ((61 * (k + 1)) + (m + 1))), .ref 15]) (mem' := fm g tp bt a b) (fun _ _ _ => rfl) ?_
        refine fe_stI (mem' := fm g tp bt (fm_u a 15 (nI ((61 * (k + 1)) + (m + 1)) : Int32).toNatClampNeg 1000000) b) (by rfl) (by rfl) (fx_inN (i := (61 * (k + 1)) + (m + 1)) (by omega) (by omega)) fm_si15 ?_
        rw [show Int32.toNatClampNeg (nI ((61 * (k + 1)) + (m + 1))) = (61 * (k + 1)) + (m + 1) from nI_clamp (by omega)]
        obtain ⟨t12, ht12⟩ : ∃ z, z = fm_u a 15 ((61 * (k + 1)) + (m + 1)) 1000000 := ⟨_, rfl⟩
        rw [← ht12]
        refine fe_s 2 (pc' := 43) (lc' := [(5, .int 1), (4, .int (nI (m + 1))), (3, .int (nI (k + 1))), (0, .ref 0), (1, .int (nI n)), (2, .int (nI B))]) (stk' := []) (mem' := fm g tp bt t12 b) (fun _ _ _ => rfl) ?_
        have hS2 : fm_S15 a0 t12 := by rw [ht12]; exact fm_S15_u hS
        have hT2 : fm_TB n t12 (k + 1) (m + 1) := by rw [ht12, show (61 * (k + 1)) + (m + 1) = 61 * (k + 1) + (m + 1) by omega, show (1000000 : Int32) = nI 1000000 from rfl]; exact fm_TB_u hT hn (by omega) (by omega)
        have hc2 : t12 15 (61 * (k + 1) + (m + 1)) = nI 1000000 := by rw [ht12, fm_us, if_pos (by omega)]; rfl
        refine fe_w (lc' := [(5, .int 1), (4, .int (nI (m + 1))), (3, .int (nI (k + 1))), (0, .ref 0), (1, .int (nI n)), (2, .int (nI B))]) ⟨rfl, rfl, rfl, rfl, rfl, rfl, trivial⟩ (by show List.Nodup [5, 4, 3, 0, 1, 2]; decide) (by show List.Nodup [5, 4, 3, 0, 1, 2]; decide) ?_
        refine tro_x hn (by omega) (by omega) (fun a' x5 hS' hT' hc' => ?_) (m + 1) 1 1000000 (by omega) (by omega) (by omega) rfl t12 hS2 hT2 hc2
        refine fe_s 1 (pc' := 99) (lc' := [(4, .int ((nI (m + 1)) + 1)), (5, .int x5), (3, .int (nI (k + 1))), (0, .ref 0), (1, .int (nI n)), (2, .int (nI B))]) (stk' := []) (mem' := fm g tp bt a' b) (fun _ _ _ => rfl) ?_
        rw [show ((nI (m + 1)) + 1 : Int32) = nI ((m + 1) + 1) from by simp only [show (1 : Int32) = nI 1 from rfl, nI_add, fm_mul]]
        refine fe_s 1 (pc' := fx_to 99 (-89)) (lc' := [(4, .int (nI ((m + 1) + 1))), (5, .int x5), (3, .int (nI (k + 1))), (0, .ref 0), (1, .int (nI n)), (2, .int (nI B))]) (stk' := []) (mem' := fm g tp bt a' b) (fun _ _ _ => rfl) ?_
        rw [show fx_to 99 (-89) = 10 from by decide]
        refine fe_w (lc' := [(4, .int (nI ((m + 1) + 1))), (3, .int (nI (k + 1))), (0, .ref 0), (1, .int (nI n)), (2, .int (nI B))]) ⟨rfl, rfl, rfl, rfl, rfl, trivial⟩ (by show List.Nodup [4, 3, 0, 1, 2]; decide) (by show List.Nodup [4, 5, 3, 0, 1, 2]; decide) ?_
        exact ih (m + 1 + 1) (by omega) a' hS' (fm_TB_n hT' hc')
set_option maxHeartbeats 4000000 in
theorem tro_k {n B : Nat} (hn : n ≤ 60) (hB6 : B ≤ 6) : ∀ (r K : Nat), K + r = B + 1 → ∀ a, fm_S15 a0 a → fm_TB n a K 0 → fe_R 1 gk_m344 2 [(3, .int (nI K)), (0, .ref 0), (1, .int (nI n)), (2, .int (nI B))] [] (fm g tp bt a b) (fun R => ∃ a', fm_S15 a0 a' ∧ fm_TB n a' (B + 1) 0 ∧ R = (some (.int (nI (fm_tr B n))), fm g tp bt a' b)) := by
  intro r
  induction r with
  | zero =>
    intro K hK a hS hT
    obtain rfl : K = B + 1 := by omega
    refine fe_s 2 (pc' := 4) (lc' := [(3, .int (nI (B + 1))), (0, .ref 0), (1, .int (nI n)), (2, .int (nI B))]) (stk' := [.int (nI B), .int (nI (B + 1))]) (mem' := fm g tp bt a b) (fun _ _ _ => rfl) ?_
    refine fe_s 1 (pc' := cond (fx_cb .gt (nI (B + 1)) (nI B)) 108 7) (lc' := [(3, .int (nI (B + 1))), (0, .ref 0), (1, .int (nI n)), (2, .int (nI B))]) (stk' := []) (mem' := fm g tp bt a b) (fun _ _ _ => rfl) ?_
    rw [show (fx_cb .gt (nI (B + 1)) (nI B)) = true from cb_gtT (a := B + 1) (b := B) (by omega) (by omega) (by omega)]
    dsimp only [cond]
    refine fe_s 7 (pc' := 118) (lc' := [(3, .int (nI (B + 1))), (0, .ref 0), (1, .int (nI n)), (2, .int (nI B))]) (stk' := [.int ((61 * (nI B)) + (nI n)), .ref 15]) (mem' := fm g tp bt a b) (fun _ _ _ => rfl) ?_
    rw [show ((61 * (nI B)) + (nI n) : Int32) = nI ((61 * B) + n) from by simp only [show (61 : Int32) = nI 61 from rfl, nI_add, fm_mul]]
    refine fe_ldI (by rfl) (by rfl) (fx_inN (i := (61 * B) + n) (by omega) (by omega)) ?_
    rw [show Int32.toNatClampNeg (nI ((61 * B) + n)) = (61 * B) + n from nI_clamp (by omega)]
    rw [show a 15 ((61 * B) + n) = nI (fm_tr B n) from by rw [show (61 * B) + n = 61 * B + n by omega]; exact hT.1 B n (Nat.le_refl _) (Or.inl (by omega))]
    exact fe_ret ⟨_, hS, hT, rfl⟩ (by rfl) (by rfl) (by rfl)
  | succ r ih =>
    intro K hK a hS hT
    refine fe_s 2 (pc' := 4) (lc' := [(3, .int (nI K)), (0, .ref 0), (1, .int (nI n)), (2, .int (nI B))]) (stk' := [.int (nI B), .int (nI K)]) (mem' := fm g tp bt a b) (fun _ _ _ => rfl) ?_
    refine fe_s 1 (pc' := cond (fx_cb .gt (nI K) (nI B)) 108 7) (lc' := [(3, .int (nI K)), (0, .ref 0), (1, .int (nI n)), (2, .int (nI B))]) (stk' := []) (mem' := fm g tp bt a b) (fun _ _ _ => rfl) ?_
    rw [show (fx_cb .gt (nI K) (nI B)) = false from cb_gtF (a := K) (b := B) (by omega) (by omega) (by omega)]
    dsimp only [cond]
    refine fe_s 2 (pc' := 10) (lc' := [(4, .int 0), (3, .int (nI K)), (0, .ref 0), (1, .int (nI n)), (2, .int (nI B))]) (stk' := []) (mem' := fm g tp bt a b) (fun _ _ _ => rfl) ?_
    refine fe_w (lc' := [(4, .int 0), (3, .int (nI K)), (0, .ref 0), (1, .int (nI n)), (2, .int (nI B))]) ⟨rfl, rfl, rfl, rfl, rfl, trivial⟩ (by show List.Nodup [4, 3, 0, 1, 2]; decide) (by show List.Nodup [4, 3, 0, 1, 2]; decide) ?_
    exact tro_m hn (by omega) (fun a' hS' hT' x5 => ih (K + 1) (by omega) a' hS' (fm_TB_k hT')) (n + 1) 0 (by omega) a hS hT
theorem fr_trialsOf {n B : Nat} (hn : n ≤ 60) (hB6 : B ≤ 6) (h15 : ∀ i, i < 427 → 0 ≤ (a 15 i).toInt ∧ (a 15 i).toInt ≤ 1000000) : ∃ (v : Option Value) (mem' : fx_M), (fun R => ∃ a', fm_S15 a a' ∧ fm_TB n a' (B + 1) 0 ∧ R = (some (.int (nI (fm_tr B n))), fm g tp bt a' b)) (v, mem') ∧ fr_T 2 344 [.ref 0, .int (nI n), .int (nI B)] (fm g tp bt a b) v mem' := by
  refine fe_meth (F := fun R => ∃ a', fm_S15 a a' ∧ fm_TB n a' (B + 1) 0 ∧ R = (some (.int (nI (fm_tr B n))), fm g tp bt a' b)) (M := gk_m344) (by rfl) (by rfl) ?_
  refine fe_s 2 (pc' := 2) (lc' := [(3, .int 0), (0, .ref 0), (1, .int (nI n)), (2, .int (nI B))]) (stk' := []) (mem' := fm g tp bt a b) (fun _ _ _ => rfl) ?_
  refine fe_w (lc' := [(3, .int 0), (0, .ref 0), (1, .int (nI n)), (2, .int (nI B))]) ⟨rfl, rfl, rfl, rfl, trivial⟩ (by show List.Nodup [3, 0, 1, 2]; decide) (by show List.Nodup [3, 0, 1, 2]; decide) ?_
  exact tro_k (a0 := a) hn hB6 (B + 1) 0 (by omega) a (fun _ _ => rfl) ⟨fun k' m' h1 h2 => absurd h2 (by omega), h15⟩
theorem fr_isTrial {x y : Int32} : ∃ (v : Option Value) (mem' : fx_M), (fun R => ∃ z : Int32, (z = 0 ∨ z = 1 ∧ ∃ N B : Nat, N ≤ 60 ∧ 1 ≤ B ∧ B ≤ 6 ∧ x = nI N ∧ y = nI B) ∧ R = (some (.int z), fm g tp bt a b)) (v, mem') ∧ fr_T 2 346 [.int x, .int y] (fm g tp bt a b) v mem' := by
  refine fe_meth (F := fun R => ∃ z : Int32, (z = 0 ∨ z = 1 ∧ ∃ N B : Nat, N ≤ 60 ∧ 1 ≤ B ∧ B ≤ 6 ∧ x = nI N ∧ y = nI B) ∧ R = (some (.int z), fm g tp bt a b)) (M := gk_m346) (by rfl) (by rfl) ?_
  refine fe_s 4 (pc' := 6) (lc' := [(0, .int x), (1, .int y)]) (stk' := [.long 60, .long (0 : Int64), .long (x.toInt64)]) (mem' := fm g tp bt a b) (fun _ _ _ => rfl) ?_
  obtain ⟨vf101, memf101, ⟨xf101, hxf101, hRf101⟩, hfrf101⟩ := fr_isFrom (v := x.toInt64) (l := (0 : Int64)) (m := 60) (mem := fm g tp bt a b)
  cases hRf101
  refine fe_ivS hfrf101 (by omega) (by rfl) (by rfl) (by rfl) (by rfl) (by rfl) ?_
  rcases hxf101 with ⟨rfl, -⟩ | ⟨rfl, hlf101, hmf101⟩
  · refine fe_s 1 (pc' := cond (fx_cb .eq 0 0) 28 12) (lc' := [(0, .int x), (1, .int y)]) (stk' := []) (mem' := fm g tp bt a b) (fun _ _ _ => rfl) ?_
    rw [show (fx_cb .eq 0 0) = true from by decide]
    dsimp only [cond]
    refine fe_s 1 (pc' := 29) (lc' := [(0, .int x), (1, .int y)]) (stk' := [.int 0]) (mem' := fm g tp bt a b) (fun _ _ _ => rfl) ?_
    exact fe_ret ⟨_, Or.inl rfl, rfl⟩ (by rfl) (by rfl) (by rfl)
  · obtain ⟨N, hN, rfl⟩ : ∃ qq, qq ≤ 60 ∧ x = nI qq := by
      rw [Int32.toInt_toInt64] at hlf101 hmf101
      rw [show (((60 : Int64)).toInt) = 60 from rfl] at hmf101
      rw [show (((0 : Int64)).toInt) = 0 from rfl] at hlf101
      exact nI_bd (n := 60) (by omega) hmf101
    refine fe_s 1 (pc' := cond (fx_cb .eq 1 0) 28 12) (lc' := [(0, .int (nI N)), (1, .int y)]) (stk' := []) (mem' := fm g tp bt a b) (fun _ _ _ => rfl) ?_
    rw [show (fx_cb .eq 1 0) = false from by decide]
    dsimp only [cond]
    refine fe_s 4 (pc' := 18) (lc' := [(0, .int (nI N)), (1, .int y)]) (stk' := [.long 6, .long (1 : Int64), .long (y.toInt64)]) (mem' := fm g tp bt a b) (fun _ _ _ => rfl) ?_
    obtain ⟨vf102, memf102, ⟨xf102, hxf102, hRf102⟩, hfrf102⟩ := fr_isFrom (v := y.toInt64) (l := (1 : Int64)) (m := 6) (mem := fm g tp bt a b)
    cases hRf102
    refine fe_ivS hfrf102 (by omega) (by rfl) (by rfl) (by rfl) (by rfl) (by rfl) ?_
    rcases hxf102 with ⟨rfl, -⟩ | ⟨rfl, hlf102, hmf102⟩
    · refine fe_s 1 (pc' := cond (fx_cb .eq 0 0) 28 24) (lc' := [(0, .int (nI N)), (1, .int y)]) (stk' := []) (mem' := fm g tp bt a b) (fun _ _ _ => rfl) ?_
      rw [show (fx_cb .eq 0 0) = true from by decide]
      dsimp only [cond]
      refine fe_s 1 (pc' := 29) (lc' := [(0, .int (nI N)), (1, .int y)]) (stk' := [.int 0]) (mem' := fm g tp bt a b) (fun _ _ _ => rfl) ?_
      exact fe_ret ⟨_, Or.inl rfl, rfl⟩ (by rfl) (by rfl) (by rfl)
    · obtain ⟨B, hB, rfl⟩ : ∃ qq, qq ≤ 6 ∧ y = nI qq := by
        rw [Int32.toInt_toInt64] at hlf102 hmf102
        rw [show (((6 : Int64)).toInt) = 6 from rfl] at hmf102
        rw [show (((1 : Int64)).toInt) = 1 from rfl] at hlf102
        exact nI_bd (n := 6) (by omega) hmf102
      have h1B : 1 ≤ B := by
        rw [Int32.toInt_toInt64, nI_i32 (by omega), show (((1 : Int64)).toInt) = 1 from rfl] at hlf102; omega
      refine fe_s 1 (pc' := cond (fx_cb .eq 1 0) 28 24) (lc' := [(0, .int (nI N)), (1, .int (nI B))]) (stk' := []) (mem' := fm g tp bt a b) (fun _ _ _ => rfl) ?_
      rw [show (fx_cb .eq 1 0) = false from by decide]
      dsimp only [cond]
      refine fe_s 2 (pc' := 29) (lc' := [(0, .int (nI N)), (1, .int (nI B))]) (stk' := [.int 1]) (mem' := fm g tp bt a b) (fun _ _ _ => rfl) ?_
      exact fe_ret ⟨_, Or.inr ⟨rfl, N, B, by omega, by omega, by omega, rfl, rfl⟩, rfl⟩ (by rfl) (by rfl) (by rfl)
/-- what tryFirst leaves behind -/
def fm_PT (g : Nat → Int32) (tp bt : Int64) (a : Nat → Nat → Int32) (b : Nat → Nat → Int64) (R : Option Value × fx_M) : Prop := ∃ (v : Int32) (g' : Nat → Int32) (a' : Nat → Nat → Int32), fm_S15 a a' ∧ (∀ i, i < 427 → 0 ≤ (a' 15 i).toInt ∧ (a' 15 i).toInt ≤ 1000000) ∧ fm_G g g' ∧ R = (some (.int v), fm g' tp bt a' b)
theorem fr_tryFirst {n b2 : Int32} (hBa : fm_B a) (hgb : fm_gb g) (h15 : ∀ i, i < 427 → 0 ≤ (a 15 i).toInt ∧ (a 15 i).toInt ≤ 1000000) : ∃ (v : Option Value) (mem' : fx_M), (fm_PT g tp bt a b) (v, mem') ∧ fr_T 3 348 [.ref 0, .int n, .int b2] (fm g tp bt a b) v mem' := by
  have hG := fm_G_rf hgb
  refine fe_meth (F := fm_PT g tp bt a b) (M := gk_m348) (by rfl) (by rfl) ?_
  refine fe_s 2 (pc' := 2) (lc' := [(0, .ref 0), (1, .int n), (2, .int b2)]) (stk' := [.int b2, .int n]) (mem' := fm g tp bt a b) (fun _ _ _ => rfl) ?_
  obtain ⟨vz1, memz1, ⟨xz1, hxz1, hRz1⟩, hfrz1⟩ := fr_isTrial (x := n) (y := b2) (g := g) (tp := tp) (bt := bt) (a := a) (b := b)
  cases hRz1
  refine fe_ivS hfrz1 (by omega) (by rfl) (by rfl) (by rfl) (by rfl) (by rfl) ?_
  rcases hxz1 with rfl | ⟨rfl, N, B, hN, hB1, hB, rfl, rfl⟩
  · refine fe_s 1 (pc' := cond (fx_cb .ne 0 0) 14 8) (lc' := [(0, .ref 0), (1, .int n), (2, .int b2)]) (stk' := []) (mem' := fm g tp bt a b) (fun _ _ _ => rfl) ?_
    rw [show (fx_cb .ne 0 0) = false from by decide]
    dsimp only [cond]
    refine fe_s 2 (pc' := 10) (lc' := [(0, .ref 0), (1, .int n), (2, .int b2)]) (stk' := [.int 1, .ref 0]) (mem' := fm g tp bt a b) (fun _ _ _ => rfl) ?_
    refine fe_ivV (fr_refuse (x := 1)) (by omega) (by rfl) (by rfl) (by rfl) (by rfl) (by rfl) (by rfl) ?_
    exact fe_ret ⟨_, _, _, fun _ _ => rfl, h15, (fm_G_2 hG (by decide) (by decide)), rfl⟩ (by rfl) (by rfl) (by rfl)
  · refine fe_s 1 (pc' := cond (fx_cb .ne 1 0) 14 8) (lc' := [(0, .ref 0), (1, .int (nI N)), (2, .int (nI B))]) (stk' := []) (mem' := fm g tp bt a b) (fun _ _ _ => rfl) ?_
    rw [show (fx_cb .ne 1 0) = true from by decide]
    dsimp only [cond]
    refine fe_s 1 (pc' := 15) (lc' := [(0, .ref 0), (1, .int (nI N)), (2, .int (nI B))]) (stk' := [.int (nI N)]) (mem' := fm g tp bt a b) (fun _ _ _ => rfl) ?_
    refine fe_s 1 (pc' := cond (fx_cb .ne (nI N) 0) 25 18) (lc' := [(0, .ref 0), (1, .int (nI N)), (2, .int (nI B))]) (stk' := []) (mem' := fm g tp bt a b) (fun _ _ _ => rfl) ?_
    by_cases h2 : N = 0
    · rw [show (fx_cb .ne (nI N) 0) = false from cb_neF (a := N) (b := 0) (by omega) (by omega) (by omega)]
      dsimp only [cond]
      refine fe_s 2 (pc' := 21) (lc' := [(0, .ref 0), (1, .int (nI N)), (2, .int (nI B))]) (stk' := [.int 6, .ref 0]) (mem' := fm g tp bt a b) (fun _ _ _ => rfl) ?_
      refine fe_ivV (fr_refuse (x := 6)) (by omega) (by rfl) (by rfl) (by rfl) (by rfl) (by rfl) (by rfl) ?_
      exact fe_ret ⟨_, _, _, fun _ _ => rfl, h15, (fm_G_2 hG (by decide) (by decide)), rfl⟩ (by rfl) (by rfl) (by rfl)
    · rw [show (fx_cb .ne (nI N) 0) = true from cb_neT (a := N) (b := 0) (by omega) (by omega) (by omega)]
      dsimp only [cond]
      refine fe_s 3 (pc' := 28) (lc' := [(0, .ref 0), (1, .int (nI N)), (2, .int (nI B))]) (stk' := [.int (nI B), .int (nI N), .ref 0]) (mem' := fm g tp bt a b) (fun _ _ _ => rfl) ?_
      obtain ⟨vT, memT, ⟨aT, hST, hTT, hRT⟩, hfrT⟩ := fr_trialsOf (n := N) (B := B) (g := g) (tp := tp) (bt := bt) (a := a) (b := b) hN hB h15
      cases hRT
      refine fe_ivV hfrT (by omega) (by rfl) (by rfl) (by rfl) (by rfl) (by rfl) (by rfl) ?_
      refine fe_s 3 (pc' := 35) (lc' := [(4, .int 1), (3, .int (nI (fm_tr B N))), (0, .ref 0), (1, .int (nI N)), (2, .int (nI B))]) (stk' := []) (mem' := fm g tp bt aT b) (fun _ _ _ => rfl) ?_
      obtain ⟨k, rfl⟩ : ∃ k, B = k + 1 := ⟨B - 1, by omega⟩
      obtain ⟨X, hX1, hXN, eX⟩ := fm_tr_at k (m := N) (by omega) hN
      have loop : ∀ (r x : Nat), x + r = X → 1 ≤ x → fe_R 2 gk_m348 35 [(4, .int (nI x)), (3, .int (nI (fm_tr (k + 1) N))), (0, .ref 0), (1, .int (nI N)), (2, .int (nI (k + 1)))] [] (fm g tp bt aT b) (fm_PT g tp bt a b) := by
        intro r
        induction r with
        | zero =>
          intro x hx h1x
          have hxX : x = X := by omega
          refine fe_s 4 (pc' := 40) (lc' := [(4, .int (nI x)), (3, .int (nI (fm_tr (k + 1) N))), (0, .ref 0), (1, .int (nI N)), (2, .int (nI (k + 1)))]) (stk' := [.int (nI x), .int (nI (k + 1)), .int (nI N), .ref 0]) (mem' := fm g tp bt aT b) (fun _ _ _ => rfl) ?_
          have cw3 := fr_triedAt (g := g) (tp := tp) (bt := bt) (b := b) (n := N) (k := k) (m := N) (x := x) (a := aT) (hTT.1 k (x - 1) (by omega) (Or.inl (by omega))) (hTT.1 (k + 1) (N - x) (by omega) (Or.inl (by omega))) (by omega) (by omega) (by omega) (by omega)
          refine fe_ivV cw3 (by omega) (by rfl) (by rfl) (by rfl) (by rfl) (by rfl) (by rfl) ?_
          refine fe_s 1 (pc' := 44) (lc' := [(4, .int (nI x)), (3, .int (nI (fm_tr (k + 1) N))), (0, .ref 0), (1, .int (nI N)), (2, .int (nI (k + 1)))]) (stk' := [.int (nI (fm_tr (k + 1) N)), .int (nI (1 + max (fm_tr k (x - 1)) (fm_tr (k + 1) (N - x))))]) (mem' := fm g tp bt aT b) (fun _ _ _ => rfl) ?_
          refine fe_s 1 (pc' := cond (fx_cb .eq (nI (1 + max (fm_tr k (x - 1)) (fm_tr (k + 1) (N - x)))) (nI (fm_tr (k + 1) N))) 53 47) (lc' := [(4, .int (nI x)), (3, .int (nI (fm_tr (k + 1) N))), (0, .ref 0), (1, .int (nI N)), (2, .int (nI (k + 1)))]) (stk' := []) (mem' := fm g tp bt aT b) (fun _ _ _ => rfl) ?_
          cases h4 : fx_cb .eq (nI (1 + max (fm_tr k (x - 1)) (fm_tr (k + 1) (N - x)))) (nI (fm_tr (k + 1) N))
          · refine fe_s 2 (pc' := 35) (lc' := [(4, .int ((nI x) + 1)), (3, .int (nI (fm_tr (k + 1) N))), (0, .ref 0), (1, .int (nI N)), (2, .int (nI (k + 1)))]) (stk' := []) (mem' := fm g tp bt aT b) (fun _ _ _ => rfl) ?_
            rw [show ((nI x) + 1 : Int32) = nI (x + 1) from by simp only [show (1 : Int32) = nI 1 from rfl, nI_add, fm_mul]]
            exfalso; rw [hxX, ← eX, show fx_cb .eq (nI (fm_tr (k + 1) N)) (nI (fm_tr (k + 1) N)) = true from decide_eq_true rfl] at h4; cases h4
          · refine fe_s 2 (pc' := 56) (lc' := [(4, .int (nI x)), (3, .int (nI (fm_tr (k + 1) N))), (0, .ref 0), (1, .int (nI N)), (2, .int (nI (k + 1)))]) (stk' := [.int (nI x), .ref 0]) (mem' := fm g tp bt aT b) (fun _ _ _ => rfl) ?_
            refine fe_ivV (fr_gives (x := nI x)) (by omega) (by rfl) (by rfl) (by rfl) (by rfl) (by rfl) (by rfl) ?_
            exact fe_ret ⟨_, _, _, hST, hTT.2, (fm_G_2 hG (by decide) (by decide)), rfl⟩ (by rfl) (by rfl) (by rfl)
        | succ r ih =>
          intro x hx h1x
          refine fe_s 4 (pc' := 40) (lc' := [(4, .int (nI x)), (3, .int (nI (fm_tr (k + 1) N))), (0, .ref 0), (1, .int (nI N)), (2, .int (nI (k + 1)))]) (stk' := [.int (nI x), .int (nI (k + 1)), .int (nI N), .ref 0]) (mem' := fm g tp bt aT b) (fun _ _ _ => rfl) ?_
          have cw5 := fr_triedAt (g := g) (tp := tp) (bt := bt) (b := b) (n := N) (k := k) (m := N) (x := x) (a := aT) (hTT.1 k (x - 1) (by omega) (Or.inl (by omega))) (hTT.1 (k + 1) (N - x) (by omega) (Or.inl (by omega))) (by omega) (by omega) (by omega) (by omega)
          refine fe_ivV cw5 (by omega) (by rfl) (by rfl) (by rfl) (by rfl) (by rfl) (by rfl) ?_
          refine fe_s 1 (pc' := 44) (lc' := [(4, .int (nI x)), (3, .int (nI (fm_tr (k + 1) N))), (0, .ref 0), (1, .int (nI N)), (2, .int (nI (k + 1)))]) (stk' := [.int (nI (fm_tr (k + 1) N)), .int (nI (1 + max (fm_tr k (x - 1)) (fm_tr (k + 1) (N - x))))]) (mem' := fm g tp bt aT b) (fun _ _ _ => rfl) ?_
          refine fe_s 1 (pc' := cond (fx_cb .eq (nI (1 + max (fm_tr k (x - 1)) (fm_tr (k + 1) (N - x)))) (nI (fm_tr (k + 1) N))) 53 47) (lc' := [(4, .int (nI x)), (3, .int (nI (fm_tr (k + 1) N))), (0, .ref 0), (1, .int (nI N)), (2, .int (nI (k + 1)))]) (stk' := []) (mem' := fm g tp bt aT b) (fun _ _ _ => rfl) ?_
          cases h6 : fx_cb .eq (nI (1 + max (fm_tr k (x - 1)) (fm_tr (k + 1) (N - x)))) (nI (fm_tr (k + 1) N))
          · refine fe_s 2 (pc' := 35) (lc' := [(4, .int ((nI x) + 1)), (3, .int (nI (fm_tr (k + 1) N))), (0, .ref 0), (1, .int (nI N)), (2, .int (nI (k + 1)))]) (stk' := []) (mem' := fm g tp bt aT b) (fun _ _ _ => rfl) ?_
            rw [show ((nI x) + 1 : Int32) = nI (x + 1) from by simp only [show (1 : Int32) = nI 1 from rfl, nI_add, fm_mul]]
            refine fe_w (lc' := [(4, .int (nI (x + 1))), (3, .int (nI (fm_tr (k + 1) N))), (0, .ref 0), (1, .int (nI N)), (2, .int (nI (k + 1)))]) ⟨rfl, rfl, rfl, rfl, rfl, trivial⟩ (by show List.Nodup [4, 3, 0, 1, 2]; decide) (by show List.Nodup [4, 3, 0, 1, 2]; decide) ?_
            exact ih (x + 1) (by omega) (by omega)
          · refine fe_s 2 (pc' := 56) (lc' := [(4, .int (nI x)), (3, .int (nI (fm_tr (k + 1) N))), (0, .ref 0), (1, .int (nI N)), (2, .int (nI (k + 1)))]) (stk' := [.int (nI x), .ref 0]) (mem' := fm g tp bt aT b) (fun _ _ _ => rfl) ?_
            refine fe_ivV (fr_gives (x := nI x)) (by omega) (by rfl) (by rfl) (by rfl) (by rfl) (by rfl) (by rfl) ?_
            exact fe_ret ⟨_, _, _, hST, hTT.2, (fm_G_2 hG (by decide) (by decide)), rfl⟩ (by rfl) (by rfl) (by rfl)
      refine fe_w (lc' := [(4, .int (nI 1)), (3, .int (nI (fm_tr (k + 1) N))), (0, .ref 0), (1, .int (nI N)), (2, .int (nI (k + 1)))]) ⟨rfl, rfl, rfl, rfl, rfl, trivial⟩ (by show List.Nodup [4, 3, 0, 1, 2]; decide) (by show List.Nodup [4, 3, 0, 1, 2]; decide) ?_
      exact loop (X - 1) 1 (by omega) (by omega)
end FTO
end MH23_1
