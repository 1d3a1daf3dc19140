/-! ===== fx: trials ===== -/
section FTT
variable {g : Nat → Int32} {tp bt : Int64} {a0 a : Nat → Nat → Int32} {b : Nat → Nat → Int64}
theorem fm_maxI {a b : Nat} (ha : a < 2147483648) (hb : b < 2147483648) : (if nI a < nI b then nI b else nI a) = nI (max a b) := by
  by_cases h : a < b
  · rw [if_pos ((nI_ltI (by omega) (by omega)).mpr h), Nat.max_eq_right (by omega)]
  · rw [if_neg (fun z => h ((nI_ltI (by omega) (by omega)).mp z)), Nat.max_eq_left (by omega)]
/-- the fewest trials, by weights and breaks -/
def fm_ra (p r : Nat → Nat) (m : Nat) : Nat → Nat
  | 0 => 1000000
  | x + 1 => min (fm_ra p r m x) (1 + max (p x) (r (m - (x + 1))))
def fm_rf (p : Nat → Nat) : Nat → Nat → Nat
  | 0 => fun _ => 0
  | n + 1 => fun j => if j = n + 1 then fm_ra p (fm_rf p n) (n + 1) (n + 1) else fm_rf p n j
def fm_trow (p : Nat → Nat) (m : Nat) : Nat := fm_rf p m m
def fm_tr : Nat → Nat → Nat
  | 0 => fun m => if m = 0 then 0 else 1000000
  | k + 1 => fm_trow (fm_tr k)
theorem fm_rf_le (p : Nat → Nat) : ∀ n j, j ≤ n → fm_rf p n j = fm_trow p j := by
  intro n
  induction n with
  | zero =>
    intro j hj
    obtain rfl : j = 0 := by omega
    rfl
  | succ n ih =>
    intro j hj
    by_cases e : j = n + 1
    · subst e; rfl
    · show (if j = n + 1 then _ else fm_rf p n j) = _
      rw [if_neg e]
      exact ih j (by omega)
theorem fm_ra_eq (p : Nat → Nat) {r s : Nat → Nat} {m : Nat} (h : ∀ j, j < m → r j = s j) : ∀ x, x ≤ m → fm_ra p r m x = fm_ra p s m x := by
  intro x
  induction x with
  | zero => intro _; rfl
  | succ x ih =>
    intro hx
    show min _ _ = min _ _
    rw [ih (by omega), h (m - (x + 1)) (by omega)]
theorem fm_tr_s (k m : Nat) : fm_tr (k + 1) (m + 1) = fm_ra (fm_tr k) (fm_tr (k + 1)) (m + 1) (m + 1) := by
  show fm_rf (fm_tr k) (m + 1) (m + 1) = _
  show (if m + 1 = m + 1 then fm_ra (fm_tr k) (fm_rf (fm_tr k) m) (m + 1) (m + 1) else _) = _
  rw [if_pos rfl]
  exact fm_ra_eq _ (fun j hj => fm_rf_le _ m j (by omega)) _ (Nat.le_refl _)
theorem fm_tr_0 (k : Nat) : fm_tr k 0 = 0 := by cases k <;> rfl
theorem fm_ra_le (p r : Nat → Nat) (m : Nat) : ∀ x, fm_ra p r m x ≤ 1000000 := by
  intro x
  induction x with
  | zero => exact Nat.le_refl _
  | succ x ih => exact Nat.le_trans (Nat.min_le_left _ _) ih
theorem fm_tr_le (k m : Nat) : fm_tr k m ≤ 1000000 := by
  cases k with
  | zero =>
    show (if m = 0 then 0 else 1000000) ≤ _
    split <;> omega
  | succ k =>
    cases m with
    | zero => rw [fm_tr_0]; omega
    | succ m => rw [fm_tr_s]; exact fm_ra_le _ _ _ _
theorem fm_ra_1 (p r : Nat → Nat) (m : Nat) : ∀ x, 0 < x → fm_ra p r m x ≤ 1 + max (p 0) (r (m - 1)) := by
  intro x
  induction x with
  | zero => intro h; omega
  | succ x ih =>
    intro _
    rcases Nat.eq_zero_or_pos x with rfl | h
    · exact Nat.min_le_right _ _
    · exact Nat.le_trans (Nat.min_le_left _ _) (ih h)
theorem fm_tr_m (k : Nat) : ∀ m, fm_tr (k + 1) m ≤ m := by
  intro m
  induction m with
  | zero => rw [fm_tr_0]; omega
  | succ m ih =>
    rw [fm_tr_s]
    have := fm_ra_1 (fm_tr k) (fm_tr (k + 1)) (m + 1) (m + 1) (by omega)
    rw [fm_tr_0, show m + 1 - 1 = m by omega] at this
    omega
theorem fm_ra_at (p r : Nat → Nat) (m : Nat) : ∀ x, fm_ra p r m x = 1000000 ∨ ∃ y, y < x ∧ fm_ra p r m x = 1 + max (p y) (r (m - (y + 1))) := by
  intro x
  induction x with
  | zero => exact Or.inl rfl
  | succ x ih =>
    show min _ _ = _ ∨ ∃ y, _ ∧ min _ _ = _
    by_cases h : fm_ra p r m x ≤ 1 + max (p x) (r (m - (x + 1)))
    · rw [Nat.min_eq_left h]
      rcases ih with e | ⟨y, hy, e⟩
      · exact Or.inl e
      · exact Or.inr ⟨y, by omega, e⟩
    · rw [Nat.min_eq_right (by omega)]
      exact Or.inr ⟨x, by omega, rfl⟩
theorem fm_tr_at (k : Nat) {m : Nat} (hm : 0 < m) (h60 : m ≤ 60) : ∃ x, 1 ≤ x ∧ x ≤ m ∧ fm_tr (k + 1) m = 1 + max (fm_tr k (x - 1)) (fm_tr (k + 1) (m - x)) := by
  obtain ⟨m, rfl⟩ : ∃ j, m = j + 1 := ⟨m - 1, by omega⟩
  have h1 := fm_tr_m k (m + 1)
  rcases fm_ra_at (fm_tr k) (fm_tr (k + 1)) (m + 1) (m + 1) with e | ⟨y, hy, e⟩
  · rw [fm_tr_s] at h1; omega
  · exact ⟨y + 1, by omega, by omega, by rw [fm_tr_s, e]; rfl⟩
/-- the table as far as it is -/
def fm_TB (n : Nat) (a : Nat → Nat → Int32) (k m : Nat) : Prop := (∀ k' m', m' ≤ n → (k' < k ∨ k' = k ∧ m' < m) → a 15 (61 * k' + m') = nI (fm_tr k' m')) ∧ ∀ i, i < 427 → 0 ≤ (a 15 i).toInt ∧ (a 15 i).toInt ≤ 1000000
theorem fm_TB_u {n : Nat} {a : Nat → Nat → Int32} {k m v : Nat} (h : fm_TB n a k m) (hn : n ≤ 60) (hm : m ≤ n) (hv : v ≤ 1000000) : fm_TB n (fm_u a 15 (61 * k + m) (nI v)) k m := by
  refine ⟨fun k' m' h1 h2 => ?_, fun i hi => ?_⟩
  · rw [fm_us, if_neg (by omega)]; exact h.1 k' m' h1 h2
  · rw [fm_us]
    split
    · rw [nI_i32 (by omega)]; omega
    · exact h.2 i hi
theorem fm_TB_n {n : Nat} {a : Nat → Nat → Int32} {k m : Nat} (h : fm_TB n a k m) (e : a 15 (61 * k + m) = nI (fm_tr k m)) : fm_TB n a k (m + 1) := ⟨fun k' m' h1 h2 => by
  by_cases e2 : k' = k ∧ m' = m
  · obtain ⟨rfl, rfl⟩ := e2; exact e
  · exact h.1 k' m' h1 (by omega), h.2⟩
theorem fm_TB_k {n : Nat} {a : Nat → Nat → Int32} {k : Nat} (h : fm_TB n a k (n + 1)) : fm_TB n a (k + 1) 0 := ⟨fun k' m' h1 h2 => h.1 k' m' h1 (by omega), h.2⟩
theorem fr_triedAt {n k m x : Nat} {a : Nat → Nat → Int32} (h1 : a 15 (61 * k + (x - 1)) = nI (fm_tr k (x - 1))) (h2 : a 15 (61 * (k + 1) + (m - x)) = nI (fm_tr (k + 1) (m - x))) (hk : k < 6) (hm : m ≤ 60) (hx : 1 ≤ x) (hxm : x ≤ m) : fr_T 1 345 [.ref 0, .int (nI m), .int (nI (k + 1)), .int (nI x)] (fm g tp bt a b) (some (.int (nI (1 + max (fm_tr k (x - 1)) (fm_tr (k + 1) (m - x)))))) (fm g tp bt a b) := by
  refine fr_meth (by rfl) (by rfl) ?_
  have t1 := fm_tr_le k (x - 1)
  have t2 := fm_tr_le (k + 1) (m - x)
  refine fr_s 12 (pc' := 15) (lc' := [(0, .ref 0), (1, .int (nI m)), (2, .int (nI (k + 1))), (3, .int (nI x))]) (stk' := [.int (((61 * ((nI (k + 1)) - 1)) + (nI x)) - 1), .ref 15, .int 1]) (mem' := fm g tp bt a b) (fun _ _ _ => rfl) ?_
  rw [show (((61 * ((nI (k + 1)) - 1)) + (nI x)) - 1 : Int32) = nI (((61 * k) + x) - 1) from by simp only [show (61 : Int32) = nI 61 from rfl, show (1 : Int32) = nI 1 from rfl, tg_sub2 (x := k + 1) (y := 1) (by omega), Nat.add_sub_cancel, tg_sub2 (x := (61 * k) + x) (y := 1) (by omega), nI_add, fm_mul]]
  refine fr_ldI (by rfl) (by rfl) (fx_inN (i := ((61 * k) + x) - 1) (by omega) (by omega)) ?_
  rw [show Int32.toNatClampNeg (nI (((61 * k) + x) - 1)) = ((61 * k) + x) - 1 from nI_clamp (by omega)]
  rw [show a 15 (((61 * k) + x) - 1) = nI (fm_tr k (x - 1)) from by rw [show ((61 * k) + x) - 1 = 61 * k + (x - 1) by omega]; exact h1]
  refine fr_s 9 (pc' := 28) (lc' := [(0, .ref 0), (1, .int (nI m)), (2, .int (nI (k + 1))), (3, .int (nI x))]) (stk' := [.int (((61 * (nI (k + 1))) + (nI m)) - (nI x)), .ref 15, .int (nI (fm_tr k (x - 1))), .int 1]) (mem' := fm g tp bt a b) (fun _ _ _ => rfl) ?_
  rw [show (((61 * (nI (k + 1))) + (nI m)) - (nI x) : Int32) = nI (((61 * (k + 1)) + m) - x) from by simp only [show (61 : Int32) = nI 61 from rfl, tg_sub2 (x := (61 * (k + 1)) + m) (y := x) (by omega), nI_add, fm_mul]]
  refine fr_ldI (by rfl) (by rfl) (fx_inN (i := ((61 * (k + 1)) + m) - x) (by omega) (by omega)) ?_
  rw [show Int32.toNatClampNeg (nI (((61 * (k + 1)) + m) - x)) = ((61 * (k + 1)) + m) - x from nI_clamp (by omega)]
  rw [show a 15 (((61 * (k + 1)) + m) - x) = nI (fm_tr (k + 1) (m - x)) from by rw [show ((61 * (k + 1)) + m) - x = 61 * (k + 1) + (m - x) by omega]; exact h2]
  refine fr_s 1 (pc' := 32) (lc' := [(0, .ref 0), (1, .int (nI m)), (2, .int (nI (k + 1))), (3, .int (nI x))]) (stk' := [.int (if (nI (fm_tr k (x - 1))) < (nI (fm_tr (k + 1) (m - x))) then (nI (fm_tr (k + 1) (m - x))) else (nI (fm_tr k (x - 1)))), .int 1]) (mem' := fm g tp bt a b) (fun _ _ _ => rfl) ?_
  rw [show (if (nI (fm_tr k (x - 1))) < (nI (fm_tr (k + 1) (m - x))) then (nI (fm_tr (k + 1) (m - x))) else (nI (fm_tr k (x - 1))) : Int32) = nI (max (fm_tr k (x - 1)) (fm_tr (k + 1) (m - x))) from fm_maxI (a := (fm_tr k (x - 1))) (b := (fm_tr (k + 1) (m - x))) (by omega) (by omega)]
  refine fr_s 1 (pc' := 33) (lc' := [(0, .ref 0), (1, .int (nI m)), (2, .int (nI (k + 1))), (3, .int (nI x))]) (stk' := [.int (1 + (nI (max (fm_tr k (x - 1)) (fm_tr (k + 1) (m - x)))))]) (mem' := fm g tp bt a b) (fun _ _ _ => rfl) ?_
  rw [show (1 + (nI (max (fm_tr k (x - 1)) (fm_tr (k + 1) (m - x)))) : Int32) = nI (1 + (max (fm_tr k (x - 1)) (fm_tr (k + 1) (m - x)))) from by simp only [show (1 : Int32) = nI 1 from rfl, nI_add, fm_mul]]
  exact fr_ret (by rfl) (by rfl) (by rfl)
end FTT
