/-! ===== groups: both sides count the same ===== -/
section GPS
variable {wf : Nat → Nat} {n M : Nat}
abbrev sub2 (p s : Nat) : Prop := p &&& s = p
theorem sub2_iff {p s : Nat} : sub2 p s ↔ ∀ i, p.testBit i = true → s.testBit i = true := by
  constructor
  · intro h i hi
    have e := congrArg (fun x => x.testBit i) (show p &&& s = p from h)
    try dsimp only at e
    rw [Nat.testBit_and, hi, Bool.true_and] at e
    exact e
  · intro h
    show p &&& s = p
    apply Nat.eq_of_testBit_eq
    intro i
    rw [Nat.testBit_and]
    cases hp : p.testBit i
    · rfl
    · rw [h i hp]; rfl
theorem tb_pow {k i : Nat} : (2 ^ k).testBit i = decide (k = i) := Nat.testBit_two_pow
theorem sub2_bit {s k : Nat} (h : s.testBit k = true) : sub2 (2 ^ k) s := sub2_iff.mpr (fun i hi => by
  rw [tb_pow] at hi
  have := of_decide_eq_true hi
  subst this
  exact h)
theorem wS_zero : ∀ n, wS wf n 0 = 0
  | 0 => rfl
  | n + 1 => by
    show wS wf n 0 + (if (0 : Nat).testBit n = true then wf n else 0) = 0
    rw [wS_zero n, Nat.zero_testBit, if_neg (by decide)]
theorem wS_bit : ∀ n k, k < n → wS wf n (2 ^ k) = wf k
  | 0, _, h => absurd h (Nat.not_lt_zero _)
  | n + 1, k, h => by
    show wS wf n (2 ^ k) + (if (2 ^ k).testBit n = true then wf n else 0) = wf k
    rw [tb_pow]
    by_cases e : k = n
    · subst e
      rw [if_pos (decide_eq_true rfl)]
      have z : ∀ m, m ≤ k → wS wf m (2 ^ k) = 0 := fun m => by
        induction m with
        | zero => exact fun _ => rfl
        | succ m ih =>
          intro hm
          show wS wf m (2 ^ k) + (if (2 ^ k).testBit m = true then wf m else 0) = 0
          rw [ih (by omega), tb_pow, decide_eq_false (by omega), if_neg (by decide)]
      rw [z k (Nat.le_refl _)]
      omega
    · rw [decide_eq_false e, if_neg (by decide), wS_bit n k (by omega)]
      rfl
theorem xr3 (s p k : Nat) : s ^^^ (p ^^^ k) = s ^^^ k ^^^ p := by
  apply Nat.eq_of_testBit_eq
  intro i
  simp only [Nat.testBit_xor]
  cases s.testBit i <;> cases p.testBit i <;> cases k.testBit i <;> rfl
theorem xr4 (s p k : Nat) : (s ^^^ k) ^^^ (p ^^^ k) = s ^^^ p := by
  apply Nat.eq_of_testBit_eq
  intro i
  simp only [Nat.testBit_xor]
  cases s.testBit i <;> cases p.testBit i <;> cases k.testBit i <;> rfl
theorem xr_self (p : Nat) : p ^^^ p = 0 := Nat.xor_self p
theorem xr_0 (p : Nat) : p ^^^ 0 = p := Nat.xor_zero p
/-- p of s less k, and k -/
theorem sub2_add {s p k : Nat} (hk : s.testBit k = true) (h : sub2 p (s ^^^ 2 ^ k)) : sub2 (p ^^^ 2 ^ k) s ∧ sub2 (2 ^ k) (p ^^^ 2 ^ k) ∧ (p ^^^ 2 ^ k) ^^^ 2 ^ k = p := by
  have h1 := sub2_iff.mp h
  refine ⟨sub2_iff.mpr (fun i hi => ?_), sub2_iff.mpr (fun i hi => ?_), ?_⟩
  · rw [Nat.testBit_xor, tb_pow] at hi
    by_cases e : k = i
    · rw [← e]; exact hk
    · rw [decide_eq_false e] at hi
      have hp : p.testBit i = true := by cases hp : p.testBit i; rw [hp] at hi; cases hi; rfl
      have := h1 i hp
      rw [Nat.testBit_xor, tb_pow, decide_eq_false e] at this
      cases hs : s.testBit i
      · rw [hs] at this; cases this
      · rfl
  · rw [tb_pow] at hi
    have e := of_decide_eq_true hi
    subst e
    rw [Nat.testBit_xor, tb_pow, decide_eq_true rfl]
    cases hp : p.testBit k
    · rfl
    · have := h1 k hp
      rw [Nat.testBit_xor, tb_pow, decide_eq_true rfl, hk] at this
      cases this
  · rw [Nat.xor_assoc, xr_self, xr_0]
theorem sub2_del {s p k : Nat} (hk : p.testBit k = true) (h : sub2 p s) : sub2 (p ^^^ 2 ^ k) (s ^^^ 2 ^ k) ∧ s.testBit k = true := by
  have h1 := sub2_iff.mp h
  refine ⟨sub2_iff.mpr (fun i hi => ?_), h1 k hk⟩
  rw [Nat.testBit_xor, tb_pow] at hi ⊢
  by_cases e : k = i
  · subst e
    rw [hk, decide_eq_true rfl] at hi
    cases hi
  · rw [decide_eq_false e] at hi ⊢
    have hp : p.testBit i = true := by cases hp : p.testBit i; rw [hp] at hi; cases hi; rfl
    rw [h1 i hp]
    rfl
theorem sub2_le {p s : Nat} (h : sub2 p s) : p ≤ s := by
  have := Nat.and_le_right (n := p) (m := s)
  rw [show p &&& s = p from h] at this
  exact this
theorem sub2_xr {p s : Nat} (h : sub2 p s) : sub2 (s ^^^ p) s ∧ (0 < p → s ^^^ p < s) := by
  have h1 := sub2_iff.mp h
  have h2 : sub2 (s ^^^ p) s := sub2_iff.mpr (fun i hi => by
    rw [Nat.testBit_xor] at hi
    cases hs : s.testBit i
    · cases hp : p.testBit i
      · rw [hs, hp] at hi; cases hi
      · exact absurd (h1 i hp) (by rw [hs]; decide)
    · rfl)
  refine ⟨h2, fun h0 => ?_⟩
  have h3 := sub2_le h2
  rcases Nat.lt_or_ge (s ^^^ p) s with h4 | h4
  · exact h4
  · have e : s ^^^ p = s := by omega
    have e2 : p = 0 := by
      have := congrArg (fun x => s ^^^ x) e
      try dsimp only at this
      rw [← Nat.xor_assoc, xr_self, Nat.zero_xor] at this
      exact this
    omega
theorem sub2_tr {p q s : Nat} (h : sub2 p q) (h2 : sub2 q s) : sub2 p s := sub2_iff.mpr (fun i hi => sub2_iff.mp h2 i (sub2_iff.mp h i hi))
/-- so many groups hold s -/
def Pk (wf : Nat → Nat) (n M : Nat) : Nat → Nat → Prop
  | 0, s => s = 0
  | g + 1, s => ∃ p, sub2 p s ∧ wS wf n p ≤ M ∧ Pk wf n M g (s ^^^ p)
/-- one group of weight l, and d others -/
def Qd (wf : Nat → Nat) (n M d l s : Nat) : Prop := ∃ p, sub2 p s ∧ wS wf n p = l ∧ l ≤ M ∧ Pk wf n M d (s ^^^ p)
theorem Pk_ne : ∀ (d s : Nat), Pk wf n M d s → s ≠ 0 → ∃ d' p, d' < d ∧ p ≠ 0 ∧ sub2 p s ∧ wS wf n p ≤ M ∧ Pk wf n M d' (s ^^^ p)
  | 0, s, h, hs => absurd h hs
  | d + 1, s, h, hs => by
    obtain ⟨p, h1, h2, h3⟩ := h
    by_cases hp : p = 0
    · subst hp
      rw [xr_0] at h3
      obtain ⟨d', p', k1, k2⟩ := Pk_ne d s h3 hs
      exact ⟨d', p', by omega, k2⟩
    · exact ⟨d, p, by omega, hp, h1, h2, h3⟩
def isF (wf : Nat → Nat) (n M s v : Nat) : Prop := (∃ d l, Qd wf n M d l s ∧ v = 1000 * (d + 1) + l) ∧ ∀ d l, Qd wf n M d l s → v ≤ 1000 * (d + 1) + l
def wN (M x w : Nat) : Nat := if x % 1000 + w ≤ M then x + w else (x / 1000 + 1) * 1000 + w
theorem isF_0 (h : 1 ≤ M) : isF wf n M 0 1000 := ⟨⟨0, 0, ⟨0, rfl, wS_zero n, Nat.zero_le _, rfl⟩, rfl⟩, fun d l _ => by omega⟩
/-- one step up -/
theorem isF_up {s k v : Nat} (hM : M ≤ 999) (hk : s.testBit k = true) (hkn : k < n) (hw : wf k ≤ M) (h : isF wf n M (s ^^^ 2 ^ k) v) : ∃ d l, Qd wf n M d l s ∧ wN M v (wf k) = 1000 * (d + 1) + l := by
  obtain ⟨⟨d, l, ⟨p, h1, h2, h3, h4⟩, rfl⟩, -⟩ := h
  obtain ⟨a1, a2, a3⟩ := sub2_add hk h1
  unfold wN
  have e1 : (1000 * (d + 1) + l) % 1000 = l := by omega
  have e2 : (1000 * (d + 1) + l) / 1000 = d + 1 := by omega
  rw [e1, e2]
  by_cases hf : l + wf k ≤ M
  · rw [if_pos hf]
    refine ⟨d, l + wf k, ⟨p ^^^ 2 ^ k, a1, ?_, hf, by rw [xr3]; exact h4⟩, by omega⟩
    have hx := wS_xor (wf := wf) a2 n
    rw [a3, wS_bit n k hkn] at hx
    omega
  · rw [if_neg hf]
    exact ⟨d + 1, wf k, ⟨2 ^ k, sub2_bit hk, wS_bit n k hkn, hw, p, h1, by omega, h4⟩, by omega⟩
/-- and none is below all of these -/
theorem isF_low {s : Nat} (hM : M ≤ 999) (hn : n < 9) (hs : s < 2 ^ n) (h0 : s ≠ 0) (hw : ∀ i, i < n → 1 ≤ wf i) {d l : Nat} (h : Qd wf n M d l s) : ∃ k, k < n ∧ s.testBit k = true ∧ ∀ v, isF wf n M (s ^^^ 2 ^ k) v → wN M v (wf k) ≤ 1000 * (d + 1) + l := by
  have main : ∀ (d l p : Nat), p ≠ 0 → sub2 p s → wS wf n p = l → l ≤ M → Pk wf n M d (s ^^^ p) → ∃ k, k < n ∧ s.testBit k = true ∧ ∀ v, isF wf n M (s ^^^ 2 ^ k) v → wN M v (wf k) ≤ 1000 * (d + 1) + l := fun d l p hp h1 h2 h3 h4 => by
    have hps := sub2_le h1
    obtain ⟨k, hk, hb⟩ := List.any_eq_true.mp (wS_any n hn p (by omega) (by omega))
    have hk := List.mem_range.mp hk
    obtain ⟨b1, b2⟩ := sub2_del hb h1
    refine ⟨k, hk, b2, fun v hv => ?_⟩
    have hx := wS_xor (wf := wf) (sub2_bit hb) n
    rw [wS_bit n k hk] at hx
    have hq : Qd wf n M d (l - wf k) (s ^^^ 2 ^ k) := ⟨p ^^^ 2 ^ k, b1, by omega, by omega, by rw [xr4]; exact h4⟩
    have hle := hv.2 d (l - wf k) hq
    obtain ⟨⟨d', l', hq', rfl⟩, -⟩ := hv
    obtain ⟨-, -, -, hl', -⟩ := hq'
    unfold wN
    have e1 : (1000 * (d' + 1) + l') % 1000 = l' := by omega
    have e2 : (1000 * (d' + 1) + l') / 1000 = d' + 1 := by omega
    rw [e1, e2]
    by_cases hf : l' + wf k ≤ M
    · rw [if_pos hf]
      omega
    · rw [if_neg hf]
      omega
  obtain ⟨p, h1, h2, h3, h4⟩ := h
  by_cases hp : p = 0
  · subst hp
    rw [xr_0] at h4
    obtain ⟨d', p', k1, k2, k3, k4, k5⟩ := Pk_ne d s h4 h0
    obtain ⟨k, g1, g2, g3⟩ := main d' (wS wf n p') p' k2 k3 rfl k4 k5
    exact ⟨k, g1, g2, fun v hv => Nat.le_trans (g3 v hv) (by omega)⟩
  · exact main d l p hp h1 h2 h3 h4
/-- the fewest groups -/
def isG (wf : Nat → Nat) (n M s v : Nat) : Prop := Pk wf n M v s ∧ ∀ g, Pk wf n M g s → v ≤ g
theorem isFG {s vF vG : Nat} (hM : M ≤ 999) (h0 : s ≠ 0) (hF : isF wf n M s vF) (hG : isG wf n M s vG) : vF / 1000 = vG := by
  obtain ⟨⟨d, l, ⟨p, h1, h2, h3, h4⟩, rfl⟩, hmin⟩ := hF
  have a1 := hG.2 (d + 1) ⟨p, h1, by omega, h4⟩
  have e2 : (1000 * (d + 1) + l) / 1000 = d + 1 := by omega
  rw [e2]
  cases vG with
  | zero => exact absurd hG.1 h0
  | succ g =>
    obtain ⟨q, k1, k2, k3⟩ := hG.1
    have := hmin g (wS wf n q) ⟨q, k1, rfl, k2, k3⟩
    omega
theorem Pk_one {s k : Nat} (hk : s.testBit k = true) (hkn : k < n) (hw : wf k ≤ M) {g : Nat} (h : Pk wf n M g (s ^^^ 2 ^ k)) : Pk wf n M (g + 1) s := ⟨2 ^ k, sub2_bit hk, by rw [wS_bit n k hkn]; exact hw, h⟩
/-- who is too heavy alone is in no group -/
theorem Pk_no {k : Nat} (hkn : k < n) (hw : M < wf k) : ∀ (g s : Nat), s.testBit k = true → ¬ Pk wf n M g s
  | 0, s, hs, h => by
    have e : s = 0 := h
    rw [e, Nat.zero_testBit] at hs
    cases hs
  | g + 1, s, hs, h => by
    obtain ⟨p, h1, h2, h3⟩ := h
    cases hp : p.testBit k
    · refine Pk_no hkn hw g (s ^^^ p) ?_ h3
      rw [Nat.testBit_xor, hs, hp]
      rfl
    · have hx := wS_xor (wf := wf) (sub2_bit hp) n
      rw [wS_bit n k hkn] at hx
      omega
end GPS
/-! ===== the numbers, as Int32 ===== -/
theorem nI_div {v : Nat} (h : v < 2000000) : nI v / 1000 = nI (v / 1000) := by
  apply Int32.toInt_inj.mp
  rw [Int32.toInt_div, nI_i32 (by omega), nI_i32 (by omega), show (1000 : Int32).toInt = 1000 from rfl, Int.tdiv_eq_ediv_of_nonneg (by omega)]
  exact Int.bmod_eq_of_le (by omega) (by omega)
theorem nI_rem {v : Nat} (h : v < 2000000) : nI v - nI v / 1000 * 1000 = nI (v % 1000) := by
  rw [nI_div h, show (1000 : Int32) = nI 1000 from rfl, fm_mul, tg_sub2 (x := v) (y := v / 1000 * 1000) (by omega)]
  congr 1
  omega
theorem wiC_eq {M v w : Nat} (hM : M ≤ 999) (hv : v < 1000000) (hw : w ≤ 99) : wiC (nI M) (nI v) (nI w) = nI (wN M v w) := by
  unfold wiC wN
  rw [nI_rem (by omega), nI_add]
  by_cases h : v % 1000 + w ≤ M
  · rw [if_pos h, show fx_cb .gt (nI (v % 1000 + w)) (nI M) = false from cb_gtF (a := v % 1000 + w) (b := M) (by omega) (by omega) (by omega)]
    exact nI_add v w
  · rw [if_neg h, show fx_cb .gt (nI (v % 1000 + w)) (nI M) = true from cb_gtT (a := v % 1000 + w) (b := M) (by omega) (by omega) (by omega)]
    show (nI v / 1000 + 1) * 1000 + nI w = _
    rw [nI_div (by omega), show (1000 : Int32) = nI 1000 from rfl, show (1 : Int32) = nI 1 from rfl, nI_add, fm_mul, nI_add]
theorem mnI_eq {x y : Nat} (hx : x < 2000000) (hy : y < 2000000) : mnI (nI x) (nI y) = nI (min x y) := by
  unfold mnI
  by_cases h : y < x
  · rw [if_pos (Int32.lt_iff_toInt_lt.mpr (by rw [nI_i32 (by omega), nI_i32 (by omega)]; omega)), Nat.min_eq_right (by omega)]
  · rw [if_neg (fun z => by have := Int32.lt_iff_toInt_lt.mp z; rw [nI_i32 (by omega), nI_i32 (by omega)] at this; omega), Nat.min_eq_left (by omega)]
section GPE
variable {wc wt : Nat → Int32} {wf : Nat → Nat} {n M S : Nat}
/-- the class's best last group -/
theorem blC_eq {row : Nat → Int32} {s : Nat} {f : Nat → Nat} (hM : M ≤ 999) (hc : ∀ i, i < n → wc i = nI (wf i)) (h9 : ∀ i, i < n → wf i ≤ 99) (hrow : ∀ k, k < n → s.testBit k = true → row (s ^^^ 2 ^ k) = nI (f k) ∧ f k ≤ 300000) : ∀ k, k ≤ n → ∃ v, blC row wc (nI M) s k = nI v ∧ v ≤ 1000000 ∧ (v = 1000000 ∨ ∃ j, j < k ∧ s.testBit j = true ∧ v = wN M (f j) (wf j)) ∧ ∀ j, j < k → s.testBit j = true → v ≤ wN M (f j) (wf j)
  | 0, _ => ⟨1000000, rfl, Nat.le_refl _, Or.inl rfl, fun j hj => absurd hj (Nat.not_lt_zero _)⟩
  | k + 1, hk => by
    obtain ⟨v, h1, h2, h3, h4⟩ := blC_eq hM hc h9 hrow k (by omega)
    by_cases e : s.testBit k = true
    · obtain ⟨r1, r2⟩ := hrow k (by omega) e
      have hw := h9 k (by omega)
      have hb : wN M (f k) (wf k) < 2000000 := by
        unfold wN
        split <;> omega
      refine ⟨min v (wN M (f k) (wf k)), ?_, by omega, ?_, fun j hj hjb => ?_⟩
      · show (if s.testBit k = true then mnI (blC row wc (nI M) s k) (wiC (nI M) (row (s ^^^ 2 ^ k)) (wc k)) else _) = _
        rw [if_pos e, h1, r1, hc k (by omega), wiC_eq hM (by omega) hw, mnI_eq (by omega) hb]
      · rcases Nat.le_total v (wN M (f k) (wf k)) with h | h
        · rw [Nat.min_eq_left h]
          rcases h3 with h3 | ⟨j, j1, j2, j3⟩
          · exact Or.inl h3
          · exact Or.inr ⟨j, by omega, j2, j3⟩
        · rw [Nat.min_eq_right h]
          exact Or.inr ⟨k, by omega, e, rfl⟩
      · by_cases ej : j = k
        · subst ej; exact Nat.min_le_right _ _
        · exact Nat.le_trans (Nat.min_le_left _ _) (h4 j (by omega) hjb)
    · refine ⟨v, ?_, h2, ?_, fun j hj hjb => ?_⟩
      · show (if s.testBit k = true then _ else blC row wc (nI M) s k) = _
        rw [if_neg e, h1]
      · rcases h3 with h3 | ⟨j, j1, j2, j3⟩
        · exact Or.inl h3
        · exact Or.inr ⟨j, by omega, j2, j3⟩
      · by_cases ej : j = k
        · subst ej; exact absurd hjb e
        · exact h4 j (by omega) hjb
/-- the class's table -/
theorem rwC_eq {r0 : Nat → Int32} (hM1 : 1 ≤ M) (hM : M ≤ 999) (hn : n < 9) (hc : ∀ i, i < n → wc i = nI (wf i)) (h9 : ∀ i, i < n → 1 ≤ wf i ∧ wf i ≤ 99) (hfit : ∀ k, k < n → S.testBit k = true → wf k ≤ M) (h0 : r0 0 = nI 1000) : ∀ m, m < 2 ^ n → ∀ s, s ≤ m → sub2 s S → ∃ v, rwG wc (nI M) n S r0 m s = nI v ∧ isF wf n M s v ∧ v ≤ 1000 * (s + 1) + 999
  | 0, _, s, hs, _ => by
    obtain rfl : s = 0 := by omega
    exact ⟨1000, h0, isF_0 hM1, by omega⟩
  | m + 1, hm, s, hs, hsub => by
    have ih := rwC_eq (r0 := r0) hM1 hM hn hc h9 hfit h0 m (by omega)
    have p8 : ∀ n, n < 9 → 2 ^ n ≤ 256 := by decide
    have hp := p8 n hn
    by_cases e : s = m + 1
    · subst e
      have step : ∀ k, k < n → (m + 1).testBit k = true → ∃ v, rwG wc (nI M) n S r0 m ((m + 1) ^^^ 2 ^ k) = nI v ∧ isF wf n M ((m + 1) ^^^ 2 ^ k) v ∧ v ≤ 1000 * (((m + 1) ^^^ 2 ^ k) + 1) + 999 ∧ (m + 1) ^^^ 2 ^ k ≤ m := fun k hk hb => by
        have hx := sub2_xr (sub2_bit hb)
        have h1 := hx.2 (Nat.two_pow_pos k)
        obtain ⟨v, v1, v2, v3⟩ := ih ((m + 1) ^^^ 2 ^ k) (by omega) (sub2_tr hx.1 hsub)
        exact ⟨v, v1, v2, v3, by omega⟩
      have hf : ∃ f : Nat → Nat, ∀ k, k < n → (m + 1).testBit k = true → rwG wc (nI M) n S r0 m ((m + 1) ^^^ 2 ^ k) = nI (f k) ∧ isF wf n M ((m + 1) ^^^ 2 ^ k) (f k) ∧ f k ≤ 1000 * (m + 1) + 999 := by
        refine ⟨fun k => (rwG wc (nI M) n S r0 m ((m + 1) ^^^ 2 ^ k)).toInt.toNat, fun k hk hb => ?_⟩
        obtain ⟨v, v1, v2, v3, v4⟩ := step k hk hb
        have ev : (rwG wc (nI M) n S r0 m ((m + 1) ^^^ 2 ^ k)).toInt.toNat = v := by
          rw [v1, nI_i32 (by omega)]
          rfl
        dsimp only
        rw [ev]
        exact ⟨v1, v2, by omega⟩
      obtain ⟨f, hf⟩ := hf
      obtain ⟨v, b1, b2, b3, b4⟩ := blC_eq (row := rwG wc (nI M) n S r0 m) (s := m + 1) (f := f) hM hc (fun i hi => (h9 i hi).2) (fun k hk hb => ⟨(hf k hk hb).1, by have := (hf k hk hb).2.2; omega⟩) n (Nat.le_refl _)
      refine ⟨v, ?_, ?_, ?_⟩
      · show (if (m + 1) &&& S = m + 1 then upd (rwG wc (nI M) n S r0 m) (m + 1) _ else _) (m + 1) = _
        rw [if_pos hsub, pk_us, b1]
      · obtain ⟨k0, hk0, hb0⟩ := List.any_eq_true.mp (wS_any n hn (m + 1) hm (by omega))
        have hk0 := List.mem_range.mp hk0
        have hv1 : v < 1000000 := by
          have h1 := b4 k0 hk0 hb0
          have h2 := (hf k0 hk0 hb0).2.2
          have h3 := (h9 k0 hk0).2
          unfold wN at h1
          split at h1 <;> omega
        rcases b3 with b3 | ⟨j, j1, j2, j3⟩
        · omega
        · have hfj := hfit j j1 (sub2_iff.mp hsub j j2)
          obtain ⟨d, l, q1, q2⟩ := isF_up hM j2 j1 hfj (hf j j1 j2).2.1
          refine ⟨⟨d, l, q1, by rw [j3, q2]⟩, fun d2 l2 hq => ?_⟩
          obtain ⟨k, g1, g2, g3⟩ := isF_low hM hn hm (by omega) (fun i hi => (h9 i hi).1) hq
          exact Nat.le_trans (b4 k g1 g2) (g3 _ (hf k g1 g2).2.1)
      · obtain ⟨k0, hk0, hb0⟩ := List.any_eq_true.mp (wS_any n hn (m + 1) hm (by omega))
        have hk0 := List.mem_range.mp hk0
        have h1 := b4 k0 hk0 hb0
        have h2 := (hf k0 hk0 hb0).2.2
        have h3 := (h9 k0 hk0).2
        unfold wN at h1
        split at h1 <;> omega
    · obtain ⟨v, v1, v2, v3⟩ := ih s (by omega) hsub
      refine ⟨v, ?_, v2, v3⟩
      show (if (m + 1) &&& S = m + 1 then upd (rwG wc (nI M) n S r0 m) (m + 1) _ else rwG wc (nI M) n S r0 m) s = _
      split
      · rw [pk_un e, v1]
      · exact v1
/-- what the model's table holds -/
def mG (wf : Nat → Nat) (n M s : Nat) (x : Int32) : Prop := (∃ v, v ≤ s ∧ x = nI v ∧ isG wf n M s v) ∨ x = nI 1000000 ∧ ∀ g, ¬ Pk wf n M g s
/-- the model's parts of one set -/
theorem stM_eq {m : Nat} (hM : M ≤ 999) (hm : m < 256) (hn8 : n ≤ 8) (hc : ∀ i, i < n → wt i = nI (wf i)) (h9 : ∀ i, i < n → wf i ≤ 99) : ∀ (t : List Nat) (r : Nat → Int32) (x : Nat), (∀ p ∈ t, sub2 p m ∧ 0 < p) → r m = nI x → x ≤ 1000000 → (∀ p, sub2 p m → 0 < p → mG wf n M (m ^^^ p) (r (m ^^^ p))) → ∃ y, (t.foldl (stM wt n (nI M) m) r) m = nI y ∧ y ≤ x ∧ (y = x ∨ ∃ p v, sub2 p m ∧ 0 < p ∧ wS wf n p ≤ M ∧ v ≤ m ^^^ p ∧ isG wf n M (m ^^^ p) v ∧ y = v + 1) ∧ (∀ p ∈ t, wS wf n p ≤ M → ∀ v, v ≤ m → isG wf n M (m ^^^ p) v → y ≤ v + 1) ∧ ∀ s, s ≠ m → (t.foldl (stM wt n (nI M) m) r) s = r s
  | [], r, x, _, hx, _, _ => ⟨x, hx, Nat.le_refl _, Or.inl rfl, fun p hp => absurd hp List.not_mem_nil, fun _ _ => rfl⟩
  | p :: t, r, x, hl, hx, hx6, hr => by
    obtain ⟨hp1, hp2⟩ := hl p List.mem_cons_self
    have hl2 : ∀ q ∈ t, sub2 q m ∧ 0 < q := fun q hq => hl q (List.mem_cons_of_mem _ hq)
    have lw := wS_le (s := p) n h9
    rw [List.foldl_cons]
    have hW : fx_cb .gt (wI wt n p) (nI M) = decide (M < wS wf n p) := by
      rw [wI_eq n hc]
      by_cases h : M < wS wf n p
      · rw [decide_eq_true h]; exact cb_gtT (a := wS wf n p) (b := M) (by omega) (by omega) h
      · rw [decide_eq_false h]; exact cb_gtF (a := wS wf n p) (b := M) (by omega) (by omega) (by omega)
    by_cases hw : M < wS wf n p
    · have e : stM wt n (nI M) m r p = r := by
        unfold stM
        rw [hW, decide_eq_true hw]
      rw [e]
      obtain ⟨y, y1, y2, y3, y4, y5⟩ := stM_eq hM hm hn8 hc h9 t r x hl2 hx hx6 hr
      refine ⟨y, y1, y2, y3, fun q hq hqw v hv hG => ?_, y5⟩
      rcases List.mem_cons.mp hq with eq | hq
      · subst eq; omega
      · exact y4 q hq hqw v hv hG
    · have hx' := sub2_xr hp1
      have hne : m ^^^ p ≠ m := by have := hx'.2 hp2; omega
      have e : stM wt n (nI M) m r p = upd r m (mnI (r m) (r (m ^^^ p) + 1)) := by
        unfold stM
        rw [hW, decide_eq_false hw]
      rw [e]
      have key : ∃ x2, mnI (r m) (r (m ^^^ p) + 1) = nI x2 ∧ x2 ≤ x ∧ (x2 = x ∨ ∃ v, v ≤ m ^^^ p ∧ isG wf n M (m ^^^ p) v ∧ x2 = v + 1) ∧ ∀ v, v ≤ m → isG wf n M (m ^^^ p) v → x2 ≤ v + 1 := by
        have hle := sub2_le hx'.1
        rcases hr p hp1 hp2 with ⟨v, v0, v1, v2⟩ | ⟨v1, v2⟩
        · refine ⟨min x (v + 1), ?_, Nat.min_le_left _ _, ?_, fun u _ hu => ?_⟩
          · rw [hx, v1, show (1 : Int32) = nI 1 from rfl, nI_add, mnI_eq (by omega) (by omega)]
          · rcases Nat.le_total x (v + 1) with h | h
            · exact Or.inl (Nat.min_eq_left h)
            · exact Or.inr ⟨v, v0, v2, Nat.min_eq_right h⟩
          · have := v2.2 u hu.1
            have := Nat.min_le_right x (v + 1)
            omega
        · refine ⟨x, ?_, Nat.le_refl _, Or.inl rfl, fun u _ hu => absurd hu.1 (v2 u)⟩
          rw [hx, v1, show (1 : Int32) = nI 1 from rfl, nI_add, mnI_eq (by omega) (by omega), Nat.min_eq_left (by omega)]
      obtain ⟨x2, k1, k2, k3, k4⟩ := key
      obtain ⟨y, y1, y2, y3, y4, y5⟩ := stM_eq hM hm hn8 hc h9 t (upd r m (mnI (r m) (r (m ^^^ p) + 1))) x2 hl2 (by rw [pk_us]; exact k1) (by omega) (fun q q1 q2 => by
        have := (sub2_xr q1).2 q2
        rw [pk_un (by omega)]
        exact hr q q1 q2)
      refine ⟨y, y1, by omega, ?_, fun q hq hqw v hv hG => ?_, fun s hs => (y5 s hs).trans (pk_un hs)⟩
      · rcases y3 with y3 | y3
        · rcases k3 with k3 | ⟨v, v0, v1, v2⟩
          · exact Or.inl (y3.trans k3)
          · exact Or.inr ⟨p, v, hp1, hp2, by omega, v0, v1, by omega⟩
        · exact Or.inr y3
      · rcases List.mem_cons.mp hq with eq | hq
        · subst eq
          have := k4 v hv hG
          omega
        · exact y4 q hq hqw v hv hG
theorem pts_mem {m p : Nat} : p ∈ pts m ↔ sub2 p m ∧ 0 < p := by
  unfold pts
  rw [List.mem_filter, List.mem_reverse, List.mem_range]
  constructor
  · rintro ⟨-, h2⟩
    obtain ⟨h3, h4⟩ := Bool.and_eq_true_iff.mp h2
    refine ⟨Nat.eq_of_beq_eq_true h3, ?_⟩
    rcases Nat.eq_zero_or_pos p with z | z
    · rw [z] at h4; cases h4
    · exact z
  · rintro ⟨h1, h2⟩
    have := sub2_le h1
    refine ⟨by omega, Bool.and_eq_true_iff.mpr ⟨by rw [show p &&& m = p from h1]; exact Nat.beq_refl p, ?_⟩⟩
    cases hb : Nat.beq p 0
    · rfl
    · have := Nat.eq_of_beq_eq_true hb; omega
/-- the model's table -/
theorem rwM_eq {r0 : Nat → Int32} (hM : M ≤ 999) (hn8 : n ≤ 8) (hS : S < 256) (hc : ∀ i, i < n → wt i = nI (wf i)) (h9 : ∀ i, i < n → wf i ≤ 99) : ∀ m, m ≤ S + 1 → ∀ s, s < m → sub2 s S → mG wf n M s (rwM wt n (nI M) S r0 m s)
  | 0, _, s, hs, _ => absurd hs (Nat.not_lt_zero _)
  | m + 1, hm, s, hs, hsub => by
    have ih := rwM_eq (r0 := r0) hM hn8 hS hc h9 m (by omega)
    obtain ⟨r, er⟩ : ∃ r, rwM wt n (nI M) S r0 m = r := ⟨_, rfl⟩
    rw [er] at ih
    have eR : rwM wt n (nI M) S r0 (m + 1) = if m &&& S = m then (pts m).foldl (stM wt n (nI M) m) (upd r m (if m = 0 then 0 else 1000000)) else upd r m (if m = 0 then 0 else 1000000) := by
      rw [← er]
      rfl
    rw [eR]
    by_cases h1 : m &&& S = m
    · rw [if_pos h1]
      have hx0 : (upd r m (if m = 0 then 0 else 1000000)) m = nI (if m = 0 then 0 else 1000000) := by
        rw [pk_us]
        split <;> rfl
      obtain ⟨y, y1, y2, y3, y4, y5⟩ := stM_eq hM (by omega) hn8 hc h9 (pts m) (upd r m (if m = 0 then 0 else 1000000)) (if m = 0 then 0 else 1000000) (fun p hp => pts_mem.mp hp) hx0 (by split <;> omega) (fun p p1 p2 => by
        have hx := sub2_xr p1
        have := hx.2 p2
        rw [pk_un (by omega)]
        exact ih _ (by omega) (sub2_tr hx.1 h1))
      by_cases e : s = m
      · subst e
        rw [y1]
        by_cases h0 : s = 0
        · subst h0
          rw [if_pos rfl] at y2
          obtain rfl : y = 0 := by omega
          exact Or.inl ⟨0, Nat.le_refl _, rfl, rfl, fun g _ => Nat.zero_le g⟩
        · rw [if_neg h0] at y2 y3
          have low : ∀ (g : Nat), Pk wf n M g s → y ≤ g := fun g => by
            induction g with
            | zero => exact fun h => absurd h h0
            | succ g ihg =>
              intro h
              obtain ⟨p, q1, q2, q3⟩ := h
              by_cases hp : p = 0
              · subst hp
                rw [xr_0] at q3
                have := ihg q3
                omega
              · have hp0 : 0 < p := Nat.pos_of_ne_zero hp
                have hx := sub2_xr q1
                have hlt := hx.2 hp0
                rcases ih (s ^^^ p) (by omega) (sub2_tr hx.1 hsub) with ⟨v, v0, v1, v2⟩ | ⟨-, v2⟩
                · have := y4 p (pts_mem.mpr ⟨q1, hp0⟩) q2 v (by omega) v2
                  have := v2.2 g q3
                  omega
                · exact absurd q3 (v2 g)
          rcases y3 with y3 | ⟨p, v, p1, p2, p3, p4, p5, p6⟩
          · refine Or.inr ⟨by rw [y3], fun g hg => ?_⟩
            -- were it packed, some part would have been counted
            have hlow := low g hg
            obtain ⟨d', p', k1, k2, k3, k4, k5⟩ := Pk_ne g s hg h0
            have hp0 : 0 < p' := Nat.pos_of_ne_zero k2
            have hx := sub2_xr k3
            have hlt := hx.2 hp0
            rcases ih (s ^^^ p') (by omega) (sub2_tr hx.1 hsub) with ⟨v, v0, v1, v2⟩ | ⟨-, v2⟩
            · have := y4 p' (pts_mem.mpr ⟨k3, hp0⟩) k4 v (by omega) v2
              omega
            · exact absurd k5 (v2 d')
          · have hx := (sub2_xr p1).2 p2
            exact Or.inl ⟨y, by omega, rfl, by rw [p6]; exact ⟨p, p1, p3, p5.1⟩, low⟩
      · rw [y5 s e, pk_un e]
        exact ih s (by omega) hsub
    · rw [if_neg h1]
      by_cases e : s = m
      · subst e
        exact absurd hsub h1
      · rw [pk_un e]
        exact ih s (by omega) hsub
/-- both count the same -/
theorem gr_eq {r0 m0 : Nat → Int32} (hM1 : 1 ≤ M) (hM : M ≤ 999) (hn8 : n ≤ 8) (h0 : 0 < S) (hS : S < 2 ^ n) (hc : ∀ i, i < n → wc i = nI (wf i)) (hm : ∀ i, i < n → wt i = nI (wf i)) (h9 : ∀ i, i < n → 1 ≤ wf i ∧ wf i ≤ 99) (hr0 : r0 0 = nI 1000) : (tooC wc (nI M) S n → ¬ rwM wt n (nI M) S m0 (S + 1) S < 1000000) ∧ (¬ tooC wc (nI M) S n → rwM wt n (nI M) S m0 (S + 1) S < 1000000 ∧ 0 ≤ rwG wc (nI M) n S r0 (2 ^ n - 1) S / 1000 ∧ rwG wc (nI M) n S r0 (2 ^ n - 1) S / 1000 = rwM wt n (nI M) S m0 (S + 1) S) := by
  obtain ⟨hp1, hp2⟩ := pw_le n hn8
  have h99 : ∀ i, i < n → wf i ≤ 99 := fun i hi => (h9 i hi).2
  have hle : ∀ k, k < n → (fx_cb .le (wc k) (nI M) = false ↔ M < wf k) := fun k hk => by
    have hw := h99 k hk
    rw [hc k hk]
    constructor
    · intro h
      rcases Nat.lt_or_ge M (wf k) with h2 | h2
      · exact h2
      · rw [show fx_cb .le (nI (wf k)) (nI M) = true from cb_leT (a := wf k) (b := M) (by omega) (by omega) h2] at h
        cases h
    · intro h
      exact cb_leF (a := wf k) (b := M) (by omega) (by omega) (by omega)
  have hSS : sub2 S S := Nat.and_self S
  have hMod := rwM_eq (wf := wf) (r0 := m0) (S := S) hM hn8 (by omega) hm h99 (S + 1) (Nat.le_refl _) S (by omega) hSS
  have lt6 : ∀ v, v ≤ S → nI v < (1000000 : Int32) := fun v hv => Int32.lt_iff_toInt_lt.mpr (by rw [nI_i32 (by omega), show (1000000 : Int32).toInt = 1000000 from rfl]; omega)
  constructor
  · rintro ⟨j, j1, j2, j3⟩ hlt
    have hno := Pk_no (wf := wf) (M := M) j1 ((hle j j1).mp j3)
    rcases hMod with ⟨v, v0, v1, v2⟩ | ⟨v1, -⟩
    · exact hno v S j2 v2.1
    · rw [v1] at hlt
      exact absurd hlt (by decide)
  · intro ht
    have hfit : ∀ k, k < n → S.testBit k = true → wf k ≤ M := fun k hk hb => by
      rcases Nat.lt_or_ge M (wf k) with h | h
      · exact absurd ⟨k, hk, hb, (hle k hk).mpr h⟩ ht
      · exact h
    obtain ⟨vF, f1, f2, f3⟩ := rwC_eq (wf := wf) (r0 := r0) (S := S) hM1 hM (by omega) hc h9 hfit hr0 (2 ^ n - 1) (by omega) S (by omega) hSS
    rcases hMod with ⟨v, v0, v1, v2⟩ | ⟨-, v2⟩
    · have e := isFG hM (by omega) f2 v2
      rw [f1, nI_div (by omega), e, v1]
      exact ⟨lt6 v v0, Int32.le_iff_toInt_le.mpr (by rw [nI_i32 (by omega)]; exact Int.natCast_nonneg v), rfl⟩
    · obtain ⟨⟨d, l, ⟨p, p1, p2, p3, p4⟩, -⟩, -⟩ := f2
      exact absurd ⟨p, p1, by omega, p4⟩ (v2 (d + 1))
end GPE
