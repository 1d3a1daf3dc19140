/-! ===== the law: a small run of its calls, the stack by kinds ===== -/
/-- (0, k): the script's int i + k; (1, n): n; (2, _): the script; (3, _): the object; (4, _): the model's; (5, k): the place i + k; (6, _): an int; (7, _): a long -/
abbrev lq_V : Type := Nat × Nat
def lq_g (b ax am i : Nat) (xs : Nat → Int32) (a : lq_V) (v : Value) : Prop := match a.1 with
  | 0 => v = .int (xs (i + a.2))
  | 1 => v = .int (nI a.2)
  | 2 => v = .ref b
  | 3 => v = .ref ax
  | 4 => v = .ref am
  | 5 => v = .int (nI (i + a.2))
  | 6 => ∃ x : Int32, v = .int x
  | 7 => ∃ x : Int64, v = .long x
  | _ => False
def lq_int (a : lq_V) : Bool := Nat.beq a.1 0 || (Nat.beq a.1 1 || (Nat.beq a.1 5 || Nat.beq a.1 6))
def lq_cat (a : lq_V) : Nat := cond (Nat.beq a.1 7) 2 1
/-- a row: the link's number, whose it is, the method, its arguments' kinds and bounds, what it returns -/
abbrev lq_R : Type := Nat × Nat × Nat × List Nat × List tk_I × lq_V
def lq_fit (B : Nat → tk_I) (a : lq_V) (k : Nat) (I : tk_I) : Bool := match a.1 with
  | 0 => Nat.beq k 0 && (decide (I.1 ≤ (B a.2).1) && decide ((B a.2).2 ≤ I.2))
  | 1 => Nat.beq k 0 && (decide (I.1 ≤ (a.2 : Int)) && (decide ((a.2 : Int) ≤ I.2) && decide (a.2 < 2147483648)))
  | 6 => Nat.beq k 0 && (decide (I.1 ≤ -2147483648) && decide (2147483647 ≤ I.2))
  | 7 => Nat.beq k 1 && (decide (I.1 ≤ -9223372036854775808) && decide (9223372036854775807 ≤ I.2))
  | _ => false
def lq_fits (B : Nat → tk_I) : List lq_V → List Nat → List tk_I → Bool
  | [], [], [] => true
  | a :: r, k :: ks, I :: Is => lq_fit B a k I && lq_fits B r ks Is
  | _, _, _ => false
def lq_pop : Nat → List lq_V → List lq_V → Option (List lq_V × List lq_V)
  | 0, acc, sk => some (acc, sk)
  | n + 1, acc, a :: sk => lq_pop n (a :: acc) sk
  | _ + 1, _, [] => none
def lq_sum : List lq_V → Nat
  | [] => 0
  | a :: r => lq_cat a + lq_sum r
def lq_ry (ret : lq_V) (y : tk_X) : Bool := match y.1 with
  | some a => (Nat.beq ret.1 6 && Nat.beq a.1 0) || ((Nat.beq ret.1 7 && Nat.beq a.1 1) || (Nat.beq ret.1 1 && (decide (a = (0, 0, 0, (ret.2 : Int))) && decide (ret.2 < 2147483648))))
  | none => false
def lq_call (B : Nat → tk_I) (T : List lq_R) (idx : Nat) (st : List lq_V) : Option (lq_R × List lq_V) := match T.find? (fun r => Nat.beq r.1 idx), rk_lk gk_lk12 idx with
  | some r, some (kd, f, n) => (match lq_pop n [] st with
    | some (as, a :: rest) => if (kd = 5 ∧ f = r.2.2.1 ∧ n = r.2.2.2.1.length ∧ gk_mci[f]? = some (cond (Nat.beq r.2.1 3) 11 12)) ∧ (a.1 = r.2.1 ∧ (r.2.1 = 3 ∨ r.2.1 = 4)) ∧ lq_fits B as r.2.2.2.1 r.2.2.2.2.1 = true ∧ lq_sum rest ≤ 8 then some (r, rest) else none
    | _ => none)
  | _, _ => none
def lq_step (B : Nat → tk_I) (T : List lq_R) (pc : Nat) (ins : Instr) (st : List lq_V) : Option (List (Nat × List lq_V)) := match ins with
  | .aload_n k => if (k : Nat) = 0 then some [(pc + 1, (2, 0) :: st)] else if (k : Nat) = 1 then some [(pc + 1, (3, 0) :: st)] else if (k : Nat) = 2 then some [(pc + 1, (4, 0) :: st)] else none
  | .iload_n k => if (k : Nat) = 3 then some [(pc + 1, (5, 0) :: st)] else none
  | .iconst n => if 0 ≤ n ∧ n ≤ 5 then some [(pc + 1, (1, n.toNat) :: st)] else none
  | .bipush _ => some [(pc + 2, (6, 0) :: st)]
  | .iadd => match st with
    | (1, k) :: (5, j) :: r => if k ≤ 5 ∧ j ≤ 5 then some [(pc + 1, (5, j + k) :: r)] else none
    | _ => none
  | .iaload => match st with
    | (5, k) :: (2, _) :: r => if k < 6 then some [(pc + 1, (0, k) :: r)] else none
    | _ => none
  | .i2l => match st with
    | a :: r => if lq_int a = true then some [(pc + 1, (7, 0) :: r)] else none
    | _ => none
  | .lshl => match st with
    | a :: (7, _) :: r => if lq_int a = true then some [(pc + 1, (7, 0) :: r)] else none
    | _ => none
  | .land => match st with
    | (7, _) :: (7, _) :: r => some [(pc + 1, (7, 0) :: r)]
    | _ => none
  | .lor => match st with
    | (7, _) :: (7, _) :: r => some [(pc + 1, (7, 0) :: r)]
    | _ => none
  | .ldc2_w idx => match rk_cst gk_lcs idx with
    | some (.long _) => some [(pc + 3, (7, 0) :: st)]
    | _ => none
  | .pop => match st with
    | a :: r => if lq_int a = true then some [(pc + 1, r)] else none
    | _ => none
  | .pop2 => match st with
    | (7, _) :: r => some [(pc + 1, r)]
    | _ => none
  | .goto off => if 0 ≤ (pc : Int) + off then some [(((pc : Int) + off).toNat, st)] else none
  | .ifCond .eq off => match st with
    | a :: r => if lq_int a = true ∧ 0 ≤ (pc : Int) + off then some [(((pc : Int) + off).toNat, r), (pc + 3, r)] else none
    | _ => none
  | .if_icmp .eq off => match st with
    | (1, k) :: (1, j) :: r => if k = j ∧ 0 ≤ (pc : Int) + off then some [(((pc : Int) + off).toNat, r)] else none
    | _ => none
  | .invokevirtual idx => match lq_call B T idx st with
    | some (r, rest) => some [(pc + 3, r.2.2.2.2.2 :: rest)]
    | none => none
  | _ => none
def lq_at : List (Nat × Instr × Nat) → Nat → Option (Instr × Nat)
  | [], _ => none
  | q :: r, pc => cond (Nat.beq q.1 pc) (some q.2) (lq_at r pc)
theorem lq_at_ok {pc : Nat} {q : Instr × Nat} : ∀ {l : List (Nat × Instr × Nat)}, lq_at l pc = some q → (pc, q) ∈ l := by
  intro l
  induction l with
  | nil => intro h; cases h
  | cons r l ih =>
    intro h
    unfold lq_at at h
    cases hb : Nat.beq r.1 pc with
    | true =>
      rw [hb] at h
      have h : some r.2 = some q := h
      cases h
      rw [← Nat.eq_of_beq_eq_true hb]
      exact List.mem_cons_self
    | false =>
      rw [hb] at h
      exact List.mem_cons_of_mem _ (ih h)
def lq_run (B : Nat → tk_I) (T : List lq_R) (li : List (Nat × Instr × Nat)) (stop : Nat) : Nat → Nat → List lq_V → Bool
  | 0, _, _ => false
  | n + 1, pc, st => cond (Nat.beq pc stop) st.isEmpty (match lq_at li pc with
    | some (ins, len) => rk_len ins len && (match lq_step B T pc ins st with
      | some l => l.all (fun q => lq_run B T li stop n q.1 q.2)
      | none => false)
    | none => false)
theorem lq_pop_ok {α : Type} {R : lq_V → α → Prop} : ∀ (n : Nat) {acc sk as r : List lq_V} {va stk : List α}, lq_pop n acc sk = some (as, r) → rk_A2 R acc va → rk_A2 R sk stk → ∃ (v2 r2 : List α), rk_A2 R as (v2 ++ va) ∧ rk_A2 R r r2 ∧ stk = v2.reverse ++ r2 ∧ v2.length = n := by
  intro n
  induction n with
  | zero => intro acc sk as r va stk h ha hs; cases h; exact ⟨[], stk, by simpa using ha, hs, by simp, rfl⟩
  | succ n ih =>
    intro acc sk as r va stk h ha hs
    cases sk with
    | nil => cases h
    | cons a sk =>
      obtain ⟨v, k, rfl, hg, hs⟩ := hs.cons
      obtain ⟨v2, r2, h1, h2, rfl, h4⟩ := ih (show lq_pop n (a :: acc) sk = some (as, r) from h) (show rk_A2 R (a :: acc) (v :: va) from ⟨hg, ha⟩) hs
      exact ⟨v2 ++ [v], r2, by simpa using h1, h2, by simp, by simp [h4]⟩
section LQG
variable {b ax am i : Nat} {xs : Nat → Int32}
theorem lq_int_ok {a : lq_V} {v : Value} (h : lq_int a = true) (hg : lq_g b ax am i xs a v) : ∃ x : Int32, v = .int x := by
  unfold lq_int at h
  rw [Bool.or_eq_true, Bool.or_eq_true, Bool.or_eq_true] at h
  unfold lq_g at hg
  rcases h with h | h | h | h
  all_goals
    rw [Nat.eq_of_beq_eq_true h] at hg
    first
      | exact ⟨_, hg⟩
      | exact hg
theorem lq_cat_ok {a : lq_V} {v : Value} (hg : lq_g b ax am i xs a v) : v.category = lq_cat a := by
  unfold lq_g at hg
  unfold lq_cat
  split at hg
  all_goals
    rename_i h
    first
      | exact hg.elim
      | (rw [h]; subst hg; rfl)
      | (rw [h]; obtain ⟨x, rfl⟩ := hg; rfl)
theorem lq_sum_ok : ∀ {r : List lq_V} {stk : List Value}, rk_A2 (lq_g b ax am i xs) r stk → (stk.map fun v => v.category).sum = lq_sum r := by
  intro r
  induction r with
  | nil => intro stk h; rw [h.nil]; rfl
  | cons a r ih =>
    intro stk h
    obtain ⟨v, k, rfl, hg, hs⟩ := h.cons
    simp [lq_sum, lq_cat_ok hg, ih hs]
theorem lq_fit_ok {B : Nat → tk_I} (hB : ∀ k, (B k).1 ≤ (xs (i + k)).toInt ∧ (xs (i + k)).toInt ≤ (B k).2) {a : lq_V} {v : Value} {k : Nat} {I : tk_I} (hg : lq_g b ax am i xs a v) (h : lq_fit B a k I = true) : lq_av (k, I) v := by
  unfold lq_fit at h
  unfold lq_g at hg
  split at h
  · next e =>
    rw [e] at hg
    rw [Bool.and_eq_true, Bool.and_eq_true, decide_eq_true_eq, decide_eq_true_eq] at h
    have hg : v = .int (xs (i + a.2)) := hg
    have := hB a.2
    exact Or.inl ⟨Nat.eq_of_beq_eq_true h.1, _, hg, Int.le_trans h.2.1 this.1, Int.le_trans this.2 h.2.2⟩
  · next e =>
    rw [e] at hg
    rw [Bool.and_eq_true, Bool.and_eq_true, Bool.and_eq_true, decide_eq_true_eq, decide_eq_true_eq, decide_eq_true_eq] at h
    have hg : v = .int (nI a.2) := hg
    exact Or.inl ⟨Nat.eq_of_beq_eq_true h.1, _, hg, by rw [nI_i32 h.2.2.2]; exact h.2.1, by rw [nI_i32 h.2.2.2]; exact h.2.2.1⟩
  · next e =>
    rw [e] at hg
    rw [Bool.and_eq_true, Bool.and_eq_true, decide_eq_true_eq, decide_eq_true_eq] at h
    obtain ⟨x, hx⟩ : ∃ x : Int32, v = .int x := hg
    have := fm_i32 x
    exact Or.inl ⟨Nat.eq_of_beq_eq_true h.1, x, hx, by have := h.2.1; show I.1 ≤ x.toInt; omega, by have := h.2.2; show x.toInt ≤ I.2; omega⟩
  · next e =>
    rw [e] at hg
    rw [Bool.and_eq_true, Bool.and_eq_true, decide_eq_true_eq, decide_eq_true_eq] at h
    obtain ⟨x, hx⟩ : ∃ x : Int64, v = .long x := hg
    have h1 := Int64.le_toInt x
    have h2 := Int64.toInt_lt x
    exact Or.inr ⟨Nat.eq_of_beq_eq_true h.1, x, hx, by have := h.2.1; show I.1 ≤ x.toInt; omega, by have := h.2.2; show x.toInt ≤ I.2; omega⟩
  · cases h
theorem lq_fits_ok {B : Nat → tk_I} (hB : ∀ k, (B k).1 ≤ (xs (i + k)).toInt ∧ (xs (i + k)).toInt ≤ (B k).2) : ∀ {as : List lq_V} {ks : List Nat} {Is : List tk_I} {av : List Value}, rk_A2 (lq_g b ax am i xs) as av → lq_fits B as ks Is = true → rk_A2 lq_av (ks.zip Is) av ∧ ks.length = Is.length := by
  intro as
  induction as with
  | nil =>
    intro ks Is av hg h
    rw [hg.nil]
    cases ks with
    | nil => cases Is with
      | nil => exact ⟨trivial, rfl⟩
      | cons _ _ => cases h
    | cons _ _ => cases Is <;> cases h
  | cons a as ih =>
    intro ks Is av hg h
    obtain ⟨v, k, rfl, g1, g2⟩ := hg.cons
    cases ks with
    | nil => cases Is <;> cases h
    | cons k0 ks => cases Is with
      | nil => cases h
      | cons I Is =>
        have h := Bool.and_eq_true_iff.mp (show (lq_fit B a k0 I && lq_fits B as ks Is) = true from h)
        obtain ⟨q1, q2⟩ := ih g2 h.2
        exact ⟨⟨lq_fit_ok hB g1 h.1, q1⟩, by rw [List.length_cons, List.length_cons, q2]⟩
theorem lq_ry_ok {ret : lq_V} {y : tk_X} {vals : List Int} {rads : List Nat} {v : Option Value} (h : lq_ry ret y = true) (hr : tk_ret y.1 vals rads (.returned v)) : ∃ u, v = some u ∧ lq_g b ax am i xs ret u := by
  unfold lq_ry at h
  split at h
  · next a ha =>
    rw [ha] at hr
    obtain ⟨u, hg, eu⟩ := hr
    have ev : v = some u := Outcome.returned.inj eu
    refine ⟨u, ev, ?_⟩
    rw [Bool.or_eq_true, Bool.or_eq_true, Bool.and_eq_true, Bool.and_eq_true, Bool.and_eq_true, Bool.and_eq_true, decide_eq_true_eq, decide_eq_true_eq] at h
    unfold lq_g
    rcases h with ⟨h1, h2⟩ | ⟨h1, h2⟩ | ⟨h1, h2, h3⟩
    · rw [Nat.eq_of_beq_eq_true h1]
      obtain ⟨x, rfl, -⟩ := tk_g0 hg (Nat.eq_of_beq_eq_true h2)
      exact ⟨x, rfl⟩
    · rw [Nat.eq_of_beq_eq_true h1]
      obtain ⟨x, rfl, -⟩ := tk_g1 hg (Nat.eq_of_beq_eq_true h2)
      exact ⟨x, rfl⟩
    · rw [Nat.eq_of_beq_eq_true h1]
      subst h2
      obtain ⟨x, rfl, hx⟩ := tk_g0 hg rfl
      have hx : some (ret.2 : Int) = some x.toInt := hx
      have e : x.toInt = (nI ret.2).toInt := by rw [nI_i32 h3]; exact (Option.some.inj hx).symm
      show Value.int x = .int (nI ret.2)
      rw [Int32.toInt_inj.mp e]
  · cases h
end LQG
