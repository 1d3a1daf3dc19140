section MG0_0
/-! ===== rk: a symbolic executor over bytecode with an exact heap: values, what they stand for ===== -/
/-- a literal, a cell by its number, a symbol by its number, or an int symbol made wide (a long) -/
abbrev rk_V : Type := Value ⊕ (Nat ⊕ (Nat ⊕ Nat))
/-- what is known of a symbol: 0 int, 1 long; its bounds; 2 a reference -/
abbrev rk_T : Type := Nat × Int × Int
/-- a cell: an object (number of its class, fields), or an array (tag, length, what it holds but for the listed places) -/
abbrev rk_C : Type := (Nat × List rk_V) ⊕ (Nat × Nat × rk_V × List (Nat × rk_V))
def rk_A2 {α β : Type} (R : α → β → Prop) : List α → List β → Prop
  | [], [] => True
  | a :: l, b :: l' => R a b ∧ rk_A2 R l l'
  | _, _ => False
theorem rk_A2.get {α β : Type} {R : α → β → Prop} : ∀ {l : List α} {l' : List β}, rk_A2 R l l' → ∀ {i : Nat} {a : α}, l[i]? = some a → ∃ b, l'[i]? = some b ∧ R a b := by
  intro l
  induction l with
  | nil => intro l' _ i a h; simp at h
  | cons x l ih =>
    intro l' h i a hi
    cases l' with
    | nil => exact h.elim
    | cons y l' =>
      cases i with
      | zero => simp at hi; subst hi; exact ⟨y, by simp, h.1⟩
      | succ i => simp at hi ⊢; exact ih h.2 hi
theorem rk_A2.getR {α β : Type} {R : α → β → Prop} : ∀ {l : List α} {l' : List β}, rk_A2 R l l' → ∀ {i : Nat} {b : β}, l'[i]? = some b → ∃ a, l[i]? = some a ∧ R a b := by
  intro l
  induction l with
  | nil => intro l' h i b hi; cases l' with
    | nil => simp at hi
    | cons y l' => exact h.elim
  | cons x l ih =>
    intro l' h i b hi
    cases l' with
    | nil => exact h.elim
    | cons y l' =>
      cases i with
      | zero => simp at hi; subst hi; exact ⟨x, by simp, h.1⟩
      | succ i => simp at hi ⊢; exact ih h.2 hi
theorem rk_A2.len {α β : Type} {R : α → β → Prop} : ∀ {l : List α} {l' : List β}, rk_A2 R l l' → l.length = l'.length := by
  intro l
  induction l with
  | nil => intro l' h; cases l' with
    | nil => rfl
    | cons y l' => exact h.elim
  | cons x l ih => intro l' h; cases l' with
    | nil => exact h.elim
    | cons y l' => simp [ih h.2]
theorem rk_A2.mono {α β : Type} {R R' : α → β → Prop} (hR : ∀ a b, R a b → R' a b) : ∀ {l : List α} {l' : List β}, rk_A2 R l l' → rk_A2 R' l l' := by
  intro l
  induction l with
  | nil => intro l' h; cases l' with
    | nil => trivial
    | cons y l' => exact h.elim
  | cons x l ih => intro l' h; cases l' with
    | nil => exact h.elim
    | cons y l' => exact ⟨hR _ _ h.1, ih h.2⟩
theorem rk_A2.set {α β : Type} {R : α → β → Prop} {a : α} {b : β} (hr : R a b) : ∀ {l : List α} {l' : List β}, rk_A2 R l l' → ∀ (i : Nat), rk_A2 R (l.set i a) (l'.set i b) := by
  intro l
  induction l with
  | nil => intro l' h i; cases l' with
    | nil => simp [rk_A2]
    | cons y l' => exact h.elim
  | cons x l ih => intro l' h i; cases l' with
    | nil => exact h.elim
    | cons y l' => cases i with
      | zero => exact ⟨hr, h.2⟩
      | succ i => exact ⟨h.1, ih h.2 i⟩
/-- only the left one is set, at a place that fits -/
theorem rk_A2.setL {α β : Type} {R : α → β → Prop} {a : α} {b : β} (hr : R a b) : ∀ {l : List α} {l' : List β}, rk_A2 R l l' → ∀ {i : Nat}, l'[i]? = some b → rk_A2 R (l.set i a) l' := by
  intro l
  induction l with
  | nil => intro l' h i hi; cases l' with
    | nil => simp at hi
    | cons y l' => exact h.elim
  | cons x l ih => intro l' h i hi; cases l' with
    | nil => exact h.elim
    | cons y l' => cases i with
      | zero => simp at hi; subst hi; exact ⟨hr, h.2⟩
      | succ i => simp at hi; exact ⟨h.1, ih h.2 hi⟩
theorem rk_A2.app {α β : Type} {R : α → β → Prop} {k : List α} {k' : List β} (hk : rk_A2 R k k') : ∀ {l : List α} {l' : List β}, rk_A2 R l l' → rk_A2 R (l ++ k) (l' ++ k') := by
  intro l
  induction l with
  | nil => intro l' h; cases l' with
    | nil => exact hk
    | cons y l' => exact h.elim
  | cons x l ih => intro l' h; cases l' with
    | nil => exact h.elim
    | cons y l' => exact ⟨h.1, ih h.2⟩
theorem rk_A2.push {α β : Type} {R : α → β → Prop} {a : α} {b : β} {l : List α} {l' : List β} (h : rk_A2 R l l') (hr : R a b) : rk_A2 R (l ++ [a]) (l' ++ [b]) := rk_A2.app (k := [a]) (k' := [b]) ⟨hr, trivial⟩ h
theorem rk_A2.filter {α β : Type} {R : α → β → Prop} {P : α → Bool} {P' : β → Bool} (hP : ∀ a b, R a b → P a = P' b) : ∀ {l : List α} {l' : List β}, rk_A2 R l l' → rk_A2 R (l.filter P) (l'.filter P') := by
  intro l
  induction l with
  | nil => intro l' h; cases l' with
    | nil => trivial
    | cons y l' => exact h.elim
  | cons x l ih => intro l' h; cases l' with
    | nil => exact h.elim
    | cons y l' =>
      have e := hP _ _ h.1
      by_cases q : P x = true
      · rw [List.filter_cons_of_pos q, List.filter_cons_of_pos (e ▸ q)]
        exact ⟨h.1, ih h.2⟩
      · rw [List.filter_cons_of_neg q, List.filter_cons_of_neg (e ▸ q)]
        exact ih h.2
theorem rk_A2.nil {α β : Type} {R : α → β → Prop} {l' : List β} (h : rk_A2 R ([] : List α) l') : l' = [] := by
  cases l' with
  | nil => rfl
  | cons y l' => exact h.elim
theorem rk_A2.cons {α β : Type} {R : α → β → Prop} {a : α} {l : List α} {l' : List β} (h : rk_A2 R (a :: l) l') : ∃ b k, l' = b :: k ∧ R a b ∧ rk_A2 R l k := by
  cases l' with
  | nil => exact h.elim
  | cons y l' => exact ⟨y, l', rfl, h.1, h.2⟩
/-- what a value of the executor stands for -/
def rk_g (vals : List Value) (ads : List Nat) (a : rk_V) (v : Value) : Prop := match a with
  | .inl w => v = w
  | .inr (.inl j) => ∃ x, ads[j]? = some x ∧ v = .ref x
  | .inr (.inr (.inl k)) => vals[k]? = some v
  | .inr (.inr (.inr k)) => ∃ x : Int32, vals[k]? = some (.int x) ∧ v = .long x.toInt64
theorem rk_g.grow {vals vals' : List Value} {ads ads' : List Nat} {a : rk_V} {v : Value} (h : rk_g vals ads a v) (hv : ∃ l, vals' = vals ++ l) (ha : ∃ l, ads' = ads ++ l) : rk_g vals' ads' a v := by
  obtain ⟨l1, rfl⟩ := hv
  obtain ⟨l2, rfl⟩ := ha
  rcases a with w | j | k | k
  · exact h
  · obtain ⟨x, hx, rfl⟩ := h
    exact ⟨x, by rw [List.getElem?_append_left (List.getElem?_eq_some_iff.mp hx).1]; exact hx, rfl⟩
  · show (vals ++ l1)[k]? = some v
    have h' : vals[k]? = some v := h
    rw [List.getElem?_append_left (List.getElem?_eq_some_iff.mp h').1]
    exact h'
  · obtain ⟨x, hx, rfl⟩ := h
    exact ⟨x, by rw [List.getElem?_append_left (List.getElem?_eq_some_iff.mp hx).1]; exact hx, rfl⟩
def rk_tok (t : rk_T) (v : Value) : Prop := (t.1 = 0 ∧ ∃ x : Int32, v = .int x ∧ t.2.1 ≤ x.toInt ∧ x.toInt ≤ t.2.2) ∨ (t.1 = 1 ∧ ∃ x : Int64, v = .long x ∧ t.2.1 ≤ x.toInt ∧ x.toInt ≤ t.2.2) ∨ (t.1 = 2 ∧ ∃ x : Nat, v = .ref x)
def rk_E (env : List rk_T) (vals : List Value) : Prop := rk_A2 rk_tok env vals
def rk_cat (env : List rk_T) (a : rk_V) : Nat := match a with
  | .inl v => v.category
  | .inr (.inl _) => 1
  | .inr (.inr (.inl k)) => match env[k]? with
    | some t => if t.1 = 1 then 2 else 1
    | none => 1
  | .inr (.inr (.inr _)) => 2
theorem rk_cat_ok {env : List rk_T} {vals : List Value} {ads : List Nat} {a : rk_V} {v : Value} (hE : rk_E env vals) (h : rk_g vals ads a v) : rk_cat env a = v.category := by
  rcases a with w | j | k | k
  · have h : v = w := h
    subst h; rfl
  · obtain ⟨x, -, rfl⟩ := h
    rfl
  rotate_left
  · obtain ⟨x, -, rfl⟩ := h
    rfl
  · obtain ⟨t, ht, hr⟩ := hE.getR (show vals[k]? = some v from h)
    show (match env[k]? with
      | some t => if t.1 = 1 then 2 else 1
      | none => 1) = v.category
    rw [ht]
    rcases hr with ⟨h0, x, rfl, -⟩ | ⟨h1, x, rfl, -⟩ | ⟨h1, x, rfl⟩
    · simp [h0, Value.category]
    · simp [h1, Value.category]
    · simp [h1, Value.category]
/-- the bounds of an int -/
def rk_iv (env : List rk_T) (a : rk_V) : Option (Int × Int) := match a with
  | .inl (.int x) => some (x.toInt, x.toInt)
  | .inr (.inr (.inl k)) => match env[k]? with
    | some t => if t.1 = 0 then some t.2 else none
    | none => none
  | _ => none
theorem rk_iv_ok {env : List rk_T} {vals : List Value} {ads : List Nat} {a : rk_V} {v : Value} {I : Int × Int} (hE : rk_E env vals) (h : rk_g vals ads a v) (hi : rk_iv env a = some I) : ∃ x : Int32, v = .int x ∧ I.1 ≤ x.toInt ∧ x.toInt ≤ I.2 := by
  rcases a with w | j | k | k
  · have h : v = w := h
    subst h
    cases v <;> simp [rk_iv] at hi
    subst hi
    exact ⟨_, rfl, Int.le_refl _, Int.le_refl _⟩
  · simp [rk_iv] at hi
  rotate_left
  · simp [rk_iv] at hi
  · obtain ⟨t, ht, hr⟩ := hE.getR (show vals[k]? = some v from h)
    simp only [rk_iv, ht] at hi
    rcases hr with ⟨h0, x, rfl, h1, h2⟩ | ⟨h1, x, rfl, -⟩ | ⟨h1, x, rfl⟩
    · simp [h0] at hi
      subst hi
      exact ⟨x, rfl, h1, h2⟩
    · simp [h1] at hi
    · simp [h1] at hi
/-- is it a long? -/
def rk_isL (env : List rk_T) (a : rk_V) : Bool := match a with
  | .inl (.long _) => true
  | .inr (.inr (.inl k)) => match env[k]? with
    | some t => t.1 == 1
    | none => false
  | .inr (.inr (.inr _)) => true
  | _ => false
theorem rk_isL_ok {env : List rk_T} {vals : List Value} {ads : List Nat} {a : rk_V} {v : Value} (hE : rk_E env vals) (h : rk_g vals ads a v) (hi : rk_isL env a = true) : ∃ x : Int64, v = .long x := by
  rcases a with w | j | k | k
  · have h : v = w := h
    subst h
    cases v <;> simp [rk_isL] at hi
    exact ⟨_, rfl⟩
  · simp [rk_isL] at hi
  rotate_left
  · obtain ⟨x, -, rfl⟩ := h
    exact ⟨_, rfl⟩
  · obtain ⟨t, ht, hr⟩ := hE.getR (show vals[k]? = some v from h)
    simp only [rk_isL, ht] at hi
    rcases hr with ⟨h0, x, rfl, h1, h2⟩ | ⟨h1, x, rfl, -⟩ | ⟨h1, x, rfl⟩
    · simp [h0] at hi
    · exact ⟨x, rfl⟩
    · simp [h1] at hi
/-- an int of which the bounds are known: a literal, or a new symbol -/
def rk_fi (env : List rk_T) (I : Int × Int) : rk_V × List rk_T := if I.1 = I.2 then (.inl (.int (Int32.ofInt I.1)), env) else (.inr (.inr (.inl env.length)), env ++ [(0, I)])
theorem rk_fi_ok {env : List rk_T} {vals : List Value} (ads : List Nat) {I : Int × Int} {x : Int32} (hE : rk_E env vals) (h1 : I.1 ≤ x.toInt) (h2 : x.toInt ≤ I.2) : ∃ l, rk_E (rk_fi env I).2 (vals ++ l) ∧ rk_g (vals ++ l) ads (rk_fi env I).1 (.int x) := by
  unfold rk_fi
  split
  · next e =>
    refine ⟨[], by simpa using hE, ?_⟩
    show Value.int x = Value.int (Int32.ofInt I.1)
    have : I.1 = x.toInt := by omega
    rw [this, Int32.ofInt_toInt]
  · refine ⟨[.int x], rk_A2.push hE (Or.inl ⟨rfl, x, rfl, h1, h2⟩), ?_⟩
    show (vals ++ [Value.int x])[env.length]? = some (.int x)
    rw [hE.len]
    simp
def rk_fl (env : List rk_T) : rk_V × List rk_T := (.inr (.inr (.inl env.length)), env ++ [(1, -9223372036854775808, 9223372036854775807)])
theorem rk_fl_ok {env : List rk_T} {vals : List Value} (ads : List Nat) {x : Int64} (hE : rk_E env vals) : ∃ l, rk_E (rk_fl env).2 (vals ++ l) ∧ rk_g (vals ++ l) ads (rk_fl env).1 (.long x) := by
  refine ⟨[.long x], rk_A2.push hE (Or.inr (Or.inl ⟨rfl, x, rfl, ?_, ?_⟩)), ?_⟩
  · exact Int64.le_toInt x
  · exact Int64.toInt_le x
  · show (vals ++ [Value.long x])[env.length]? = some (.long x)
    rw [hE.len]
    simp
/-- the bounds of a value are narrowed; none: that can't be -/
def rk_cut (env : List rk_T) (a : rk_V) (lo hi : Int) : Option (List rk_T) := match rk_iv env a with
  | some I => if max lo I.1 ≤ min hi I.2 then (match a with
    | .inr (.inr (.inl k)) => some (env.set k (0, max lo I.1, min hi I.2))
    | _ => some env) else none
  | none => some env
theorem rk_cut_ok {env : List rk_T} {vals : List Value} {ads : List Nat} {a : rk_V} {x : Int32} {lo hi : Int} (hE : rk_E env vals) (h : rk_g vals ads a (.int x)) (h1 : lo ≤ x.toInt) (h2 : x.toInt ≤ hi) : ∃ env', rk_cut env a lo hi = some env' ∧ rk_E env' vals := by
  unfold rk_cut
  cases hi' : rk_iv env a with
  | none => exact ⟨env, rfl, hE⟩
  | some I =>
    obtain ⟨y, e, h3, h4⟩ := rk_iv_ok hE h hi'
    cases e
    have hle : max lo I.1 ≤ min hi I.2 := by omega
    simp only [hle, if_true]
    rcases a with w | j | k | k
    · exact ⟨env, rfl, hE⟩
    · exact ⟨env, rfl, hE⟩
    rotate_left
    · exact ⟨env, rfl, hE⟩
    · exact ⟨_, rfl, rk_A2.setL (R := rk_tok) (Or.inl ⟨rfl, x, rfl, by show max lo I.1 ≤ _; omega, by show _ ≤ min hi I.2; omega⟩) hE h⟩
end MG0_0
section MG0_1
/-! ===== rk: one step ===== -/
/-- a method: its instructions, its locals, what its constants link (index, kind, two numbers), its literals -/
abbrev rk_M : Type := List (Nat × Instr × Nat) × Nat × List (Nat × Nat × Nat × Nat) × List (Nat × Value)
/-- locals, stack, symbols, cells; cells and slots made so far -/
abbrev rk_D : Type := FieldType × Nat × rk_V × List (Nat × rk_V)
abbrev rk_H : Type := (Nat × List rk_V) ⊕ rk_D
abbrev rk_S : Type := List (Nat × rk_V) × List rk_V × List rk_T × List rk_H × Nat × Nat
/-- an end: what it returns, symbols, cells, made so far -/
abbrev rk_X : Type := Option rk_V × List rk_T × List rk_H × Nat × Nat
abbrev rk_R : Type := Option (List (Nat × rk_S))
def rk_look (d : rk_V) : List (Nat × rk_V) → Nat → rk_V
  | [], _ => d
  | q :: r, j => if q.1 = j then q.2 else rk_look d r j
def rk_ld : List (Nat × rk_V) → Nat → Option rk_V
  | [], _ => none
  | q :: r, j => if q.1 = j then some q.2 else rk_ld r j
def rk_st1 (env : List rk_T) (lo : List (Nat × rk_V)) (i : Nat) (a : rk_V) : List (Nat × rk_V) := (i, a) :: lo.filter (fun q => !(q.1 == i) && !(q.1 + 1 == i && rk_cat env q.2 == 2))
def rk_st2 (env : List rk_T) (lo : List (Nat × rk_V)) (i : Nat) (a : rk_V) : List (Nat × rk_V) := (i, a) :: lo.filter (fun q => !(q.1 == i) && (!(q.1 == i + 1) && !(q.1 + 1 == i && rk_cat env q.2 == 2)))
def rk_full : Int × Int := (-2147483648, 2147483647)
def rk_iadd (I J : Int × Int) : Int × Int := if -2147483648 ≤ I.1 + J.1 ∧ I.2 + J.2 ≤ 2147483647 then (I.1 + J.1, I.2 + J.2) else rk_full
def rk_isub (I J : Int × Int) : Int × Int := if -2147483648 ≤ I.1 - J.2 ∧ I.2 - J.1 ≤ 2147483647 then (I.1 - J.2, I.2 - J.1) else rk_full
def rk_iand (I J : Int × Int) : Int × Int := if 0 ≤ J.1 then (0, J.2) else if 0 ≤ I.1 then (0, I.2) else rk_full
/-- two ints, an int -/
def rk_bin (f : Int32 → Int32 → Int32) (g : Int × Int → Int × Int → Int × Int) (env : List rk_T) (a b : rk_V) : Option (rk_V × List rk_T) := match a, b with
  | .inl (.int x), .inl (.int y) => some (.inl (.int (f x y)), env)
  | a, b => match rk_iv env a, rk_iv env b with
    | some I, some J => some (rk_fi env (g I J))
    | _, _ => none
def rk_un (f : Int32 → Int32) (I : Int × Int) (env : List rk_T) (a : rk_V) : Option (rk_V × List rk_T) := match a with
  | .inl (.int x) => some (.inl (.int (f x)), env)
  | a => match rk_iv env a with
    | some _ => some (rk_fi env I)
    | none => none
def rk_lbin (f : Int64 → Int64 → Int64) (env : List rk_T) (a b : rk_V) : Option (rk_V × List rk_T) := match a, b with
  | .inl (.long x), .inl (.long y) => some (.inl (.long (f x y)), env)
  | a, b => if rk_isL env a && rk_isL env b then some (rk_fl env) else none
def rk_lsh (f : Int64 → Int32 → Int64) (env : List rk_T) (a b : rk_V) : Option (rk_V × List rk_T) := match a, b with
  | .inl (.long x), .inl (.int y) => some (.inl (.long (f x y)), env)
  | a, b => if rk_isL env a && (rk_iv env b).isSome then some (rk_fl env) else none
def rk_op2 (r : Option (rk_V × List rk_T)) (pc : Nat) (lo : List (Nat × rk_V)) (sk : List rk_V) (hp : List rk_H) (nc ns : Nat) : rk_R := match r with
  | some q => some [(pc, (lo, q.1 :: sk, q.2, hp, nc, ns))]
  | none => none
/-- where a comparison holds, and where it doesn't: the bounds of both, narrowed -/
def rk_cond (c : ClassFile.Cond) (env : List rk_T) (a b : rk_V) (I J : Int × Int) : Option (List rk_T) := match c with
  | .lt => (rk_cut env a (-2147483648) (J.2 - 1)).bind (fun e => rk_cut e b (I.1 + 1) 2147483647)
  | .ge => (rk_cut env a J.1 2147483647).bind (fun e => rk_cut e b (-2147483648) I.2)
  | .gt => (rk_cut env a (J.1 + 1) 2147483647).bind (fun e => rk_cut e b (-2147483648) (I.2 - 1))
  | .le => (rk_cut env a (-2147483648) J.2).bind (fun e => rk_cut e b I.1 2147483647)
  | .eq => (rk_cut env a J.1 J.2).bind (fun e => rk_cut e b I.1 I.2)
  | .ne => if I.1 = I.2 ∧ J.1 = J.2 ∧ I.1 = J.1 then none else if J.1 = J.2 ∧ J.1 = I.1 then rk_cut env a (I.1 + 1) 2147483647 else if J.1 = J.2 ∧ J.1 = I.2 then rk_cut env a (-2147483648) (I.2 - 1) else if I.1 = I.2 ∧ I.1 = J.1 then rk_cut env b (J.1 + 1) 2147483647 else if I.1 = I.2 ∧ I.1 = J.2 then rk_cut env b (-2147483648) (J.2 - 1) else some env
def rk_not : ClassFile.Cond → ClassFile.Cond
  | .eq => .ne | .ne => .eq | .lt => .ge | .ge => .lt | .gt => .le | .le => .gt
def rk_opt (r : Option (List rk_T)) (pc : Nat) (lo : List (Nat × rk_V)) (sk : List rk_V) (hp : List rk_H) (nc ns : Nat) : List (Nat × rk_S) := match r with
  | some e => [(pc, (lo, sk, e, hp, nc, ns))]
  | none => []
def rk_if (c : ClassFile.Cond) (off : Int) (pc : Nat) (a b : rk_V) (lo : List (Nat × rk_V)) (sk : List rk_V) (env : List rk_T) (hp : List rk_H) (nc ns : Nat) : rk_R := match rk_iv env a, rk_iv env b with
  | some I, some J => if 0 ≤ (pc : Int) + off then some (rk_opt (rk_cond c env a b I J) ((pc : Int) + off).toNat lo sk hp nc ns ++ rk_opt (rk_cond (rk_not c) env a b I J) (pc + 3) lo sk hp nc ns) else none
  | _, _ => none
/-- an int that is loaded: a symbol of one value is its literal -/
def rk_norm (env : List rk_T) (a : rk_V) : rk_V := match rk_iv env a with
  | some I => if I.1 = I.2 then .inl (.int (Int32.ofInt I.1)) else a
  | none => a
def rk_ldi (lo : List (Nat × rk_V)) (i : Nat) (pc : Nat) (sk : List rk_V) (env : List rk_T) (hp : List rk_H) (nc ns : Nat) : rk_R := match rk_ld lo i with
  | some a => if (rk_iv env a).isSome then some [(pc, (lo, rk_norm env a :: sk, env, hp, nc, ns))] else none
  | none => none
def rk_ldl (lo : List (Nat × rk_V)) (i : Nat) (pc : Nat) (sk : List rk_V) (env : List rk_T) (hp : List rk_H) (nc ns : Nat) : rk_R := match rk_ld lo i with
  | some a => if rk_isL env a then some [(pc, (lo, a :: sk, env, hp, nc, ns))] else none
  | none => none
def rk_lda (lo : List (Nat × rk_V)) (i : Nat) (pc : Nat) (sk : List rk_V) (env : List rk_T) (hp : List rk_H) (nc ns : Nat) : rk_R := match rk_ld lo i with
  | some (.inr (.inl j)) => some [(pc, (lo, .inr (.inl j) :: sk, env, hp, nc, ns))]
  | _ => none
def rk_sti (nL i pc : Nat) (lo : List (Nat × rk_V)) (sk : List rk_V) (env : List rk_T) (hp : List rk_H) (nc ns : Nat) : rk_R := match sk with
  | a :: sk => if (rk_iv env a).isSome ∧ i < nL then some [(pc, (rk_st1 env lo i a, sk, env, hp, nc, ns))] else none
  | _ => none
def rk_stl (nL i pc : Nat) (lo : List (Nat × rk_V)) (sk : List rk_V) (env : List rk_T) (hp : List rk_H) (nc ns : Nat) : rk_R := match sk with
  | a :: sk => if rk_isL env a = true ∧ i + 1 < nL then some [(pc, (rk_st2 env lo i a, sk, env, hp, nc, ns))] else none
  | _ => none
def rk_sta (nL i pc : Nat) (lo : List (Nat × rk_V)) (sk : List rk_V) (env : List rk_T) (hp : List rk_H) (nc ns : Nat) : rk_R := match sk with
  | .inr (.inl j) :: sk => if i < nL then some [(pc, (rk_st1 env lo i (.inr (.inl j)), sk, env, hp, nc, ns))] else none
  | _ => none
/-- the steps that look at no cell -/
def rk_pure (nL : Nat) (pc : Nat) (ins : Instr) (st : rk_S) : rk_R :=
  let lo := st.1; let sk := st.2.1; let env := st.2.2.1; let hp := st.2.2.2.1; let nc := st.2.2.2.2.1; let ns := st.2.2.2.2.2
  match ins with
  | .iconst n => some [(pc + 1, (lo, .inl (.int (Int32.ofInt n)) :: sk, env, hp, nc, ns))]
  | .bipush n => some [(pc + 2, (lo, .inl (.int (Int8.ofInt n).toInt32) :: sk, env, hp, nc, ns))]
  | .sipush n => some [(pc + 3, (lo, .inl (.int (Int16.ofInt n).toInt32) :: sk, env, hp, nc, ns))]
  | .lconst n => some [(pc + 1, (lo, .inl (.long (Int64.ofNat (n : Nat))) :: sk, env, hp, nc, ns))]
  | .aconst_null => some [(pc + 1, (lo, .inl .null :: sk, env, hp, nc, ns))]
  | .iload_n k => rk_ldi lo k (pc + 1) sk env hp nc ns
  | .iload i => rk_ldi lo i (pc + 2) sk env hp nc ns
  | .lload_n k => rk_ldl lo k (pc + 1) sk env hp nc ns
  | .lload i => rk_ldl lo i (pc + 2) sk env hp nc ns
  | .aload_n k => rk_lda lo k (pc + 1) sk env hp nc ns
  | .aload i => rk_lda lo i (pc + 2) sk env hp nc ns
  | .istore_n k => rk_sti nL k (pc + 1) lo sk env hp nc ns
  | .istore i => rk_sti nL i (pc + 2) lo sk env hp nc ns
  | .lstore_n k => rk_stl nL k (pc + 1) lo sk env hp nc ns
  | .lstore i => rk_stl nL i (pc + 2) lo sk env hp nc ns
  | .astore_n k => rk_sta nL k (pc + 1) lo sk env hp nc ns
  | .astore i => rk_sta nL i (pc + 2) lo sk env hp nc ns
  | .iinc i n => match rk_ld lo i with
    | some a => if i < nL then (match rk_bin (fun x y => x + y) rk_iadd env a (.inl (.int (Int32.ofInt n))) with
      | some q => some [(pc + 3, (rk_st1 q.2 lo i q.1, sk, q.2, hp, nc, ns))]
      | none => none) else none
    | none => none
  | .dup => match sk with
    | a :: r => if rk_cat env a = 1 then some [(pc + 1, (lo, a :: a :: r, env, hp, nc, ns))] else none
    | _ => none
  | .dup2 => match sk with
    | a :: b :: r => if rk_cat env a = 1 ∧ rk_cat env b = 1 then some [(pc + 1, (lo, a :: b :: a :: b :: r, env, hp, nc, ns))] else if rk_cat env a = 2 then some [(pc + 1, (lo, a :: a :: b :: r, env, hp, nc, ns))] else none
    | _ => none
  | .pop => match sk with
    | a :: r => if rk_cat env a = 1 then some [(pc + 1, (lo, r, env, hp, nc, ns))] else none
    | _ => none
  | .pop2 => match sk with
    | a :: r => if rk_cat env a = 2 then some [(pc + 1, (lo, r, env, hp, nc, ns))] else none
    | _ => none
  | .iadd => match sk with
    | b :: a :: r => rk_op2 (rk_bin (fun x y => x + y) rk_iadd env a b) (pc + 1) lo r hp nc ns
    | _ => none
  | .isub => match sk with
    | b :: a :: r => rk_op2 (rk_bin (fun x y => x - y) rk_isub env a b) (pc + 1) lo r hp nc ns
    | _ => none
  | .imul => match sk with
    | b :: a :: r => rk_op2 (rk_bin (fun x y => x * y) (fun _ _ => rk_full) env a b) (pc + 1) lo r hp nc ns
    | _ => none
  | .iand => match sk with
    | b :: a :: r => rk_op2 (rk_bin (fun x y => x &&& y) rk_iand env a b) (pc + 1) lo r hp nc ns
    | _ => none
  | .ior => match sk with
    | b :: a :: r => rk_op2 (rk_bin (fun x y => x ||| y) (fun _ _ => rk_full) env a b) (pc + 1) lo r hp nc ns
    | _ => none
  | .ixor => match sk with
    | b :: a :: r => rk_op2 (rk_bin (fun x y => x ^^^ y) (fun _ _ => rk_full) env a b) (pc + 1) lo r hp nc ns
    | _ => none
  | .ifCond c off => match sk with
    | a :: r => rk_if c off pc a (.inl (.int 0)) lo r env hp nc ns
    | _ => none
  | .if_icmp c off => match sk with
    | b :: a :: r => rk_if c off pc a b lo r env hp nc ns
    | _ => none
  | .goto off => if 0 ≤ (pc : Int) + off then some [(((pc : Int) + off).toNat, st)] else none
  | _ => none
/-- a switch: the places one behind the other, from a value on -/
def rk_sw (a : rk_V) (pc : Nat) (lo : List (Nat × rk_V)) (sk : List rk_V) (env : List rk_T) (hp : List rk_H) (nc ns : Nat) : Int → List Int → Option (List (Nat × rk_S))
  | _, [] => some []
  | v, o :: r => if 0 ≤ (pc : Int) + o then (rk_sw a pc lo sk env hp nc ns (v + 1) r).map (fun l => rk_opt (rk_cut env a v v) ((pc : Int) + o).toNat lo sk hp nc ns ++ l) else none
/-- a divisor that is not 0 -/
def rk_nz (env : List rk_T) (b : rk_V) : Bool := match rk_iv env b with
  | some J => decide (0 < J.1) || decide (J.2 < 0)
  | none => false
def rk_lnz : rk_V → Bool
  | .inl (.long y) => decide (¬ y = 0)
  | _ => false
def rk_irem (I J : Int × Int) : Int × Int := if 0 ≤ I.1 ∧ 0 < J.1 then (0, J.2 - 1) else rk_full
/-- the steps that look at no cell, more -/
def rk_pure2 (pc : Nat) (ins : Instr) (st : rk_S) : rk_R :=
  let lo := st.1; let sk := st.2.1; let env := st.2.2.1; let hp := st.2.2.2.1; let nc := st.2.2.2.2.1; let ns := st.2.2.2.2.2
  match ins with
  | .ishl => match sk with
    | b :: a :: r => rk_op2 (rk_bin (fun x y => x <<< (y &&& 31)) (fun _ _ => rk_full) env a b) (pc + 1) lo r hp nc ns
    | _ => none
  | .ishr => match sk with
    | b :: a :: r => rk_op2 (rk_bin (fun x y => x >>> (y &&& 31)) (fun _ _ => rk_full) env a b) (pc + 1) lo r hp nc ns
    | _ => none
  | .iushr => match sk with
    | b :: a :: r => rk_op2 (rk_bin (fun x y => (x.toUInt32 >>> (y.toUInt32 &&& Int32.toUInt32 31)).toInt32) (fun _ _ => rk_full) env a b) (pc + 1) lo r hp nc ns
    | _ => none
  | .idiv => match sk with
    | b :: a :: r => if rk_nz env b then rk_op2 (rk_bin (fun x y => x / y) (fun _ _ => rk_full) env a b) (pc + 1) lo r hp nc ns else none
    | _ => none
  | .irem => match sk with
    | b :: a :: r => if rk_nz env b then rk_op2 (rk_bin (fun x y => x - x / y * y) rk_irem env a b) (pc + 1) lo r hp nc ns else none
    | _ => none
  | .ineg => match sk with
    | a :: r => rk_op2 (rk_un (fun x => -x) rk_full env a) (pc + 1) lo r hp nc ns
    | _ => none
  | .i2b => match sk with
    | a :: r => rk_op2 (rk_un (fun x => x.toInt8.toInt32) (-128, 127) env a) (pc + 1) lo r hp nc ns
    | _ => none
  | .i2s => match sk with
    | a :: r => rk_op2 (rk_un (fun x => x.toInt16.toInt32) (-32768, 32767) env a) (pc + 1) lo r hp nc ns
    | _ => none
  | .i2l => match sk with
    | .inl (.int x) :: r => some [(pc + 1, (lo, .inl (.long x.toInt64) :: r, env, hp, nc, ns))]
    | .inr (.inr (.inl k)) :: r => if (rk_iv env (.inr (.inr (.inl k)))).isSome then some [(pc + 1, (lo, .inr (.inr (.inr k)) :: r, env, hp, nc, ns))] else none
    | _ => none
  | .l2i => match sk with
    | .inl (.long x) :: r => some [(pc + 1, (lo, .inl (.int x.toInt32) :: r, env, hp, nc, ns))]
    | .inr (.inr (.inr k)) :: r => some [(pc + 1, (lo, .inr (.inr (.inl k)) :: r, env, hp, nc, ns))]
    | a :: r => if rk_isL env a then rk_op2 (some (rk_fi env rk_full)) (pc + 1) lo r hp nc ns else none
    | _ => none
  | .ladd => match sk with
    | b :: a :: r => rk_op2 (rk_lbin (fun x y => x + y) env a b) (pc + 1) lo r hp nc ns
    | _ => none
  | .lsub => match sk with
    | b :: a :: r => rk_op2 (rk_lbin (fun x y => x - y) env a b) (pc + 1) lo r hp nc ns
    | _ => none
  | .lmul => match sk with
    | b :: a :: r => rk_op2 (rk_lbin (fun x y => x * y) env a b) (pc + 1) lo r hp nc ns
    | _ => none
  | .land => match sk with
    | b :: a :: r => rk_op2 (rk_lbin (fun x y => x &&& y) env a b) (pc + 1) lo r hp nc ns
    | _ => none
  | .lor => match sk with
    | b :: a :: r => rk_op2 (rk_lbin (fun x y => x ||| y) env a b) (pc + 1) lo r hp nc ns
    | _ => none
  | .lxor => match sk with
    | b :: a :: r => rk_op2 (rk_lbin (fun x y => x ^^^ y) env a b) (pc + 1) lo r hp nc ns
    | _ => none
  | .ldiv => match sk with
    | b :: a :: r => if rk_lnz b then rk_op2 (rk_lbin (fun x y => x / y) env a b) (pc + 1) lo r hp nc ns else none
    | _ => none
  | .lrem => match sk with
    | b :: a :: r => if rk_lnz b then rk_op2 (rk_lbin (fun x y => x - x / y * y) env a b) (pc + 1) lo r hp nc ns else none
    | _ => none
  | .lshl => match sk with
    | b :: a :: r => rk_op2 (rk_lsh (fun x y => x <<< (y.toInt64 &&& 63)) env a b) (pc + 1) lo r hp nc ns
    | _ => none
  | .lshr => match sk with
    | b :: a :: r => rk_op2 (rk_lsh (fun x y => x >>> (y.toInt64 &&& 63)) env a b) (pc + 1) lo r hp nc ns
    | _ => none
  | .lushr => match sk with
    | b :: a :: r => rk_op2 (rk_lsh (fun x y => (x.toUInt64 >>> (y.toInt64.toUInt64 &&& Int64.toUInt64 63)).toInt64) env a b) (pc + 1) lo r hp nc ns
    | _ => none
  | .lcmp => match sk with
    | .inl (.long y) :: .inl (.long x) :: r => some [(pc + 1, (lo, .inl (.int (lg_cmp x y)) :: r, env, hp, nc, ns))]
    | .inl (.long y) :: .inr (.inr (.inr k)) :: r => some (rk_opt (rk_cut env (.inr (.inr (.inl k))) (y.toInt + 1) 2147483647) (pc + 1) lo (.inl (.int 1) :: r) hp nc ns ++ (rk_opt (rk_cut env (.inr (.inr (.inl k))) y.toInt y.toInt) (pc + 1) lo (.inl (.int 0) :: r) hp nc ns ++ rk_opt (rk_cut env (.inr (.inr (.inl k))) (-2147483648) (y.toInt - 1)) (pc + 1) lo (.inl (.int (-1)) :: r) hp nc ns))
    | .inr (.inr (.inr k)) :: .inl (.long x) :: r => some (rk_opt (rk_cut env (.inr (.inr (.inl k))) (-2147483648) (x.toInt - 1)) (pc + 1) lo (.inl (.int 1) :: r) hp nc ns ++ (rk_opt (rk_cut env (.inr (.inr (.inl k))) x.toInt x.toInt) (pc + 1) lo (.inl (.int 0) :: r) hp nc ns ++ rk_opt (rk_cut env (.inr (.inr (.inl k))) (x.toInt + 1) 2147483647) (pc + 1) lo (.inl (.int (-1)) :: r) hp nc ns))
    | b :: a :: r => if rk_isL env a && rk_isL env b then rk_op2 (some (rk_fi env (-1, 1))) (pc + 1) lo r hp nc ns else none
    | _ => none
  | .tableswitch dflt low high offs => match sk with
    | a :: r => match rk_iv env a with
      | some _ => if offs.toList.length = (high - low + 1).toNat ∧ 0 ≤ (pc : Int) + dflt then (rk_sw a pc lo r env hp nc ns low offs.toList).map (fun l => l ++ (rk_opt (rk_cut env a (-2147483648) (low - 1)) ((pc : Int) + dflt).toNat lo r hp nc ns ++ rk_opt (rk_cut env a (high + 1) 2147483647) ((pc : Int) + dflt).toNat lo r hp nc ns)) else none
      | none => none
    | _ => none
  | _ => none
end MG0_1
section MG0_2
/-! ===== rk: what a state stands for; the steps that look at no cell are sound ===== -/
def rk_arr (vals : List Value) (ads : List Nat) (cA : ClassId) (q : rk_D) (e : va_E) : Prop := match q.1 with
  | .int => ∃ f : Nat → Int32, e = .inl (cA, q.2.1, .inl f) ∧ ∀ j, rk_g vals ads (rk_look q.2.2.1 q.2.2.2 j) (.int (f j))
  | .byte => ∃ f : Nat → Int32, e = .inl (cA, q.2.1, .inl f) ∧ ∀ j, rk_g vals ads (rk_look q.2.2.1 q.2.2.2 j) (.int (f j))
  | .long => ∃ f : Nat → Int64, e = .inl (cA, q.2.1, .inr (.inl f)) ∧ ∀ j, rk_g vals ads (rk_look q.2.2.1 q.2.2.2 j) (.long (f j))
  | .object _ => ∃ f : Nat → Option Nat, e = .inl (cA, q.2.1, .inr (.inr (.inr (.inr f)))) ∧ ∀ j, rk_g vals ads (rk_look q.2.2.1 q.2.2.2 j) (va_rf (f j))
  | .array _ => ∃ f : Nat → Option Nat, e = .inl (cA, q.2.1, .inr (.inr (.inr (.inr f)))) ∧ ∀ j, rk_g vals ads (rk_look q.2.2.1 q.2.2.2 j) (va_rf (f j))
  | _ => False
def rk_c (U : State) (vals : List Value) (ads : List Nat) (c : rk_H) (e : va_E) : Prop := match c with
  | .inl o => ∃ vs, e = .inr (o.1, vs) ∧ rk_A2 (rk_g vals ads) o.2 vs
  | .inr q => ∃ cA, ArrOfT U cA q.1 ∧ va_RA U cA q.1 ∧ rk_arr vals ads cA q e
theorem rk_arr.grow {vals vals' : List Value} {ads ads' : List Nat} {cA : ClassId} {q : rk_D} {e : va_E} (h : rk_arr vals ads cA q e) (hv : ∃ l, vals' = vals ++ l) (ha : ∃ l, ads' = ads ++ l) : rk_arr vals' ads' cA q e := by
  unfold rk_arr at h ⊢
  split at h
  all_goals first
    | exact h.elim
    | (obtain ⟨f, e1, h1⟩ := h
       exact ⟨f, e1, fun j => (h1 j).grow hv ha⟩)
theorem rk_c.grow {U : State} {vals vals' : List Value} {ads ads' : List Nat} {c : rk_H} {e : va_E} (h : rk_c U vals ads c e) (hv : ∃ l, vals' = vals ++ l) (ha : ∃ l, ads' = ads ++ l) : rk_c U vals' ads' c e := by
  rcases c with o | q
  · obtain ⟨vs, e1, h1⟩ := h
    exact ⟨vs, e1, h1.mono (fun _ _ h => h.grow hv ha)⟩
  · obtain ⟨cA, h1, h2, h3⟩ := h
    exact ⟨cA, h1, h2, h3.grow hv ha⟩
def rk_G (s : State) (D : va_G) (cl : List vw_C) (Ad : Nat → Prop) (vals0 : List Value) (ads0 : List Nat) (vals : List Value) (ws : va_W) (H : Heap) (locs : List Loc) (env : List rk_T) (hp : List rk_H) : Prop :=
  rk_E env vals ∧ rk_A2 (fun c q => rk_c s vals (ws.map Prod.fst) c q.2) hp ws ∧ va_P D cl ws H ∧ va_D Ad ws ∧ va_S Ad s.heap H locs ∧ (∃ l, vals = vals0 ++ l) ∧ (∃ l, ws.map Prod.fst = ads0 ++ l)
theorem rk_G.env {s : State} {D : va_G} {cl : List vw_C} {Ad : Nat → Prop} {vals0 : List Value} {ads0 : List Nat} {vals : List Value} {ws : va_W} {H : Heap} {locs : List Loc} {env env' : List rk_T} {hp : List rk_H} (h : rk_G s D cl Ad vals0 ads0 vals ws H locs env hp) {k : List Value} (hE : rk_E env' (vals ++ k)) : rk_G s D cl Ad vals0 ads0 (vals ++ k) ws H locs env' hp := by
  obtain ⟨-, h2, h3, h4, h5, ⟨k0, h6⟩, h7⟩ := h
  exact ⟨hE, h2.mono (fun _ _ h => h.grow ⟨k, rfl⟩ ⟨[], by simp⟩), h3, h4, h5, ⟨k0 ++ k, by rw [h6, List.append_assoc]⟩, h7⟩
theorem rk_G.env0 {s : State} {D : va_G} {cl : List vw_C} {Ad : Nat → Prop} {vals0 : List Value} {ads0 : List Nat} {vals : List Value} {ws : va_W} {H : Heap} {locs : List Loc} {env env' : List rk_T} {hp : List rk_H} (h : rk_G s D cl Ad vals0 ads0 vals ws H locs env hp) (hE : rk_E env' vals) : rk_G s D cl Ad vals0 ads0 vals ws H locs env' hp := ⟨hE, h.2⟩
abbrev rk_K : Type := Nat → Array Slot → List Value → Heap → List Loc → Nat → Nat → Prop
/-- the locals -/
abbrev rk_Lo (vals : List Value) (ads : List Nat) (lo : List (Nat × rk_V)) (lc : List (Nat × Value)) : Prop := rk_A2 (fun (q : Nat × rk_V) (r : Nat × Value) => q.1 = r.1 ∧ rk_g vals ads q.2 r.2) lo lc
theorem rk_Lo.grow {vals : List Value} {ads : List Nat} {lo : List (Nat × rk_V)} {lc : List (Nat × Value)} (h : rk_Lo vals ads lo lc) (k : List Value) : rk_Lo (vals ++ k) ads lo lc := rk_A2.mono (fun _ _ q => ⟨q.1, q.2.grow ⟨k, rfl⟩ ⟨[], by simp⟩⟩) h
theorem rk_skG {vals : List Value} {ads : List Nat} {sk : List rk_V} {stk : List Value} (h : rk_A2 (rk_g vals ads) sk stk) (k : List Value) : rk_A2 (rk_g (vals ++ k) ads) sk stk := rk_A2.mono (fun _ _ q => q.grow ⟨k, rfl⟩ ⟨[], by simp⟩) h
def rk_W (K : rk_K) (s : State) (D : va_G) (cl : List vw_C) (Ad : Nat → Prop) (nL : Nat) (vals0 : List Value) (ads0 : List Nat) (pc : Nat) (st : rk_S) : Prop :=
  ∀ (vals : List Value) (ws : va_W) (H : Heap) (locs : List Loc) (ls : Array Slot) (stk : List Value) (lc : List (Nat × Value)), rk_G s D cl Ad vals0 ads0 vals ws H locs st.2.2.1 st.2.2.2.1 → lv_has ls nL lc → rk_Lo vals (ws.map Prod.fst) st.1 lc → rk_A2 (rk_g vals (ws.map Prod.fst)) st.2.1 stk → K pc ls stk H locs st.2.2.2.2.1 st.2.2.2.2.2
abbrev rk_KW (p : Program) (l : Launch) (e : Env) (R : Room) (s : State) (m : MethodId) (args : Array Value) (below : List Frame) (meth : Method) (c : Code) (Q : State → Prop) : rk_K := fun pc ls stk H locs n k => W p l e R s m args below meth c H locs n k Q (F0 m pc ls stk)
theorem rk_ld_ok {vals : List Value} {ads : List Nat} {i : Nat} {a : rk_V} : ∀ {lo : List (Nat × rk_V)} {lc : List (Nat × Value)}, rk_Lo vals ads lo lc → rk_ld lo i = some a → ∃ v, (i, v) ∈ lc ∧ rk_g vals ads a v := by
  intro lo
  induction lo with
  | nil => intro lc _ h; simp [rk_ld] at h
  | cons q lo ih =>
    intro lc hL h
    obtain ⟨r, k, rfl, h1, h2⟩ := hL.cons
    unfold rk_ld at h
    split at h
    · next e =>
      cases h
      exact ⟨r.2, by rw [← e, h1.1]; exact List.mem_cons_self, h1.2⟩
    · obtain ⟨v, hv, hg⟩ := ih h2 h
      exact ⟨v, List.mem_cons_of_mem _ hv, hg⟩
theorem rk_st1_ok {vals : List Value} {ads : List Nat} {env : List rk_T} {lo : List (Nat × rk_V)} {lc : List (Nat × Value)} {i : Nat} {a : rk_V} {v : Value} (hE : rk_E env vals) (hL : rk_Lo vals ads lo lc) (hg : rk_g vals ads a v) : rk_Lo vals ads (rk_st1 env lo i a) ((i, v) :: lc.filter (fun q => !(q.1 == i) && !(q.1 + 1 == i && q.2.category == 2))) :=
  ⟨⟨rfl, hg⟩, rk_A2.filter (fun q r h => by rw [h.1, rk_cat_ok hE h.2]) hL⟩
theorem rk_st2_ok {vals : List Value} {ads : List Nat} {env : List rk_T} {lo : List (Nat × rk_V)} {lc : List (Nat × Value)} {i : Nat} {a : rk_V} {v : Value} (hE : rk_E env vals) (hL : rk_Lo vals ads lo lc) (hg : rk_g vals ads a v) : rk_Lo vals ads (rk_st2 env lo i a) ((i, v) :: lc.filter (fun q => !(q.1 == i) && (!(q.1 == i + 1) && !(q.1 + 1 == i && q.2.category == 2)))) :=
  ⟨⟨rfl, hg⟩, rk_A2.filter (fun q r h => by rw [h.1, rk_cat_ok hE h.2]) hL⟩
theorem rk_norm_ok {env : List rk_T} {vals : List Value} {ads : List Nat} {a : rk_V} {v : Value} (hE : rk_E env vals) (h : rk_g vals ads a v) : rk_g vals ads (rk_norm env a) v := by
  unfold rk_norm
  cases hi : rk_iv env a with
  | none => exact h
  | some I =>
    obtain ⟨x, rfl, h1, h2⟩ := rk_iv_ok hE h hi
    dsimp only
    split
    · next e =>
      show Value.int x = Value.int (Int32.ofInt I.1)
      have : I.1 = x.toInt := by omega
      rw [this, Int32.ofInt_toInt]
    · exact h
/-- bounds that an operation keeps -/
def rk_sound2 (f : Int32 → Int32 → Int32) (g : Int × Int → Int × Int → Int × Int) : Prop := ∀ (x y : Int32) (I J : Int × Int), I.1 ≤ x.toInt → x.toInt ≤ I.2 → J.1 ≤ y.toInt → y.toInt ≤ J.2 → (g I J).1 ≤ (f x y).toInt ∧ (f x y).toInt ≤ (g I J).2
theorem rk_full_ok (x : Int32) : rk_full.1 ≤ x.toInt ∧ x.toInt ≤ rk_full.2 := ⟨Int32.le_toInt x, Int32.toInt_le x⟩
theorem rk_s_full (f : Int32 → Int32 → Int32) : rk_sound2 f (fun _ _ => rk_full) := fun x y _ _ _ _ _ _ => rk_full_ok (f x y)
theorem rk_s_add : rk_sound2 (fun x y => x + y) rk_iadd := by
  intro x y I J h1 h2 h3 h4
  unfold rk_iadd
  split
  · next h =>
    have e : (x + y).toInt = x.toInt + y.toInt := by
      rw [Int32.toInt_add]
      apply Int.bmod_eq_of_le <;> omega
    rw [e]
    constructor <;> dsimp only <;> omega
  · exact rk_full_ok _
theorem rk_s_sub : rk_sound2 (fun x y => x - y) rk_isub := by
  intro x y I J h1 h2 h3 h4
  unfold rk_isub
  split
  · next h =>
    have e : (x - y).toInt = x.toInt - y.toInt := by
      rw [Int32.toInt_sub]
      apply Int.bmod_eq_of_le <;> omega
    rw [e]
    constructor <;> dsimp only <;> omega
  · exact rk_full_ok _
theorem rk_nn {x : Int32} (h : 0 ≤ x.toInt) : x.toInt = (x.toBitVec.toNat : Int) ∧ x.toBitVec.toNat < 2147483648 := by
  have e : x.toInt = x.toBitVec.toInt := rfl
  rw [e] at h ⊢
  rw [BitVec.toInt_eq_toNat_cond] at h ⊢
  have := x.toBitVec.isLt
  split at h <;> constructor <;> first | (split <;> omega) | omega
theorem rk_of_small {x : Int32} (h : x.toBitVec.toNat < 2147483648) : x.toInt = (x.toBitVec.toNat : Int) := by
  have e : x.toInt = x.toBitVec.toInt := rfl
  rw [e, BitVec.toInt_eq_toNat_cond]
  split <;> omega
theorem rk_s_and : rk_sound2 (fun x y => x &&& y) rk_iand := by
  intro x y I J h1 h2 h3 h4
  have e : (x &&& y).toBitVec.toNat = x.toBitVec.toNat &&& y.toBitVec.toNat := by
    rw [Int32.toBitVec_and, BitVec.toNat_and]
  have l1 : x.toBitVec.toNat &&& y.toBitVec.toNat ≤ x.toBitVec.toNat := Nat.and_le_left
  have l2 : x.toBitVec.toNat &&& y.toBitVec.toNat ≤ y.toBitVec.toNat := Nat.and_le_right
  unfold rk_iand
  split
  · next h =>
    obtain ⟨a1, a2⟩ := rk_nn (x := y) (by omega)
    have := rk_of_small (x := x &&& y) (by omega)
    dsimp only
    omega
  · split
    · next h =>
      obtain ⟨a1, a2⟩ := rk_nn (x := x) (by omega)
      have := rk_of_small (x := x &&& y) (by omega)
      dsimp only
      omega
    · exact rk_full_ok _
theorem rk_bin_ok {f : Int32 → Int32 → Int32} {g : Int × Int → Int × Int → Int × Int} (hs : rk_sound2 f g) {env : List rk_T} {vals : List Value} {ads : List Nat} {a b : rk_V} {va vb : Value} {q : rk_V × List rk_T} (hE : rk_E env vals) (ha : rk_g vals ads a va) (hb : rk_g vals ads b vb) (h : rk_bin f g env a b = some q) :
    ∃ (x y : Int32) (k : List Value), va = .int x ∧ vb = .int y ∧ rk_E q.2 (vals ++ k) ∧ rk_g (vals ++ k) ads q.1 (.int (f x y)) := by
  have key : ∀ I J, rk_iv env a = some I → rk_iv env b = some J → rk_fi env (g I J) = q → ∃ (x y : Int32) (k : List Value), va = .int x ∧ vb = .int y ∧ rk_E q.2 (vals ++ k) ∧ rk_g (vals ++ k) ads q.1 (.int (f x y)) := by
    intro I J hi hj hq
    obtain ⟨x, rfl, h1, h2⟩ := rk_iv_ok hE ha hi
    obtain ⟨y, rfl, h3, h4⟩ := rk_iv_ok hE hb hj
    obtain ⟨h5, h6⟩ := hs x y I J h1 h2 h3 h4
    obtain ⟨k, hk, hg⟩ := rk_fi_ok ads (I := g I J) hE h5 h6
    rw [hq] at hk hg
    exact ⟨x, y, k, rfl, rfl, hk, hg⟩
  unfold rk_bin at h
  split at h
  · cases h
    have ha : va = _ := ha
    have hb : vb = _ := hb
    subst ha; subst hb
    exact ⟨_, _, [], rfl, rfl, by simpa using hE, rfl⟩
  · split at h
    · next I J hi hj => exact key I J hi hj (Option.some.inj h)
    · cases h
theorem rk_un_ok {f : Int32 → Int32} {I0 : Int × Int} (hs : ∀ x, I0.1 ≤ (f x).toInt ∧ (f x).toInt ≤ I0.2) {env : List rk_T} {vals : List Value} {ads : List Nat} {a : rk_V} {va : Value} {q : rk_V × List rk_T} (hE : rk_E env vals) (ha : rk_g vals ads a va) (h : rk_un f I0 env a = some q) :
    ∃ (x : Int32) (k : List Value), va = .int x ∧ rk_E q.2 (vals ++ k) ∧ rk_g (vals ++ k) ads q.1 (.int (f x)) := by
  unfold rk_un at h
  split at h
  · cases h
    have ha : va = _ := ha
    subst ha
    exact ⟨_, [], rfl, by simpa using hE, rfl⟩
  · split at h
    · next I hi =>
      cases h
      obtain ⟨x, rfl, h1, h2⟩ := rk_iv_ok hE ha hi
      obtain ⟨k, hk, hg⟩ := rk_fi_ok ads (I := I0) hE (hs x).1 (hs x).2
      exact ⟨x, k, rfl, hk, hg⟩
    · cases h
theorem rk_lbin_ok {f : Int64 → Int64 → Int64} {env : List rk_T} {vals : List Value} {ads : List Nat} {a b : rk_V} {va vb : Value} {q : rk_V × List rk_T} (hE : rk_E env vals) (ha : rk_g vals ads a va) (hb : rk_g vals ads b vb) (h : rk_lbin f env a b = some q) :
    ∃ (x y : Int64) (k : List Value), va = .long x ∧ vb = .long y ∧ rk_E q.2 (vals ++ k) ∧ rk_g (vals ++ k) ads q.1 (.long (f x y)) := by
  unfold rk_lbin at h
  split at h
  · cases h
    have ha : va = _ := ha
    have hb : vb = _ := hb
    subst ha; subst hb
    exact ⟨_, _, [], rfl, rfl, by simpa using hE, rfl⟩
  · split at h
    · next hl =>
      cases h
      rw [Bool.and_eq_true] at hl
      obtain ⟨x, rfl⟩ := rk_isL_ok hE ha hl.1
      obtain ⟨y, rfl⟩ := rk_isL_ok hE hb hl.2
      obtain ⟨k, hk, hg⟩ := rk_fl_ok ads (x := f x y) hE
      exact ⟨x, y, k, rfl, rfl, hk, hg⟩
    · cases h
theorem rk_lsh_ok {f : Int64 → Int32 → Int64} {env : List rk_T} {vals : List Value} {ads : List Nat} {a b : rk_V} {va vb : Value} {q : rk_V × List rk_T} (hE : rk_E env vals) (ha : rk_g vals ads a va) (hb : rk_g vals ads b vb) (h : rk_lsh f env a b = some q) :
    ∃ (x : Int64) (y : Int32) (k : List Value), va = .long x ∧ vb = .int y ∧ rk_E q.2 (vals ++ k) ∧ rk_g (vals ++ k) ads q.1 (.long (f x y)) := by
  unfold rk_lsh at h
  split at h
  · cases h
    have ha : va = _ := ha
    have hb : vb = _ := hb
    subst ha; subst hb
    exact ⟨_, _, [], rfl, rfl, by simpa using hE, rfl⟩
  · split at h
    · next hl =>
      cases h
      rw [Bool.and_eq_true, Option.isSome_iff_exists] at hl
      obtain ⟨hl, J, hj⟩ := hl
      obtain ⟨x, rfl⟩ := rk_isL_ok hE ha hl
      obtain ⟨y, rfl, -, -⟩ := rk_iv_ok hE hb hj
      obtain ⟨k, hk, hg⟩ := rk_fl_ok ads (x := f x y) hE
      exact ⟨x, y, k, rfl, rfl, hk, hg⟩
    · cases h
end MG0_2
