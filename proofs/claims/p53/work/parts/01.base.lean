/-! ===== rk: a symbolic executor over bytecode with an exact heap: values, what they stand for ===== -/
/-- a literal, a cell by its number, a symbol by its number, or an int symbol made wide (a long) -/
abbrev rk_V : Type := Value ⊕ (Nat ⊕ (Nat ⊕ Nat))
/-- what is known of a symbol: 0 int, 1 long; its bounds; 2 a reference -/
abbrev rk_T : Type := Nat × Int × Int
/-- a cell: an object (number of its class, fields), or an array (tag, length, what it holds but for the listed places) -/
abbrev rk_C : Type := (Nat × List rk_V) ⊕ (Nat × Nat × rk_V × List (Nat × rk_V))
def rk_A2 {α β : Type} (R : α → β → Prop) : List α → List β → Prop
  | [], [] => True
  | a :: l, b :: l' => R a b ∧ rk_A2 R l l'
  | _, _ => False
theorem rk_A2.get {α β : Type} {R : α → β → Prop} : ∀ {l : List α} {l' : List β}, rk_A2 R l l' → ∀ {i : Nat} {a : α}, l[i]? = some a → ∃ b, l'[i]? = some b ∧ R a b := by
  intro l
  induction l with
  | nil => intro l' _ i a h; simp at h
  | cons x l ih =>
    intro l' h i a hi
    cases l' with
    | nil => exact h.elim
    | cons y l' =>
      cases i with
      | zero => simp at hi; subst hi; exact ⟨y, by simp, h.1⟩
      | succ i => simp at hi ⊢; exact ih h.2 hi
theorem rk_A2.getR {α β : Type} {R : α → β → Prop} : ∀ {l : List α} {l' : List β}, rk_A2 R l l' → ∀ {i : Nat} {b : β}, l'[i]? = some b → ∃ a, l[i]? = some a ∧ R a b := by
  intro l
  induction l with
  | nil => intro l' h i b hi; cases l' with
    | nil => simp at hi
    | cons y l' => exact h.elim
  | cons x l ih =>
    intro l' h i b hi
    cases l' with
    | nil => exact h.elim
    | cons y l' =>
      cases i with
      | zero => simp at hi; subst hi; exact ⟨x, by simp, h.1⟩
      | succ i => simp at hi ⊢; exact ih h.2 hi
theorem rk_A2.len {α β : Type} {R : α → β → Prop} : ∀ {l : List α} {l' : List β}, rk_A2 R l l' → l.length = l'.length := by
  intro l
  induction l with
  | nil => intro l' h; cases l' with
    | nil => rfl
    | cons y l' => exact h.elim
  | cons x l ih => intro l' h; cases l' with
    | nil => exact h.elim
    | cons y l' => simp [ih h.2]
theorem rk_A2.mono {α β : Type} {R R' : α → β → Prop} (hR : ∀ a b, R a b → R' a b) : ∀ {l : List α} {l' : List β}, rk_A2 R l l' → rk_A2 R' l l' := by
  intro l
  induction l with
  | nil => intro l' h; cases l' with
    | nil => trivial
    | cons y l' => exact h.elim
  | cons x l ih => intro l' h; cases l' with
    | nil => exact h.elim
    | cons y l' => exact ⟨hR _ _ h.1, ih h.2⟩
theorem rk_A2.set {α β : Type} {R : α → β → Prop} {a : α} {b : β} (hr : R a b) : ∀ {l : List α} {l' : List β}, rk_A2 R l l' → ∀ (i : Nat), rk_A2 R (l.set i a) (l'.set i b) := by
  intro l
  induction l with
  | nil => intro l' h i; cases l' with
    | nil => simp [rk_A2]
    | cons y l' => exact h.elim
  | cons x l ih => intro l' h i; cases l' with
    | nil => exact h.elim
    | cons y l' => cases i with
      | zero => exact ⟨hr, h.2⟩
      | succ i => exact ⟨h.1, ih h.2 i⟩
/-- only the left one is set, at a place that fits -/
theorem rk_A2.setL {α β : Type} {R : α → β → Prop} {a : α} {b : β} (hr : R a b) : ∀ {l : List α} {l' : List β}, rk_A2 R l l' → ∀ {i : Nat}, l'[i]? = some b → rk_A2 R (l.set i a) l' := by
  intro l
  induction l with
  | nil => intro l' h i hi; cases l' with
    | nil => simp at hi
    | cons y l' => exact h.elim
  | cons x l ih => intro l' h i hi; cases l' with
    | nil => exact h.elim
    | cons y l' => cases i with
      | zero => simp at hi; subst hi; exact ⟨hr, h.2⟩
      | succ i => simp at hi; exact ⟨h.1, ih h.2 hi⟩
theorem rk_A2.app {α β : Type} {R : α → β → Prop} {k : List α} {k' : List β} (hk : rk_A2 R k k') : ∀ {l : List α} {l' : List β}, rk_A2 R l l' → rk_A2 R (l ++ k) (l' ++ k') := by
  intro l
  induction l with
  | nil => intro l' h; cases l' with
    | nil => exact hk
    | cons y l' => exact h.elim
  | cons x l ih => intro l' h; cases l' with
    | nil => exact h.elim
    | cons y l' => exact ⟨h.1, ih h.2⟩
theorem rk_A2.push {α β : Type} {R : α → β → Prop} {a : α} {b : β} {l : List α} {l' : List β} (h : rk_A2 R l l') (hr : R a b) : rk_A2 R (l ++ [a]) (l' ++ [b]) := rk_A2.app (k := [a]) (k' := [b]) ⟨hr, trivial⟩ h
theorem rk_A2.filter {α β : Type} {R : α → β → Prop} {P : α → Bool} {P' : β → Bool} (hP : ∀ a b, R a b → P a = P' b) : ∀ {l : List α} {l' : List β}, rk_A2 R l l' → rk_A2 R (l.filter P) (l'.filter P') := by
  intro l
  induction l with
  | nil => intro l' h; cases l' with
    | nil => trivial
    | cons y l' => exact h.elim
  | cons x l ih => intro l' h; cases l' with
    | nil => exact h.elim
    | cons y l' =>
      have e := hP _ _ h.1
      by_cases q : P x = true
      · rw [List.filter_cons_of_pos q, List.filter_cons_of_pos (e ▸ q)]
        exact ⟨h.1, ih h.2⟩
      · rw [List.filter_cons_of_neg q, List.filter_cons_of_neg (e ▸ q)]
        exact ih h.2
theorem rk_A2.nil {α β : Type} {R : α → β → Prop} {l' : List β} (h : rk_A2 R ([] : List α) l') : l' = [] := by
  cases l' with
  | nil => rfl
  | cons y l' => exact h.elim
theorem rk_A2.cons {α β : Type} {R : α → β → Prop} {a : α} {l : List α} {l' : List β} (h : rk_A2 R (a :: l) l') : ∃ b k, l' = b :: k ∧ R a b ∧ rk_A2 R l k := by
  cases l' with
  | nil => exact h.elim
  | cons y l' => exact ⟨y, l', rfl, h.1, h.2⟩
/-- what a value of the executor stands for -/
def rk_g (vals : List Value) (ads : List Nat) (a : rk_V) (v : Value) : Prop := match a with
  | .inl w => v = w
  | .inr (.inl j) => ∃ x, ads[j]? = some x ∧ v = .ref x
  | .inr (.inr (.inl k)) => vals[k]? = some v
  | .inr (.inr (.inr k)) => ∃ x : Int32, vals[k]? = some (.int x) ∧ v = .long x.toInt64
theorem rk_g.grow {vals vals' : List Value} {ads ads' : List Nat} {a : rk_V} {v : Value} (h : rk_g vals ads a v) (hv : ∃ l, vals' = vals ++ l) (ha : ∃ l, ads' = ads ++ l) : rk_g vals' ads' a v := by
  obtain ⟨l1, rfl⟩ := hv
  obtain ⟨l2, rfl⟩ := ha
  rcases a with w | j | k | k
  · exact h
  · obtain ⟨x, hx, rfl⟩ := h
    exact ⟨x, by rw [List.getElem?_append_left (List.getElem?_eq_some_iff.mp hx).1]; exact hx, rfl⟩
  · show (vals ++ l1)[k]? = some v
    have h' : vals[k]? = some v := h
    rw [List.getElem?_append_left (List.getElem?_eq_some_iff.mp h').1]
    exact h'
  · obtain ⟨x, hx, rfl⟩ := h
    exact ⟨x, by rw [List.getElem?_append_left (List.getElem?_eq_some_iff.mp hx).1]; exact hx, rfl⟩
def rk_tok (t : rk_T) (v : Value) : Prop := (t.1 = 0 ∧ ∃ x : Int32, v = .int x ∧ t.2.1 ≤ x.toInt ∧ x.toInt ≤ t.2.2) ∨ (t.1 = 1 ∧ ∃ x : Int64, v = .long x ∧ t.2.1 ≤ x.toInt ∧ x.toInt ≤ t.2.2) ∨ (t.1 = 2 ∧ ∃ x : Nat, v = .ref x)
def rk_E (env : List rk_T) (vals : List Value) : Prop := rk_A2 rk_tok env vals
def rk_cat (env : List rk_T) (a : rk_V) : Nat := match a with
  | .inl v => v.category
  | .inr (.inl _) => 1
  | .inr (.inr (.inl k)) => match env[k]? with
    | some t => if t.1 = 1 then 2 else 1
    | none => 1
  | .inr (.inr (.inr _)) => 2
theorem rk_cat_ok {env : List rk_T} {vals : List Value} {ads : List Nat} {a : rk_V} {v : Value} (hE : rk_E env vals) (h : rk_g vals ads a v) : rk_cat env a = v.category := by
  rcases a with w | j | k | k
  · have h : v = w := h
    subst h; rfl
  · obtain ⟨x, -, rfl⟩ := h
    rfl
  rotate_left
  · obtain ⟨x, -, rfl⟩ := h
    rfl
  · obtain ⟨t, ht, hr⟩ := hE.getR (show vals[k]? = some v from h)
    show (match env[k]? with
      | some t => if t.1 = 1 then 2 else 1
      | none => 1) = v.category
    rw [ht]
    rcases hr with ⟨h0, x, rfl, -⟩ | ⟨h1, x, rfl, -⟩ | ⟨h1, x, rfl⟩
    · simp [h0, Value.category]
    · simp [h1, Value.category]
    · simp [h1, Value.category]
/-- the bounds of an int -/
def rk_iv (env : List rk_T) (a : rk_V) : Option (Int × Int) := match a with
  | .inl (.int x) => some (x.toInt, x.toInt)
  | .inr (.inr (.inl k)) => match env[k]? with
    | some t => if t.1 = 0 then some t.2 else none
    | none => none
  | _ => none
theorem rk_iv_ok {env : List rk_T} {vals : List Value} {ads : List Nat} {a : rk_V} {v : Value} {I : Int × Int} (hE : rk_E env vals) (h : rk_g vals ads a v) (hi : rk_iv env a = some I) : ∃ x : Int32, v = .int x ∧ I.1 ≤ x.toInt ∧ x.toInt ≤ I.2 := by
  rcases a with w | j | k | k
  · have h : v = w := h
    subst h
    cases v <;> simp [rk_iv] at hi
    subst hi
    exact ⟨_, rfl, Int.le_refl _, Int.le_refl _⟩
  · simp [rk_iv] at hi
  rotate_left
  · simp [rk_iv] at hi
  · obtain ⟨t, ht, hr⟩ := hE.getR (show vals[k]? = some v from h)
    simp only [rk_iv, ht] at hi
    rcases hr with ⟨h0, x, rfl, h1, h2⟩ | ⟨h1, x, rfl, -⟩ | ⟨h1, x, rfl⟩
    · simp [h0] at hi
      subst hi
      exact ⟨x, rfl, h1, h2⟩
    · simp [h1] at hi
    · simp [h1] at hi
/-- is it a long? -/
def rk_isL (env : List rk_T) (a : rk_V) : Bool := match a with
  | .inl (.long _) => true
  | .inr (.inr (.inl k)) => match env[k]? with
    | some t => t.1 == 1
    | none => false
  | .inr (.inr (.inr _)) => true
  | _ => false
theorem rk_isL_ok {env : List rk_T} {vals : List Value} {ads : List Nat} {a : rk_V} {v : Value} (hE : rk_E env vals) (h : rk_g vals ads a v) (hi : rk_isL env a = true) : ∃ x : Int64, v = .long x := by
  rcases a with w | j | k | k
  · have h : v = w := h
    subst h
    cases v <;> simp [rk_isL] at hi
    exact ⟨_, rfl⟩
  · simp [rk_isL] at hi
  rotate_left
  · obtain ⟨x, -, rfl⟩ := h
    exact ⟨_, rfl⟩
  · obtain ⟨t, ht, hr⟩ := hE.getR (show vals[k]? = some v from h)
    simp only [rk_isL, ht] at hi
    rcases hr with ⟨h0, x, rfl, h1, h2⟩ | ⟨h1, x, rfl, -⟩ | ⟨h1, x, rfl⟩
    · simp [h0] at hi
    · exact ⟨x, rfl⟩
    · simp [h1] at hi
/-- an int of which the bounds are known: a literal, or a new symbol -/
def rk_fi (env : List rk_T) (I : Int × Int) : rk_V × List rk_T := if I.1 = I.2 then (.inl (.int (Int32.ofInt I.1)), env) else (.inr (.inr (.inl env.length)), env ++ [(0, I)])
theorem rk_fi_ok {env : List rk_T} {vals : List Value} (ads : List Nat) {I : Int × Int} {x : Int32} (hE : rk_E env vals) (h1 : I.1 ≤ x.toInt) (h2 : x.toInt ≤ I.2) : ∃ l, rk_E (rk_fi env I).2 (vals ++ l) ∧ rk_g (vals ++ l) ads (rk_fi env I).1 (.int x) := by
  unfold rk_fi
  split
  · next e =>
    refine ⟨[], by simpa using hE, ?_⟩
    show Value.int x = Value.int (Int32.ofInt I.1)
    have : I.1 = x.toInt := by omega
    rw [this, Int32.ofInt_toInt]
  · refine ⟨[.int x], rk_A2.push hE (Or.inl ⟨rfl, x, rfl, h1, h2⟩), ?_⟩
    show (vals ++ [Value.int x])[env.length]? = some (.int x)
    rw [hE.len]
    simp
def rk_fl (env : List rk_T) : rk_V × List rk_T := (.inr (.inr (.inl env.length)), env ++ [(1, -9223372036854775808, 9223372036854775807)])
theorem rk_fl_ok {env : List rk_T} {vals : List Value} (ads : List Nat) {x : Int64} (hE : rk_E env vals) : ∃ l, rk_E (rk_fl env).2 (vals ++ l) ∧ rk_g (vals ++ l) ads (rk_fl env).1 (.long x) := by
  refine ⟨[.long x], rk_A2.push hE (Or.inr (Or.inl ⟨rfl, x, rfl, ?_, ?_⟩)), ?_⟩
  · exact Int64.le_toInt x
  · exact Int64.toInt_le x
  · show (vals ++ [Value.long x])[env.length]? = some (.long x)
    rw [hE.len]
    simp
/-- the bounds of a value are narrowed; none: that can't be -/
def rk_cut (env : List rk_T) (a : rk_V) (lo hi : Int) : Option (List rk_T) := match rk_iv env a with
  | some I => if max lo I.1 ≤ min hi I.2 then (match a with
    | .inr (.inr (.inl k)) => some (env.set k (0, max lo I.1, min hi I.2))
    | _ => some env) else none
  | none => some env
theorem rk_cut_ok {env : List rk_T} {vals : List Value} {ads : List Nat} {a : rk_V} {x : Int32} {lo hi : Int} (hE : rk_E env vals) (h : rk_g vals ads a (.int x)) (h1 : lo ≤ x.toInt) (h2 : x.toInt ≤ hi) : ∃ env', rk_cut env a lo hi = some env' ∧ rk_E env' vals := by
  unfold rk_cut
  cases hi' : rk_iv env a with
  | none => exact ⟨env, rfl, hE⟩
  | some I =>
    obtain ⟨y, e, h3, h4⟩ := rk_iv_ok hE h hi'
    cases e
    have hle : max lo I.1 ≤ min hi I.2 := by omega
    simp only [hle, if_true]
    rcases a with w | j | k | k
    · exact ⟨env, rfl, hE⟩
    · exact ⟨env, rfl, hE⟩
    rotate_left
    · exact ⟨env, rfl, hE⟩
    · exact ⟨_, rfl, rk_A2.setL (R := rk_tok) (Or.inl ⟨rfl, x, rfl, by show max lo I.1 ≤ _; omega, by show _ ≤ min hi I.2; omega⟩) hE h⟩
