/-! ===== tk: a state: locals, stack, what is known of the numbers, types of the references, facts of the heap ===== -/
abbrev tk_FA : Type := List (Nat × tk_V × tk_V)
abbrev tk_S : Type := List (Nat × tk_V) × List tk_V × tk_W × List Nat × tk_FA
abbrev tk_R : Type := Option (List (Nat × tk_S))
abbrev tk_Fn : Type := tk_S → tk_R
abbrev tk_Hr : Type := List Int → List Nat → Heap → List Loc → List Nat → tk_FA → Prop
abbrev tk_Lo (vals : List Int) (rads : List Nat) (lo : List (Nat × tk_V)) (lc : List (Nat × Value)) : Prop := rk_A2 (fun (q : Nat × tk_V) (r : Nat × Value) => q.1 = r.1 ∧ tk_g vals rads q.2 r.2) lo lc
theorem tk_Lo.grow {vals : List Int} {rads : List Nat} {lo : List (Nat × tk_V)} {lc : List (Nat × Value)} (h : tk_Lo vals rads lo lc) (l : List Int) (r : List Nat) : tk_Lo (vals ++ l) (rads ++ r) lo lc := rk_A2.mono (fun _ _ q => ⟨q.1, tk_g_grow l r q.2⟩) h
theorem tk_skG {vals : List Int} {rads : List Nat} {sk : List tk_V} {stk : List Value} (h : rk_A2 (tk_g vals rads) sk stk) (l : List Int) (r : List Nat) : rk_A2 (tk_g (vals ++ l) (rads ++ r)) sk stk := rk_A2.mono (fun _ _ q => tk_g_grow l r q) h
/-- the heap's part may know of more numbers and references than there were -/
def tk_gr (Hr : tk_Hr) : Prop := ∀ vals l rads H locs rf fa, Hr vals rads H locs rf fa → Hr (vals ++ l) rads H locs rf fa
def tk_St (K : rk_K) (nL : Nat) (Hr : tk_Hr) (pc : Nat) (st : tk_S) : Prop :=
  ∀ (vals : List Int) (rads : List Nat) (H : Heap) (locs : List Loc) (ls : Array Slot) (stk : List Value) (lc : List (Nat × Value)), tk_H st.2.2.1 vals → Hr vals rads H locs st.2.2.2.1 st.2.2.2.2 → lv_has ls nL lc → tk_Lo vals rads st.1 lc → rk_A2 (tk_g vals rads) st.2.1 stk → K pc ls stk H locs 0 0
def tk_ld : List (Nat × tk_V) → Nat → Option tk_V
  | [], _ => none
  | q :: r, i => cond (Nat.beq q.1 i) (some q.2) (tk_ld r i)
theorem tk_ld_ok {vals : List Int} {rads : List Nat} {i : Nat} {a : tk_V} : ∀ {lo : List (Nat × tk_V)} {lc : List (Nat × Value)}, tk_Lo vals rads lo lc → tk_ld lo i = some a → ∃ v, (i, v) ∈ lc ∧ tk_g vals rads a v := by
  intro lo
  induction lo with
  | nil => intro lc _ h; cases h
  | cons q lo ih =>
    intro lc hL h
    obtain ⟨r, k, rfl, h1, h2⟩ := hL.cons
    unfold tk_ld at h
    cases hb : Nat.beq q.1 i with
    | true =>
      rw [hb] at h
      obtain rfl := Option.some.inj (show some q.2 = some a from h)
      exact ⟨r.2, by rw [← Nat.eq_of_beq_eq_true hb, h1.1]; exact List.mem_cons_self, h1.2⟩
    | false =>
      rw [hb] at h
      obtain ⟨v, hv, hg⟩ := ih h2 h
      exact ⟨v, List.mem_cons_of_mem _ hv, hg⟩
def tk_cat (a : tk_V) : Nat := if a.1 = 1 then 2 else 1
theorem tk_cat_ok {vals : List Int} {rads : List Nat} {a : tk_V} {v : Value} (h : tk_g vals rads a v) : tk_cat a = v.category := by
  unfold tk_g at h
  unfold tk_cat
  split at h
  · next e => obtain ⟨x, rfl, -⟩ := h; rw [e]; rfl
  · next e => obtain ⟨x, rfl, -⟩ := h; rw [e]; rfl
  · next e => obtain ⟨x, -, rfl⟩ := h; rw [e]; rfl
  · next h0 h1 h2 => subst h; rw [if_neg h1]; rfl
def tk_st1 (lo : List (Nat × tk_V)) (i : Nat) (a : tk_V) : List (Nat × tk_V) := (i, a) :: lo.filter (fun q => !(q.1 == i) && !(q.1 + 1 == i && tk_cat q.2 == 2))
def tk_st2 (lo : List (Nat × tk_V)) (i : Nat) (a : tk_V) : List (Nat × tk_V) := (i, a) :: lo.filter (fun q => !(q.1 == i) && (!(q.1 == i + 1) && !(q.1 + 1 == i && tk_cat q.2 == 2)))
theorem tk_st1_ok {vals : List Int} {rads : List Nat} {lo : List (Nat × tk_V)} {lc : List (Nat × Value)} {i : Nat} {a : tk_V} {v : Value} (hL : tk_Lo vals rads lo lc) (hg : tk_g vals rads a v) : tk_Lo vals rads (tk_st1 lo i a) ((i, v) :: lc.filter (fun q => !(q.1 == i) && !(q.1 + 1 == i && q.2.category == 2))) :=
  ⟨⟨rfl, hg⟩, rk_A2.filter (fun q r h => by rw [h.1, tk_cat_ok h.2]) hL⟩
theorem tk_st2_ok {vals : List Int} {rads : List Nat} {lo : List (Nat × tk_V)} {lc : List (Nat × Value)} {i : Nat} {a : tk_V} {v : Value} (hL : tk_Lo vals rads lo lc) (hg : tk_g vals rads a v) : tk_Lo vals rads (tk_st2 lo i a) ((i, v) :: lc.filter (fun q => !(q.1 == i) && (!(q.1 == i + 1) && !(q.1 + 1 == i && q.2.category == 2)))) :=
  ⟨⟨rfl, hg⟩, rk_A2.filter (fun q r h => by rw [h.1, tk_cat_ok h.2]) hL⟩
/-- a number of one value is its literal -/
def tk_nm (env : List tk_I) (a : tk_V) : tk_V := if a.1 ≤ 1 then (match tk_iv env a with
  | some I => if I.1 = I.2 then (a.1, 0, 0, I.1) else a
  | none => a) else a
theorem tk_nm_ok {env : List tk_I} {vals : List Int} {rads : List Nat} {a : tk_V} {v : Value} (hE : tk_E env vals) (h : tk_g vals rads a v) : tk_g vals rads (tk_nm env a) v := by
  unfold tk_nm
  split
  · next hk =>
    split
    · next I hI =>
      split
      · next e =>
        have hc : a.1 = 0 ∨ a.1 = 1 := by omega
        unfold tk_g at h ⊢
        rcases hc with hc | hc <;> rw [hc] at h ⊢ <;> dsimp only at h ⊢ <;> obtain ⟨x, rfl, hx⟩ := h
        · have := tk_iv_ok hE hx hI
          exact ⟨x, rfl, by show some I.1 = some x.toInt; rw [show I.1 = x.toInt from by omega]⟩
        · have := tk_iv_ok hE hx hI
          exact ⟨x, rfl, by show some I.1 = some x.toInt; rw [show I.1 = x.toInt from by omega]⟩
      · exact h
    · exact h
  · exact h
theorem tk_g0 {vals : List Int} {rads : List Nat} {a : tk_V} {v : Value} (h : tk_g vals rads a v) (e : a.1 = 0) : ∃ x : Int32, v = .int x ∧ tk_num vals a = some x.toInt := by
  unfold tk_g at h
  rw [e] at h
  exact h
theorem tk_g1 {vals : List Int} {rads : List Nat} {a : tk_V} {v : Value} (h : tk_g vals rads a v) (e : a.1 = 1) : ∃ x : Int64, v = .long x ∧ tk_num vals a = some x.toInt := by
  unfold tk_g at h
  rw [e] at h
  exact h
theorem tk_g2 {vals : List Int} {rads : List Nat} {a : tk_V} {v : Value} (h : tk_g vals rads a v) (e : a.1 = 2) : ∃ x : Nat, rads[a.2.1]? = some x ∧ v = .ref x := by
  unfold tk_g at h
  rw [e] at h
  exact h
theorem tk_gi {vals : List Int} {rads : List Nat} {a : tk_V} {x : Int32} (e : a.1 = 0) (h : tk_num vals a = some x.toInt) : tk_g vals rads a (.int x) := by
  unfold tk_g
  rw [e]
  exact ⟨x, rfl, h⟩
theorem tk_gl {vals : List Int} {rads : List Nat} {a : tk_V} {x : Int64} (e : a.1 = 1) (h : tk_num vals a = some x.toInt) : tk_g vals rads a (.long x) := by
  unfold tk_g
  rw [e]
  exact ⟨x, rfl, h⟩
/-! ===== tk: the steps that look at no cell, each a function of its own ===== -/
def tk_f_push (pc : Nat) (a : tk_V) : tk_Fn := fun st => some [(pc, (st.1, a :: st.2.1, st.2.2))]
def tk_f_ld (pc i : Nat) (k : Nat) : tk_Fn := fun st => match tk_ld st.1 i with
  | some a => if a.1 = k then some [(pc, (st.1, tk_nm st.2.2.1.1 a :: st.2.1, st.2.2))] else none
  | none => none
def tk_f_st (nL pc i k : Nat) : tk_Fn := fun st => match st.2.1 with
  | a :: r => if a.1 = k ∧ i < nL ∧ ¬ k = 1 then some [(pc, (tk_st1 st.1 i a, r, st.2.2))] else none
  | _ => none
def tk_f_st2 (nL pc i : Nat) : tk_Fn := fun st => match st.2.1 with
  | a :: r => if a.1 = 1 ∧ i + 1 < nL then some [(pc, (tk_st2 st.1 i a, r, st.2.2))] else none
  | _ => none
def tk_f_inc (nL pc i : Nat) (n : Int) : tk_Fn := fun st => match tk_ld st.1 i with
  | some a => if a.1 = 0 ∧ i < nL then (match tk_addv 0 st.2.2.1.1 a (0, 0, 0, (Int32.ofInt n).toInt) with
    | some q => some [(pc, (tk_st1 st.1 i q.1, st.2.1, (q.2, st.2.2.1.2), st.2.2.2))]
    | none => none) else none
  | none => none
/-- two numbers of one kind, a number -/
def tk_f_b (k pc : Nat) (op : List tk_I → tk_V → tk_V → Option tk_VE) : tk_Fn := fun st => match st.2.1 with
  | b :: a :: r => if a.1 = k ∧ b.1 = k then (match op st.2.2.1.1 a b with
    | some q => some [(pc, (st.1, q.1 :: r, (q.2, st.2.2.1.2), st.2.2.2))]
    | none => none) else none
  | _ => none
def tk_f_u (k pc : Nat) (op : List tk_I → tk_V → Option tk_VE) : tk_Fn := fun st => match st.2.1 with
  | a :: r => if a.1 = k then (match op st.2.2.1.1 a with
    | some q => some [(pc, (st.1, q.1 :: r, (q.2, st.2.2.1.2), st.2.2.2))]
    | none => none) else none
  | _ => none
/-- a divisor that is not 0 -/
def tk_nz (env : List tk_I) (b : tk_V) : Bool := match tk_iv env b with
  | some J => decide (0 < J.1) || decide (J.2 < 0)
  | none => false
theorem tk_nz_ok {env : List tk_I} {vals : List Int} {b : tk_V} {y : Int} (hE : tk_E env vals) (hb : tk_num vals b = some y) (h : tk_nz env b = true) : ¬ y = 0 := by
  unfold tk_nz at h
  split at h
  · next J hJ =>
    have := tk_iv_ok hE hb hJ
    rw [Bool.or_eq_true, decide_eq_true_eq, decide_eq_true_eq] at h
    omega
  · cases h
def tk_dv (op : List tk_I → tk_V → tk_V → Option tk_VE) (env : List tk_I) (a b : tk_V) : Option tk_VE := if tk_nz env b = true then op env a b else none
def tk_f_dup (pc : Nat) : tk_Fn := fun st => match st.2.1 with
  | a :: r => if tk_cat a = 1 then some [(pc, (st.1, a :: a :: r, st.2.2))] else none
  | _ => none
def tk_f_dup2 (pc : Nat) : tk_Fn := fun st => match st.2.1 with
  | a :: b :: r => if tk_cat a = 1 ∧ tk_cat b = 1 then some [(pc, (st.1, a :: b :: a :: b :: r, st.2.2))] else if tk_cat a = 2 then some [(pc, (st.1, a :: a :: b :: r, st.2.2))] else none
  | _ => none
def tk_f_pop (pc k : Nat) : tk_Fn := fun st => match st.2.1 with
  | a :: r => if tk_cat a = k then some [(pc, (st.1, r, st.2.2))] else none
  | _ => none
def tk_ws (pc : Nat) (lo : List (Nat × tk_V)) (sk : List tk_V) (rest : List Nat × tk_FA) (l : List tk_W) : List (Nat × tk_S) := l.map (fun w => (pc, (lo, sk, w, rest)))
def tk_f_if (c : ClassFile.Cond) (pc : Nat) (off : Int) : tk_Fn := fun st => match st.2.1 with
  | b :: a :: r => if a.1 = 0 ∧ b.1 = 0 ∧ 0 ≤ (pc : Int) + off then some (tk_ws ((pc : Int) + off).toNat st.1 r st.2.2.2 (tk_cond c st.2.2.1 a b) ++ tk_ws (pc + 3) st.1 r st.2.2.2 (tk_cond (rk_not c) st.2.2.1 a b)) else none
  | _ => none
def tk_f_if0 (c : ClassFile.Cond) (pc : Nat) (off : Int) : tk_Fn := fun st => match st.2.1 with
  | a :: r => if a.1 = 0 ∧ 0 ≤ (pc : Int) + off then some (tk_ws ((pc : Int) + off).toNat st.1 r st.2.2.2 (tk_cond c st.2.2.1 a (0, 0, 0, 0)) ++ tk_ws (pc + 3) st.1 r st.2.2.2 (tk_cond (rk_not c) st.2.2.1 a (0, 0, 0, 0))) else none
  | _ => none
def tk_f_goto (pc : Nat) (off : Int) : tk_Fn := fun st => if 0 ≤ (pc : Int) + off then some [(((pc : Int) + off).toNat, st)] else none
def tk_f_i2l (pc : Nat) : tk_Fn := fun st => match st.2.1 with
  | a :: r => if a.1 = 0 then some [(pc, (st.1, (1, a.2) :: r, st.2.2))] else none
  | _ => none
def tk_l2i (env : List tk_I) (a : tk_V) : Option tk_VE := match tk_iv env a with
  | some I => if tk_fit 0 I = true then some ((0, a.2), env) else some (tk_new env 0 (tk_rng 0))
  | none => none
def tk_f_lcmp (pc : Nat) : tk_Fn := fun st => match st.2.1 with
  | b :: a :: r => if a.1 = 1 ∧ b.1 = 1 then some (tk_ws pc st.1 ((0, 0, 0, 1) :: r) st.2.2.2 (tk_lt st.2.2.1 b a) ++ (tk_ws pc st.1 ((0, 0, 0, 0) :: r) st.2.2.2 (tk_eq st.2.2.1 a b) ++ tk_ws pc st.1 ((0, 0, 0, -1) :: r) st.2.2.2 (tk_lt st.2.2.1 a b))) else none
  | _ => none
