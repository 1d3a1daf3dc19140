/-! ===== rk: the steps that look at cells ===== -/
def rk_fit (env : List rk_T) (ty : FieldType) (v : rk_V) : Bool := match ty with
  | .int => (rk_iv env v).isSome
  | .long => rk_isL env v
  | .boolean => match rk_iv env v with
    | some I => decide (0 ≤ I.1) && decide (I.2 ≤ 1)
    | none => false
  | .object _ => match v with
    | .inr (.inl _) => true
    | .inl .null => true
    | _ => false
  | .array _ => match v with
    | .inr (.inl _) => true
    | .inl .null => true
    | _ => false
  | _ => false
def rk_lk : List (Nat × Nat × Nat × Nat) → Nat → Option (Nat × Nat × Nat)
  | [], _ => none
  | r :: k, i => if r.1 = i then some r.2 else rk_lk k i
theorem rk_lk_mem {i : Nat} {q : Nat × Nat × Nat} : ∀ {k : List (Nat × Nat × Nat × Nat)}, rk_lk k i = some q → (i, q) ∈ k := by
  intro k
  induction k with
  | nil => intro h; simp [rk_lk] at h
  | cons r k ih =>
    intro h
    unfold rk_lk at h
    split at h
    · next e => cases h; subst e; exact List.mem_cons_self
    · exact List.mem_cons_of_mem _ (ih h)
def rk_cst : List (Nat × Value) → Nat → Option Value
  | [], _ => none
  | r :: k, i => if r.1 = i then some r.2 else rk_cst k i
theorem rk_cst_mem {i : Nat} {q : Value} : ∀ {k : List (Nat × Value)}, rk_cst k i = some q → (i, q) ∈ k := by
  intro k
  induction k with
  | nil => intro h; simp [rk_cst] at h
  | cons r k ih =>
    intro h
    unfold rk_cst at h
    split at h
    · next e => cases h; subst e; exact List.mem_cons_self
    · exact List.mem_cons_of_mem _ (ih h)
/-- an index that is one number, within -/
def rk_ix (env : List rk_T) (a : rk_V) (n : Nat) : Option Nat := match rk_iv env a with
  | some I => if I.1 = I.2 ∧ 0 ≤ I.1 ∧ I.1 < n then some I.1.toNat else none
  | none => none
theorem rk_ix_ok {env : List rk_T} {vals : List Value} {ads : List Nat} {a : rk_V} {v : Value} {n k : Nat} (hE : rk_E env vals) (h : rk_g vals ads a v) (hi : rk_ix env a n = some k) : ∃ x : Int32, v = .int x ∧ vp_in x n ∧ x.toNatClampNeg = k := by
  unfold rk_ix at hi
  split at hi
  · next I hI =>
    obtain ⟨x, rfl, h1, h2⟩ := rk_iv_ok hE h hI
    split at hi
    · next hc =>
      cases hi
      have e : x.toInt = I.1 := by omega
      have hc2 : x.toNatClampNeg = I.1.toNat := by rw [← e]; rfl
      exact ⟨x, rfl, vp_in_iff.mpr ⟨by omega, by omega⟩, hc2⟩
    · cases hi
  · cases hi
/-- a place is set: nothing is noted where it holds that already -/
def rk_put (d : rk_V) (ov : List (Nat × rk_V)) (i : Nat) (v : rk_V) : List (Nat × rk_V) := if rk_look d ov i = v then ov else (i, v) :: ov
/-- a new row of rows: its places are the cells from b on -/
def rk_rows (b : Nat) : Nat → List (Nat × rk_V)
  | 0 => []
  | n + 1 => (n, .inr (.inl (b + n))) :: rk_rows b n
theorem rk_rows_look (d : rk_V) (b j : Nat) : ∀ n : Nat, rk_look d (rk_rows b n) j = if j < n then .inr (.inl (b + j)) else d := by
  intro n
  induction n with
  | zero => rfl
  | succ n ih =>
    show (if n = j then (.inr (.inl (b + n)) : rk_V) else rk_look d (rk_rows b n) j) = _
    by_cases e : n = j
    · rw [if_pos e, if_pos (by omega), e]
    · rw [if_neg e, ih]
      by_cases q : j < n
      · rw [if_pos q, if_pos (by omega)]
      · rw [if_neg q, if_neg (by omega)]
/-- the fields' types and whether they are final, class by class; the classes' names -/
abbrev rk_F : Type := List (List (FieldType × Bool))
def rk_heap (fty : rk_F) (cln : List String) (lk : List (Nat × Nat × Nat × Nat)) (cs : List (Nat × Value)) (pc : Nat) (ins : Instr) (st : rk_S) : rk_R :=
  let lo := st.1; let sk := st.2.1; let env := st.2.2.1; let hp := st.2.2.2.1; let nc := st.2.2.2.2.1; let ns := st.2.2.2.2.2
  match ins with
  | .getfield idx => match sk with
    | .inr (.inl j) :: r => match rk_lk lk idx, hp[j]? with
      | some (kd, ci, k), some (.inl o) => if kd ≤ 2 ∧ ci = o.1 then (match o.2[k]? with
        | some a => some [(pc + 3, (lo, rk_norm env a :: r, env, hp, nc, ns))]
        | none => none) else none
      | _, _ => none
    | _ => none
  | .putfield idx => match sk with
    | v :: .inr (.inl j) :: r => match rk_lk lk idx, hp[j]? with
      | some (kd, ci, k), some (.inl o) => if kd ≤ 2 ∧ ci = o.1 ∧ k < o.2.length then (match (fty[ci]?).bind (fun t => t[k]?) with
        | some t => if rk_fit env t.1 v = true ∧ (t.2 = true ↔ kd = 2) then some [(pc + 3, (lo, r, env, hp.set j (.inl (o.1, o.2.set k v)), nc, ns))] else none
        | none => none) else none
      | _, _ => none
    | _ => none
  | .iaload => match sk with
    | ix :: .inr (.inl j) :: r => match hp[j]? with
      | some (.inr (.int, n, d, ov)) => (match rk_ix env ix n with
        | some i => some [(pc + 1, (lo, rk_norm env (rk_look d ov i) :: r, env, hp, nc, ns))]
        | none => none)
      | _ => none
    | _ => none
  | .baload => match sk with
    | ix :: .inr (.inl j) :: r => match hp[j]? with
      | some (.inr (.byte, n, d, ov)) => (match rk_ix env ix n with
        | some i => some [(pc + 1, (lo, rk_norm env (rk_look d ov i) :: r, env, hp, nc, ns))]
        | none => none)
      | _ => none
    | _ => none
  | .laload => match sk with
    | ix :: .inr (.inl j) :: r => match hp[j]? with
      | some (.inr (.long, n, d, ov)) => (match rk_ix env ix n with
        | some i => some [(pc + 1, (lo, rk_look d ov i :: r, env, hp, nc, ns))]
        | none => none)
      | _ => none
    | _ => none
  | .aaload => match sk with
    | ix :: .inr (.inl j) :: r => match hp[j]? with
      | some (.inr (.object _, n, d, ov)) => (match rk_ix env ix n with
        | some i => some [(pc + 1, (lo, rk_look d ov i :: r, env, hp, nc, ns))]
        | none => none)
      | some (.inr (.array _, n, d, ov)) => (match rk_ix env ix n with
        | some i => some [(pc + 1, (lo, rk_look d ov i :: r, env, hp, nc, ns))]
        | none => none)
      | _ => none
    | _ => none
  | .iastore => match sk with
    | v :: ix :: .inr (.inl j) :: r => match hp[j]? with
      | some (.inr (.int, n, d, ov)) => (match rk_ix env ix n with
        | some i => if (rk_iv env v).isSome then some [(pc + 1, (lo, r, env, hp.set j (.inr (.int, n, d, rk_put d ov i v)), nc, ns))] else none
        | none => none)
      | _ => none
    | _ => none
  | .bastore => match sk with
    | v :: ix :: .inr (.inl j) :: r => match hp[j]? with
      | some (.inr (.byte, n, d, ov)) => (match rk_ix env ix n, rk_iv env v with
        | some i, some I => if -128 ≤ I.1 ∧ I.2 ≤ 127 then some [(pc + 1, (lo, r, env, hp.set j (.inr (.byte, n, d, rk_put d ov i v)), nc, ns))] else none
        | _, _ => none)
      | _ => none
    | _ => none
  | .lastore => match sk with
    | v :: ix :: .inr (.inl j) :: r => match hp[j]? with
      | some (.inr (.long, n, d, ov)) => (match rk_ix env ix n with
        | some i => if rk_isL env v then some [(pc + 1, (lo, r, env, hp.set j (.inr (.long, n, d, rk_put d ov i v)), nc, ns))] else none
        | none => none)
      | _ => none
    | _ => none
  | .aastore => match sk with
    | .inr (.inl y) :: ix :: .inr (.inl j) :: r => match hp[j]?, hp[y]? with
      | some (.inr (.object C, n, d, ov)), some (.inl o) => (match rk_ix env ix n with
        | some i => if cln[o.1]? = some C then some [(pc + 1, (lo, r, env, hp.set j (.inr (.object C, n, d, (i, .inr (.inl y)) :: ov)), nc, ns))] else none
        | none => none)
      | _, _ => none
    | _ => none
  | .arraylength => match sk with
    | .inr (.inl j) :: r => match hp[j]? with
      | some (.inr q) => some [(pc + 1, (lo, .inl (.int (Int32.ofNat q.2.1)) :: r, env, hp, nc, ns))]
      | _ => none
    | _ => none
  | .newarray at_ => match sk with
    | .inl (.int x) :: r => if 0 ≤ x.toInt ∧ x.toInt ≤ 100000 then (match at_ with
      | .int => some [(pc + 2, (lo, .inr (.inl hp.length) :: r, env, hp ++ [.inr (.int, x.toNatClampNeg, .inl (.int 0), [])], nc + 1, ns + x.toNatClampNeg))]
      | .byte => some [(pc + 2, (lo, .inr (.inl hp.length) :: r, env, hp ++ [.inr (.byte, x.toNatClampNeg, .inl (.int 0), [])], nc + 1, ns + x.toNatClampNeg))]
      | .long => some [(pc + 2, (lo, .inr (.inl hp.length) :: r, env, hp ++ [.inr (.long, x.toNatClampNeg, .inl (.long 0), [])], nc + 1, ns + x.toNatClampNeg))]
      | _ => none) else none
    | _ => none
  | .anewarray idx => match sk with
    | .inl (.int x) :: r => if 0 ≤ x.toInt ∧ x.toInt ≤ 100000 then (match rk_lk (lk.filter (fun r => r.2.1 == 4)) idx with
      | some (4, ci, _) => (match cln[ci]? with
        | some C => some [(pc + 3, (lo, .inr (.inl hp.length) :: r, env, hp ++ [.inr (.object C, x.toNatClampNeg, .inl .null, [])], nc + 1, ns + x.toNatClampNeg))]
        | none => none)
      | _ => none) else none
    | _ => none
  | .multianewarray idx dims => match sk with
    | .inl (.int y) :: .inl (.int x) :: r => if (dims : Nat) = 2 ∧ (0 ≤ x.toInt ∧ x.toInt ≤ 1000) ∧ 0 ≤ y.toInt ∧ y.toInt ≤ 1000 then (match rk_lk lk idx with
      | some (13, _, _) => some [(pc + 4, (lo, .inr (.inl hp.length) :: r, env, hp ++ ([.inr (.array .long, x.toNatClampNeg, .inl .null, rk_rows (hp.length + 1) x.toNatClampNeg)] ++ List.replicate x.toNatClampNeg (.inr (.long, y.toNatClampNeg, .inl (.long 0), []))), nc + 1 + x.toNatClampNeg, ns + x.toNatClampNeg + x.toNatClampNeg * y.toNatClampNeg))]
      | _ => none) else none
    | _ => none
  | .new idx => match rk_lk lk idx with
    | some (3, ci, _) => (match fty[ci]? with
      | some tf => some [(pc + 3, (lo, .inr (.inl hp.length) :: sk, env, hp ++ [.inl (ci, tf.map (fun t => .inl (defaultValue t.1)))], nc + 1, ns + tf.length))]
      | none => none)
    | _ => none
  | .ldc idx => match rk_cst cs idx with
    | some (.int x) => some [(pc + 2, (lo, .inl (.int x) :: sk, env, hp, nc, ns))]
    | _ => none
  | .ldc_w idx => match rk_cst cs idx with
    | some (.int x) => some [(pc + 3, (lo, .inl (.int x) :: sk, env, hp, nc, ns))]
    | _ => none
  | .ldc2_w idx => match rk_cst cs idx with
    | some (.long x) => some [(pc + 3, (lo, .inl (.long x) :: sk, env, hp, nc, ns))]
    | _ => none
  | _ => none
