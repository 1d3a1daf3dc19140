/-! ===== rk: calls, and a run to the end ===== -/
/-- most cells, most slots, the ends -/
abbrev rk_O : Type := Nat × Nat × List rk_X
/-- a method: its instructions, its locals, its links, its literals, what it returns, the number of its class (instance methods) -/
abbrev rk_M2 : Type := List (Nat × Instr × Nat) × Nat × List (Nat × Nat × Nat × Nat) × List (Nat × Value) × Option FieldType × Nat
def rk_pop : Nat → List rk_V → List rk_V → Option (List rk_V × List rk_V)
  | 0, acc, sk => some (acc, sk)
  | n + 1, acc, a :: sk => rk_pop n (a :: acc) sk
  | _ + 1, _, [] => none
def rk_fetch : List (Nat × Instr × Nat) → Nat → Option (Instr × Nat)
  | [], _ => none
  | q :: r, pc => if q.1 = pc then some q.2 else rk_fetch r pc
def rk_sum (env : List rk_T) : List rk_V → Nat
  | [] => 0
  | a :: r => rk_cat env a + rk_sum env r
def rk_after (o : Option rk_O) (pc : Nat) (lo : List (Nat × rk_V)) (r : List rk_V) (nc ns : Nat) : rk_R := match o with
  | some o => if o.2.2.isEmpty then none else some (o.2.2.map (fun x => (pc + 3, (lo, x.1.toList ++ r, x.2.1, x.2.2.1, nc + o.1, ns + o.2.1))))
  | none => none
/-- a row is copied: n places of the one, from sp on, come to the other's, from dp on -/
def rk_cpy (d : rk_V) (ov : List (Nat × rk_V)) (sp dp : Nat) : Nat → List (Nat × rk_V) → List (Nat × rk_V)
  | 0, acc => acc
  | n + 1, acc => (dp + n, rk_look d ov (sp + n)) :: rk_cpy d ov sp dp n acc
def rk_call (mci : List Nat) (call : Nat → List rk_V → List rk_T → List rk_H → Option rk_O) (lk : List (Nat × Nat × Nat × Nat)) (pc : Nat) (ins : Instr) (st : rk_S) : rk_R :=
  let lo := st.1; let sk := st.2.1; let env := st.2.2.1; let hp := st.2.2.2.1; let nc := st.2.2.2.2.1; let ns := st.2.2.2.2.2
  match ins with
  | .invokevirtual idx => match rk_lk lk idx with
    | some (kd, f, n) => if kd = 5 ∨ kd = 6 then (match rk_pop n [] sk with
      | some (as, .inr (.inl j) :: r) => (match hp[j]? with
        | some (.inl o) => if mci[f]? = some o.1 ∧ rk_sum env r ≤ 8 then rk_after (call f (.inr (.inl j) :: as) env hp) pc lo r nc ns else none
        | _ => none)
      | _ => none) else none
    | none => none
  | .invokestatic idx => match rk_lk lk idx with
    | some (kd, f, n) => if kd = 7 ∨ kd = 8 then (match rk_pop n [] sk with
      | some (as, r) => if rk_sum env r ≤ 8 then rk_after (call f as env hp) pc lo r nc ns else none
      | none => none) else none
    | none => none
  | .invokespecial idx => match rk_lk lk idx with
    | some (kd, f, n) => if kd = 9 ∨ kd = 10 then (match rk_pop n [] sk with
      | some (as, .inr (.inl j) :: r) => if rk_sum env r ≤ 8 then rk_after (call f (.inr (.inl j) :: as) env hp) pc lo r nc ns else none
      | _ => none) else if kd = 11 then (match sk with
      | .inr (.inl _) :: r => if rk_sum env r ≤ 8 then some [(pc + 3, (lo, r, env, hp, nc, ns))] else none
      | _ => none) else none
    | none => none
  | _ => none
/-! ===== rk: System.arraycopy ===== -/
/-- a number that is one, 0 at least -/
def rk_num (env : List rk_T) (a : rk_V) : Option Nat := match rk_iv env a with
  | some I => if I.1 = I.2 ∧ 0 ≤ I.1 then some I.1.toNat else none
  | none => none
def rk_copy (lk : List (Nat × Nat × Nat × Nat)) (pc : Nat) (ins : Instr) (st : rk_S) : rk_R :=
  let lo := st.1; let sk := st.2.1; let env := st.2.2.1; let hp := st.2.2.2.1; let nc := st.2.2.2.2.1; let ns := st.2.2.2.2.2
  match ins with
  | .invokestatic idx => match rk_lk lk idx with
    | some (12, _, _) => (match sk with
      | an :: adp :: .inr (.inl j1) :: asp :: .inr (.inl j0) :: r => if rk_sum env r ≤ 8 then (match rk_num env an, rk_num env adp, rk_num env asp, hp[j0]?, hp[j1]? with
        | some n, some dp, some sp, some (.inr (.int, n0, d0, o0)), some (.inr (.int, n1, d1, o1)) => if sp + n ≤ n0 ∧ dp + n ≤ n1 then some [(pc + 3, (lo, r, env, hp.set j1 (.inr (.int, n1, d1, rk_cpy d0 o0 sp dp n o1)), nc, ns))] else none
        | some n, some dp, some sp, some (.inr (.long, n0, d0, o0)), some (.inr (.long, n1, d1, o1)) => if sp + n ≤ n0 ∧ dp + n ≤ n1 then some [(pc + 3, (lo, r, env, hp.set j1 (.inr (.long, n1, d1, rk_cpy d0 o0 sp dp n o1)), nc, ns))] else none
        | _, _, _, _, _ => none) else none
      | _ => none)
    | _ => none
  | _ => none
def rk_comb (f : Nat × rk_S → Option rk_O) : List (Nat × rk_S) → Option rk_O
  | [] => some (0, 0, [])
  | q :: r => match f q, rk_comb f r with
    | some a, some b => some (max a.1 b.1, max a.2.1 b.2.1, a.2.2 ++ b.2.2)
    | _, _ => none
/-- a number of few values is each of them, one by one -/
def rk_each (a : rk_V) (pc : Nat) (lo : List (Nat × rk_V)) (sk : List rk_V) (env : List rk_T) (hp : List rk_H) (nc ns : Nat) : Int → Nat → List (Nat × rk_S)
  | _, 0 => []
  | v, n + 1 => rk_opt (rk_cut env a v v) pc lo sk hp nc ns ++ rk_each a pc lo sk env hp nc ns (v + 1) n
def rk_which (ins : Instr) (sk : List rk_V) : Option rk_V := match ins with
  | .iaload | .baload | .laload | .aaload | .i2l => sk[0]?
  | .iastore | .bastore | .lastore | .aastore => sk[1]?
  | _ => none
def rk_split (pc : Nat) (ins : Instr) (st : rk_S) : rk_R := match rk_which ins st.2.1 with
  | some a => match rk_iv st.2.2.1 a with
    | some I => if I.1 < I.2 ∧ I.2 - I.1 ≤ 64 then some (rk_each a pc st.1 st.2.1 st.2.2.1 st.2.2.2.1 st.2.2.2.2.1 st.2.2.2.2.2 I.1 (I.2 - I.1 + 1).toNat) else none
    | none => none
  | none => none
/-- Math.max, min, abs -/
def rk_imax (I J : Int × Int) : Int × Int := (max I.1 J.1, max I.2 J.2)
def rk_imin (I J : Int × Int) : Int × Int := (min I.1 J.1, min I.2 J.2)
def rk_math (lk : List (Nat × Nat × Nat × Nat)) (pc : Nat) (ins : Instr) (st : rk_S) : rk_R :=
  let lo := st.1; let sk := st.2.1; let env := st.2.2.1; let hp := st.2.2.2.1; let nc := st.2.2.2.2.1; let ns := st.2.2.2.2.2
  match ins with
  | .invokestatic idx => match rk_lk lk idx with
    | some (14, _, _) => (match sk with
      | b :: a :: r => if rk_sum env r ≤ 8 then rk_op2 (rk_bin (fun x y => if x < y then y else x) rk_imax env a b) (pc + 3) lo r hp nc ns else none
      | _ => none)
    | some (15, _, _) => (match sk with
      | b :: a :: r => if rk_sum env r ≤ 8 then rk_op2 (rk_bin (fun x y => if y < x then y else x) rk_imin env a b) (pc + 3) lo r hp nc ns else none
      | _ => none)
    | some (16, _, _) => (match sk with
      | b :: a :: r => if rk_sum env r ≤ 8 then rk_op2 (rk_lbin (fun x y => if y < x then x else y) env a b) (pc + 3) lo r hp nc ns else none
      | _ => none)
    | some (17, _, _) => (match sk with
      | a :: r => if rk_sum env r ≤ 8 then rk_op2 (rk_un (fun x => if 0 ≤ x then x else 0 - x) rk_full env a) (pc + 3) lo r hp nc ns else none
      | _ => none)
    | _ => none
  | _ => none
/-- ahead of a long difference: a wide symbol of few values is each of them, of one it is that number -/
def rk_pre0 (pc : Nat) (ins : Instr) (st : rk_S) : rk_R := match ins with
  | .lsub => match st.2.1 with
    | .inl (.long y) :: .inr (.inr (.inr k)) :: r => match rk_iv st.2.2.1 (.inr (.inr (.inl k))) with
      | some I => if I.1 = I.2 then some [(pc, (st.1, .inl (.long y) :: .inl (.long (Int32.ofInt I.1).toInt64) :: r, st.2.2))] else if I.1 < I.2 ∧ I.2 - I.1 ≤ 64 then some (rk_each (.inr (.inr (.inl k))) pc st.1 st.2.1 st.2.2.1 st.2.2.2.1 st.2.2.2.2.1 st.2.2.2.2.2 I.1 (I.2 - I.1 + 1).toNat) else none
      | none => none
    | _ => none
  | _ => none
/-- what else a frame may do -/
abbrev rk_Ext : Type := Nat → Instr → rk_S → rk_R
def rk_step (fty : rk_F) (cln : List String) (mci : List Nat) (call : Nat → List rk_V → List rk_T → List rk_H → Option rk_O) (ext : rk_Ext) (M : rk_M2) (pc : Nat) (ins : Instr) (st : rk_S) : rk_R :=
  match ext pc ins st with
  | some r => some r
  | none => match rk_pre0 pc ins st with
  | some r => some r
  | none => match rk_pure M.2.1 pc ins st with
  | some r => some r
  | none => match rk_pure2 pc ins st with
    | some r => some r
    | none => match rk_heap fty cln M.2.2.1 M.2.2.2.1 pc ins st with
      | some r => some r
      | none => match rk_call mci call M.2.2.1 pc ins st with
        | some r => some r
        | none => match rk_copy M.2.2.1 pc ins st with
          | some r => some r
          | none => match rk_split pc ins st with
            | some r => some r
            | none => rk_math M.2.2.1 pc ins st
/-- may a value be returned? -/
def rk_rok (env : List rk_T) (ret : Option FieldType) (a : rk_V) : Bool := match ret with
  | some .int => (rk_iv env a).isSome
  | some .boolean => rk_fit env .boolean a
  | some .long => rk_isL env a
  | _ => false
/-- an end, if the instruction is one -/
def rk_end (ret : Option FieldType) (ins : Instr) (st : rk_S) : Option (Option rk_X) := match ins with
  | .return_ => match st.2.1, ret with
    | [], none => some (some (none, st.2.2.1, st.2.2.2.1, st.2.2.2.2.1, st.2.2.2.2.2))
    | _, _ => some none
  | .ireturn => match st.2.1 with
    | [a] => if rk_rok st.2.2.1 ret a ∧ ¬ ret = some .long then some (some (some a, st.2.2.1, st.2.2.2.1, st.2.2.2.2.1, st.2.2.2.2.2)) else some none
    | _ => some none
  | .lreturn => match st.2.1 with
    | [a] => if rk_rok st.2.2.1 ret a ∧ ret = some .long then some (some (some a, st.2.2.1, st.2.2.2.1, st.2.2.2.2.1, st.2.2.2.2.2)) else some none
    | _ => some none
  | _ => none
def rk_loop (fty : rk_F) (cln : List String) (mci : List Nat) (call : Nat → List rk_V → List rk_T → List rk_H → Option rk_O) (ext : rk_Ext) (M : rk_M2) : Nat → Nat × rk_S → Option rk_O
  | 0, _ => none
  | n + 1, q => match rk_fetch M.1 q.1 with
    | none => none
    | some il => if rk_len il.1 il.2 = true then (match rk_end M.2.2.2.2.1 il.1 q.2 with
      | some (some x) => some (q.2.2.2.2.2.1, q.2.2.2.2.2.2, [x])
      | some none => none
      | none => (match rk_step fty cln mci call ext M q.1 il.1 q.2 with
        | some succ => (match rk_comb (rk_loop fty cln mci call ext M n) succ with
          | some o => some (max q.2.2.2.2.2.1 o.1, max q.2.2.2.2.2.2 o.2.1, o.2.2)
          | none => none)
        | none => none)) else none
/-- the locals of a method's start -/
def rk_args (env : List rk_T) : Nat → List rk_V → List (Nat × rk_V)
  | _, [] => []
  | i, a :: r => (i, a) :: rk_args env (i + rk_cat env a) r
def rk_mpc (g : rk_V → rk_V) (c : rk_H) : rk_H := match c with
  | .inl o => .inl (o.1, o.2.map g)
  | .inr q => .inr (q.1, q.2.1, g q.2.2.1, q.2.2.2.map (fun z => (z.1, g z.2)))
def rk_alc (P : rk_V → Bool) (c : rk_H) : Bool := match c with
  | .inl o => o.2.all P
  | .inr q => P q.2.2.1 && q.2.2.2.all (fun z => P z.2)
def rk_up (n : Nat) (a : rk_V) : rk_V := match a with
  | .inr (.inl j) => .inr (.inl (j + n))
  | a => a
def rk_dn (n : Nat) (a : rk_V) : rk_V := match a with
  | .inr (.inl j) => .inr (.inl (j - n))
  | a => a
def rk_ge (n : Nat) (a : rk_V) : Bool := match a with
  | .inr (.inl j) => decide (n ≤ j)
  | _ => true
def rk_lt (n : Nat) (a : rk_V) : Bool := match a with
  | .inr (.inl j) => decide (j < n)
  | _ => true
def rk_nro (o : Option rk_V) : Bool := match o with
  | some (.inr (.inl _)) => false
  | _ => true
/-- the part from n on -/
def rk_suf (call : Nat → List rk_V → List rk_T → List rk_H → Option rk_O) (n f : Nat) (as : List rk_V) (env : List rk_T) (hp : List rk_H) : Option rk_O :=
  if n ≤ hp.length ∧ as.all (rk_ge n) = true ∧ (hp.drop n).all (rk_alc (rk_ge n)) = true then (match call f (as.map (rk_dn n)) env ((hp.drop n).map (rk_mpc (rk_dn n))) with
    | some o => if o.2.2.all (fun x => rk_nro x.1) = true then some (o.1, o.2.1, o.2.2.map (fun x => (x.1, x.2.1, hp.take n ++ x.2.2.1.map (rk_mpc (rk_up n)), x.2.2.2))) else none
    | none => none) else none
/-- the part below n -/
def rk_pfx (call : Nat → List rk_V → List rk_T → List rk_H → Option rk_O) (n f : Nat) (as : List rk_V) (env : List rk_T) (hp : List rk_H) : Option rk_O :=
  if n ≤ hp.length ∧ as.all (rk_lt n) = true ∧ (hp.take n).all (rk_alc (rk_lt n)) = true then (match call f as env (hp.take n) with
    | some o => if o.2.2.all (fun x => decide (x.2.2.1.length = n)) = true then some (o.1, o.2.1, o.2.2.map (fun x => (x.1, x.2.1, x.2.2.1 ++ hp.drop n, x.2.2.2))) else none
    | none => none) else none
def rk_wrap (call : Nat → List rk_V → List rk_T → List rk_H → Option rk_O) (f : Nat) (as : List rk_V) (env : List rk_T) (hp : List rk_H) : Option rk_O := match as with
  | [.inr (.inl j)] => if j + 1 = hp.length then (match rk_suf call j f [.inr (.inl j)] env hp with
    | some o => some o
    | none => call f [.inr (.inl j)] env hp) else call f [.inr (.inl j)] env hp
  | as => call f as env hp
def rk_run (P : List rk_M2) (fty : rk_F) (cln : List String) (mci : List Nat) (sum : Nat → Nat → List rk_V → List rk_T → List rk_H → Option rk_O) (fuel : Nat) : Nat → Nat → List rk_V → List rk_T → List rk_H → Option rk_O
  | 0, _, _, _, _ => none
  | d + 1, f, as, env, hp => match sum d f as env hp with
   | some o => some o
   | none => match P[f]? with
    | some M => if M.2.1 ≤ 21 ∧ rk_sum env as ≤ M.2.1 then rk_loop fty cln mci (rk_wrap (rk_run P fty cln mci sum fuel d)) (fun _ _ _ => none) M fuel (0, (rk_args env 0 as, [], env, hp, 0, 0)) else none
    | none => none
