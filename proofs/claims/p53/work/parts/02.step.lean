/-! ===== rk: one step ===== -/
/-- a method: its instructions, its locals, what its constants link (index, kind, two numbers), its literals -/
abbrev rk_M : Type := List (Nat × Instr × Nat) × Nat × List (Nat × Nat × Nat × Nat) × List (Nat × Value)
/-- locals, stack, symbols, cells; cells and slots made so far -/
abbrev rk_D : Type := FieldType × Nat × rk_V × List (Nat × rk_V)
abbrev rk_H : Type := (Nat × List rk_V) ⊕ rk_D
abbrev rk_S : Type := List (Nat × rk_V) × List rk_V × List rk_T × List rk_H × Nat × Nat
/-- an end: what it returns, symbols, cells, made so far -/
abbrev rk_X : Type := Option rk_V × List rk_T × List rk_H × Nat × Nat
abbrev rk_R : Type := Option (List (Nat × rk_S))
def rk_look (d : rk_V) : List (Nat × rk_V) → Nat → rk_V
  | [], _ => d
  | q :: r, j => if q.1 = j then q.2 else rk_look d r j
def rk_ld : List (Nat × rk_V) → Nat → Option rk_V
  | [], _ => none
  | q :: r, j => if q.1 = j then some q.2 else rk_ld r j
def rk_st1 (env : List rk_T) (lo : List (Nat × rk_V)) (i : Nat) (a : rk_V) : List (Nat × rk_V) := (i, a) :: lo.filter (fun q => !(q.1 == i) && !(q.1 + 1 == i && rk_cat env q.2 == 2))
def rk_st2 (env : List rk_T) (lo : List (Nat × rk_V)) (i : Nat) (a : rk_V) : List (Nat × rk_V) := (i, a) :: lo.filter (fun q => !(q.1 == i) && (!(q.1 == i + 1) && !(q.1 + 1 == i && rk_cat env q.2 == 2)))
def rk_full : Int × Int := (-2147483648, 2147483647)
def rk_iadd (I J : Int × Int) : Int × Int := if -2147483648 ≤ I.1 + J.1 ∧ I.2 + J.2 ≤ 2147483647 then (I.1 + J.1, I.2 + J.2) else rk_full
def rk_isub (I J : Int × Int) : Int × Int := if -2147483648 ≤ I.1 - J.2 ∧ I.2 - J.1 ≤ 2147483647 then (I.1 - J.2, I.2 - J.1) else rk_full
def rk_iand (I J : Int × Int) : Int × Int := if 0 ≤ J.1 then (0, J.2) else if 0 ≤ I.1 then (0, I.2) else rk_full
/-- two ints, an int -/
def rk_bin (f : Int32 → Int32 → Int32) (g : Int × Int → Int × Int → Int × Int) (env : List rk_T) (a b : rk_V) : Option (rk_V × List rk_T) := match a, b with
  | .inl (.int x), .inl (.int y) => some (.inl (.int (f x y)), env)
  | a, b => match rk_iv env a, rk_iv env b with
    | some I, some J => some (rk_fi env (g I J))
    | _, _ => none
def rk_un (f : Int32 → Int32) (I : Int × Int) (env : List rk_T) (a : rk_V) : Option (rk_V × List rk_T) := match a with
  | .inl (.int x) => some (.inl (.int (f x)), env)
  | a => match rk_iv env a with
    | some _ => some (rk_fi env I)
    | none => none
def rk_lbin (f : Int64 → Int64 → Int64) (env : List rk_T) (a b : rk_V) : Option (rk_V × List rk_T) := match a, b with
  | .inl (.long x), .inl (.long y) => some (.inl (.long (f x y)), env)
  | a, b => if rk_isL env a && rk_isL env b then some (rk_fl env) else none
def rk_lsh (f : Int64 → Int32 → Int64) (env : List rk_T) (a b : rk_V) : Option (rk_V × List rk_T) := match a, b with
  | .inl (.long x), .inl (.int y) => some (.inl (.long (f x y)), env)
  | a, b => if rk_isL env a && (rk_iv env b).isSome then some (rk_fl env) else none
def rk_op2 (r : Option (rk_V × List rk_T)) (pc : Nat) (lo : List (Nat × rk_V)) (sk : List rk_V) (hp : List rk_H) (nc ns : Nat) : rk_R := match r with
  | some q => some [(pc, (lo, q.1 :: sk, q.2, hp, nc, ns))]
  | none => none
/-- where a comparison holds, and where it doesn't: the bounds of both, narrowed -/
def rk_cond (c : ClassFile.Cond) (env : List rk_T) (a b : rk_V) (I J : Int × Int) : Option (List rk_T) := match c with
  | .lt => (rk_cut env a (-2147483648) (J.2 - 1)).bind (fun e => rk_cut e b (I.1 + 1) 2147483647)
  | .ge => (rk_cut env a J.1 2147483647).bind (fun e => rk_cut e b (-2147483648) I.2)
  | .gt => (rk_cut env a (J.1 + 1) 2147483647).bind (fun e => rk_cut e b (-2147483648) (I.2 - 1))
  | .le => (rk_cut env a (-2147483648) J.2).bind (fun e => rk_cut e b I.1 2147483647)
  | .eq => (rk_cut env a J.1 J.2).bind (fun e => rk_cut e b I.1 I.2)
  | .ne => if I.1 = I.2 ∧ J.1 = J.2 ∧ I.1 = J.1 then none else if J.1 = J.2 ∧ J.1 = I.1 then rk_cut env a (I.1 + 1) 2147483647 else if J.1 = J.2 ∧ J.1 = I.2 then rk_cut env a (-2147483648) (I.2 - 1) else if I.1 = I.2 ∧ I.1 = J.1 then rk_cut env b (J.1 + 1) 2147483647 else if I.1 = I.2 ∧ I.1 = J.2 then rk_cut env b (-2147483648) (J.2 - 1) else some env
def rk_not : ClassFile.Cond → ClassFile.Cond
  | .eq => .ne | .ne => .eq | .lt => .ge | .ge => .lt | .gt => .le | .le => .gt
def rk_opt (r : Option (List rk_T)) (pc : Nat) (lo : List (Nat × rk_V)) (sk : List rk_V) (hp : List rk_H) (nc ns : Nat) : List (Nat × rk_S) := match r with
  | some e => [(pc, (lo, sk, e, hp, nc, ns))]
  | none => []
def rk_if (c : ClassFile.Cond) (off : Int) (pc : Nat) (a b : rk_V) (lo : List (Nat × rk_V)) (sk : List rk_V) (env : List rk_T) (hp : List rk_H) (nc ns : Nat) : rk_R := match rk_iv env a, rk_iv env b with
  | some I, some J => if 0 ≤ (pc : Int) + off then some (rk_opt (rk_cond c env a b I J) ((pc : Int) + off).toNat lo sk hp nc ns ++ rk_opt (rk_cond (rk_not c) env a b I J) (pc + 3) lo sk hp nc ns) else none
  | _, _ => none
/-- an int that is loaded: a symbol of one value is its literal -/
def rk_norm (env : List rk_T) (a : rk_V) : rk_V := match rk_iv env a with
  | some I => if I.1 = I.2 then .inl (.int (Int32.ofInt I.1)) else a
  | none => a
def rk_ldi (lo : List (Nat × rk_V)) (i : Nat) (pc : Nat) (sk : List rk_V) (env : List rk_T) (hp : List rk_H) (nc ns : Nat) : rk_R := match rk_ld lo i with
  | some a => if (rk_iv env a).isSome then some [(pc, (lo, rk_norm env a :: sk, env, hp, nc, ns))] else none
  | none => none
def rk_ldl (lo : List (Nat × rk_V)) (i : Nat) (pc : Nat) (sk : List rk_V) (env : List rk_T) (hp : List rk_H) (nc ns : Nat) : rk_R := match rk_ld lo i with
  | some a => if rk_isL env a then some [(pc, (lo, a :: sk, env, hp, nc, ns))] else none
  | none => none
def rk_lda (lo : List (Nat × rk_V)) (i : Nat) (pc : Nat) (sk : List rk_V) (env : List rk_T) (hp : List rk_H) (nc ns : Nat) : rk_R := match rk_ld lo i with
  | some (.inr (.inl j)) => some [(pc, (lo, .inr (.inl j) :: sk, env, hp, nc, ns))]
  | _ => none
def rk_sti (nL i pc : Nat) (lo : List (Nat × rk_V)) (sk : List rk_V) (env : List rk_T) (hp : List rk_H) (nc ns : Nat) : rk_R := match sk with
  | a :: sk => if (rk_iv env a).isSome ∧ i < nL then some [(pc, (rk_st1 env lo i a, sk, env, hp, nc, ns))] else none
  | _ => none
def rk_stl (nL i pc : Nat) (lo : List (Nat × rk_V)) (sk : List rk_V) (env : List rk_T) (hp : List rk_H) (nc ns : Nat) : rk_R := match sk with
  | a :: sk => if rk_isL env a = true ∧ i + 1 < nL then some [(pc, (rk_st2 env lo i a, sk, env, hp, nc, ns))] else none
  | _ => none
def rk_sta (nL i pc : Nat) (lo : List (Nat × rk_V)) (sk : List rk_V) (env : List rk_T) (hp : List rk_H) (nc ns : Nat) : rk_R := match sk with
  | .inr (.inl j) :: sk => if i < nL then some [(pc, (rk_st1 env lo i (.inr (.inl j)), sk, env, hp, nc, ns))] else none
  | _ => none
/-- the steps that look at no cell -/
def rk_pure (nL : Nat) (pc : Nat) (ins : Instr) (st : rk_S) : rk_R :=
  let lo := st.1; let sk := st.2.1; let env := st.2.2.1; let hp := st.2.2.2.1; let nc := st.2.2.2.2.1; let ns := st.2.2.2.2.2
  match ins with
  | .iconst n => some [(pc + 1, (lo, .inl (.int (Int32.ofInt n)) :: sk, env, hp, nc, ns))]
  | .bipush n => some [(pc + 2, (lo, .inl (.int (Int8.ofInt n).toInt32) :: sk, env, hp, nc, ns))]
  | .sipush n => some [(pc + 3, (lo, .inl (.int (Int16.ofInt n).toInt32) :: sk, env, hp, nc, ns))]
  | .lconst n => some [(pc + 1, (lo, .inl (.long (Int64.ofNat (n : Nat))) :: sk, env, hp, nc, ns))]
  | .aconst_null => some [(pc + 1, (lo, .inl .null :: sk, env, hp, nc, ns))]
  | .iload_n k => rk_ldi lo k (pc + 1) sk env hp nc ns
  | .iload i => rk_ldi lo i (pc + 2) sk env hp nc ns
  | .lload_n k => rk_ldl lo k (pc + 1) sk env hp nc ns
  | .lload i => rk_ldl lo i (pc + 2) sk env hp nc ns
  | .aload_n k => rk_lda lo k (pc + 1) sk env hp nc ns
  | .aload i => rk_lda lo i (pc + 2) sk env hp nc ns
  | .istore_n k => rk_sti nL k (pc + 1) lo sk env hp nc ns
  | .istore i => rk_sti nL i (pc + 2) lo sk env hp nc ns
  | .lstore_n k => rk_stl nL k (pc + 1) lo sk env hp nc ns
  | .lstore i => rk_stl nL i (pc + 2) lo sk env hp nc ns
  | .astore_n k => rk_sta nL k (pc + 1) lo sk env hp nc ns
  | .astore i => rk_sta nL i (pc + 2) lo sk env hp nc ns
  | .iinc i n => match rk_ld lo i with
    | some a => if i < nL then (match rk_bin (fun x y => x + y) rk_iadd env a (.inl (.int (Int32.ofInt n))) with
      | some q => some [(pc + 3, (rk_st1 q.2 lo i q.1, sk, q.2, hp, nc, ns))]
      | none => none) else none
    | none => none
  | .dup => match sk with
    | a :: r => if rk_cat env a = 1 then some [(pc + 1, (lo, a :: a :: r, env, hp, nc, ns))] else none
    | _ => none
  | .dup2 => match sk with
    | a :: b :: r => if rk_cat env a = 1 ∧ rk_cat env b = 1 then some [(pc + 1, (lo, a :: b :: a :: b :: r, env, hp, nc, ns))] else if rk_cat env a = 2 then some [(pc + 1, (lo, a :: a :: b :: r, env, hp, nc, ns))] else none
    | _ => none
  | .pop => match sk with
    | a :: r => if rk_cat env a = 1 then some [(pc + 1, (lo, r, env, hp, nc, ns))] else none
    | _ => none
  | .pop2 => match sk with
    | a :: r => if rk_cat env a = 2 then some [(pc + 1, (lo, r, env, hp, nc, ns))] else none
    | _ => none
  | .iadd => match sk with
    | b :: a :: r => rk_op2 (rk_bin (fun x y => x + y) rk_iadd env a b) (pc + 1) lo r hp nc ns
    | _ => none
  | .isub => match sk with
    | b :: a :: r => rk_op2 (rk_bin (fun x y => x - y) rk_isub env a b) (pc + 1) lo r hp nc ns
    | _ => none
  | .imul => match sk with
    | b :: a :: r => rk_op2 (rk_bin (fun x y => x * y) (fun _ _ => rk_full) env a b) (pc + 1) lo r hp nc ns
    | _ => none
  | .iand => match sk with
    | b :: a :: r => rk_op2 (rk_bin (fun x y => x &&& y) rk_iand env a b) (pc + 1) lo r hp nc ns
    | _ => none
  | .ior => match sk with
    | b :: a :: r => rk_op2 (rk_bin (fun x y => x ||| y) (fun _ _ => rk_full) env a b) (pc + 1) lo r hp nc ns
    | _ => none
  | .ixor => match sk with
    | b :: a :: r => rk_op2 (rk_bin (fun x y => x ^^^ y) (fun _ _ => rk_full) env a b) (pc + 1) lo r hp nc ns
    | _ => none
  | .ifCond c off => match sk with
    | a :: r => rk_if c off pc a (.inl (.int 0)) lo r env hp nc ns
    | _ => none
  | .if_icmp c off => match sk with
    | b :: a :: r => rk_if c off pc a b lo r env hp nc ns
    | _ => none
  | .goto off => if 0 ≤ (pc : Int) + off then some [(((pc : Int) + off).toNat, st)] else none
  | _ => none
/-- a switch: the places one behind the other, from a value on -/
def rk_sw (a : rk_V) (pc : Nat) (lo : List (Nat × rk_V)) (sk : List rk_V) (env : List rk_T) (hp : List rk_H) (nc ns : Nat) : Int → List Int → Option (List (Nat × rk_S))
  | _, [] => some []
  | v, o :: r => if 0 ≤ (pc : Int) + o then (rk_sw a pc lo sk env hp nc ns (v + 1) r).map (fun l => rk_opt (rk_cut env a v v) ((pc : Int) + o).toNat lo sk hp nc ns ++ l) else none
/-- a divisor that is not 0 -/
def rk_nz (env : List rk_T) (b : rk_V) : Bool := match rk_iv env b with
  | some J => decide (0 < J.1) || decide (J.2 < 0)
  | none => false
def rk_lnz : rk_V → Bool
  | .inl (.long y) => decide (¬ y = 0)
  | _ => false
def rk_irem (I J : Int × Int) : Int × Int := if 0 ≤ I.1 ∧ 0 < J.1 then (0, J.2 - 1) else rk_full
/-- the steps that look at no cell, more -/
def rk_pure2 (pc : Nat) (ins : Instr) (st : rk_S) : rk_R :=
  let lo := st.1; let sk := st.2.1; let env := st.2.2.1; let hp := st.2.2.2.1; let nc := st.2.2.2.2.1; let ns := st.2.2.2.2.2
  match ins with
  | .ishl => match sk with
    | b :: a :: r => rk_op2 (rk_bin (fun x y => x <<< (y &&& 31)) (fun _ _ => rk_full) env a b) (pc + 1) lo r hp nc ns
    | _ => none
  | .ishr => match sk with
    | b :: a :: r => rk_op2 (rk_bin (fun x y => x >>> (y &&& 31)) (fun _ _ => rk_full) env a b) (pc + 1) lo r hp nc ns
    | _ => none
  | .iushr => match sk with
    | b :: a :: r => rk_op2 (rk_bin (fun x y => (x.toUInt32 >>> (y.toUInt32 &&& Int32.toUInt32 31)).toInt32) (fun _ _ => rk_full) env a b) (pc + 1) lo r hp nc ns
    | _ => none
  | .idiv => match sk with
    | b :: a :: r => if rk_nz env b then rk_op2 (rk_bin (fun x y => x / y) (fun _ _ => rk_full) env a b) (pc + 1) lo r hp nc ns else none
    | _ => none
  | .irem => match sk with
    | b :: a :: r => if rk_nz env b then rk_op2 (rk_bin (fun x y => x - x / y * y) rk_irem env a b) (pc + 1) lo r hp nc ns else none
    | _ => none
  | .ineg => match sk with
    | a :: r => rk_op2 (rk_un (fun x => -x) rk_full env a) (pc + 1) lo r hp nc ns
    | _ => none
  | .i2b => match sk with
    | a :: r => rk_op2 (rk_un (fun x => x.toInt8.toInt32) (-128, 127) env a) (pc + 1) lo r hp nc ns
    | _ => none
  | .i2s => match sk with
    | a :: r => rk_op2 (rk_un (fun x => x.toInt16.toInt32) (-32768, 32767) env a) (pc + 1) lo r hp nc ns
    | _ => none
  | .i2l => match sk with
    | .inl (.int x) :: r => some [(pc + 1, (lo, .inl (.long x.toInt64) :: r, env, hp, nc, ns))]
    | .inr (.inr (.inl k)) :: r => if (rk_iv env (.inr (.inr (.inl k)))).isSome then some [(pc + 1, (lo, .inr (.inr (.inr k)) :: r, env, hp, nc, ns))] else none
    | _ => none
  | .l2i => match sk with
    | .inl (.long x) :: r => some [(pc + 1, (lo, .inl (.int x.toInt32) :: r, env, hp, nc, ns))]
    | .inr (.inr (.inr k)) :: r => some [(pc + 1, (lo, .inr (.inr (.inl k)) :: r, env, hp, nc, ns))]
    | a :: r => if rk_isL env a then rk_op2 (some (rk_fi env rk_full)) (pc + 1) lo r hp nc ns else none
    | _ => none
  | .ladd => match sk with
    | b :: a :: r => rk_op2 (rk_lbin (fun x y => x + y) env a b) (pc + 1) lo r hp nc ns
    | _ => none
  | .lsub => match sk with
    | b :: a :: r => rk_op2 (rk_lbin (fun x y => x - y) env a b) (pc + 1) lo r hp nc ns
    | _ => none
  | .lmul => match sk with
    | b :: a :: r => rk_op2 (rk_lbin (fun x y => x * y) env a b) (pc + 1) lo r hp nc ns
    | _ => none
  | .land => match sk with
    | b :: a :: r => rk_op2 (rk_lbin (fun x y => x &&& y) env a b) (pc + 1) lo r hp nc ns
    | _ => none
  | .lor => match sk with
    | b :: a :: r => rk_op2 (rk_lbin (fun x y => x ||| y) env a b) (pc + 1) lo r hp nc ns
    | _ => none
  | .lxor => match sk with
    | b :: a :: r => rk_op2 (rk_lbin (fun x y => x ^^^ y) env a b) (pc + 1) lo r hp nc ns
    | _ => none
  | .ldiv => match sk with
    | b :: a :: r => if rk_lnz b then rk_op2 (rk_lbin (fun x y => x / y) env a b) (pc + 1) lo r hp nc ns else none
    | _ => none
  | .lrem => match sk with
    | b :: a :: r => if rk_lnz b then rk_op2 (rk_lbin (fun x y => x - x / y * y) env a b) (pc + 1) lo r hp nc ns else none
    | _ => none
  | .lshl => match sk with
    | b :: a :: r => rk_op2 (rk_lsh (fun x y => x <<< (y.toInt64 &&& 63)) env a b) (pc + 1) lo r hp nc ns
    | _ => none
  | .lshr => match sk with
    | b :: a :: r => rk_op2 (rk_lsh (fun x y => x >>> (y.toInt64 &&& 63)) env a b) (pc + 1) lo r hp nc ns
    | _ => none
  | .lushr => match sk with
    | b :: a :: r => rk_op2 (rk_lsh (fun x y => (x.toUInt64 >>> (y.toInt64.toUInt64 &&& Int64.toUInt64 63)).toInt64) env a b) (pc + 1) lo r hp nc ns
    | _ => none
  | .lcmp => match sk with
    | .inl (.long y) :: .inl (.long x) :: r => some [(pc + 1, (lo, .inl (.int (lg_cmp x y)) :: r, env, hp, nc, ns))]
    | .inl (.long y) :: .inr (.inr (.inr k)) :: r => some (rk_opt (rk_cut env (.inr (.inr (.inl k))) (y.toInt + 1) 2147483647) (pc + 1) lo (.inl (.int 1) :: r) hp nc ns ++ (rk_opt (rk_cut env (.inr (.inr (.inl k))) y.toInt y.toInt) (pc + 1) lo (.inl (.int 0) :: r) hp nc ns ++ rk_opt (rk_cut env (.inr (.inr (.inl k))) (-2147483648) (y.toInt - 1)) (pc + 1) lo (.inl (.int (-1)) :: r) hp nc ns))
    | .inr (.inr (.inr k)) :: .inl (.long x) :: r => some (rk_opt (rk_cut env (.inr (.inr (.inl k))) (-2147483648) (x.toInt - 1)) (pc + 1) lo (.inl (.int 1) :: r) hp nc ns ++ (rk_opt (rk_cut env (.inr (.inr (.inl k))) x.toInt x.toInt) (pc + 1) lo (.inl (.int 0) :: r) hp nc ns ++ rk_opt (rk_cut env (.inr (.inr (.inl k))) (x.toInt + 1) 2147483647) (pc + 1) lo (.inl (.int (-1)) :: r) hp nc ns))
    | b :: a :: r => if rk_isL env a && rk_isL env b then rk_op2 (some (rk_fi env (-1, 1))) (pc + 1) lo r hp nc ns else none
    | _ => none
  | .tableswitch dflt low high offs => match sk with
    | a :: r => match rk_iv env a with
      | some _ => if offs.toList.length = (high - low + 1).toNat ∧ 0 ≤ (pc : Int) + dflt then (rk_sw a pc lo r env hp nc ns low offs.toList).map (fun l => l ++ (rk_opt (rk_cut env a (-2147483648) (low - 1)) ((pc : Int) + dflt).toNat lo r hp nc ns ++ rk_opt (rk_cut env a (high + 1) 2147483647) ((pc : Int) + dflt).toNat lo r hp nc ns)) else none
      | none => none
    | _ => none
  | _ => none
