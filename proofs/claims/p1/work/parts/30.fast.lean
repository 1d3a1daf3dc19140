/-! ===== rk: the same run, fast for the kernel: each instruction is its own function, looked up once ===== -/
theorem rk_nosome {α : Type} {x : α} (h : (none : Option α) = some x) : False := by cases h
abbrev rk_Q : Type := rk_X ⊕ List (Nat × rk_S)
def rk_r (r : rk_R) : Option rk_Q := match r with
  | some l => some (.inr l)
  | none => none
theorem rk_r_inv {r : rk_R} {q : rk_Q} (h : rk_r r = some q) : ∃ l, r = some l ∧ q = .inr l := by
  unfold rk_r at h
  split at h
  · next l => exact ⟨l, rfl, (Option.some.inj h).symm⟩
  · cases h
def rk_rs (r : rk_R) (r2 : rk_R) : rk_R := match r with
  | some l => some l
  | none => r2
theorem rk_rs_inv {r r2 : rk_R} {l : List (Nat × rk_S)} (h : rk_rs r r2 = some l) : r = some l ∨ r = none ∧ r2 = some l := by
  unfold rk_rs at h
  split at h
  · exact Or.inl h
  · exact Or.inr ⟨rfl, h⟩
def rk_e (o : Option (Option rk_X)) : Option rk_Q := match o with
  | some (some x) => some (.inl x)
  | _ => none
def rk_call1 (call : Nat → List rk_V → List rk_T → List rk_H → Option rk_O) (f : Nat) (as : List rk_V) (st : rk_S) (pc : Nat) (r : List rk_V) : rk_R := rk_after (call f as st.2.2.1 st.2.2.2.1) pc st.1 r st.2.2.2.2.1 st.2.2.2.2.2
def rk_cv (mci : List Nat) (call : Nat → List rk_V → List rk_T → List rk_H → Option rk_O) (pc f n : Nat) (st : rk_S) : rk_R := match rk_pop n [] st.2.1 with
  | some (as, .inr (.inl j) :: r) => (match st.2.2.2.1[j]? with
    | some (.inl o) => if mci[f]? = some o.1 ∧ rk_sum st.2.2.1 r ≤ 8 then rk_call1 call f (.inr (.inl j) :: as) st pc r else none
    | _ => none)
  | _ => none
def rk_cs1 (call : Nat → List rk_V → List rk_T → List rk_H → Option rk_O) (pc f n : Nat) (st : rk_S) : rk_R := match rk_pop n [] st.2.1 with
  | some (as, r) => if rk_sum st.2.2.1 r ≤ 8 then rk_call1 call f as st pc r else none
  | none => none
def rk_ci (call : Nat → List rk_V → List rk_T → List rk_H → Option rk_O) (pc f n : Nat) (st : rk_S) : rk_R := match rk_pop n [] st.2.1 with
  | some (as, .inr (.inl j) :: r) => if rk_sum st.2.2.1 r ≤ 8 then rk_call1 call f (.inr (.inl j) :: as) st pc r else none
  | _ => none
set_option maxHeartbeats 4000000 in
def rk_cmp (fty : rk_F) (cln : List String) (mci : List Nat) (call : Nat → List rk_V → List rk_T → List rk_H → Option rk_O) (M : rk_M2) (pc : Nat) (ins : Instr) : Option (rk_S → Option rk_Q) := match ins with
  | .iconst n => some (fun st => let lo := st.1; let sk := st.2.1; let env := st.2.2.1; let hp := st.2.2.2.1; let nc := st.2.2.2.2.1; let ns := st.2.2.2.2.2; rk_r (some [(pc + 1, (lo, .inl (.int (Int32.ofInt n)) :: sk, env, hp, nc, ns))]))
  | .bipush n => some (fun st => let lo := st.1; let sk := st.2.1; let env := st.2.2.1; let hp := st.2.2.2.1; let nc := st.2.2.2.2.1; let ns := st.2.2.2.2.2; rk_r (some [(pc + 2, (lo, .inl (.int (Int8.ofInt n).toInt32) :: sk, env, hp, nc, ns))]))
  | .sipush n => some (fun st => let lo := st.1; let sk := st.2.1; let env := st.2.2.1; let hp := st.2.2.2.1; let nc := st.2.2.2.2.1; let ns := st.2.2.2.2.2; rk_r (some [(pc + 3, (lo, .inl (.int (Int16.ofInt n).toInt32) :: sk, env, hp, nc, ns))]))
  | .lconst n => some (fun st => let lo := st.1; let sk := st.2.1; let env := st.2.2.1; let hp := st.2.2.2.1; let nc := st.2.2.2.2.1; let ns := st.2.2.2.2.2; rk_r (some [(pc + 1, (lo, .inl (.long (Int64.ofNat (n : Nat))) :: sk, env, hp, nc, ns))]))
  | .aconst_null => some (fun st => let lo := st.1; let sk := st.2.1; let env := st.2.2.1; let hp := st.2.2.2.1; let nc := st.2.2.2.2.1; let ns := st.2.2.2.2.2; rk_r (some [(pc + 1, (lo, .inl .null :: sk, env, hp, nc, ns))]))
  | .iload_n k => some (fun st => let lo := st.1; let sk := st.2.1; let env := st.2.2.1; let hp := st.2.2.2.1; let nc := st.2.2.2.2.1; let ns := st.2.2.2.2.2; rk_r (rk_ldi lo k (pc + 1) sk env hp nc ns))
  | .iload i => some (fun st => let lo := st.1; let sk := st.2.1; let env := st.2.2.1; let hp := st.2.2.2.1; let nc := st.2.2.2.2.1; let ns := st.2.2.2.2.2; rk_r (rk_ldi lo i (pc + 2) sk env hp nc ns))
  | .lload_n k => some (fun st => let lo := st.1; let sk := st.2.1; let env := st.2.2.1; let hp := st.2.2.2.1; let nc := st.2.2.2.2.1; let ns := st.2.2.2.2.2; rk_r (rk_ldl lo k (pc + 1) sk env hp nc ns))
  | .lload i => some (fun st => let lo := st.1; let sk := st.2.1; let env := st.2.2.1; let hp := st.2.2.2.1; let nc := st.2.2.2.2.1; let ns := st.2.2.2.2.2; rk_r (rk_ldl lo i (pc + 2) sk env hp nc ns))
  | .aload_n k => some (fun st => let lo := st.1; let sk := st.2.1; let env := st.2.2.1; let hp := st.2.2.2.1; let nc := st.2.2.2.2.1; let ns := st.2.2.2.2.2; rk_r (rk_lda lo k (pc + 1) sk env hp nc ns))
  | .aload i => some (fun st => let lo := st.1; let sk := st.2.1; let env := st.2.2.1; let hp := st.2.2.2.1; let nc := st.2.2.2.2.1; let ns := st.2.2.2.2.2; rk_r (rk_lda lo i (pc + 2) sk env hp nc ns))
  | .istore_n k => some (fun st => let lo := st.1; let sk := st.2.1; let env := st.2.2.1; let hp := st.2.2.2.1; let nc := st.2.2.2.2.1; let ns := st.2.2.2.2.2; rk_r (rk_sti M.2.1 k (pc + 1) lo sk env hp nc ns))
  | .istore i => some (fun st => let lo := st.1; let sk := st.2.1; let env := st.2.2.1; let hp := st.2.2.2.1; let nc := st.2.2.2.2.1; let ns := st.2.2.2.2.2; rk_r (rk_sti M.2.1 i (pc + 2) lo sk env hp nc ns))
  | .lstore_n k => some (fun st => let lo := st.1; let sk := st.2.1; let env := st.2.2.1; let hp := st.2.2.2.1; let nc := st.2.2.2.2.1; let ns := st.2.2.2.2.2; rk_r (rk_stl M.2.1 k (pc + 1) lo sk env hp nc ns))
  | .lstore i => some (fun st => let lo := st.1; let sk := st.2.1; let env := st.2.2.1; let hp := st.2.2.2.1; let nc := st.2.2.2.2.1; let ns := st.2.2.2.2.2; rk_r (rk_stl M.2.1 i (pc + 2) lo sk env hp nc ns))
  | .astore_n k => some (fun st => let lo := st.1; let sk := st.2.1; let env := st.2.2.1; let hp := st.2.2.2.1; let nc := st.2.2.2.2.1; let ns := st.2.2.2.2.2; rk_r (rk_sta M.2.1 k (pc + 1) lo sk env hp nc ns))
  | .astore i => some (fun st => let lo := st.1; let sk := st.2.1; let env := st.2.2.1; let hp := st.2.2.2.1; let nc := st.2.2.2.2.1; let ns := st.2.2.2.2.2; rk_r (rk_sta M.2.1 i (pc + 2) lo sk env hp nc ns))
  | .iinc i n => some (fun st => let lo := st.1; let sk := st.2.1; let env := st.2.2.1; let hp := st.2.2.2.1; let nc := st.2.2.2.2.1; let ns := st.2.2.2.2.2; rk_r (match rk_ld lo i with
    | some a => if i < M.2.1 then (match rk_bin (fun x y => x + y) rk_iadd env a (.inl (.int (Int32.ofInt n))) with
      | some q => some [(pc + 3, (rk_st1 q.2 lo i q.1, sk, q.2, hp, nc, ns))]
      | none => none) else none
    | none => none))
  | .dup => some (fun st => let lo := st.1; let sk := st.2.1; let env := st.2.2.1; let hp := st.2.2.2.1; let nc := st.2.2.2.2.1; let ns := st.2.2.2.2.2; rk_r (match sk with
    | a :: r => if rk_cat env a = 1 then some [(pc + 1, (lo, a :: a :: r, env, hp, nc, ns))] else none
    | _ => none))
  | .dup2 => some (fun st => let lo := st.1; let sk := st.2.1; let env := st.2.2.1; let hp := st.2.2.2.1; let nc := st.2.2.2.2.1; let ns := st.2.2.2.2.2; rk_r (match sk with
    | a :: b :: r => if rk_cat env a = 1 ∧ rk_cat env b = 1 then some [(pc + 1, (lo, a :: b :: a :: b :: r, env, hp, nc, ns))] else if rk_cat env a = 2 then some [(pc + 1, (lo, a :: a :: b :: r, env, hp, nc, ns))] else none
    | _ => none))
  | .pop => some (fun st => let lo := st.1; let sk := st.2.1; let env := st.2.2.1; let hp := st.2.2.2.1; let nc := st.2.2.2.2.1; let ns := st.2.2.2.2.2; rk_r (match sk with
    | a :: r => if rk_cat env a = 1 then some [(pc + 1, (lo, r, env, hp, nc, ns))] else none
    | _ => none))
  | .pop2 => some (fun st => let lo := st.1; let sk := st.2.1; let env := st.2.2.1; let hp := st.2.2.2.1; let nc := st.2.2.2.2.1; let ns := st.2.2.2.2.2; rk_r (match sk with
    | a :: r => if rk_cat env a = 2 then some [(pc + 1, (lo, r, env, hp, nc, ns))] else none
    | _ => none))
  | .iadd => some (fun st => let lo := st.1; let sk := st.2.1; let env := st.2.2.1; let hp := st.2.2.2.1; let nc := st.2.2.2.2.1; let ns := st.2.2.2.2.2; rk_r (match sk with
    | b :: a :: r => rk_op2 (rk_bin (fun x y => x + y) rk_iadd env a b) (pc + 1) lo r hp nc ns
    | _ => none))
  | .isub => some (fun st => let lo := st.1; let sk := st.2.1; let env := st.2.2.1; let hp := st.2.2.2.1; let nc := st.2.2.2.2.1; let ns := st.2.2.2.2.2; rk_r (match sk with
    | b :: a :: r => rk_op2 (rk_bin (fun x y => x - y) rk_isub env a b) (pc + 1) lo r hp nc ns
    | _ => none))
  | .imul => some (fun st => let lo := st.1; let sk := st.2.1; let env := st.2.2.1; let hp := st.2.2.2.1; let nc := st.2.2.2.2.1; let ns := st.2.2.2.2.2; rk_r (match sk with
    | b :: a :: r => rk_op2 (rk_bin (fun x y => x * y) (fun _ _ => rk_full) env a b) (pc + 1) lo r hp nc ns
    | _ => none))
  | .iand => some (fun st => let lo := st.1; let sk := st.2.1; let env := st.2.2.1; let hp := st.2.2.2.1; let nc := st.2.2.2.2.1; let ns := st.2.2.2.2.2; rk_r (match sk with
    | b :: a :: r => rk_op2 (rk_bin (fun x y => x &&& y) rk_iand env a b) (pc + 1) lo r hp nc ns
    | _ => none))
  | .ior => some (fun st => let lo := st.1; let sk := st.2.1; let env := st.2.2.1; let hp := st.2.2.2.1; let nc := st.2.2.2.2.1; let ns := st.2.2.2.2.2; rk_r (match sk with
    | b :: a :: r => rk_op2 (rk_bin (fun x y => x ||| y) (fun _ _ => rk_full) env a b) (pc + 1) lo r hp nc ns
    | _ => none))
  | .ixor => some (fun st => let lo := st.1; let sk := st.2.1; let env := st.2.2.1; let hp := st.2.2.2.1; let nc := st.2.2.2.2.1; let ns := st.2.2.2.2.2; rk_r (match sk with
    | b :: a :: r => rk_op2 (rk_bin (fun x y => x ^^^ y) (fun _ _ => rk_full) env a b) (pc + 1) lo r hp nc ns
    | _ => none))
  | .ifCond c off => some (fun st => let lo := st.1; let sk := st.2.1; let env := st.2.2.1; let hp := st.2.2.2.1; let nc := st.2.2.2.2.1; let ns := st.2.2.2.2.2; rk_r (match sk with
    | a :: r => rk_if c off pc a (.inl (.int 0)) lo r env hp nc ns
    | _ => none))
  | .if_icmp c off => some (fun st => let lo := st.1; let sk := st.2.1; let env := st.2.2.1; let hp := st.2.2.2.1; let nc := st.2.2.2.2.1; let ns := st.2.2.2.2.2; rk_r (match sk with
    | b :: a :: r => rk_if c off pc a b lo r env hp nc ns
    | _ => none))
  | .goto off => some (fun st => let lo := st.1; let sk := st.2.1; let env := st.2.2.1; let hp := st.2.2.2.1; let nc := st.2.2.2.2.1; let ns := st.2.2.2.2.2; rk_r (if 0 ≤ (pc : Int) + off then some [(((pc : Int) + off).toNat, st)] else none))
  | .ishl => some (fun st => let lo := st.1; let sk := st.2.1; let env := st.2.2.1; let hp := st.2.2.2.1; let nc := st.2.2.2.2.1; let ns := st.2.2.2.2.2; rk_r (match sk with
    | b :: a :: r => rk_op2 (rk_bin (fun x y => x <<< (y &&& 31)) (fun _ _ => rk_full) env a b) (pc + 1) lo r hp nc ns
    | _ => none))
  | .ishr => some (fun st => let lo := st.1; let sk := st.2.1; let env := st.2.2.1; let hp := st.2.2.2.1; let nc := st.2.2.2.2.1; let ns := st.2.2.2.2.2; rk_r (match sk with
    | b :: a :: r => rk_op2 (rk_bin (fun x y => x >>> (y &&& 31)) (fun _ _ => rk_full) env a b) (pc + 1) lo r hp nc ns
    | _ => none))
  | .iushr => some (fun st => let lo := st.1; let sk := st.2.1; let env := st.2.2.1; let hp := st.2.2.2.1; let nc := st.2.2.2.2.1; let ns := st.2.2.2.2.2; rk_r (match sk with
    | b :: a :: r => rk_op2 (rk_bin (fun x y => (x.toUInt32 >>> (y.toUInt32 &&& Int32.toUInt32 31)).toInt32) (fun _ _ => rk_full) env a b) (pc + 1) lo r hp nc ns
    | _ => none))
  | .idiv => some (fun st => let lo := st.1; let sk := st.2.1; let env := st.2.2.1; let hp := st.2.2.2.1; let nc := st.2.2.2.2.1; let ns := st.2.2.2.2.2; rk_r (match sk with
    | b :: a :: r => if rk_nz env b then rk_op2 (rk_bin (fun x y => x / y) (fun _ _ => rk_full) env a b) (pc + 1) lo r hp nc ns else none
    | _ => none))
  | .irem => some (fun st => let lo := st.1; let sk := st.2.1; let env := st.2.2.1; let hp := st.2.2.2.1; let nc := st.2.2.2.2.1; let ns := st.2.2.2.2.2; rk_r (match sk with
    | b :: a :: r => if rk_nz env b then rk_op2 (rk_bin (fun x y => x - x / y * y) rk_irem env a b) (pc + 1) lo r hp nc ns else none
    | _ => none))
  | .ineg => some (fun st => let lo := st.1; let sk := st.2.1; let env := st.2.2.1; let hp := st.2.2.2.1; let nc := st.2.2.2.2.1; let ns := st.2.2.2.2.2; rk_r (match sk with
    | a :: r => rk_op2 (rk_un (fun x => -x) rk_full env a) (pc + 1) lo r hp nc ns
    | _ => none))
  | .i2b => some (fun st => let lo := st.1; let sk := st.2.1; let env := st.2.2.1; let hp := st.2.2.2.1; let nc := st.2.2.2.2.1; let ns := st.2.2.2.2.2; rk_r (match sk with
    | a :: r => rk_op2 (rk_un (fun x => x.toInt8.toInt32) (-128, 127) env a) (pc + 1) lo r hp nc ns
    | _ => none))
  | .i2s => some (fun st => let lo := st.1; let sk := st.2.1; let env := st.2.2.1; let hp := st.2.2.2.1; let nc := st.2.2.2.2.1; let ns := st.2.2.2.2.2; rk_r (match sk with
    | a :: r => rk_op2 (rk_un (fun x => x.toInt16.toInt32) (-32768, 32767) env a) (pc + 1) lo r hp nc ns
    | _ => none))
  | .i2l => some (fun st => let lo := st.1; let sk := st.2.1; let env := st.2.2.1; let hp := st.2.2.2.1; let nc := st.2.2.2.2.1; let ns := st.2.2.2.2.2; rk_r (rk_rs (match sk with
    | .inl (.int x) :: r => some [(pc + 1, (lo, .inl (.long x.toInt64) :: r, env, hp, nc, ns))]
    | .inr (.inr (.inl k)) :: r => if (rk_iv env (.inr (.inr (.inl k)))).isSome then some [(pc + 1, (lo, .inr (.inr (.inr k)) :: r, env, hp, nc, ns))] else none
    | _ => none) (rk_split pc (.i2l) st)))
  | .l2i => some (fun st => let lo := st.1; let sk := st.2.1; let env := st.2.2.1; let hp := st.2.2.2.1; let nc := st.2.2.2.2.1; let ns := st.2.2.2.2.2; rk_r (match sk with
    | .inl (.long x) :: r => some [(pc + 1, (lo, .inl (.int x.toInt32) :: r, env, hp, nc, ns))]
    | .inr (.inr (.inr k)) :: r => some [(pc + 1, (lo, .inr (.inr (.inl k)) :: r, env, hp, nc, ns))]
    | a :: r => if rk_isL env a then rk_op2 (some (rk_fi env rk_full)) (pc + 1) lo r hp nc ns else none
    | _ => none))
  | .ladd => some (fun st => let lo := st.1; let sk := st.2.1; let env := st.2.2.1; let hp := st.2.2.2.1; let nc := st.2.2.2.2.1; let ns := st.2.2.2.2.2; rk_r (match sk with
    | b :: a :: r => rk_op2 (rk_lbin (fun x y => x + y) env a b) (pc + 1) lo r hp nc ns
    | _ => none))
  | .lsub => some (fun st => let lo := st.1; let sk := st.2.1; let env := st.2.2.1; let hp := st.2.2.2.1; let nc := st.2.2.2.2.1; let ns := st.2.2.2.2.2; rk_r (rk_rs (rk_pre0 pc .lsub st) (match sk with
    | b :: a :: r => rk_op2 (rk_lbin (fun x y => x - y) env a b) (pc + 1) lo r hp nc ns
    | _ => none)))
  | .lmul => some (fun st => let lo := st.1; let sk := st.2.1; let env := st.2.2.1; let hp := st.2.2.2.1; let nc := st.2.2.2.2.1; let ns := st.2.2.2.2.2; rk_r (match sk with
    | b :: a :: r => rk_op2 (rk_lbin (fun x y => x * y) env a b) (pc + 1) lo r hp nc ns
    | _ => none))
  | .land => some (fun st => let lo := st.1; let sk := st.2.1; let env := st.2.2.1; let hp := st.2.2.2.1; let nc := st.2.2.2.2.1; let ns := st.2.2.2.2.2; rk_r (match sk with
    | b :: a :: r => rk_op2 (rk_lbin (fun x y => x &&& y) env a b) (pc + 1) lo r hp nc ns
    | _ => none))
  | .lor => some (fun st => let lo := st.1; let sk := st.2.1; let env := st.2.2.1; let hp := st.2.2.2.1; let nc := st.2.2.2.2.1; let ns := st.2.2.2.2.2; rk_r (match sk with
    | b :: a :: r => rk_op2 (rk_lbin (fun x y => x ||| y) env a b) (pc + 1) lo r hp nc ns
    | _ => none))
  | .lxor => some (fun st => let lo := st.1; let sk := st.2.1; let env := st.2.2.1; let hp := st.2.2.2.1; let nc := st.2.2.2.2.1; let ns := st.2.2.2.2.2; rk_r (match sk with
    | b :: a :: r => rk_op2 (rk_lbin (fun x y => x ^^^ y) env a b) (pc + 1) lo r hp nc ns
    | _ => none))
  | .ldiv => some (fun st => let lo := st.1; let sk := st.2.1; let env := st.2.2.1; let hp := st.2.2.2.1; let nc := st.2.2.2.2.1; let ns := st.2.2.2.2.2; rk_r (match sk with
    | b :: a :: r => if rk_lnz b then rk_op2 (rk_lbin (fun x y => x / y) env a b) (pc + 1) lo r hp nc ns else none
    | _ => none))
  | .lrem => some (fun st => let lo := st.1; let sk := st.2.1; let env := st.2.2.1; let hp := st.2.2.2.1; let nc := st.2.2.2.2.1; let ns := st.2.2.2.2.2; rk_r (match sk with
    | b :: a :: r => if rk_lnz b then rk_op2 (rk_lbin (fun x y => x - x / y * y) env a b) (pc + 1) lo r hp nc ns else none
    | _ => none))
  | .lshl => some (fun st => let lo := st.1; let sk := st.2.1; let env := st.2.2.1; let hp := st.2.2.2.1; let nc := st.2.2.2.2.1; let ns := st.2.2.2.2.2; rk_r (match sk with
    | b :: a :: r => rk_op2 (rk_lsh (fun x y => x <<< (y.toInt64 &&& 63)) env a b) (pc + 1) lo r hp nc ns
    | _ => none))
  | .lshr => some (fun st => let lo := st.1; let sk := st.2.1; let env := st.2.2.1; let hp := st.2.2.2.1; let nc := st.2.2.2.2.1; let ns := st.2.2.2.2.2; rk_r (match sk with
    | b :: a :: r => rk_op2 (rk_lsh (fun x y => x >>> (y.toInt64 &&& 63)) env a b) (pc + 1) lo r hp nc ns
    | _ => none))
  | .lushr => some (fun st => let lo := st.1; let sk := st.2.1; let env := st.2.2.1; let hp := st.2.2.2.1; let nc := st.2.2.2.2.1; let ns := st.2.2.2.2.2; rk_r (match sk with
    | b :: a :: r => rk_op2 (rk_lsh (fun x y => (x.toUInt64 >>> (y.toInt64.toUInt64 &&& Int64.toUInt64 63)).toInt64) env a b) (pc + 1) lo r hp nc ns
    | _ => none))
  | .lcmp => some (fun st => let lo := st.1; let sk := st.2.1; let env := st.2.2.1; let hp := st.2.2.2.1; let nc := st.2.2.2.2.1; let ns := st.2.2.2.2.2; rk_r (match sk with
    | .inl (.long y) :: .inl (.long x) :: r => some [(pc + 1, (lo, .inl (.int (lg_cmp x y)) :: r, env, hp, nc, ns))]
    | .inl (.long y) :: .inr (.inr (.inr k)) :: r => some (rk_opt (rk_cut env (.inr (.inr (.inl k))) (y.toInt + 1) 2147483647) (pc + 1) lo (.inl (.int 1) :: r) hp nc ns ++ (rk_opt (rk_cut env (.inr (.inr (.inl k))) y.toInt y.toInt) (pc + 1) lo (.inl (.int 0) :: r) hp nc ns ++ rk_opt (rk_cut env (.inr (.inr (.inl k))) (-2147483648) (y.toInt - 1)) (pc + 1) lo (.inl (.int (-1)) :: r) hp nc ns))
    | .inr (.inr (.inr k)) :: .inl (.long x) :: r => some (rk_opt (rk_cut env (.inr (.inr (.inl k))) (-2147483648) (x.toInt - 1)) (pc + 1) lo (.inl (.int 1) :: r) hp nc ns ++ (rk_opt (rk_cut env (.inr (.inr (.inl k))) x.toInt x.toInt) (pc + 1) lo (.inl (.int 0) :: r) hp nc ns ++ rk_opt (rk_cut env (.inr (.inr (.inl k))) (x.toInt + 1) 2147483647) (pc + 1) lo (.inl (.int (-1)) :: r) hp nc ns))
    | b :: a :: r => if rk_isL env a && rk_isL env b then rk_op2 (some (rk_fi env (-1, 1))) (pc + 1) lo r hp nc ns else none
    | _ => none))
  | .tableswitch dflt low high offs => some (fun st => let lo := st.1; let sk := st.2.1; let env := st.2.2.1; let hp := st.2.2.2.1; let nc := st.2.2.2.2.1; let ns := st.2.2.2.2.2; rk_r (match sk with
    | a :: r => match rk_iv env a with
      | some _ => if offs.toList.length = (high - low + 1).toNat ∧ 0 ≤ (pc : Int) + dflt then (rk_sw a pc lo r env hp nc ns low offs.toList).map (fun l => l ++ (rk_opt (rk_cut env a (-2147483648) (low - 1)) ((pc : Int) + dflt).toNat lo r hp nc ns ++ rk_opt (rk_cut env a (high + 1) 2147483647) ((pc : Int) + dflt).toNat lo r hp nc ns)) else none
      | none => none
    | _ => none))
  | .getfield idx => some (fun st => let lo := st.1; let sk := st.2.1; let env := st.2.2.1; let hp := st.2.2.2.1; let nc := st.2.2.2.2.1; let ns := st.2.2.2.2.2; rk_r (match sk with
    | .inr (.inl j) :: r => match rk_lk M.2.2.1 idx, hp[j]? with
      | some (kd, ci, k), some (.inl o) => if kd ≤ 2 ∧ ci = o.1 then (match o.2[k]? with
        | some a => some [(pc + 3, (lo, rk_norm env a :: r, env, hp, nc, ns))]
        | none => none) else none
      | _, _ => none
    | _ => none))
  | .putfield idx => some (fun st => let lo := st.1; let sk := st.2.1; let env := st.2.2.1; let hp := st.2.2.2.1; let nc := st.2.2.2.2.1; let ns := st.2.2.2.2.2; rk_r (match sk with
    | v :: .inr (.inl j) :: r => match rk_lk M.2.2.1 idx, hp[j]? with
      | some (kd, ci, k), some (.inl o) => if kd ≤ 2 ∧ ci = o.1 ∧ k < o.2.length then (match (fty[ci]?).bind (fun t => t[k]?) with
        | some t => if rk_fit env t.1 v = true ∧ (t.2 = true ↔ kd = 2) then some [(pc + 3, (lo, r, env, hp.set j (.inl (o.1, o.2.set k v)), nc, ns))] else none
        | none => none) else none
      | _, _ => none
    | _ => none))
  | .iaload => some (fun st => let lo := st.1; let sk := st.2.1; let env := st.2.2.1; let hp := st.2.2.2.1; let nc := st.2.2.2.2.1; let ns := st.2.2.2.2.2; rk_r (rk_rs (match sk with
    | ix :: .inr (.inl j) :: r => match hp[j]? with
      | some (.inr (.int, n, d, ov)) => (match rk_ix env ix n with
        | some i => some [(pc + 1, (lo, rk_norm env (rk_look d ov i) :: r, env, hp, nc, ns))]
        | none => none)
      | _ => none
    | _ => none) (rk_split pc (.iaload) st)))
  | .baload => some (fun st => let lo := st.1; let sk := st.2.1; let env := st.2.2.1; let hp := st.2.2.2.1; let nc := st.2.2.2.2.1; let ns := st.2.2.2.2.2; rk_r (rk_rs (match sk with
    | ix :: .inr (.inl j) :: r => match hp[j]? with
      | some (.inr (.byte, n, d, ov)) => (match rk_ix env ix n with
        | some i => some [(pc + 1, (lo, rk_norm env (rk_look d ov i) :: r, env, hp, nc, ns))]
        | none => none)
      | _ => none
    | _ => none) (rk_split pc (.baload) st)))
  | .laload => some (fun st => let lo := st.1; let sk := st.2.1; let env := st.2.2.1; let hp := st.2.2.2.1; let nc := st.2.2.2.2.1; let ns := st.2.2.2.2.2; rk_r (rk_rs (match sk with
    | ix :: .inr (.inl j) :: r => match hp[j]? with
      | some (.inr (.long, n, d, ov)) => (match rk_ix env ix n with
        | some i => some [(pc + 1, (lo, rk_look d ov i :: r, env, hp, nc, ns))]
        | none => none)
      | _ => none
    | _ => none) (rk_split pc (.laload) st)))
  | .aaload => some (fun st => let lo := st.1; let sk := st.2.1; let env := st.2.2.1; let hp := st.2.2.2.1; let nc := st.2.2.2.2.1; let ns := st.2.2.2.2.2; rk_r (rk_rs (match sk with
    | ix :: .inr (.inl j) :: r => match hp[j]? with
      | some (.inr (.object _, n, d, ov)) => (match rk_ix env ix n with
        | some i => some [(pc + 1, (lo, rk_look d ov i :: r, env, hp, nc, ns))]
        | none => none)
      | some (.inr (.array _, n, d, ov)) => (match rk_ix env ix n with
        | some i => some [(pc + 1, (lo, rk_look d ov i :: r, env, hp, nc, ns))]
        | none => none)
      | _ => none
    | _ => none) (rk_split pc (.aaload) st)))
  | .iastore => some (fun st => let lo := st.1; let sk := st.2.1; let env := st.2.2.1; let hp := st.2.2.2.1; let nc := st.2.2.2.2.1; let ns := st.2.2.2.2.2; rk_r (rk_rs (match sk with
    | v :: ix :: .inr (.inl j) :: r => match hp[j]? with
      | some (.inr (.int, n, d, ov)) => (match rk_ix env ix n with
        | some i => if (rk_iv env v).isSome then some [(pc + 1, (lo, r, env, hp.set j (.inr (.int, n, d, rk_put d ov i v)), nc, ns))] else none
        | none => none)
      | _ => none
    | _ => none) (rk_split pc (.iastore) st)))
  | .bastore => some (fun st => let lo := st.1; let sk := st.2.1; let env := st.2.2.1; let hp := st.2.2.2.1; let nc := st.2.2.2.2.1; let ns := st.2.2.2.2.2; rk_r (rk_rs (match sk with
    | v :: ix :: .inr (.inl j) :: r => match hp[j]? with
      | some (.inr (.byte, n, d, ov)) => (match rk_ix env ix n, rk_iv env v with
        | some i, some I => if -128 ≤ I.1 ∧ I.2 ≤ 127 then some [(pc + 1, (lo, r, env, hp.set j (.inr (.byte, n, d, rk_put d ov i v)), nc, ns))] else none
        | _, _ => none)
      | _ => none
    | _ => none) (rk_split pc (.bastore) st)))
  | .lastore => some (fun st => let lo := st.1; let sk := st.2.1; let env := st.2.2.1; let hp := st.2.2.2.1; let nc := st.2.2.2.2.1; let ns := st.2.2.2.2.2; rk_r (rk_rs (match sk with
    | v :: ix :: .inr (.inl j) :: r => match hp[j]? with
      | some (.inr (.long, n, d, ov)) => (match rk_ix env ix n with
        | some i => if rk_isL env v then some [(pc + 1, (lo, r, env, hp.set j (.inr (.long, n, d, rk_put d ov i v)), nc, ns))] else none
        | none => none)
      | _ => none
    | _ => none) (rk_split pc (.lastore) st)))
  | .aastore => some (fun st => let lo := st.1; let sk := st.2.1; let env := st.2.2.1; let hp := st.2.2.2.1; let nc := st.2.2.2.2.1; let ns := st.2.2.2.2.2; rk_r (rk_rs (match sk with
    | .inr (.inl y) :: ix :: .inr (.inl j) :: r => match hp[j]?, hp[y]? with
      | some (.inr (.object C, n, d, ov)), some (.inl o) => (match rk_ix env ix n with
        | some i => if cln[o.1]? = some C then some [(pc + 1, (lo, r, env, hp.set j (.inr (.object C, n, d, (i, .inr (.inl y)) :: ov)), nc, ns))] else none
        | none => none)
      | _, _ => none
    | _ => none) (rk_split pc (.aastore) st)))
  | .arraylength => some (fun st => let lo := st.1; let sk := st.2.1; let env := st.2.2.1; let hp := st.2.2.2.1; let nc := st.2.2.2.2.1; let ns := st.2.2.2.2.2; rk_r (match sk with
    | .inr (.inl j) :: r => match hp[j]? with
      | some (.inr q) => some [(pc + 1, (lo, .inl (.int (Int32.ofNat q.2.1)) :: r, env, hp, nc, ns))]
      | _ => none
    | _ => none))
  | .newarray at_ => some (fun st => let lo := st.1; let sk := st.2.1; let env := st.2.2.1; let hp := st.2.2.2.1; let nc := st.2.2.2.2.1; let ns := st.2.2.2.2.2; rk_r (match sk with
    | .inl (.int x) :: r => if 0 ≤ x.toInt ∧ x.toInt ≤ 100000 then (match at_ with
      | .int => some [(pc + 2, (lo, .inr (.inl hp.length) :: r, env, hp ++ [.inr (.int, x.toNatClampNeg, .inl (.int 0), [])], nc + 1, ns + x.toNatClampNeg))]
      | .byte => some [(pc + 2, (lo, .inr (.inl hp.length) :: r, env, hp ++ [.inr (.byte, x.toNatClampNeg, .inl (.int 0), [])], nc + 1, ns + x.toNatClampNeg))]
      | .long => some [(pc + 2, (lo, .inr (.inl hp.length) :: r, env, hp ++ [.inr (.long, x.toNatClampNeg, .inl (.long 0), [])], nc + 1, ns + x.toNatClampNeg))]
      | _ => none) else none
    | _ => none))
  | .anewarray idx => some (fun st => let lo := st.1; let sk := st.2.1; let env := st.2.2.1; let hp := st.2.2.2.1; let nc := st.2.2.2.2.1; let ns := st.2.2.2.2.2; rk_r (match sk with
    | .inl (.int x) :: r => if 0 ≤ x.toInt ∧ x.toInt ≤ 100000 then (match rk_lk (M.2.2.1.filter (fun r => r.2.1 == 4)) idx with
      | some (4, ci, _) => (match cln[ci]? with
        | some C => some [(pc + 3, (lo, .inr (.inl hp.length) :: r, env, hp ++ [.inr (.object C, x.toNatClampNeg, .inl .null, [])], nc + 1, ns + x.toNatClampNeg))]
        | none => none)
      | _ => none) else none
    | _ => none))
  | .multianewarray idx dims => some (fun st => let lo := st.1; let sk := st.2.1; let env := st.2.2.1; let hp := st.2.2.2.1; let nc := st.2.2.2.2.1; let ns := st.2.2.2.2.2; rk_r (match sk with
    | .inl (.int y) :: .inl (.int x) :: r => if (dims : Nat) = 2 ∧ (0 ≤ x.toInt ∧ x.toInt ≤ 1000) ∧ 0 ≤ y.toInt ∧ y.toInt ≤ 1000 then (match rk_lk M.2.2.1 idx with
      | some (13, _, _) => some [(pc + 4, (lo, .inr (.inl hp.length) :: r, env, hp ++ ([.inr (.array .long, x.toNatClampNeg, .inl .null, rk_rows (hp.length + 1) x.toNatClampNeg)] ++ List.replicate x.toNatClampNeg (.inr (.long, y.toNatClampNeg, .inl (.long 0), []))), nc + 1 + x.toNatClampNeg, ns + x.toNatClampNeg + x.toNatClampNeg * y.toNatClampNeg))]
      | _ => none) else none
    | _ => none))
  | .new idx => some (fun st => let lo := st.1; let sk := st.2.1; let env := st.2.2.1; let hp := st.2.2.2.1; let nc := st.2.2.2.2.1; let ns := st.2.2.2.2.2; rk_r (match rk_lk M.2.2.1 idx with
    | some (3, ci, _) => (match fty[ci]? with
      | some tf => some [(pc + 3, (lo, .inr (.inl hp.length) :: sk, env, hp ++ [.inl (ci, tf.map (fun t => .inl (defaultValue t.1)))], nc + 1, ns + tf.length))]
      | none => none)
    | _ => none))
  | .ldc idx => some (fun st => let lo := st.1; let sk := st.2.1; let env := st.2.2.1; let hp := st.2.2.2.1; let nc := st.2.2.2.2.1; let ns := st.2.2.2.2.2; rk_r (match rk_cst M.2.2.2.1 idx with
    | some (.int x) => some [(pc + 2, (lo, .inl (.int x) :: sk, env, hp, nc, ns))]
    | _ => none))
  | .ldc_w idx => some (fun st => let lo := st.1; let sk := st.2.1; let env := st.2.2.1; let hp := st.2.2.2.1; let nc := st.2.2.2.2.1; let ns := st.2.2.2.2.2; rk_r (match rk_cst M.2.2.2.1 idx with
    | some (.int x) => some [(pc + 3, (lo, .inl (.int x) :: sk, env, hp, nc, ns))]
    | _ => none))
  | .ldc2_w idx => some (fun st => let lo := st.1; let sk := st.2.1; let env := st.2.2.1; let hp := st.2.2.2.1; let nc := st.2.2.2.2.1; let ns := st.2.2.2.2.2; rk_r (match rk_cst M.2.2.2.1 idx with
    | some (.long x) => some [(pc + 3, (lo, .inl (.long x) :: sk, env, hp, nc, ns))]
    | _ => none))
  | .invokevirtual idx => match rk_lk M.2.2.1 idx with
    | some (kd, f, n) => if kd = 5 ∨ kd = 6 then some (fun st => rk_r (rk_cv mci call pc f n st)) else none
    | none => none
  | .invokestatic idx => match rk_lk M.2.2.1 idx with
    | some (kd, f, n) => if kd = 7 ∨ kd = 8 then some (fun st => rk_r (rk_cs1 call pc f n st)) else if kd = 12 then some (fun st => rk_r (rk_copy M.2.2.1 pc (.invokestatic idx) st)) else some (fun st => rk_r (rk_math M.2.2.1 pc (.invokestatic idx) st))
    | none => none
  | .invokespecial idx => match rk_lk M.2.2.1 idx with
    | some (kd, f, n) => if kd = 9 ∨ kd = 10 then some (fun st => rk_r (rk_ci call pc f n st)) else some (fun st => rk_r (rk_call mci (fun _ _ _ _ => none) M.2.2.1 pc (.invokespecial idx) st))
    | none => none
  | .return_ => some (fun st => rk_e (rk_end M.2.2.2.2.1 .return_ st))
  | .ireturn => some (fun st => rk_e (rk_end M.2.2.2.2.1 .ireturn st))
  | .lreturn => some (fun st => rk_e (rk_end M.2.2.2.2.1 .lreturn st))
  | _ => none
theorem rk_e_inv {o : Option (Option rk_X)} {q : rk_Q} (h : rk_e o = some q) : ∃ x, o = some (some x) ∧ q = .inl x := by
  unfold rk_e at h
  split at h
  · next x => exact ⟨x, rfl, (Option.some.inj h).symm⟩
  · cases h
section RKFA
variable {fty : rk_F} {cln : List String} {mci : List Nat} {call call' : Nat → List rk_V → List rk_T → List rk_H → Option rk_O} {ext : rk_Ext} {M : rk_M2} {pc : Nat} {ins : Instr} {st : rk_S} {l : List (Nat × rk_S)}
theorem rk_ch0 (h0 : ext pc ins st = none) (h1 : rk_pre0 pc ins st = some l) : rk_step fty cln mci call ext M pc ins st = some l := by
  simp only [rk_step, h0, h1]
theorem rk_ch1 (h0 : ext pc ins st = none) (h1 : rk_pre0 pc ins st = none) (h2 : rk_pure M.2.1 pc ins st = some l) : rk_step fty cln mci call ext M pc ins st = some l := by
  simp only [rk_step, h0, h1, h2]
theorem rk_ch2 (h0 : ext pc ins st = none) (h1 : rk_pre0 pc ins st = none) (h2 : rk_pure M.2.1 pc ins st = none) (h3 : rk_pure2 pc ins st = some l) : rk_step fty cln mci call ext M pc ins st = some l := by
  simp only [rk_step, h0, h1, h2, h3]
theorem rk_ch3 (h0 : ext pc ins st = none) (h1 : rk_pre0 pc ins st = none) (h2 : rk_pure M.2.1 pc ins st = none) (h3 : rk_pure2 pc ins st = none) (h4 : rk_heap fty cln M.2.2.1 M.2.2.2.1 pc ins st = some l) : rk_step fty cln mci call ext M pc ins st = some l := by
  simp only [rk_step, h0, h1, h2, h3, h4]
theorem rk_ch4 (h0 : ext pc ins st = none) (h1 : rk_pre0 pc ins st = none) (h2 : rk_pure M.2.1 pc ins st = none) (h3 : rk_pure2 pc ins st = none) (h4 : rk_heap fty cln M.2.2.1 M.2.2.2.1 pc ins st = none) (h5 : rk_call mci call M.2.2.1 pc ins st = some l) : rk_step fty cln mci call ext M pc ins st = some l := by
  simp only [rk_step, h0, h1, h2, h3, h4, h5]
theorem rk_ch5 (h0 : ext pc ins st = none) (h1 : rk_pre0 pc ins st = none) (h2 : rk_pure M.2.1 pc ins st = none) (h3 : rk_pure2 pc ins st = none) (h4 : rk_heap fty cln M.2.2.1 M.2.2.2.1 pc ins st = none) (h5 : rk_call mci call M.2.2.1 pc ins st = none) (h6 : rk_copy M.2.2.1 pc ins st = some l) : rk_step fty cln mci call ext M pc ins st = some l := by
  simp only [rk_step, h0, h1, h2, h3, h4, h5, h6]
theorem rk_ch6 (h0 : ext pc ins st = none) (h1 : rk_pre0 pc ins st = none) (h2 : rk_pure M.2.1 pc ins st = none) (h3 : rk_pure2 pc ins st = none) (h4 : rk_heap fty cln M.2.2.1 M.2.2.2.1 pc ins st = none) (h5 : rk_call mci call M.2.2.1 pc ins st = none) (h6 : rk_copy M.2.2.1 pc ins st = none) (h7 : rk_split pc ins st = some l) : rk_step fty cln mci call ext M pc ins st = some l := by
  simp only [rk_step, h0, h1, h2, h3, h4, h5, h6, h7]
theorem rk_ch7 (h0 : ext pc ins st = none) (h1 : rk_pre0 pc ins st = none) (h2 : rk_pure M.2.1 pc ins st = none) (h3 : rk_pure2 pc ins st = none) (h4 : rk_heap fty cln M.2.2.1 M.2.2.2.1 pc ins st = none) (h5 : rk_call mci call M.2.2.1 pc ins st = none) (h6 : rk_copy M.2.2.1 pc ins st = none) (h7 : rk_split pc ins st = none) (h8 : rk_math M.2.2.1 pc ins st = some l) : rk_step fty cln mci call ext M pc ins st = some l := by
  simp only [rk_step, h0, h1, h2, h3, h4, h5, h6, h7, h8]
theorem rk_call1_mono (hc : ∀ (f : Nat) (as : List rk_V) (env : List rk_T) (hp : List rk_H) (o : rk_O), call' f as env hp = some o → call f as env hp = some o) {f : Nat} {as r : List rk_V} (h : rk_call1 call' f as st pc r = some l) : rk_after (call f as st.2.2.1 st.2.2.2.1) pc st.1 r st.2.2.2.2.1 st.2.2.2.2.2 = some l := by
  unfold rk_call1 at h
  cases hq : call' f as st.2.2.1 st.2.2.2.1 with
  | none => rw [hq] at h; exact (rk_nosome (show (none : rk_R) = some l from h)).elim
  | some o => rw [hq] at h; rw [hc _ _ _ _ _ hq]; exact h
theorem rk_cv_ok (hc : ∀ (f : Nat) (as : List rk_V) (env : List rk_T) (hp : List rk_H) (o : rk_O), call' f as env hp = some o → call f as env hp = some o) {idx kd f n : Nat} (hlk : rk_lk M.2.2.1 idx = some (kd, f, n)) (hkd : kd = 5 ∨ kd = 6) (h : rk_cv mci call' pc f n st = some l) : rk_call mci call M.2.2.1 pc (.invokevirtual idx) st = some l := by
  unfold rk_cv at h
  simp only [rk_call]
  rw [hlk]
  dsimp only
  rw [if_pos hkd]
  split at h
  · next as j r hp =>
    rw [hp]
    dsimp only
    split at h
    · next o ho =>
      rw [ho]
      dsimp only
      split at h
      · next hcnd => rw [if_pos hcnd]; exact rk_call1_mono hc h
      · cases h
    · cases h
  · cases h
theorem rk_cs1_ok (hc : ∀ (f : Nat) (as : List rk_V) (env : List rk_T) (hp : List rk_H) (o : rk_O), call' f as env hp = some o → call f as env hp = some o) {idx kd f n : Nat} (hlk : rk_lk M.2.2.1 idx = some (kd, f, n)) (hkd : kd = 7 ∨ kd = 8) (h : rk_cs1 call' pc f n st = some l) : rk_call mci call M.2.2.1 pc (.invokestatic idx) st = some l := by
  unfold rk_cs1 at h
  simp only [rk_call]
  rw [hlk]
  dsimp only
  rw [if_pos hkd]
  split at h
  · next as r hp =>
    rw [hp]
    dsimp only
    split at h
    · next hcnd => rw [if_pos hcnd]; exact rk_call1_mono hc h
    · cases h
  · cases h
theorem rk_ci_ok (hc : ∀ (f : Nat) (as : List rk_V) (env : List rk_T) (hp : List rk_H) (o : rk_O), call' f as env hp = some o → call f as env hp = some o) {idx kd f n : Nat} (hlk : rk_lk M.2.2.1 idx = some (kd, f, n)) (hkd : kd = 9 ∨ kd = 10) (h : rk_ci call' pc f n st = some l) : rk_call mci call M.2.2.1 pc (.invokespecial idx) st = some l := by
  unfold rk_ci at h
  simp only [rk_call]
  rw [hlk]
  dsimp only
  rw [if_pos hkd]
  split at h
  · next as j r hp =>
    rw [hp]
    dsimp only
    split at h
    · next hcnd => rw [if_pos hcnd]; exact rk_call1_mono hc h
    · cases h
  · cases h
theorem rk_ci2_ok {idx kd f n : Nat} (hlk : rk_lk M.2.2.1 idx = some (kd, f, n)) (hkd : ¬ (kd = 9 ∨ kd = 10)) (h : rk_call mci (fun _ _ _ _ => none) M.2.2.1 pc (.invokespecial idx) st = some l) : rk_call mci call M.2.2.1 pc (.invokespecial idx) st = some l := by
  simp only [rk_call] at h ⊢
  rw [hlk] at h ⊢
  dsimp only at h ⊢
  rw [if_neg hkd] at h ⊢
  exact h
theorem rk_nocall {idx kd f n : Nat} (hlk : rk_lk M.2.2.1 idx = some (kd, f, n)) (hkd : ¬ (kd = 7 ∨ kd = 8)) : rk_call mci call M.2.2.1 pc (.invokestatic idx) st = none := by
  simp only [rk_call]
  rw [hlk]
  dsimp only
  rw [if_neg hkd]
theorem rk_nocopy {idx kd f n : Nat} (hlk : rk_lk M.2.2.1 idx = some (kd, f, n)) (hkd : ¬ kd = 12) : rk_copy M.2.2.1 pc (.invokestatic idx) st = none := by
  simp only [rk_copy]
  rw [hlk]
  split
  · next e => exact absurd (congrArg (fun z => z.1) (Option.some.inj e)) hkd
  · rfl
set_option maxHeartbeats 8000000 in
theorem rk_cmp_ok (hc : ∀ (f : Nat) (as : List rk_V) (env : List rk_T) (hp : List rk_H) (o : rk_O), call' f as env hp = some o → call f as env hp = some o) {F : rk_S → Option rk_Q} {q : rk_Q} (h : rk_cmp fty cln mci call' M pc ins = some F) (hF : F st = some q) (hx : ext pc ins st = none) : (∃ x, q = .inl x ∧ rk_end M.2.2.2.2.1 ins st = some (some x)) ∨ (∃ l, q = .inr l ∧ rk_end M.2.2.2.2.1 ins st = none ∧ rk_step fty cln mci call ext M pc ins st = some l) := by
  cases ins
  case iconst n =>
    obtain rfl := Option.some.inj h
    obtain ⟨l, hl, rfl⟩ := rk_r_inv hF
    refine Or.inr ⟨l, rfl, rfl, ?_⟩
    exact rk_ch1 hx rfl hl
  case bipush n =>
    obtain rfl := Option.some.inj h
    obtain ⟨l, hl, rfl⟩ := rk_r_inv hF
    refine Or.inr ⟨l, rfl, rfl, ?_⟩
    exact rk_ch1 hx rfl hl
  case sipush n =>
    obtain rfl := Option.some.inj h
    obtain ⟨l, hl, rfl⟩ := rk_r_inv hF
    refine Or.inr ⟨l, rfl, rfl, ?_⟩
    exact rk_ch1 hx rfl hl
  case lconst n =>
    obtain rfl := Option.some.inj h
    obtain ⟨l, hl, rfl⟩ := rk_r_inv hF
    refine Or.inr ⟨l, rfl, rfl, ?_⟩
    exact rk_ch1 hx rfl hl
  case aconst_null =>
    obtain rfl := Option.some.inj h
    obtain ⟨l, hl, rfl⟩ := rk_r_inv hF
    refine Or.inr ⟨l, rfl, rfl, ?_⟩
    exact rk_ch1 hx rfl hl
  case iload_n k =>
    obtain rfl := Option.some.inj h
    obtain ⟨l, hl, rfl⟩ := rk_r_inv hF
    refine Or.inr ⟨l, rfl, rfl, ?_⟩
    exact rk_ch1 hx rfl hl
  case iload i =>
    obtain rfl := Option.some.inj h
    obtain ⟨l, hl, rfl⟩ := rk_r_inv hF
    refine Or.inr ⟨l, rfl, rfl, ?_⟩
    exact rk_ch1 hx rfl hl
  case lload_n k =>
    obtain rfl := Option.some.inj h
    obtain ⟨l, hl, rfl⟩ := rk_r_inv hF
    refine Or.inr ⟨l, rfl, rfl, ?_⟩
    exact rk_ch1 hx rfl hl
  case lload i =>
    obtain rfl := Option.some.inj h
    obtain ⟨l, hl, rfl⟩ := rk_r_inv hF
    refine Or.inr ⟨l, rfl, rfl, ?_⟩
    exact rk_ch1 hx rfl hl
  case aload_n k =>
    obtain rfl := Option.some.inj h
    obtain ⟨l, hl, rfl⟩ := rk_r_inv hF
    refine Or.inr ⟨l, rfl, rfl, ?_⟩
    exact rk_ch1 hx rfl hl
  case aload i =>
    obtain rfl := Option.some.inj h
    obtain ⟨l, hl, rfl⟩ := rk_r_inv hF
    refine Or.inr ⟨l, rfl, rfl, ?_⟩
    exact rk_ch1 hx rfl hl
  case istore_n k =>
    obtain rfl := Option.some.inj h
    obtain ⟨l, hl, rfl⟩ := rk_r_inv hF
    refine Or.inr ⟨l, rfl, rfl, ?_⟩
    exact rk_ch1 hx rfl hl
  case istore i =>
    obtain rfl := Option.some.inj h
    obtain ⟨l, hl, rfl⟩ := rk_r_inv hF
    refine Or.inr ⟨l, rfl, rfl, ?_⟩
    exact rk_ch1 hx rfl hl
  case lstore_n k =>
    obtain rfl := Option.some.inj h
    obtain ⟨l, hl, rfl⟩ := rk_r_inv hF
    refine Or.inr ⟨l, rfl, rfl, ?_⟩
    exact rk_ch1 hx rfl hl
  case lstore i =>
    obtain rfl := Option.some.inj h
    obtain ⟨l, hl, rfl⟩ := rk_r_inv hF
    refine Or.inr ⟨l, rfl, rfl, ?_⟩
    exact rk_ch1 hx rfl hl
  case astore_n k =>
    obtain rfl := Option.some.inj h
    obtain ⟨l, hl, rfl⟩ := rk_r_inv hF
    refine Or.inr ⟨l, rfl, rfl, ?_⟩
    exact rk_ch1 hx rfl hl
  case astore i =>
    obtain rfl := Option.some.inj h
    obtain ⟨l, hl, rfl⟩ := rk_r_inv hF
    refine Or.inr ⟨l, rfl, rfl, ?_⟩
    exact rk_ch1 hx rfl hl
  case iinc i n =>
    obtain rfl := Option.some.inj h
    obtain ⟨l, hl, rfl⟩ := rk_r_inv hF
    refine Or.inr ⟨l, rfl, rfl, ?_⟩
    exact rk_ch1 hx rfl hl
  case dup =>
    obtain rfl := Option.some.inj h
    obtain ⟨l, hl, rfl⟩ := rk_r_inv hF
    refine Or.inr ⟨l, rfl, rfl, ?_⟩
    exact rk_ch1 hx rfl hl
  case dup2 =>
    obtain rfl := Option.some.inj h
    obtain ⟨l, hl, rfl⟩ := rk_r_inv hF
    refine Or.inr ⟨l, rfl, rfl, ?_⟩
    exact rk_ch1 hx rfl hl
  case pop =>
    obtain rfl := Option.some.inj h
    obtain ⟨l, hl, rfl⟩ := rk_r_inv hF
    refine Or.inr ⟨l, rfl, rfl, ?_⟩
    exact rk_ch1 hx rfl hl
  case pop2 =>
    obtain rfl := Option.some.inj h
    obtain ⟨l, hl, rfl⟩ := rk_r_inv hF
    refine Or.inr ⟨l, rfl, rfl, ?_⟩
    exact rk_ch1 hx rfl hl
  case iadd =>
    obtain rfl := Option.some.inj h
    obtain ⟨l, hl, rfl⟩ := rk_r_inv hF
    refine Or.inr ⟨l, rfl, rfl, ?_⟩
    exact rk_ch1 hx rfl hl
  case isub =>
    obtain rfl := Option.some.inj h
    obtain ⟨l, hl, rfl⟩ := rk_r_inv hF
    refine Or.inr ⟨l, rfl, rfl, ?_⟩
    exact rk_ch1 hx rfl hl
  case imul =>
    obtain rfl := Option.some.inj h
    obtain ⟨l, hl, rfl⟩ := rk_r_inv hF
    refine Or.inr ⟨l, rfl, rfl, ?_⟩
    exact rk_ch1 hx rfl hl
  case iand =>
    obtain rfl := Option.some.inj h
    obtain ⟨l, hl, rfl⟩ := rk_r_inv hF
    refine Or.inr ⟨l, rfl, rfl, ?_⟩
    exact rk_ch1 hx rfl hl
  case ior =>
    obtain rfl := Option.some.inj h
    obtain ⟨l, hl, rfl⟩ := rk_r_inv hF
    refine Or.inr ⟨l, rfl, rfl, ?_⟩
    exact rk_ch1 hx rfl hl
  case ixor =>
    obtain rfl := Option.some.inj h
    obtain ⟨l, hl, rfl⟩ := rk_r_inv hF
    refine Or.inr ⟨l, rfl, rfl, ?_⟩
    exact rk_ch1 hx rfl hl
  case ifCond c off =>
    obtain rfl := Option.some.inj h
    obtain ⟨l, hl, rfl⟩ := rk_r_inv hF
    refine Or.inr ⟨l, rfl, rfl, ?_⟩
    exact rk_ch1 hx rfl hl
  case if_icmp c off =>
    obtain rfl := Option.some.inj h
    obtain ⟨l, hl, rfl⟩ := rk_r_inv hF
    refine Or.inr ⟨l, rfl, rfl, ?_⟩
    exact rk_ch1 hx rfl hl
  case goto off =>
    obtain rfl := Option.some.inj h
    obtain ⟨l, hl, rfl⟩ := rk_r_inv hF
    refine Or.inr ⟨l, rfl, rfl, ?_⟩
    exact rk_ch1 hx rfl hl
  case ishl =>
    obtain rfl := Option.some.inj h
    obtain ⟨l, hl, rfl⟩ := rk_r_inv hF
    refine Or.inr ⟨l, rfl, rfl, ?_⟩
    exact rk_ch2 hx rfl rfl hl
  case ishr =>
    obtain rfl := Option.some.inj h
    obtain ⟨l, hl, rfl⟩ := rk_r_inv hF
    refine Or.inr ⟨l, rfl, rfl, ?_⟩
    exact rk_ch2 hx rfl rfl hl
  case iushr =>
    obtain rfl := Option.some.inj h
    obtain ⟨l, hl, rfl⟩ := rk_r_inv hF
    refine Or.inr ⟨l, rfl, rfl, ?_⟩
    exact rk_ch2 hx rfl rfl hl
  case idiv =>
    obtain rfl := Option.some.inj h
    obtain ⟨l, hl, rfl⟩ := rk_r_inv hF
    refine Or.inr ⟨l, rfl, rfl, ?_⟩
    exact rk_ch2 hx rfl rfl hl
  case irem =>
    obtain rfl := Option.some.inj h
    obtain ⟨l, hl, rfl⟩ := rk_r_inv hF
    refine Or.inr ⟨l, rfl, rfl, ?_⟩
    exact rk_ch2 hx rfl rfl hl
  case ineg =>
    obtain rfl := Option.some.inj h
    obtain ⟨l, hl, rfl⟩ := rk_r_inv hF
    refine Or.inr ⟨l, rfl, rfl, ?_⟩
    exact rk_ch2 hx rfl rfl hl
  case i2b =>
    obtain rfl := Option.some.inj h
    obtain ⟨l, hl, rfl⟩ := rk_r_inv hF
    refine Or.inr ⟨l, rfl, rfl, ?_⟩
    exact rk_ch2 hx rfl rfl hl
  case i2s =>
    obtain rfl := Option.some.inj h
    obtain ⟨l, hl, rfl⟩ := rk_r_inv hF
    refine Or.inr ⟨l, rfl, rfl, ?_⟩
    exact rk_ch2 hx rfl rfl hl
  case i2l =>
    obtain rfl := Option.some.inj h
    obtain ⟨l, hl, rfl⟩ := rk_r_inv hF
    refine Or.inr ⟨l, rfl, rfl, ?_⟩
    rcases rk_rs_inv hl with z | ⟨z, z2⟩
    · exact rk_ch2 hx rfl rfl z
    · exact rk_ch6 hx rfl rfl z rfl rfl rfl z2
  case l2i =>
    obtain rfl := Option.some.inj h
    obtain ⟨l, hl, rfl⟩ := rk_r_inv hF
    refine Or.inr ⟨l, rfl, rfl, ?_⟩
    exact rk_ch2 hx rfl rfl hl
  case ladd =>
    obtain rfl := Option.some.inj h
    obtain ⟨l, hl, rfl⟩ := rk_r_inv hF
    refine Or.inr ⟨l, rfl, rfl, ?_⟩
    exact rk_ch2 hx rfl rfl hl
  case lsub =>
    obtain rfl := Option.some.inj h
    obtain ⟨l, hl, rfl⟩ := rk_r_inv hF
    refine Or.inr ⟨l, rfl, rfl, ?_⟩
    rcases rk_rs_inv hl with z | ⟨z, z2⟩
    · exact rk_ch0 hx z
    · exact rk_ch2 hx z rfl z2
  case lmul =>
    obtain rfl := Option.some.inj h
    obtain ⟨l, hl, rfl⟩ := rk_r_inv hF
    refine Or.inr ⟨l, rfl, rfl, ?_⟩
    exact rk_ch2 hx rfl rfl hl
  case land =>
    obtain rfl := Option.some.inj h
    obtain ⟨l, hl, rfl⟩ := rk_r_inv hF
    refine Or.inr ⟨l, rfl, rfl, ?_⟩
    exact rk_ch2 hx rfl rfl hl
  case lor =>
    obtain rfl := Option.some.inj h
    obtain ⟨l, hl, rfl⟩ := rk_r_inv hF
    refine Or.inr ⟨l, rfl, rfl, ?_⟩
    exact rk_ch2 hx rfl rfl hl
  case lxor =>
    obtain rfl := Option.some.inj h
    obtain ⟨l, hl, rfl⟩ := rk_r_inv hF
    refine Or.inr ⟨l, rfl, rfl, ?_⟩
    exact rk_ch2 hx rfl rfl hl
  case ldiv =>
    obtain rfl := Option.some.inj h
    obtain ⟨l, hl, rfl⟩ := rk_r_inv hF
    refine Or.inr ⟨l, rfl, rfl, ?_⟩
    exact rk_ch2 hx rfl rfl hl
  case lrem =>
    obtain rfl := Option.some.inj h
    obtain ⟨l, hl, rfl⟩ := rk_r_inv hF
    refine Or.inr ⟨l, rfl, rfl, ?_⟩
    exact rk_ch2 hx rfl rfl hl
  case lshl =>
    obtain rfl := Option.some.inj h
    obtain ⟨l, hl, rfl⟩ := rk_r_inv hF
    refine Or.inr ⟨l, rfl, rfl, ?_⟩
    exact rk_ch2 hx rfl rfl hl
  case lshr =>
    obtain rfl := Option.some.inj h
    obtain ⟨l, hl, rfl⟩ := rk_r_inv hF
    refine Or.inr ⟨l, rfl, rfl, ?_⟩
    exact rk_ch2 hx rfl rfl hl
  case lushr =>
    obtain rfl := Option.some.inj h
    obtain ⟨l, hl, rfl⟩ := rk_r_inv hF
    refine Or.inr ⟨l, rfl, rfl, ?_⟩
    exact rk_ch2 hx rfl rfl hl
  case lcmp =>
    obtain rfl := Option.some.inj h
    obtain ⟨l, hl, rfl⟩ := rk_r_inv hF
    refine Or.inr ⟨l, rfl, rfl, ?_⟩
    exact rk_ch2 hx rfl rfl hl
  case tableswitch dflt low high offs =>
    obtain rfl := Option.some.inj h
    obtain ⟨l, hl, rfl⟩ := rk_r_inv hF
    refine Or.inr ⟨l, rfl, rfl, ?_⟩
    exact rk_ch2 hx rfl rfl hl
  case getfield idx =>
    obtain rfl := Option.some.inj h
    obtain ⟨l, hl, rfl⟩ := rk_r_inv hF
    refine Or.inr ⟨l, rfl, rfl, ?_⟩
    exact rk_ch3 hx rfl rfl rfl hl
  case putfield idx =>
    obtain rfl := Option.some.inj h
    obtain ⟨l, hl, rfl⟩ := rk_r_inv hF
    refine Or.inr ⟨l, rfl, rfl, ?_⟩
    exact rk_ch3 hx rfl rfl rfl hl
  case iaload =>
    obtain rfl := Option.some.inj h
    obtain ⟨l, hl, rfl⟩ := rk_r_inv hF
    refine Or.inr ⟨l, rfl, rfl, ?_⟩
    rcases rk_rs_inv hl with z | ⟨z, z2⟩
    · exact rk_ch3 hx rfl rfl rfl z
    · exact rk_ch6 hx rfl rfl rfl z rfl rfl z2
  case baload =>
    obtain rfl := Option.some.inj h
    obtain ⟨l, hl, rfl⟩ := rk_r_inv hF
    refine Or.inr ⟨l, rfl, rfl, ?_⟩
    rcases rk_rs_inv hl with z | ⟨z, z2⟩
    · exact rk_ch3 hx rfl rfl rfl z
    · exact rk_ch6 hx rfl rfl rfl z rfl rfl z2
  case laload =>
    obtain rfl := Option.some.inj h
    obtain ⟨l, hl, rfl⟩ := rk_r_inv hF
    refine Or.inr ⟨l, rfl, rfl, ?_⟩
    rcases rk_rs_inv hl with z | ⟨z, z2⟩
    · exact rk_ch3 hx rfl rfl rfl z
    · exact rk_ch6 hx rfl rfl rfl z rfl rfl z2
  case aaload =>
    obtain rfl := Option.some.inj h
    obtain ⟨l, hl, rfl⟩ := rk_r_inv hF
    refine Or.inr ⟨l, rfl, rfl, ?_⟩
    rcases rk_rs_inv hl with z | ⟨z, z2⟩
    · exact rk_ch3 hx rfl rfl rfl z
    · exact rk_ch6 hx rfl rfl rfl z rfl rfl z2
  case iastore =>
    obtain rfl := Option.some.inj h
    obtain ⟨l, hl, rfl⟩ := rk_r_inv hF
    refine Or.inr ⟨l, rfl, rfl, ?_⟩
    rcases rk_rs_inv hl with z | ⟨z, z2⟩
    · exact rk_ch3 hx rfl rfl rfl z
    · exact rk_ch6 hx rfl rfl rfl z rfl rfl z2
  case bastore =>
    obtain rfl := Option.some.inj h
    obtain ⟨l, hl, rfl⟩ := rk_r_inv hF
    refine Or.inr ⟨l, rfl, rfl, ?_⟩
    rcases rk_rs_inv hl with z | ⟨z, z2⟩
    · exact rk_ch3 hx rfl rfl rfl z
    · exact rk_ch6 hx rfl rfl rfl z rfl rfl z2
  case lastore =>
    obtain rfl := Option.some.inj h
    obtain ⟨l, hl, rfl⟩ := rk_r_inv hF
    refine Or.inr ⟨l, rfl, rfl, ?_⟩
    rcases rk_rs_inv hl with z | ⟨z, z2⟩
    · exact rk_ch3 hx rfl rfl rfl z
    · exact rk_ch6 hx rfl rfl rfl z rfl rfl z2
  case aastore =>
    obtain rfl := Option.some.inj h
    obtain ⟨l, hl, rfl⟩ := rk_r_inv hF
    refine Or.inr ⟨l, rfl, rfl, ?_⟩
    rcases rk_rs_inv hl with z | ⟨z, z2⟩
    · exact rk_ch3 hx rfl rfl rfl z
    · exact rk_ch6 hx rfl rfl rfl z rfl rfl z2
  case arraylength =>
    obtain rfl := Option.some.inj h
    obtain ⟨l, hl, rfl⟩ := rk_r_inv hF
    refine Or.inr ⟨l, rfl, rfl, ?_⟩
    exact rk_ch3 hx rfl rfl rfl hl
  case newarray at_ =>
    obtain rfl := Option.some.inj h
    obtain ⟨l, hl, rfl⟩ := rk_r_inv hF
    refine Or.inr ⟨l, rfl, rfl, ?_⟩
    exact rk_ch3 hx rfl rfl rfl hl
  case anewarray idx =>
    obtain rfl := Option.some.inj h
    obtain ⟨l, hl, rfl⟩ := rk_r_inv hF
    refine Or.inr ⟨l, rfl, rfl, ?_⟩
    exact rk_ch3 hx rfl rfl rfl hl
  case multianewarray idx dims =>
    obtain rfl := Option.some.inj h
    obtain ⟨l, hl, rfl⟩ := rk_r_inv hF
    refine Or.inr ⟨l, rfl, rfl, ?_⟩
    exact rk_ch3 hx rfl rfl rfl hl
  case new idx =>
    obtain rfl := Option.some.inj h
    obtain ⟨l, hl, rfl⟩ := rk_r_inv hF
    refine Or.inr ⟨l, rfl, rfl, ?_⟩
    exact rk_ch3 hx rfl rfl rfl hl
  case ldc idx =>
    obtain rfl := Option.some.inj h
    obtain ⟨l, hl, rfl⟩ := rk_r_inv hF
    refine Or.inr ⟨l, rfl, rfl, ?_⟩
    exact rk_ch3 hx rfl rfl rfl hl
  case ldc_w idx =>
    obtain rfl := Option.some.inj h
    obtain ⟨l, hl, rfl⟩ := rk_r_inv hF
    refine Or.inr ⟨l, rfl, rfl, ?_⟩
    exact rk_ch3 hx rfl rfl rfl hl
  case ldc2_w idx =>
    obtain rfl := Option.some.inj h
    obtain ⟨l, hl, rfl⟩ := rk_r_inv hF
    refine Or.inr ⟨l, rfl, rfl, ?_⟩
    exact rk_ch3 hx rfl rfl rfl hl
  case invokevirtual idx =>
    change (match rk_lk M.2.2.1 idx with
      | some (kd, f, n) => if kd = 5 ∨ kd = 6 then some (fun st => rk_r (rk_cv mci call' pc f n st)) else none
      | none => none) = some F at h
    split at h
    · next kd f n hlk =>
      split at h
      · next hkd =>
        obtain rfl := Option.some.inj h
        obtain ⟨l, hl, rfl⟩ := rk_r_inv hF
        exact Or.inr ⟨l, rfl, rfl, rk_ch4 hx rfl rfl rfl rfl (rk_cv_ok hc hlk hkd hl)⟩
      · cases h
    · cases h
  case invokestatic idx =>
    change (match rk_lk M.2.2.1 idx with
      | some (kd, f, n) => if kd = 7 ∨ kd = 8 then some (fun st => rk_r (rk_cs1 call' pc f n st)) else if kd = 12 then some (fun st => rk_r (rk_copy M.2.2.1 pc (.invokestatic idx) st)) else some (fun st => rk_r (rk_math M.2.2.1 pc (.invokestatic idx) st))
      | none => none) = some F at h
    split at h
    · next kd f n hlk =>
      split at h
      · next hkd =>
        obtain rfl := Option.some.inj h
        obtain ⟨l, hl, rfl⟩ := rk_r_inv hF
        exact Or.inr ⟨l, rfl, rfl, rk_ch4 hx rfl rfl rfl rfl (rk_cs1_ok hc hlk hkd hl)⟩
      · next hkd =>
        split at h
        · obtain rfl := Option.some.inj h
          obtain ⟨l, hl, rfl⟩ := rk_r_inv hF
          exact Or.inr ⟨l, rfl, rfl, rk_ch5 hx rfl rfl rfl rfl (rk_nocall hlk hkd) hl⟩
        · next h12 =>
          obtain rfl := Option.some.inj h
          obtain ⟨l, hl, rfl⟩ := rk_r_inv hF
          exact Or.inr ⟨l, rfl, rfl, rk_ch7 hx rfl rfl rfl rfl (rk_nocall hlk hkd) (rk_nocopy hlk h12) rfl hl⟩
    · cases h
  case invokespecial idx =>
    change (match rk_lk M.2.2.1 idx with
      | some (kd, f, n) => if kd = 9 ∨ kd = 10 then some (fun st => rk_r (rk_ci call' pc f n st)) else some (fun st => rk_r (rk_call mci (fun _ _ _ _ => none) M.2.2.1 pc (.invokespecial idx) st))
      | none => none) = some F at h
    split at h
    · next kd f n hlk =>
      split at h
      · next hkd =>
        obtain rfl := Option.some.inj h
        obtain ⟨l, hl, rfl⟩ := rk_r_inv hF
        exact Or.inr ⟨l, rfl, rfl, rk_ch4 hx rfl rfl rfl rfl (rk_ci_ok hc hlk hkd hl)⟩
      · next hkd =>
        obtain rfl := Option.some.inj h
        obtain ⟨l, hl, rfl⟩ := rk_r_inv hF
        exact Or.inr ⟨l, rfl, rfl, rk_ch4 hx rfl rfl rfl rfl (rk_ci2_ok hlk hkd hl)⟩
    · cases h
  case return_ =>
    obtain rfl := Option.some.inj h
    obtain ⟨x, hx1, rfl⟩ := rk_e_inv hF
    exact Or.inl ⟨x, rfl, hx1⟩
  case ireturn =>
    obtain rfl := Option.some.inj h
    obtain ⟨x, hx1, rfl⟩ := rk_e_inv hF
    exact Or.inl ⟨x, rfl, hx1⟩
  case lreturn =>
    obtain rfl := Option.some.inj h
    obtain ⟨x, hx1, rfl⟩ := rk_e_inv hF
    exact Or.inl ⟨x, rfl, hx1⟩
  all_goals exact (rk_nosome (show (none : Option (rk_S → Option rk_Q)) = some F from h)).elim
end RKFA
/-! ===== rk: forcing: the kernel goes on with the number, not with how it came ===== -/
def rk_fnat {α : Type} (n : Nat) (k : Nat → α) : α := match n with
  | 0 => k 0
  | m + 1 => k (m + 1)
theorem rk_fnat_eq {α : Type} (n : Nat) (k : Nat → α) : rk_fnat n k = k n := by cases n <;> rfl
def rk_fi32 {α : Type} (x : Int32) (k : Int32 → α) : α := rk_fnat x.toBitVec.toNat (fun n => k (Int32.ofBitVec (BitVec.ofNat 32 n)))
theorem rk_fi32_eq {α : Type} (x : Int32) (k : Int32 → α) : rk_fi32 x k = k x := by
  unfold rk_fi32
  rw [rk_fnat_eq]
  have e : Int32.ofBitVec (BitVec.ofNat 32 x.toBitVec.toNat) = x := Int32.toBitVec_inj.mp (BitVec.eq_of_toNat_eq (by show x.toBitVec.toNat % 2 ^ 32 = x.toBitVec.toNat; exact Nat.mod_eq_of_lt x.toBitVec.isLt))
  rw [e]
def rk_fSk {α : Type} (sk : List rk_V) (k : List rk_V → α) : α := match sk with
  | .inl (.int x) :: r => rk_fi32 x (fun y => k (.inl (.int y) :: r))
  | sk => k sk
theorem rk_fSk_eq {α : Type} (sk : List rk_V) (k : List rk_V → α) : rk_fSk sk k = k sk := by
  unfold rk_fSk
  split
  · rw [rk_fi32_eq]
  · rfl
def rk_fLo {α : Type} (lo : List (Nat × rk_V)) (k : List (Nat × rk_V) → α) : α := match lo with
  | (i, .inl (.int x)) :: r => rk_fi32 x (fun y => k ((i, .inl (.int y)) :: r))
  | lo => k lo
theorem rk_fLo_eq {α : Type} (lo : List (Nat × rk_V)) (k : List (Nat × rk_V) → α) : rk_fLo lo k = k lo := by
  unfold rk_fLo
  split
  · rw [rk_fi32_eq]
  · rfl
def rk_fS {α : Type} (st : rk_S) (k : rk_S → α) : α := match st with
  | (lo, sk, env, hp, nc, ns) => rk_fSk sk (fun sk' => rk_fLo lo (fun lo' => k (lo', sk', env, hp, nc, ns)))
theorem rk_fS_eq {α : Type} (st : rk_S) (k : rk_S → α) : rk_fS st k = k st := by
  obtain ⟨lo, sk, env, hp, nc, ns⟩ := st
  unfold rk_fS
  dsimp only
  rw [rk_fSk_eq, rk_fLo_eq]
/-! ===== rk: the fast run ===== -/
def rk_get : List (Nat × Instr × Nat) → Nat → Option (Nat × Instr × Nat)
  | [], _ => none
  | q :: r, pc => cond (Nat.beq q.1 pc) (some q) (rk_get r pc)
theorem rk_get_ok {pc : Nat} {q : Nat × Instr × Nat} : ∀ {l : List (Nat × Instr × Nat)}, rk_get l pc = some q → rk_fetch l pc = some q.2 ∧ q.1 = pc := by
  intro l
  induction l with
  | nil => intro h; cases h
  | cons r l ih =>
    intro h
    unfold rk_get at h
    unfold rk_fetch
    cases hb : Nat.beq r.1 pc with
    | true =>
      rw [hb] at h
      obtain rfl := Option.some.inj (show some r = some q from h)
      have e : r.1 = pc := Nat.eq_of_beq_eq_true hb
      exact ⟨by rw [if_pos e], e⟩
    | false =>
      rw [hb] at h
      have e : ¬ r.1 = pc := Nat.ne_of_beq_eq_false hb
      rw [if_neg e]
      exact ih h
def rk_isret : Instr → Bool
  | .return_ => true
  | .ireturn => true
  | .lreturn => true
  | _ => false
theorem rk_isret_ok {ins : Instr} {ret : Option FieldType} {st : rk_S} (h : rk_isret ins = false) : rk_end ret ins st = none := by
  cases ins
  case return_ => exact Bool.noConfusion (show true = false from h)
  case ireturn => exact Bool.noConfusion (show true = false from h)
  case lreturn => exact Bool.noConfusion (show true = false from h)
  all_goals rfl
def rk_cmp2 (fty : rk_F) (cln : List String) (mci : List Nat) (call : Nat → List rk_V → List rk_T → List rk_H → Option rk_O) (M : rk_M2) (pc : Nat) (ins : Instr) (len : Nat) : Option (rk_S → Option rk_Q) := cond (rk_len ins len) (rk_cmp fty cln mci call M pc ins) none
def rk_x2 (ext : rk_Ext) (pc : Nat) (ins : Instr) (st : rk_S) (F : rk_S → Option rk_Q) : Option rk_Q := match ext pc ins st with
  | some l => cond (rk_isret ins) none (some (.inr l))
  | none => F st
def rk_loop2 (fty : rk_F) (cln : List String) (mci : List Nat) (call : Nat → List rk_V → List rk_T → List rk_H → Option rk_O) (ext : rk_Ext) (M : rk_M2) : Nat → Nat × rk_S → Option rk_O
  | 0, _ => none
  | n + 1, q => match rk_get M.1 q.1 with
    | none => none
    | some (pc, ins, len) => match rk_cmp2 fty cln mci call M pc ins len with
      | none => none
      | some F => match rk_x2 ext pc ins q.2 F with
        | none => none
        | some (.inl x) => some (q.2.2.2.2.2.1, q.2.2.2.2.2.2, [x])
        | some (.inr [z]) => cond (Nat.ble q.2.2.2.2.2.1 z.2.2.2.2.2.1) (cond (Nat.ble q.2.2.2.2.2.2 z.2.2.2.2.2.2) (rk_fS z.2 (fun st => rk_loop2 fty cln mci call ext M n (z.1, st))) none) none
        | some (.inr succ) => match rk_comb (fun z => rk_fS z.2 (fun st => rk_loop2 fty cln mci call ext M n (z.1, st))) succ with
          | some o => some (max q.2.2.2.2.2.1 o.1, max q.2.2.2.2.2.2 o.2.1, o.2.2)
          | none => none
theorem rk_one {f : Nat × rk_S → Option rk_O} {z : Nat × rk_S} {o : rk_O} {a b : Nat} (h : f z = some o) (h1 : a ≤ o.1) (h2 : b ≤ o.2.1) : (match rk_comb f [z] with
    | some o => some (max a o.1, max b o.2.1, o.2.2)
    | none => none) = some o := by
  have e : rk_comb f [z] = some (max o.1 0, max o.2.1 0, o.2.2 ++ []) := by
    show (match f z, rk_comb f [] with
      | some a, some b => some (max a.1 b.1, max a.2.1 b.2.1, a.2.2 ++ b.2.2)
      | _, _ => none) = _
    rw [h]
    rfl
  rw [e]
  dsimp only
  rw [List.append_nil, Nat.max_eq_left (Nat.zero_le _), Nat.max_eq_left (Nat.zero_le _), Nat.max_eq_right h1, Nat.max_eq_right h2]
theorem rk_comb_mono {f g : Nat × rk_S → Option rk_O} (h : ∀ z o, f z = some o → g z = some o) : ∀ {l : List (Nat × rk_S)} {o : rk_O}, rk_comb f l = some o → rk_comb g l = some o := by
  intro l
  induction l with
  | nil => intro o h1; exact h1
  | cons z l ih =>
    intro o h1
    unfold rk_comb at h1 ⊢
    split at h1
    · next a b ha hb => rw [h _ _ ha, ih hb]; exact h1
    · cases h1
theorem rk_x2_ok {fty : rk_F} {cln : List String} {mci : List Nat} {call call' : Nat → List rk_V → List rk_T → List rk_H → Option rk_O} {ext : rk_Ext} {M : rk_M2} (hc : ∀ (f : Nat) (as : List rk_V) (env : List rk_T) (hp : List rk_H) (o : rk_O), call' f as env hp = some o → call f as env hp = some o) {pc : Nat} {ins : Instr} {st : rk_S} {F : rk_S → Option rk_Q} {succ : List (Nat × rk_S)} (hF : rk_cmp fty cln mci call' M pc ins = some F) (hx : rk_x2 ext pc ins st F = some (.inr succ)) : rk_end M.2.2.2.2.1 ins st = none ∧ rk_step fty cln mci call ext M pc ins st = some succ := by
  unfold rk_x2 at hx
  split at hx
  · next l hl =>
    cases hr : rk_isret ins with
    | true => rw [hr] at hx; cases hx
    | false =>
      rw [hr] at hx
      cases hx
      exact ⟨rk_isret_ok hr, by simp only [rk_step, hl]⟩
  · next hl =>
    rcases rk_cmp_ok hc hF hx hl with ⟨y, e1, -⟩ | ⟨l, e1, e2, e3⟩
    · cases e1
    · cases e1
      exact ⟨e2, e3⟩
theorem rk_loop2_ok {fty : rk_F} {cln : List String} {mci : List Nat} {call call' : Nat → List rk_V → List rk_T → List rk_H → Option rk_O} {ext : rk_Ext} {M : rk_M2} (hc : ∀ (f : Nat) (as : List rk_V) (env : List rk_T) (hp : List rk_H) (o : rk_O), call' f as env hp = some o → call f as env hp = some o) : ∀ (n : Nat) (q : Nat × rk_S) (o : rk_O), rk_loop2 fty cln mci call' ext M n q = some o → rk_loop fty cln mci call ext M n q = some o := by
  intro n
  induction n with
  | zero => intro q o h; cases h
  | succ n ih =>
    intro q o h
    unfold rk_loop2 at h
    split at h
    · cases h
    · next pc ins len hg =>
      obtain ⟨hf, rfl⟩ := rk_get_ok hg
      unfold rk_loop
      rw [hf]
      dsimp only
      split at h
      · cases h
      · next F hF =>
        unfold rk_cmp2 at hF
        cases hlen : rk_len ins len with
        | false => rw [hlen] at hF; cases hF
        | true =>
          rw [hlen] at hF
          have hF : rk_cmp fty cln mci call' M q.1 ins = some F := hF
          rw [if_pos rfl]
          split at h
          · cases h
          · next x hx =>
            have h2 := h
            unfold rk_x2 at hx
            split at hx
            · next l hl =>
              cases hr : rk_isret ins with
              | true => rw [hr] at hx; cases hx
              | false => rw [hr] at hx; cases hx
            · next hl =>
              rcases rk_cmp_ok hc hF hx hl with ⟨y, e1, e2⟩ | ⟨l, e1, -⟩
              · cases e1
                rw [e2]
                exact h
              · cases e1
          · next z hx =>
            have key : rk_end M.2.2.2.2.1 ins q.2 = none ∧ rk_step fty cln mci call ext M q.1 ins q.2 = some [z] := rk_x2_ok hc hF hx
            rw [key.1]
            dsimp only
            rw [key.2]
            dsimp only
            cases b1 : Nat.ble q.2.2.2.2.2.1 z.2.2.2.2.2.1 with
            | false => rw [b1] at h; cases h
            | true =>
              rw [b1] at h
              cases b2 : Nat.ble q.2.2.2.2.2.2 z.2.2.2.2.2.2 with
              | false => rw [b2] at h; cases h
              | true =>
                rw [b2] at h
                have h : rk_fS z.2 (fun st => rk_loop2 fty cln mci call' ext M n (z.1, st)) = some o := h
                rw [rk_fS_eq] at h
                have hz := ih (z.1, z.2) o h
                have hge := rk_loop_ge hz
                exact rk_one (f := rk_loop fty cln mci call ext M n) hz (Nat.le_trans (Nat.le_of_ble_eq_true b1) hge.1) (Nat.le_trans (Nat.le_of_ble_eq_true b2) hge.2)
          · next succ hne hx =>
            have key : rk_end M.2.2.2.2.1 ins q.2 = none ∧ rk_step fty cln mci call ext M q.1 ins q.2 = some succ := rk_x2_ok hc hF hx
            rw [key.1]
            dsimp only
            rw [key.2]
            dsimp only
            split at h
            · next o' ho =>
              have := rk_comb_mono (g := rk_loop fty cln mci call ext M n) (fun z o hz => by
                rw [rk_fS_eq] at hz
                exact ih (z.1, z.2) o hz) ho
              rw [this]
              exact h
            · cases h
def rk_wrap2 (call : Nat → List rk_V → List rk_T → List rk_H → Option rk_O) (f : Nat) (as : List rk_V) (env : List rk_T) (hp : List rk_H) : Option rk_O := match as with
  | [.inr (.inl j)] => if j + 1 = hp.length then rk_suf call j f [.inr (.inl j)] env hp else call f [.inr (.inl j)] env hp
  | as => call f as env hp
theorem rk_suf_mono {call call' : Nat → List rk_V → List rk_T → List rk_H → Option rk_O} (hc : ∀ (f : Nat) (as : List rk_V) (env : List rk_T) (hp : List rk_H) (o : rk_O), call' f as env hp = some o → call f as env hp = some o) {n f : Nat} {as : List rk_V} {env : List rk_T} {hp : List rk_H} {o : rk_O} (h : rk_suf call' n f as env hp = some o) : rk_suf call n f as env hp = some o := by
  unfold rk_suf at h ⊢
  split at h
  · next hcnd =>
    rw [if_pos hcnd]
    split at h
    · next o' ho => rw [hc _ _ _ _ _ ho]; exact h
    · cases h
  · cases h
theorem rk_pfx_mono {call call' : Nat → List rk_V → List rk_T → List rk_H → Option rk_O} (hc : ∀ (f : Nat) (as : List rk_V) (env : List rk_T) (hp : List rk_H) (o : rk_O), call' f as env hp = some o → call f as env hp = some o) {n f : Nat} {as : List rk_V} {env : List rk_T} {hp : List rk_H} {o : rk_O} (h : rk_pfx call' n f as env hp = some o) : rk_pfx call n f as env hp = some o := by
  unfold rk_pfx at h ⊢
  split at h
  · next hcnd =>
    rw [if_pos hcnd]
    split at h
    · next o' ho => rw [hc _ _ _ _ _ ho]; exact h
    · cases h
  · cases h
theorem rk_wrap2_ok {call call' : Nat → List rk_V → List rk_T → List rk_H → Option rk_O} (hc : ∀ (f : Nat) (as : List rk_V) (env : List rk_T) (hp : List rk_H) (o : rk_O), call' f as env hp = some o → call f as env hp = some o) (f : Nat) (as : List rk_V) (env : List rk_T) (hp : List rk_H) (o : rk_O) (h : rk_wrap2 call' f as env hp = some o) : rk_wrap call f as env hp = some o := by
  unfold rk_wrap2 at h
  unfold rk_wrap
  split at h
  · next j =>
    dsimp only
    split at h
    · next hj => rw [if_pos hj, rk_suf_mono hc h]
    · next hj => rw [if_neg hj]; exact hc _ _ _ _ _ h
  · next hn =>
    split
    · next j => exact absurd rfl (hn j)
    · exact hc _ _ _ _ _ h
def rk_run2 (P : List rk_M2) (fty : rk_F) (cln : List String) (mci : List Nat) (sum : Nat → Nat → List rk_V → List rk_T → List rk_H → Option rk_O) (fuel : Nat) : Nat → Nat → List rk_V → List rk_T → List rk_H → Option rk_O
  | 0, _, _, _, _ => none
  | d + 1, f, as, env, hp => match sum d f as env hp with
    | some o => some o
    | none => match P[f]? with
      | some M => if M.2.1 ≤ 21 ∧ rk_sum env as ≤ M.2.1 then rk_loop2 fty cln mci (rk_wrap2 (rk_run2 P fty cln mci sum fuel d)) (fun _ _ _ => none) M fuel (0, (rk_args env 0 as, [], env, hp, 0, 0)) else none
      | none => none
theorem rk_run2_ok {P : List rk_M2} {fty : rk_F} {cln : List String} {mci : List Nat} {sum : Nat → Nat → List rk_V → List rk_T → List rk_H → Option rk_O} {fuel : Nat} : ∀ (d f : Nat) (as : List rk_V) (env : List rk_T) (hp : List rk_H) (o : rk_O), rk_run2 P fty cln mci sum fuel d f as env hp = some o → rk_run P fty cln mci sum fuel d f as env hp = some o := by
  intro d
  induction d with
  | zero => intro f as env hp o h; cases h
  | succ d ih =>
    intro f as env hp o h
    unfold rk_run2 at h
    unfold rk_run
    split at h
    · next o' ho => rw [ho]; exact h
    · next hs =>
      rw [hs]
      dsimp only
      split at h
      · next M hM =>
        rw [hM]
        dsimp only
        split at h
        · next hcnd =>
          rw [if_pos hcnd]
          exact rk_loop2_ok (rk_wrap2_ok ih) _ _ _ h
        · cases h
      · cases h
/-! ===== the law's runs, by the fast run ===== -/
def gk_call3 : Nat → List rk_V → List rk_T → List rk_H → Option rk_O := rk_run2 gk_P gk_fty gk_cln gk_mci gk_sum 30000 40
def gk_call4 (f : Nat) (as : List rk_V) (env : List rk_T) (hp : List rk_H) : Option rk_O := match as with
  | .inr (.inl j) :: _ => if f = 126 then gk_ctor 126 11 gk_X126 f as env hp else if f = 201 then rk_suf (gk_ctor 201 12 gk_X201) 270 f as env hp else if j = 270 then rk_suf gk_call3 270 f as env hp else rk_pfx gk_call3 270 f as env hp
  | _ => none
theorem gk_call4_ok (f : Nat) (as : List rk_V) (env : List rk_T) (hp : List rk_H) (o : rk_O) (h : gk_call4 f as env hp = some o) : gk_call2 f as env hp = some o := by
  unfold gk_call4 at h
  unfold gk_call2
  split at h
  · next j r =>
    dsimp only
    split at h
    · next e => rw [if_pos e]; exact h
    · next e =>
      rw [if_neg e]
      split at h
      · next e1 => rw [if_pos e1]; exact h
      · next e1 =>
        rw [if_neg e1]
        split at h
        · next e2 => rw [if_pos e2]; exact rk_suf_mono (call := gk_call) (fun f as env hp o => rk_run2_ok 40 f as env hp o) h
        · next e2 => rw [if_neg e2]; exact rk_pfx_mono (call := gk_call) (fun f as env hp o => rk_run2_ok 40 f as env hp o) h
  · cases h
def gk_go2 (ext : rk_Ext) (l : List (Nat × Instr × Nat)) (q : Nat × rk_S) : Bool := gk_good1 (rk_loop2 gk_fty gk_cln gk_mci gk_call4 ext (gk_lM l) 30000 q)
theorem gk_fast {ext : rk_Ext} {l : List (Nat × Instr × Nat)} {q : Nat × rk_S} (h : gk_go2 ext l q = true) : gk_go ext l q = true := by
  unfold gk_go2 at h
  unfold gk_go
  cases hr : rk_loop2 gk_fty gk_cln gk_mci gk_call4 ext (gk_lM l) 30000 q with
  | none => rw [hr] at h; exact Bool.noConfusion (show false = true from h)
  | some o =>
    rw [rk_loop2_ok gk_call4_ok _ _ _ hr]
    rw [hr] at h
    exact h
