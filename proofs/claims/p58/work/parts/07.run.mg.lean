section MG1_0
/-! ===== rk: calls, and a run to the end ===== -/
/-- most cells, most slots, the ends -/
abbrev rk_O : Type := Nat × Nat × List rk_X
/-- a method: its instructions, its locals, its links, its literals, what it returns, the number of its class (instance methods) -/
abbrev rk_M2 : Type := List (Nat × Instr × Nat) × Nat × List (Nat × Nat × Nat × Nat) × List (Nat × Value) × Option FieldType × Nat
def rk_pop : Nat → List rk_V → List rk_V → Option (List rk_V × List rk_V)
  | 0, acc, sk => some (acc, sk)
  | n + 1, acc, a :: sk => rk_pop n (a :: acc) sk
  | _ + 1, _, [] => none
def rk_fetch : List (Nat × Instr × Nat) → Nat → Option (Instr × Nat)
  | [], _ => none
  | q :: r, pc => if q.1 = pc then some q.2 else rk_fetch r pc
def rk_sum (env : List rk_T) : List rk_V → Nat
  | [] => 0
  | a :: r => rk_cat env a + rk_sum env r
def rk_after (o : Option rk_O) (pc : Nat) (lo : List (Nat × rk_V)) (r : List rk_V) (nc ns : Nat) : rk_R := match o with
  | some o => if o.2.2.isEmpty then none else some (o.2.2.map (fun x => (pc + 3, (lo, x.1.toList ++ r, x.2.1, x.2.2.1, nc + o.1, ns + o.2.1))))
  | none => none
/-- a row is copied: n places of the one, from sp on, come to the other's, from dp on -/
def rk_cpy (d : rk_V) (ov : List (Nat × rk_V)) (sp dp : Nat) : Nat → List (Nat × rk_V) → List (Nat × rk_V)
  | 0, acc => acc
  | n + 1, acc => (dp + n, rk_look d ov (sp + n)) :: rk_cpy d ov sp dp n acc
def rk_call (mci : List Nat) (call : Nat → List rk_V → List rk_T → List rk_H → Option rk_O) (lk : List (Nat × Nat × Nat × Nat)) (pc : Nat) (ins : Instr) (st : rk_S) : rk_R :=
  let lo := st.1; let sk := st.2.1; let env := st.2.2.1; let hp := st.2.2.2.1; let nc := st.2.2.2.2.1; let ns := st.2.2.2.2.2
  match ins with
  | .invokevirtual idx => match rk_lk lk idx with
    | some (kd, f, n) => if kd = 5 ∨ kd = 6 then (match rk_pop n [] sk with
      | some (as, .inr (.inl j) :: r) => (match hp[j]? with
        | some (.inl o) => if mci[f]? = some o.1 ∧ rk_sum env r ≤ 8 then rk_after (call f (.inr (.inl j) :: as) env hp) pc lo r nc ns else none
        | _ => none)
      | _ => none) else none
    | none => none
  | .invokestatic idx => match rk_lk lk idx with
    | some (kd, f, n) => if kd = 7 ∨ kd = 8 then (match rk_pop n [] sk with
      | some (as, r) => if rk_sum env r ≤ 8 then rk_after (call f as env hp) pc lo r nc ns else none
      | none => none) else none
    | none => none
  | .invokespecial idx => match rk_lk lk idx with
    | some (kd, f, n) => if kd = 9 ∨ kd = 10 then (match rk_pop n [] sk with
      | some (as, .inr (.inl j) :: r) => if rk_sum env r ≤ 8 then rk_after (call f (.inr (.inl j) :: as) env hp) pc lo r nc ns else none
      | _ => none) else if kd = 11 then (match sk with
      | .inr (.inl _) :: r => if rk_sum env r ≤ 8 then some [(pc + 3, (lo, r, env, hp, nc, ns))] else none
      | _ => none) else none
    | none => none
  | _ => none
/-! ===== rk: System.arraycopy ===== -/
/-- a number that is one, 0 at least -/
def rk_num (env : List rk_T) (a : rk_V) : Option Nat := match rk_iv env a with
  | some I => if I.1 = I.2 ∧ 0 ≤ I.1 then some I.1.toNat else none
  | none => none
def rk_copy (lk : List (Nat × Nat × Nat × Nat)) (pc : Nat) (ins : Instr) (st : rk_S) : rk_R :=
  let lo := st.1; let sk := st.2.1; let env := st.2.2.1; let hp := st.2.2.2.1; let nc := st.2.2.2.2.1; let ns := st.2.2.2.2.2
  match ins with
  | .invokestatic idx => match rk_lk lk idx with
    | some (12, _, _) => (match sk with
      | an :: adp :: .inr (.inl j1) :: asp :: .inr (.inl j0) :: r => if rk_sum env r ≤ 8 then (match rk_num env an, rk_num env adp, rk_num env asp, hp[j0]?, hp[j1]? with
        | some n, some dp, some sp, some (.inr (.int, n0, d0, o0)), some (.inr (.int, n1, d1, o1)) => if sp + n ≤ n0 ∧ dp + n ≤ n1 then some [(pc + 3, (lo, r, env, hp.set j1 (.inr (.int, n1, d1, rk_cpy d0 o0 sp dp n o1)), nc, ns))] else none
        | some n, some dp, some sp, some (.inr (.long, n0, d0, o0)), some (.inr (.long, n1, d1, o1)) => if sp + n ≤ n0 ∧ dp + n ≤ n1 then some [(pc + 3, (lo, r, env, hp.set j1 (.inr (.long, n1, d1, rk_cpy d0 o0 sp dp n o1)), nc, ns))] else none
        | _, _, _, _, _ => none) else none
      | _ => none)
    | _ => none
  | _ => none
def rk_comb (f : Nat × rk_S → Option rk_O) : List (Nat × rk_S) → Option rk_O
  | [] => some (0, 0, [])
  | q :: r => match f q, rk_comb f r with
    | some a, some b => some (max a.1 b.1, max a.2.1 b.2.1, a.2.2 ++ b.2.2)
    | _, _ => none
/-- a number of few values is each of them, one by one -/
def rk_each (a : rk_V) (pc : Nat) (lo : List (Nat × rk_V)) (sk : List rk_V) (env : List rk_T) (hp : List rk_H) (nc ns : Nat) : Int → Nat → List (Nat × rk_S)
  | _, 0 => []
  | v, n + 1 => rk_opt (rk_cut env a v v) pc lo sk hp nc ns ++ rk_each a pc lo sk env hp nc ns (v + 1) n
def rk_which (ins : Instr) (sk : List rk_V) : Option rk_V := match ins with
  | .iaload | .baload | .laload | .aaload | .i2l => sk[0]?
  | .iastore | .bastore | .lastore | .aastore => sk[1]?
  | _ => none
def rk_split (pc : Nat) (ins : Instr) (st : rk_S) : rk_R := match rk_which ins st.2.1 with
  | some a => match rk_iv st.2.2.1 a with
    | some I => if I.1 < I.2 ∧ I.2 - I.1 ≤ 64 then some (rk_each a pc st.1 st.2.1 st.2.2.1 st.2.2.2.1 st.2.2.2.2.1 st.2.2.2.2.2 I.1 (I.2 - I.1 + 1).toNat) else none
    | none => none
  | none => none
/-- Math.max, min, abs -/
def rk_imax (I J : Int × Int) : Int × Int := (max I.1 J.1, max I.2 J.2)
def rk_imin (I J : Int × Int) : Int × Int := (min I.1 J.1, min I.2 J.2)
def rk_math (lk : List (Nat × Nat × Nat × Nat)) (pc : Nat) (ins : Instr) (st : rk_S) : rk_R :=
  let lo := st.1; let sk := st.2.1; let env := st.2.2.1; let hp := st.2.2.2.1; let nc := st.2.2.2.2.1; let ns := st.2.2.2.2.2
  match ins with
  | .invokestatic idx => match rk_lk lk idx with
    | some (14, _, _) => (match sk with
      | b :: a :: r => if rk_sum env r ≤ 8 then rk_op2 (rk_bin (fun x y => if x < y then y else x) rk_imax env a b) (pc + 3) lo r hp nc ns else none
      | _ => none)
    | some (15, _, _) => (match sk with
      | b :: a :: r => if rk_sum env r ≤ 8 then rk_op2 (rk_bin (fun x y => if y < x then y else x) rk_imin env a b) (pc + 3) lo r hp nc ns else none
      | _ => none)
    | some (16, _, _) => (match sk with
      | b :: a :: r => if rk_sum env r ≤ 8 then rk_op2 (rk_lbin (fun x y => if y < x then x else y) env a b) (pc + 3) lo r hp nc ns else none
      | _ => none)
    | some (17, _, _) => (match sk with
      | a :: r => if rk_sum env r ≤ 8 then rk_op2 (rk_un (fun x => if 0 ≤ x then x else 0 - x) rk_full env a) (pc + 3) lo r hp nc ns else none
      | _ => none)
    | _ => none
  | _ => none
/-- ahead of a long difference: a wide symbol of few values is each of them, of one it is that number -/
def rk_pre0 (pc : Nat) (ins : Instr) (st : rk_S) : rk_R := match ins with
  | .lsub => match st.2.1 with
    | .inl (.long y) :: .inr (.inr (.inr k)) :: r => match rk_iv st.2.2.1 (.inr (.inr (.inl k))) with
      | some I => if I.1 = I.2 then some [(pc, (st.1, .inl (.long y) :: .inl (.long (Int32.ofInt I.1).toInt64) :: r, st.2.2))] else if I.1 < I.2 ∧ I.2 - I.1 ≤ 64 then some (rk_each (.inr (.inr (.inl k))) pc st.1 st.2.1 st.2.2.1 st.2.2.2.1 st.2.2.2.2.1 st.2.2.2.2.2 I.1 (I.2 - I.1 + 1).toNat) else none
      | none => none
    | _ => none
  | _ => none
/-- what else a frame may do -/
abbrev rk_Ext : Type := Nat → Instr → rk_S → rk_R
def rk_step (fty : rk_F) (cln : List String) (mci : List Nat) (call : Nat → List rk_V → List rk_T → List rk_H → Option rk_O) (ext : rk_Ext) (M : rk_M2) (pc : Nat) (ins : Instr) (st : rk_S) : rk_R :=
  match ext pc ins st with
  | some r => some r
  | none => match rk_pre0 pc ins st with
  | some r => some r
  | none => match rk_pure M.2.1 pc ins st with
  | some r => some r
  | none => match rk_pure2 pc ins st with
    | some r => some r
    | none => match rk_heap fty cln M.2.2.1 M.2.2.2.1 pc ins st with
      | some r => some r
      | none => match rk_call mci call M.2.2.1 pc ins st with
        | some r => some r
        | none => match rk_copy M.2.2.1 pc ins st with
          | some r => some r
          | none => match rk_split pc ins st with
            | some r => some r
            | none => rk_math M.2.2.1 pc ins st
/-- may a value be returned? -/
def rk_rok (env : List rk_T) (ret : Option FieldType) (a : rk_V) : Bool := match ret with
  | some .int => (rk_iv env a).isSome
  | some .boolean => rk_fit env .boolean a
  | some .long => rk_isL env a
  | _ => false
/-- an end, if the instruction is one -/
def rk_end (ret : Option FieldType) (ins : Instr) (st : rk_S) : Option (Option rk_X) := match ins with
  | .return_ => match st.2.1, ret with
    | [], none => some (some (none, st.2.2.1, st.2.2.2.1, st.2.2.2.2.1, st.2.2.2.2.2))
    | _, _ => some none
  | .ireturn => match st.2.1 with
    | [a] => if rk_rok st.2.2.1 ret a ∧ ¬ ret = some .long then some (some (some a, st.2.2.1, st.2.2.2.1, st.2.2.2.2.1, st.2.2.2.2.2)) else some none
    | _ => some none
  | .lreturn => match st.2.1 with
    | [a] => if rk_rok st.2.2.1 ret a ∧ ret = some .long then some (some (some a, st.2.2.1, st.2.2.2.1, st.2.2.2.2.1, st.2.2.2.2.2)) else some none
    | _ => some none
  | _ => none
def rk_loop (fty : rk_F) (cln : List String) (mci : List Nat) (call : Nat → List rk_V → List rk_T → List rk_H → Option rk_O) (ext : rk_Ext) (M : rk_M2) : Nat → Nat × rk_S → Option rk_O
  | 0, _ => none
  | n + 1, q => match rk_fetch M.1 q.1 with
    | none => none
    | some il => if rk_len il.1 il.2 = true then (match rk_end M.2.2.2.2.1 il.1 q.2 with
      | some (some x) => some (q.2.2.2.2.2.1, q.2.2.2.2.2.2, [x])
      | some none => none
      | none => (match rk_step fty cln mci call ext M q.1 il.1 q.2 with
        | some succ => (match rk_comb (rk_loop fty cln mci call ext M n) succ with
          | some o => some (max q.2.2.2.2.2.1 o.1, max q.2.2.2.2.2.2 o.2.1, o.2.2)
          | none => none)
        | none => none)) else none
/-- the locals of a method's start -/
def rk_args (env : List rk_T) : Nat → List rk_V → List (Nat × rk_V)
  | _, [] => []
  | i, a :: r => (i, a) :: rk_args env (i + rk_cat env a) r
def rk_mpc (g : rk_V → rk_V) (c : rk_H) : rk_H := match c with
  | .inl o => .inl (o.1, o.2.map g)
  | .inr q => .inr (q.1, q.2.1, g q.2.2.1, q.2.2.2.map (fun z => (z.1, g z.2)))
def rk_alc (P : rk_V → Bool) (c : rk_H) : Bool := match c with
  | .inl o => o.2.all P
  | .inr q => P q.2.2.1 && q.2.2.2.all (fun z => P z.2)
def rk_up (n : Nat) (a : rk_V) : rk_V := match a with
  | .inr (.inl j) => .inr (.inl (j + n))
  | a => a
def rk_dn (n : Nat) (a : rk_V) : rk_V := match a with
  | .inr (.inl j) => .inr (.inl (j - n))
  | a => a
def rk_ge (n : Nat) (a : rk_V) : Bool := match a with
  | .inr (.inl j) => decide (n ≤ j)
  | _ => true
def rk_lt (n : Nat) (a : rk_V) : Bool := match a with
  | .inr (.inl j) => decide (j < n)
  | _ => true
def rk_nro (o : Option rk_V) : Bool := match o with
  | some (.inr (.inl _)) => false
  | _ => true
/-- the part from n on -/
def rk_suf (call : Nat → List rk_V → List rk_T → List rk_H → Option rk_O) (n f : Nat) (as : List rk_V) (env : List rk_T) (hp : List rk_H) : Option rk_O :=
  if n ≤ hp.length ∧ as.all (rk_ge n) = true ∧ (hp.drop n).all (rk_alc (rk_ge n)) = true then (match call f (as.map (rk_dn n)) env ((hp.drop n).map (rk_mpc (rk_dn n))) with
    | some o => if o.2.2.all (fun x => rk_nro x.1) = true then some (o.1, o.2.1, o.2.2.map (fun x => (x.1, x.2.1, hp.take n ++ x.2.2.1.map (rk_mpc (rk_up n)), x.2.2.2))) else none
    | none => none) else none
/-- the part below n -/
def rk_pfx (call : Nat → List rk_V → List rk_T → List rk_H → Option rk_O) (n f : Nat) (as : List rk_V) (env : List rk_T) (hp : List rk_H) : Option rk_O :=
  if n ≤ hp.length ∧ as.all (rk_lt n) = true ∧ (hp.take n).all (rk_alc (rk_lt n)) = true then (match call f as env (hp.take n) with
    | some o => if o.2.2.all (fun x => decide (x.2.2.1.length = n)) = true then some (o.1, o.2.1, o.2.2.map (fun x => (x.1, x.2.1, x.2.2.1 ++ hp.drop n, x.2.2.2))) else none
    | none => none) else none
def rk_wrap (call : Nat → List rk_V → List rk_T → List rk_H → Option rk_O) (f : Nat) (as : List rk_V) (env : List rk_T) (hp : List rk_H) : Option rk_O := match as with
  | [.inr (.inl j)] => if j + 1 = hp.length then (match rk_suf call j f [.inr (.inl j)] env hp with
    | some o => some o
    | none => call f [.inr (.inl j)] env hp) else call f [.inr (.inl j)] env hp
  | as => call f as env hp
def rk_run (P : List rk_M2) (fty : rk_F) (cln : List String) (mci : List Nat) (sum : Nat → Nat → List rk_V → List rk_T → List rk_H → Option rk_O) (fuel : Nat) : Nat → Nat → List rk_V → List rk_T → List rk_H → Option rk_O
  | 0, _, _, _, _ => none
  | d + 1, f, as, env, hp => match sum d f as env hp with
   | some o => some o
   | none => match P[f]? with
    | some M => if M.2.1 ≤ 21 ∧ rk_sum env as ≤ M.2.1 then rk_loop fty cln mci (rk_wrap (rk_run P fty cln mci sum fuel d)) (fun _ _ _ => none) M fuel (0, (rk_args env 0 as, [], env, hp, 0, 0)) else none
    | none => none
end MG1_0
section MG1_1
/-! ===== rk: a run is sound ===== -/
theorem rk_arr_ty {vals : List Value} {ads : List Nat} {cA : ClassId} {q : rk_D} {e : va_E} (h : rk_arr vals ads cA q e) : True := trivial
theorem rk_c.moved {u U : State} (hvm : u.vm.Alike U.vm) {vals : List Value} {ads : List Nat} {c : rk_H} {e : va_E} (h : rk_c u vals ads c e) : rk_c U vals ads c e := by
  rcases c with o | q
  · exact h
  · obtain ⟨cA, h1, h2, h3⟩ := h
    exact ⟨cA, arrOfT_moved hvm h1, h2.moved hvm, h3⟩
/-- the words that aren't of the tables' own kind -/
def rk_xok (xw : List Jvm.Cond) : Prop := ∀ w ∈ xw, (∃ a i b n d h, w = .fieldLinkNest a i b n d h) ∨ (∃ a i x h, w = .methodLinkNest a i x h) ∨ (∃ C, w = .arrayOver (.object C)) ∨ (∃ t, w = .arrayOver (.array t))
theorem rk_xw_warm {xw : List Jvm.Cond} (hxo : rk_xok xw) {s U : State} (hW : s.WarmedH U.vm) (h : ∀ w ∈ xw, va_Nw w s) : ∀ w ∈ xw, va_Nw w U := by
  intro w hw
  rcases hxo w hw with ⟨a, i, b, n, d, hh, rfl⟩ | ⟨a, i, x, hh, rfl⟩ | ⟨C, rfl⟩ | ⟨t, rfl⟩
  · exact va_Nw.warmF hW (h _ hw)
  · exact va_Nw.warmM hW (h _ hw)
  · exact va_AO.moved hW.alike (h _ hw)
  · exact va_AOA.moved hW.alike (h _ hw)
theorem rk_xw_same {xw : List Jvm.Cond} (hxo : rk_xok xw) {s U : State} (hv : s.vm = U.vm) (h : ∀ w ∈ xw, va_Nw w s) : ∀ w ∈ xw, va_Nw w U := by
  intro w hw
  rcases hxo w hw with ⟨a, i, b, n, d, hh, rfl⟩ | ⟨a, i, x, hh, rfl⟩ | ⟨C, rfl⟩ | ⟨t, rfl⟩
  · exact va_Nw.same rfl hv (h _ hw)
  · exact va_Nw.same rfl hv (h _ hw)
  · exact va_AO.moved (by rw [hv]; exact Vm.Alike.refl _) (h _ hw)
  · exact va_AOA.moved (by rw [hv]; exact Vm.Alike.refl _) (h _ hw)
/-- what else is known of old cells: by the symbols, of a heap, outside what may be written -/
abbrev rk_XT : Type := List Value → (Nat → Prop) → State → Heap → Prop
def rk_xtok (xt : rk_XT) : Prop := (∀ (vals k : List Value) (Ad : Nat → Prop) (U : State) (H : Heap), xt vals Ad U H → xt (vals ++ k) Ad U H) ∧ (∀ (vals : List Value) (Ad : Nat → Prop) (s U : State) (H : Heap), s.vm = U.vm → xt vals Ad s H → xt vals Ad U H) ∧ (∀ (vals : List Value) (Ad : Nat → Prop) (s U : State) (H : Heap), s.WarmedH U.vm → xt vals Ad s H → xt vals Ad U H) ∧ (∀ (vals : List Value) (Ad B : Nat → Prop) (U : State) (H H1 : Heap), xt vals Ad U H → (∀ a, a < H.size → ¬ Ad a → H1[a]? = H[a]?) → (∀ q, B q → Ad q) → xt vals B U H1)
def rk_Pre (D : va_G) (cl : List vw_C) (xw : List Jvm.Cond) (xt : rk_XT) (vals0 : List Value) (ws0 : va_W) (hp : List rk_H) (sz : Nat) (av : List Value) : Array Value → State → Prop := fun v U => v = av.toArray ∧ U.heap.size = sz ∧ va_P D cl ws0 U.heap ∧ va_K D cl [] U ∧ va_D (fun _ => True) ws0 ∧ rk_A2 (fun c q => rk_c U vals0 (ws0.map Prod.fst) c q.2) hp ws0 ∧ (∀ w ∈ xw, va_Nw w U) ∧ xt vals0 (va_A ws0 sz) U U.heap
def rk_ret (r : Option rk_V) (vals : List Value) (ads : List Nat) (oc : Outcome) : Prop := match r with
  | none => oc = .returned none
  | some a => ∃ v, rk_g vals ads a v ∧ oc = .returned (some v)
def rk_Post (D : va_G) (cl : List vw_C) (xs : List rk_X) (vals0 : List Value) (ads0 : List Nat) (Ad : Nat → Prop) : Array Value → State → Outcome → State → Prop := fun _ st oc t =>
  (∃ x ∈ xs, ∃ (vals : List Value) (ws : va_W), (∃ k, vals = vals0 ++ k) ∧ (∃ k, ws.map Prod.fst = ads0 ++ k) ∧ rk_E x.2.1 vals ∧ rk_A2 (fun c q => rk_c t vals (ws.map Prod.fst) c q.2) x.2.2.1 ws ∧ va_P D cl ws t.heap ∧ va_D Ad ws ∧ rk_ret x.1 vals (ws.map Prod.fst) oc) ∧ va_F Ad st t
theorem rk_blind {D : va_G} {cl : List vw_C} {xw : List Jvm.Cond} {xt : rk_XT} {vals0 : List Value} {ws0 : va_W} {hp : List rk_H} {sz : Nat} {av : List Value} (hxo : rk_xok xw) (hxt : rk_xtok xt) : FrameBlind (rk_Pre D cl xw xt vals0 ws0 hp sz av) := by
  intro a U g mk q
  obtain ⟨h1, h2, h3, h4, h5, h6, h7, h8⟩ := q
  exact ⟨h1, h2, h3, va_K.moved (u := U) (U := U.calling g mk a) (Vm.Alike.refl U.vm) h4, h5, h6.mono (fun _ _ h => h.moved (u := U) (U := U.calling g mk a) (Vm.Alike.refl U.vm)), rk_xw_same hxo (s := U) (U := U.calling g mk a) rfl h7, hxt.2.1 _ _ U (U.calling g mk a) _ rfl h8⟩
/-- what is known of a method by its number: its class's name, its own name, its bytes -/
abbrev rk_N : Type := String × MethodName × ByteArray
def rk_kok (tbl : List Jvm.Cond) (own : String) (r : Nat × Nat × Nat × Nat) : Prop := r.2.1 = 12 → Jvm.Cond.methodLink own r.1 arraycopyName ∈ tbl ∧ Jvm.Cond.native arraycopyName ∈ tbl ∧ Jvm.Cond.static arraycopyName ∈ tbl ∧ Jvm.Cond.initialized "java/lang/System" ∈ tbl
/-- what a call's link must be for the tables -/
def rk_cok (tbl xw : List Jvm.Cond) (MN : List rk_N) (P : List rk_M2) (own : String) (r : Nat × Nat × Nat × Nat) : Prop := match r.2.1 with
  | 5 => ∃ q, MN[r.2.2.1]? = some q ∧ Jvm.Cond.methodLink own r.1 q.2.1 ∈ tbl ∧ Jvm.Cond.instanceMethod q.2.1 ∈ tbl ∧ Jvm.Cond.selects q.1 q.2.1 q.2.1 ∈ tbl ∧ (parseMethodDescriptor q.2.1.desc).map (fun d => d.parameters.length) = some r.2.2.2
  | 6 => ∃ q host, MN[r.2.2.1]? = some q ∧ Jvm.Cond.methodLinkNest own r.1 q.2.1 host ∈ xw ∧ Jvm.Cond.instanceMethod q.2.1 ∈ tbl ∧ Jvm.Cond.selects q.1 q.2.1 q.2.1 ∈ tbl ∧ (parseMethodDescriptor q.2.1.desc).map (fun d => d.parameters.length) = some r.2.2.2
  | 7 => ∃ q, MN[r.2.2.1]? = some q ∧ Jvm.Cond.methodLink own r.1 q.2.1 ∈ tbl ∧ Jvm.Cond.static q.2.1 ∈ tbl ∧ (parseMethodDescriptor q.2.1.desc).map (fun d => d.parameters.length) = some r.2.2.2
  | 8 => ∃ q host, MN[r.2.2.1]? = some q ∧ Jvm.Cond.methodLinkNest own r.1 q.2.1 host ∈ xw ∧ Jvm.Cond.static q.2.1 ∈ tbl ∧ (parseMethodDescriptor q.2.1.desc).map (fun d => d.parameters.length) = some r.2.2.2
  | 9 => ∃ q, MN[r.2.2.1]? = some q ∧ (∀ M, P[r.2.2.1]? = some M → M.2.2.2.2.1 = none) ∧ Jvm.Cond.methodLink own r.1 q.2.1 ∈ tbl ∧ Jvm.Cond.instanceMethod q.2.1 ∈ tbl ∧ q.2.1.name = "<init>" ∧ (parseMethodDescriptor q.2.1.desc).map (fun d => d.parameters.length) = some r.2.2.2
  | 10 => ∃ q host, MN[r.2.2.1]? = some q ∧ (∀ M, P[r.2.2.1]? = some M → M.2.2.2.2.1 = none) ∧ Jvm.Cond.methodLinkNest own r.1 q.2.1 host ∈ xw ∧ Jvm.Cond.instanceMethod q.2.1 ∈ tbl ∧ q.2.1.name = "<init>" ∧ (parseMethodDescriptor q.2.1.desc).map (fun d => d.parameters.length) = some r.2.2.2
  | 11 => Jvm.Cond.methodLink own r.1 objectInit ∈ tbl ∧ Jvm.Cond.instanceMethod objectInit ∈ tbl ∧ Jvm.Cond.code objectInit ⟨#[0xb1]⟩ 1 none ∈ tbl
  | _ => True
/-- what a method must be for the tables -/
def rk_mok (tbl xw : List Jvm.Cond) (cl : List vw_C) (MN : List rk_N) (P : List rk_M2) (mci : List Nat) (q : rk_N) (M : rk_M2) : Prop :=
  plainName q.2.1.cls = true ∧ q.2.1.cls = q.1 ∧ (q.2.1.cls ≠ "java/lang/invoke/MethodHandle" ∧ q.2.1.cls ≠ "java/lang/invoke/VarHandle") ∧ Jvm.Cond.code q.2.1 q.2.2 M.2.1 M.2.2.2.2.1 ∈ tbl ∧ Jvm.Cond.initialized q.2.1.cls ∈ tbl ∧ (∀ r ∈ M.1, decode q.2.2 r.1 = .ok r.2) ∧ (∀ r ∈ M.2.2.1, rk_lok tbl xw cl q.1 r ∧ rk_cok tbl xw MN P q.1 r ∧ rk_kok tbl q.1 r) ∧ ((∃ r ∈ M.2.2.1, r.2.1 = 2) → q.2.1.name = "<init>") ∧ (∀ r ∈ M.2.2.2.1, (∀ x, r.2 = .int x → Jvm.Cond.constant q.1 r.1 x ∈ tbl) ∧ (∀ x, r.2 = .long x → Jvm.Cond.constantLong q.1 r.1 x ∈ tbl))
/-- the whole of it -/
def rk_ok (tbl xw : List Jvm.Cond) (cl : List vw_C) (fty : rk_F) (cln : List String) (MN : List rk_N) (mci : List Nat) (P : List rk_M2) : Prop :=
  (∀ w ∈ tbl, goodWord w = true) ∧ rk_xok xw ∧ rk_clok tbl cl fty cln ∧ (Jvm.Cond.arrayClass .int ∈ tbl ∧ Jvm.Cond.arrayClass .byte ∈ tbl ∧ Jvm.Cond.arrayClass .long ∈ tbl) ∧ MN.length = P.length ∧ (∀ (f : Nat) (q : rk_N) (M : rk_M2), MN[f]? = some q → P[f]? = some M → rk_mok tbl xw cl MN P mci q M) ∧ (∀ (f ci : Nat) (q : rk_N) (k : vw_C), mci[f]? = some ci → MN[f]? = some q → cl[ci]? = some k → k.1 = q.1)
theorem rk_pop_ok {vals : List Value} {ads : List Nat} : ∀ (n : Nat) {acc sk as r : List rk_V} {va stk : List Value}, rk_pop n acc sk = some (as, r) → rk_A2 (rk_g vals ads) acc va → rk_A2 (rk_g vals ads) sk stk → ∃ (v2 r2 : List Value), rk_A2 (rk_g vals ads) as (v2 ++ va) ∧ rk_A2 (rk_g vals ads) r r2 ∧ stk = v2.reverse ++ r2 ∧ v2.length = n := by
  intro n
  induction n with
  | zero => intro acc sk as r va stk h ha hs; cases h; exact ⟨[], stk, by simpa using ha, hs, by simp, rfl⟩
  | succ n ih =>
    intro acc sk as r va stk h ha hs
    cases sk with
    | nil => cases h
    | cons a sk =>
      obtain ⟨v, k, rfl, hg, hs⟩ := hs.cons
      obtain ⟨v2, r2, h1, h2, rfl, h4⟩ := ih (show rk_pop n (a :: acc) sk = some (as, r) from h) (show rk_A2 (rk_g vals ads) (a :: acc) (v :: va) from ⟨hg, ha⟩) hs
      exact ⟨v2 ++ [v], r2, by simpa using h1, h2, by simp, by simp [h4]⟩
theorem rk_sum_ok {env : List rk_T} {vals : List Value} {ads : List Nat} (hE : rk_E env vals) : ∀ {r : List rk_V} {stk : List Value}, rk_A2 (rk_g vals ads) r stk → rk_sum env r = (stk.map fun v => v.category).sum := by
  intro r
  induction r with
  | nil => intro stk h; rw [h.nil]; rfl
  | cons a r ih =>
    intro stk h
    obtain ⟨v, k, rfl, hg, hs⟩ := h.cons
    simp [rk_sum, rk_cat_ok hE hg, ih hs]
theorem rk_fetch_mem {pc : Nat} {q : Instr × Nat} : ∀ {l : List (Nat × Instr × Nat)}, rk_fetch l pc = some q → (pc, q) ∈ l := by
  intro l
  induction l with
  | nil => intro h; cases h
  | cons r l ih =>
    intro h
    unfold rk_fetch at h
    split at h
    · next e => cases h; subst e; exact List.mem_cons_self
    · exact List.mem_cons_of_mem _ (ih h)
theorem rk_comb_ok {f : Nat × rk_S → Option rk_O} : ∀ {l : List (Nat × rk_S)} {o : rk_O}, rk_comb f l = some o → ∀ q ∈ l, ∃ o', f q = some o' ∧ o'.1 ≤ o.1 ∧ o'.2.1 ≤ o.2.1 ∧ ∀ x ∈ o'.2.2, x ∈ o.2.2 := by
  intro l
  induction l with
  | nil => intro o h q hq; cases hq
  | cons r l ih =>
    intro o h q hq
    unfold rk_comb at h
    split at h
    · next a b ha hb =>
      cases h
      rcases List.mem_cons.mp hq with rfl | hq
      · exact ⟨a, ha, Nat.le_max_left _ _, Nat.le_max_left _ _, fun x hx => List.mem_append_left _ hx⟩
      · obtain ⟨o', h1, h2, h3, h4⟩ := ih hb q hq
        exact ⟨o', h1, Nat.le_trans h2 (Nat.le_max_right _ _), Nat.le_trans h3 (Nat.le_max_right _ _), fun x hx => List.mem_append_right _ (h4 x hx)⟩
    · cases h
theorem rk_loop_ge {fty : rk_F} {cln : List String} {mci : List Nat} {call : Nat → List rk_V → List rk_T → List rk_H → Option rk_O} {ext : rk_Ext} {M : rk_M2} : ∀ {n : Nat} {q : Nat × rk_S} {o : rk_O}, rk_loop fty cln mci call ext M n q = some o → q.2.2.2.2.2.1 ≤ o.1 ∧ q.2.2.2.2.2.2 ≤ o.2.1 := by
  intro n q o h
  cases n with
  | zero => cases h
  | succ n =>
    unfold rk_loop at h
    split at h
    · cases h
    · split at h
      · split at h
        · cases h; exact ⟨Nat.le_refl _, Nat.le_refl _⟩
        · cases h
        · split at h
          · split at h
            · cases h; exact ⟨Nat.le_max_left _ _, Nat.le_max_left _ _⟩
            · cases h
          · cases h
      · cases h
theorem rk_args_ok {env : List rk_T} {vals : List Value} {ads : List Nat} (hE : rk_E env vals) : ∀ {as : List rk_V} {av : List Value} (i : Nat), rk_A2 (rk_g vals ads) as av → rk_Lo vals ads (rk_args env i as) (lv_args i av) := by
  intro as
  induction as with
  | nil => intro av i h; rw [h.nil]; trivial
  | cons a as ih =>
    intro av i h
    obtain ⟨v, k, rfl, hg, hs⟩ := h.cons
    refine ⟨⟨rfl, hg⟩, ?_⟩
    have e : i + rk_cat env a = if v.category = 2 then i + 2 else i + 1 := by
      rw [rk_cat_ok hE hg]
      rcases lv_cat v with q | q <;> simp [q]
    rw [e]
    exact ih _ hs
section RKB
variable {p : Program} {l : Launch} {e : Env} {R : Room} {s : State} {m : MethodId} {args : Array Value} {below : List Frame} {meth : Method} {c : Code} {Q : State → Prop} {cc : ByteArray} {D : va_G} {cl : List vw_C} {Ad : Nat → Prop} {nL : Nat} {vals0 : List Value} {ads0 : List Nat}
/-- behind a call: each end of the callee goes on in the caller -/
theorem rk_back {vals : List Value} {ws : va_W} {H : Heap} {locs : List Loc} {ls : Array Slot} {st0 rest : List Value} {lc : List (Nat × Value)} {env : List rk_T} {hp : List rk_H} {lo : List (Nat × rk_V)} {r : List rk_V} {o : rk_O} {pc nc ns : Nat} {res : List (Nat × rk_S)} {as : Array Value}
    (hA : ∀ q, s.heap.size ≤ q → Ad q) (hG : rk_G s D cl Ad vals0 ads0 vals ws H locs env hp) (hl : lv_has ls nL lc) (hL : rk_Lo vals (ws.map Prod.fst) lo lc) (hS : rk_A2 (rk_g vals (ws.map Prod.fst)) r rest)
    (hr : va_Run p l e R s m args below meth c H locs nc ns o.1 o.2.1 (F0 m pc ls st0) rest (rk_Post D cl o.2.2 vals (ws.map Prod.fst) (va_A ws H.size) as) (va_A ws H.size))
    (h : rk_after (some o) pc lo r nc ns = some res) (kk : ∀ q ∈ res, rk_W (rk_KW p l e R s m args below meth c Q) s D cl Ad nL vals0 ads0 q.1 q.2) : rk_KW p l e R s m args below meth c Q pc ls st0 H locs nc ns := by
  have hres : res = o.2.2.map (fun x => (pc + 3, (lo, x.1.toList ++ r, x.2.1, x.2.2.1, nc + o.1, ns + o.2.1))) := by
    unfold rk_after at h
    dsimp only at h
    split at h
    · cases h
    · exact (Option.some.inj h).symm
  subst hres
  have hsub : ∀ q, va_A ws H.size q → Ad q := by
    rintro q (⟨k, e1, hk⟩ | hq)
    · exact hG.2.2.2.1.2 k _ hk
    · exact hA q (Nat.le_trans hG.2.2.2.2.1.1 hq)
  intro T hT X
  obtain ⟨v, st₀, t, T', L, h0, X', hLf, e1, e2, ⟨⟨x, hxm, vals', ws', hv', ha', hE', hC', hP', hD', hret⟩, hF⟩, go⟩ := hr T hT X
  have hal : t.vm.Alike s.vm := by rw [← e2]; exact X'.warmed.alike.symm
  obtain ⟨-, -, -, -, h5, ⟨k6, h6⟩, k7, h7⟩ := id hG
  have hS1 : va_S Ad s.heap t.heap (locs ++ L) := by
    refine ⟨Nat.le_trans h5.1 (by rw [← h0]; exact hF.1), fun q hq hn => ?_, fun z hz => ?_⟩
    · rw [hF.2 q (by rw [h0]; exact Nat.lt_of_lt_of_le hq h5.1) (fun z => hn (hsub q z)), h0]
      exact h5.2.1 q hq hn
    · rcases List.mem_append.mp hz with z1 | z1
      · exact h5.2.2 z z1
      · exact hsub _ (hLf z z1)
  have hG1 : rk_G s D cl Ad vals0 ads0 vals' ws' t.heap (locs ++ L) x.2.1 x.2.2.1 := by
    obtain ⟨kv, rfl⟩ := hv'
    obtain ⟨ka, ha'⟩ := ha'
    exact ⟨hE', hC'.mono (fun _ _ h => h.moved hal), hP', hD'.weaken (fun _ _ _ z => hsub _ z), hS1, ⟨k6 ++ kv, by rw [h6, List.append_assoc]⟩, ⟨k7 ++ ka, by rw [ha', h7, List.append_assoc]⟩⟩
  have hL1 : rk_Lo vals' (ws'.map Prod.fst) lo lc := rk_A2.mono (fun _ _ h => ⟨h.1, h.2.grow hv' ha'⟩) hL
  have hS2 : rk_A2 (rk_g vals' (ws'.map Prod.fst)) (x.1.toList ++ r) (v.toList ++ rest) := by
    have hS3 : rk_A2 (rk_g vals' (ws'.map Prod.fst)) r rest := rk_A2.mono (fun _ _ h => h.grow hv' ha') hS
    cases hx1 : x.1 with
    | none =>
      rw [hx1] at hret
      have : v = none := Outcome.returned.inj hret
      subst this
      exact hS3
    | some a =>
      rw [hx1] at hret
      obtain ⟨w, hg, ew⟩ := hret
      have : v = some w := Outcome.returned.inj ew
      subst this
      exact ⟨hg, hS3⟩
  obtain ⟨t2, a1, b1⟩ := kk _ (List.mem_map.mpr ⟨x, hxm, rfl⟩) vals' ws' t.heap (locs ++ L) ls _ lc hG1 hl hL1 hS2 T' e1 X'
  exact ⟨t2, go t2 a1, b1⟩
end RKB
end MG1_1
section MG1_2
theorem rk_num_ok {env : List rk_T} {vals : List Value} {ads : List Nat} {a : rk_V} {v : Value} {k : Nat} (hE : rk_E env vals) (h : rk_g vals ads a v) (hi : rk_num env a = some k) : ∃ x : Int32, v = .int x ∧ ¬ x < 0 ∧ x.toNatClampNeg = k := by
  unfold rk_num at hi
  split at hi
  · next I hI =>
    obtain ⟨x, rfl, h1, h2⟩ := rk_iv_ok hE h hI
    split at hi
    · next hc =>
      cases hi
      have e : x.toInt = I.1 := by omega
      have hc2 : x.toNatClampNeg = I.1.toNat := by rw [← e]; rfl
      exact ⟨x, rfl, by rw [Int32.lt_iff_toInt_lt, Int32.toInt_zero]; omega, hc2⟩
    · cases hi
  · cases hi
theorem rk_cpy_look (d1 d0 : rk_V) (o0 : List (Nat × rk_V)) (sp dp : Nat) (acc : List (Nat × rk_V)) (j : Nat) : ∀ n : Nat, rk_look d1 (rk_cpy d0 o0 sp dp n acc) j = if dp ≤ j ∧ j < dp + n then rk_look d0 o0 (sp + (j - dp)) else rk_look d1 acc j := by
  intro n
  induction n with
  | zero => rw [if_neg (by omega)]; rfl
  | succ n ih =>
    show (if dp + n = j then rk_look d0 o0 (sp + n) else rk_look d1 (rk_cpy d0 o0 sp dp n acc) j) = _
    by_cases e : dp + n = j
    · rw [if_pos e, if_pos (by omega), show j - dp = n by omega]
    · rw [if_neg e, ih]
      by_cases q : dp ≤ j ∧ j < dp + n
      · rw [if_pos q, if_pos (by omega)]
      · rw [if_neg q, if_neg (by omega)]
section RKC
variable {p : Program} {l : Launch} {e : Env} {R : Room} {s : State} {m : MethodId} {args : Array Value} {below : List Frame} {meth : Method} {c : Code} {Q : State → Prop} {cc : ByteArray} {D : va_G} {cl : List vw_C} {Ad : Nat → Prop} {nL : Nat} {vals0 : List Value} {ads0 : List Nat}
variable {tbl xw : List Jvm.Cond} {fty : rk_F} {cln : List String} {own : String} {lk : List (Nat × Nat × Nat × Nat)} {cs : List (Nat × Value)}
set_option maxHeartbeats 4000000 in
theorem rk_copy_ok (hx : p.tables.exec = Jvm.exec) (hb : c.code = cc) (hml : c.maxLocals = nL) (hF : rk_Fr s m args meth D cl Ad tbl xw fty cln own lk cs) (hck : ∀ r ∈ lk, rk_kok tbl own r) (hfr : 1 ≤ R.frames) (hlo : 40 ≤ R.locals) {pc : Nat} {ins : Instr} {len : Nat} {st : rk_S} {res : List (Nat × rk_S)} (hdg : decode cc pc = .ok (ins, len)) (hlen : rk_len ins len = true) (h : rk_copy lk pc ins st = some res) (kk : ∀ q ∈ res, rk_W (rk_KW p l e R s m args below meth c Q) s D cl Ad nL vals0 ads0 q.1 q.2) : rk_W (rk_KW p l e R s m args below meth c Q) s D cl Ad nL vals0 ads0 pc st := by
  obtain ⟨hts, hxw, hown, hK, hA, hcl, hlk, hini, hac, hcs⟩ := hF
  obtain ⟨lo, sk, env, hp, nc, ns⟩ := st
  intro vals ws H locs ls stk lc hG hl hL hS
  dsimp only at hG hL hS ⊢
  cases ins
  case invokestatic idx =>
    simp [rk_len] at hlen; subst hlen
    simp only [rk_copy] at h
    split at h
    · next a0 a1 hlk1 =>
      obtain ⟨w1, w2, w3, w4⟩ := hck _ (rk_lk_mem hlk1) rfl
      split at h
      · next an adp j1 asp j0 r =>
        split at h
        · next hsum =>
          obtain ⟨vn, k1, rfl, gn, hSn⟩ := hS.cons; clear hS; have hS := hSn; clear hSn
          obtain ⟨vd, k2, rfl, gd, hSn⟩ := hS.cons; clear hS; have hS := hSn; clear hSn
          obtain ⟨va1, k3, rfl, ⟨x1, hj1x, rfl⟩, hSn⟩ := hS.cons; clear hS; have hS := hSn; clear hSn
          obtain ⟨vs, k4, rfl, gs, hSn⟩ := hS.cons; clear hS; have hS := hSn; clear hSn
          obtain ⟨va0, k5, rfl, ⟨x0, hj0x, rfl⟩, hSn⟩ := hS.cons; clear hS; have hS := hSn; clear hSn
          rw [rk_sum_ok hG.1 hS] at hsum
          have hnf : nativeFrameWords "java/lang/System" "arraycopy" 5 ≤ 20 := by decide +kernel
          have hlr : (k5.map fun v => v.category).sum + (nativeFrameWords "java/lang/System" "arraycopy" 5 + 11) ≤ R.locals := by omega
          split at h
          · next n dp sp n0 d0 o0 n1 d1 o1 hn hdp hsp hj0 hj1 =>
            split at h
            · next hc =>
              cases h
              obtain ⟨xn, rfl, qn, rfl⟩ := rk_num_ok hG.1 gn hn
              obtain ⟨xd, rfl, qd, rfl⟩ := rk_num_ok hG.1 gd hdp
              obtain ⟨xs, rfl, qs, rfl⟩ := rk_num_ok hG.1 gs hsp
              obtain ⟨e0, hw0, cA0, hA01, hA02, f, rfl, hf⟩ := hG.cell hj0 hj0x
              obtain ⟨e1, hw1, cA1, hA11, hA12, g, rfl, hg⟩ := hG.cell hj1 hj1x
              have hK2 : va_K D cl [(cA0, .int), (cA1, .int)] s := (rk_K1 hK hA01 hA02).app (rk_K1 hK hA11 hA12)
              refine va_copyi (ty := .int) hx hb (by rw [hml]; exact hl.1.symm) hown (hts _ w1) (hts _ w2) (hts _ w3) (hts _ w4) hK2 hG.2.2.1 hG.2.2.2.1 hG.2.2.2.2.1 j0 j1 0 1 hw0 hw1 rfl rfl rfl qs qd qn hc.1 hc.2 (fun _ _ => rfl) hfr hlr hdg (fun H1 locs1 hP1 hD1 hS1 => ?_)
              have hG1 := hG.setc (c' := .inr (.int, n1, d1, rk_cpy d0 o0 xs.toNatClampNeg xd.toNatClampNeg xn.toNatClampNeg o1)) hw1 hP1 hD1 hS1 ⟨cA1, hA11, hA12, _, rfl, fun j => by
                show rk_g vals (ws.map Prod.fst) (rk_look d1 (rk_cpy d0 o0 xs.toNatClampNeg xd.toNatClampNeg xn.toNatClampNeg o1) j) _
                rw [rk_cpy_look]
                split
                · next q => rw [pk_cpy_in q.1 q.2]; exact hf _
                · next q => rw [pk_cpy_out (by omega)]; exact hg _⟩
              refine kk _ (List.mem_singleton.mpr rfl) vals _ H1 locs1 ls _ lc hG1 hl ?_ ?_
              · rw [rk_map_set hw1]; exact hL
              · rw [rk_map_set hw1]; exact hS
            · cases h
          · next n dp sp n0 d0 o0 n1 d1 o1 hn hdp hsp hj0 hj1 =>
            split at h
            · next hc =>
              cases h
              obtain ⟨xn, rfl, qn, rfl⟩ := rk_num_ok hG.1 gn hn
              obtain ⟨xd, rfl, qd, rfl⟩ := rk_num_ok hG.1 gd hdp
              obtain ⟨xs, rfl, qs, rfl⟩ := rk_num_ok hG.1 gs hsp
              obtain ⟨e0, hw0, cA0, hA01, hA02, f, rfl, hf⟩ := hG.cell hj0 hj0x
              obtain ⟨e1, hw1, cA1, hA11, hA12, g, rfl, hg⟩ := hG.cell hj1 hj1x
              have hK2 : va_K D cl [(cA0, .long), (cA1, .long)] s := (rk_K1 hK hA01 hA02).app (rk_K1 hK hA11 hA12)
              refine va_copyl (ty := .long) hx hb (by rw [hml]; exact hl.1.symm) hown (hts _ w1) (hts _ w2) (hts _ w3) (hts _ w4) hK2 hG.2.2.1 hG.2.2.2.1 hG.2.2.2.2.1 j0 j1 0 1 hw0 hw1 rfl rfl rfl qs qd qn hc.1 hc.2 (fun _ _ => rfl) hfr hlr hdg (fun H1 locs1 hP1 hD1 hS1 => ?_)
              have hG1 := hG.setc (c' := .inr (.long, n1, d1, rk_cpy d0 o0 xs.toNatClampNeg xd.toNatClampNeg xn.toNatClampNeg o1)) hw1 hP1 hD1 hS1 ⟨cA1, hA11, hA12, _, rfl, fun j => by
                show rk_g vals (ws.map Prod.fst) (rk_look d1 (rk_cpy d0 o0 xs.toNatClampNeg xd.toNatClampNeg xn.toNatClampNeg o1) j) _
                rw [rk_cpy_look]
                split
                · next q => rw [pk_cpy_in q.1 q.2]; exact hf _
                · next q => rw [pk_cpy_out (by omega)]; exact hg _⟩
              refine kk _ (List.mem_singleton.mpr rfl) vals _ H1 locs1 ls _ lc hG1 hl ?_ ?_
              · rw [rk_map_set hw1]; exact hL
              · rw [rk_map_set hw1]; exact hS
            · cases h
          · cases h
        · cases h
      · cases h
    · cases h
  all_goals (simp [rk_copy] at h)
end RKC
end MG1_2
section MG1_3
/-! ===== rk: Math.max, min, abs are sound ===== -/
theorem rk_s_max : rk_sound2 (fun x y => if x < y then y else x) rk_imax := by
  intro x y I J h1 h2 h3 h4
  unfold rk_imax
  dsimp only
  split
  · next h =>
    have := Int32.lt_iff_toInt_lt.mp h
    omega
  · next h =>
    have : ¬ x.toInt < y.toInt := fun q => h (Int32.lt_iff_toInt_lt.mpr q)
    omega
theorem rk_s_min : rk_sound2 (fun x y => if y < x then y else x) rk_imin := by
  intro x y I J h1 h2 h3 h4
  unfold rk_imin
  dsimp only
  split
  · next h =>
    have := Int32.lt_iff_toInt_lt.mp h
    omega
  · next h =>
    have : ¬ y.toInt < x.toInt := fun q => h (Int32.lt_iff_toInt_lt.mpr q)
    omega
section RKMA
variable {p : Program} {l : Launch} {e : Env} {R : Room} {s : State} {m : MethodId} {args : Array Value} {below : List Frame} {meth : Method} {c : Code} {Q : State → Prop} {cc : ByteArray} {D : va_G} {cl : List vw_C} {Ad : Nat → Prop} {nL : Nat} {vals0 : List Value} {ads0 : List Nat}
variable {tbl xw : List Jvm.Cond} {fty : rk_F} {cln : List String} {own : String} {lk : List (Nat × Nat × Nat × Nat)} {cs : List (Nat × Value)}
set_option maxHeartbeats 4000000 in
theorem rk_math_ok (hx : p.tables.exec = Jvm.exec) (hb : c.code = cc) (hml : c.maxLocals = nL) (hF : rk_Fr s m args meth D cl Ad tbl xw fty cln own lk cs) (hfr : 1 ≤ R.frames) (hlo : 40 ≤ R.locals) {pc : Nat} {ins : Instr} {len : Nat} {st : rk_S} {res : List (Nat × rk_S)} (hdg : decode cc pc = .ok (ins, len)) (hlen : rk_len ins len = true) (h : rk_math lk pc ins st = some res) (hroom : ∀ q ∈ res, q.2.2.2.2.2.1 ≤ R.cells ∧ q.2.2.2.2.2.2 ≤ R.slots) (kk : ∀ q ∈ res, rk_W (rk_KW p l e R s m args below meth c Q) s D cl Ad nL vals0 ads0 q.1 q.2) : rk_W (rk_KW p l e R s m args below meth c Q) s D cl Ad nL vals0 ads0 pc st := by
  obtain ⟨hts, hxw, hown, hK, hA, hcl, hlk, hini, hac, hcs⟩ := hF
  obtain ⟨lo, sk, env, hp, nc, ns⟩ := st
  intro vals ws H locs ls stk lc hG hl hL hS
  dsimp only at hG hL hS ⊢
  cases ins
  case invokestatic idx =>
    simp [rk_len] at hlen; subst hlen
    simp only [rk_math] at h
    split at h
    · next a0 a1 hlk1 =>
      obtain ⟨w1, w2, w3, w4⟩ := hlk _ (rk_lk_mem hlk1)
      split at h
      · next b a r =>
        split at h
        · next hsum =>
          unfold rk_op2 at h
          split at h
          · next q hq =>
            cases h
            obtain ⟨vb, k1, rfl, gb, hSn⟩ := hS.cons; clear hS; have hS := hSn; clear hSn
            obtain ⟨va, k2, rfl, ga, hSn⟩ := hS.cons; clear hS; have hS := hSn; clear hSn
            rw [rk_sum_ok hG.1 hS] at hsum
            obtain ⟨x, y, k3, rfl, rfl, hE2, hg2⟩ := rk_bin_ok rk_s_max hG.1 ga gb hq
            have hrm := hroom _ (List.mem_singleton.mpr rfl)
            refine va_mmax hx hb (by rw [hml]; exact hl.1.symm) hown (hts _ w1) (hts _ w2) (hts _ w3) (hts _ w4) hfr (by omega) hrm.1 hrm.2 hdg ?_
            exact kk _ (List.mem_singleton.mpr rfl) (vals ++ k3) ws H locs ls _ lc (hG.env hE2) hl (hL.grow k3) ⟨hg2, rk_skG hS k3⟩
          · cases h
        · cases h
      · cases h
    · next a0 a1 hlk1 =>
      obtain ⟨w1, w2, w3, w4⟩ := hlk _ (rk_lk_mem hlk1)
      split at h
      · next b a r =>
        split at h
        · next hsum =>
          unfold rk_op2 at h
          split at h
          · next q hq =>
            cases h
            obtain ⟨vb, k1, rfl, gb, hSn⟩ := hS.cons; clear hS; have hS := hSn; clear hSn
            obtain ⟨va, k2, rfl, ga, hSn⟩ := hS.cons; clear hS; have hS := hSn; clear hSn
            rw [rk_sum_ok hG.1 hS] at hsum
            obtain ⟨x, y, k3, rfl, rfl, hE2, hg2⟩ := rk_bin_ok rk_s_min hG.1 ga gb hq
            have hrm := hroom _ (List.mem_singleton.mpr rfl)
            refine va_mmin hx hb (by rw [hml]; exact hl.1.symm) hown (hts _ w1) (hts _ w2) (hts _ w3) (hts _ w4) hfr (by omega) hrm.1 hrm.2 hdg ?_
            exact kk _ (List.mem_singleton.mpr rfl) (vals ++ k3) ws H locs ls _ lc (hG.env hE2) hl (hL.grow k3) ⟨hg2, rk_skG hS k3⟩
          · cases h
        · cases h
      · cases h
    · next a0 a1 hlk1 =>
      obtain ⟨w1, w2, w3, w4⟩ := hlk _ (rk_lk_mem hlk1)
      split at h
      · next b a r =>
        split at h
        · next hsum =>
          unfold rk_op2 at h
          split at h
          · next q hq =>
            cases h
            obtain ⟨vb, k1, rfl, gb, hSn⟩ := hS.cons; clear hS; have hS := hSn; clear hSn
            obtain ⟨va, k2, rfl, ga, hSn⟩ := hS.cons; clear hS; have hS := hSn; clear hSn
            rw [rk_sum_ok hG.1 hS] at hsum
            obtain ⟨x, y, k3, rfl, rfl, hE2, hg2⟩ := rk_lbin_ok hG.1 ga gb hq
            have hrm := hroom _ (List.mem_singleton.mpr rfl)
            refine va_mmax_long hx hb (by rw [hml]; exact hl.1.symm) hown (hts _ w1) (hts _ w2) (hts _ w3) (hts _ w4) hfr (by omega) hrm.1 hrm.2 hdg ?_
            exact kk _ (List.mem_singleton.mpr rfl) (vals ++ k3) ws H locs ls _ lc (hG.env hE2) hl (hL.grow k3) ⟨hg2, rk_skG hS k3⟩
          · cases h
        · cases h
      · cases h
    · next a0 a1 hlk1 =>
      obtain ⟨w1, w2, w3, w4⟩ := hlk _ (rk_lk_mem hlk1)
      split at h
      · next a r =>
        split at h
        · next hsum =>
          unfold rk_op2 at h
          split at h
          · next q hq =>
            cases h
            obtain ⟨va, k2, rfl, ga, hSn⟩ := hS.cons; clear hS; have hS := hSn; clear hSn
            rw [rk_sum_ok hG.1 hS] at hsum
            obtain ⟨x, k3, rfl, hE2, hg2⟩ := rk_un_ok (fun x => rk_full_ok _) hG.1 ga hq
            have hrm := hroom _ (List.mem_singleton.mpr rfl)
            refine va_mabs hx hb (by rw [hml]; exact hl.1.symm) hown (hts _ w1) (hts _ w2) (hts _ w3) (hts _ w4) hfr (by omega) hrm.1 hrm.2 hdg ?_
            exact kk _ (List.mem_singleton.mpr rfl) (vals ++ k3) ws H locs ls _ lc (hG.env hE2) hl (hL.grow k3) ⟨hg2, rk_skG hS k3⟩
          · cases h
        · cases h
      · cases h
    · cases h
  all_goals (simp [rk_math] at h)
end RKMA
end MG1_3
section MG1_4
section RKL
variable {p : Program} {l : Launch} {e : Env} {R : Room} {s : State} {m : MethodId} {args : Array Value} {below : List Frame} {meth : Method} {c : Code} {Q : State → Prop} {cc : ByteArray} {D : va_G} {cl : List vw_C} {Ad : Nat → Prop} {nL : Nat} {vals0 : List Value} {ads0 : List Nat}
variable {xt : rk_XT} {tbl xw : List Jvm.Cond} {fty : rk_F} {cln : List String} {MN : List rk_N} {mci : List Nat} {P : List rk_M2} {own : String} {lk : List (Nat × Nat × Nat × Nat)} {cs : List (Nat × Value)}
/-- the calls are sound, d frames deep -/
def rk_SC (l : Launch) (D : va_G) (cl : List vw_C) (tbl xw : List Jvm.Cond) (xt : rk_XT) (MN : List rk_N) (P : List rk_M2) (d : Nat) (call : Nat → List rk_V → List rk_T → List rk_H → Option rk_O) : Prop :=
  ∀ (f : Nat) (as : List rk_V) (env : List rk_T) (hp : List rk_H) (o : rk_O), call f as env hp = some o → ∀ (q : rk_N), MN[f]? = some q → ∃ M, P[f]? = some M ∧ M.2.1 ≤ 21 ∧ ∀ (vals : List Value) (ws : va_W) (av : List Value) (sz : Nat), rk_E env vals → rk_A2 (rk_g vals (ws.map Prod.fst)) as av →
    Met l q.2.1 (Jvm.Cond.code q.2.1 q.2.2 M.2.1 M.2.2.2.2.1 :: tbl) { frames := d, cells := o.1, slots := o.2.1, locals := 40 * d } (rk_Pre D cl xw xt vals ws hp sz av) (rk_Post D cl o.2.2 vals (ws.map Prod.fst) (va_A ws sz)) o.1 o.2.1 (va_A ws sz)
theorem rk_good {y : MethodName} {b : ByteArray} {n : Nat} {ret : Option FieldType} (hg : ∀ w ∈ tbl, goodWord w = true) (hc : Jvm.Cond.code y b n ret ∈ tbl) : GoodIn tbl (Jvm.Cond.code y b n ret :: tbl) := by
  intro w hw
  rcases List.mem_cons.mp hw with rfl | hw
  · exact ⟨hc, good_of_word (hg _ hc)⟩
  · exact ⟨hw, good_of_word (hg _ hw)⟩
theorem rk_pre {vals : List Value} {ws : va_W} {H : Heap} {locs : List Loc} {env : List rk_T} {hp : List rk_H} {av : List Value} (hxo : rk_xok xw) (hxw : ∀ w ∈ xw, va_Nw w s) (hxt : rk_xtok xt) (hXt : xt vals0 Ad s s.heap) (hA : ∀ q, s.heap.size ≤ q → Ad q) (hK : va_K D cl [] s) (hG : rk_G s D cl Ad vals0 ads0 vals ws H locs env hp) (U : State) (hU : U.heap = H) (hW : s.WarmedH U.vm) : rk_Pre D cl xw xt vals ws hp H.size av av.toArray U :=
  ⟨rfl, by rw [hU], by rw [hU]; exact hG.2.2.1, va_K.moved hW.alike hK, hG.2.2.2.1.weaken (fun _ _ _ _ => trivial), hG.2.1.mono (fun _ _ h => h.moved hW.alike), rk_xw_warm hxo hW hxw, by
    obtain ⟨x1, x2, x3, x4⟩ := hxt
    obtain ⟨k, hk⟩ := hG.2.2.2.2.2.1
    rw [hU, hk]
    refine x3 _ _ _ _ _ hW (x1 _ _ _ _ _ (x4 _ _ _ _ _ _ hXt (fun a ha hn => hG.2.2.2.2.1.2.1 a ha hn) ?_))
    rintro q (⟨k, e1, hk⟩ | hq)
    · exact hG.2.2.2.1.2 k _ hk
    · exact hA q (Nat.le_trans hG.2.2.2.2.1.1 hq)⟩
theorem rk_after_ne {o : rk_O} {pc : Nat} {lo : List (Nat × rk_V)} {r : List rk_V} {nc ns : Nat} {res : List (Nat × rk_S)} (h : rk_after (some o) pc lo r nc ns = some res) : ∃ q ∈ res, q.2.2.2.2.2.1 = nc + o.1 ∧ q.2.2.2.2.2.2 = ns + o.2.1 := by
  unfold rk_after at h
  dsimp only at h
  split at h
  · cases h
  · next hne =>
    cases h
    cases hl : o.2.2 with
    | nil => rw [hl] at hne; exact absurd rfl hne
    | cons x r => exact ⟨_, List.mem_cons_self, rfl, rfl⟩
set_option maxHeartbeats 4000000 in
theorem rk_call_ok (hxt : rk_xtok xt) (hXt : xt vals0 Ad s s.heap) (hok : rk_ok tbl xw cl fty cln MN mci P) (hx : p.tables.exec = Jvm.exec) (hb : c.code = cc) (hml : c.maxLocals = nL) (hF : rk_Fr s m args meth D cl Ad tbl xw fty cln own lk cs) (hck : ∀ r ∈ lk, rk_cok tbl xw MN P own r) {d : Nat} {call : Nat → List rk_V → List rk_T → List rk_H → Option rk_O} (hcall : rk_SC l D cl tbl xw xt MN P d call) (hfr : d + 1 ≤ R.frames) (hlo : 40 * (d + 1) ≤ R.locals) {pc : Nat} {ins : Instr} {len : Nat} {st : rk_S} {res : List (Nat × rk_S)} (hdg : decode cc pc = .ok (ins, len)) (hlen : rk_len ins len = true) (h : rk_call mci call lk pc ins st = some res) (hroom : ∀ q ∈ res, q.2.2.2.2.2.1 ≤ R.cells ∧ q.2.2.2.2.2.2 ≤ R.slots) (kk : ∀ q ∈ res, rk_W (rk_KW p l e R s m args below meth c Q) s D cl Ad nL vals0 ads0 q.1 q.2) : rk_W (rk_KW p l e R s m args below meth c Q) s D cl Ad nL vals0 ads0 pc st := by
  obtain ⟨hgw, hxo, -, -, hlenM, hmok, hmci⟩ := hok
  obtain ⟨hts, hxw, hown, hK, hA, hcl, hlk, hini, hac, hcs⟩ := hF
  obtain ⟨lo, sk, env, hp, nc, ns⟩ := st
  intro vals ws H locs ls stk lc hG hl hL hS
  dsimp only at hG hL hS ⊢
  have hfix : CallFix p m c cc nL s args tbl own := ⟨hx, hb, hml, hown, hts⟩
  cases ins
  case invokevirtual idx =>
    simp [rk_len] at hlen; subst hlen
    simp only [rk_call] at h
    split at h
    · next kd f n hlk1 =>
      split at h
      · next hkd =>
        split at h
        · next as j r hpop =>
          split at h
          · next o1 hj =>
            split at h
            · next hcnd =>
              cases hcl1 : call f (.inr (.inl j) :: as) env hp with
              | none => rw [hcl1] at h; cases h
              | some o =>
                rw [hcl1] at h
                obtain ⟨v2, r2, ha1, hr1, rfl, hn⟩ := rk_pop_ok n hpop (show rk_A2 (rk_g vals (ws.map Prod.fst)) [] [] from trivial) hS
                rw [List.append_nil] at ha1
                obtain ⟨vr, rest, rfl, hgr, hS1⟩ := hr1.cons
                obtain ⟨x, hjx, rfl⟩ := id hgr
                obtain ⟨e1, hw, vs, rfl, hvs⟩ := hG.cell hj hjx
                have hck1 := hck _ (rk_lk_mem hlk1)
                obtain ⟨qr, hqr, hr1, hr2⟩ := rk_after_ne h
                have hrm := hroom qr hqr
                rw [hr1, hr2] at hrm
                have hsum := hcnd.2
                rw [rk_sum_ok hG.1 hS1] at hsum
                rcases hkd with rfl | rfl
                · obtain ⟨q, hq, w1, w2, w3, w4⟩ := hck1
                  obtain ⟨M, hM, hM21, hmet⟩ := hcall f _ _ _ _ hcl1 q hq
                  obtain ⟨m1, m2, m3, m4, m5, -⟩ := hmok f q M hq hM
                  obtain ⟨kq, hkq, -⟩ := hG.2.2.1 j _ hw
                  have hkn := hmci f o1.1 q kq hcnd.1 hq hkq
                  have hrecv := va_recv hK hG.2.2.1 hkq hw
                  rw [hkn] at hrecv
                  refine rk_back (as := (Value.ref x :: v2).toArray) hA hG hl hL hS1 ?_ h kk
                  exact va_runV (C := q.1) hfix (hmet vals ws (.ref x :: v2) H.size hG.1 ⟨hgr, ha1⟩) ⟨callB_of n hts (rk_good hgw m4) rfl rfl rfl (hts _ m5) (hts _ w1) ⟨m3.1, m3.2, w4⟩ ⟨hfr, by show 8 + (M.2.1 + 11) + 40 * d ≤ R.locals; omega⟩, hts _ w2, hts _ w3⟩ ⟨rk_blind hxo hxt, hrecv, fun U hU hW => rk_pre hxo hxw hxt hXt hA hK hG U hU hW⟩ rfl hn hl.1 rfl (lv_room hsum) hdg hrm
                · obtain ⟨q, host, hq, w1, w2, w3, w4⟩ := hck1
                  obtain ⟨M, hM, hM21, hmet⟩ := hcall f _ _ _ _ hcl1 q hq
                  obtain ⟨m1, m2, m3, m4, m5, -⟩ := hmok f q M hq hM
                  obtain ⟨kq, hkq, -⟩ := hG.2.2.1 j _ hw
                  have hkn := hmci f o1.1 q kq hcnd.1 hq hkq
                  have hrecv := va_recv hK hG.2.2.1 hkq hw
                  rw [hkn] at hrecv
                  refine rk_back (as := (Value.ref x :: v2).toArray) hA hG hl hL hS1 ?_ h kk
                  exact va_runVN (C := q.1) hfix (hmet vals ws (.ref x :: v2) H.size hG.1 ⟨hgr, ha1⟩) ⟨va_cnB n hts (rk_good hgw m4) rfl rfl rfl (hxw _ w1) (hts _ m5) ⟨m3.1, m3.2, w4⟩ ⟨hfr, by show 8 + (M.2.1 + 11) + 40 * d ≤ R.locals; omega⟩, hts _ w2, hts _ w3⟩ ⟨rk_blind hxo hxt, hrecv, fun U hU hW => rk_pre hxo hxw hxt hXt hA hK hG U hU hW⟩ rfl hn hl.1 rfl (lv_room hsum) hdg hrm
            · cases h
          · cases h
        · cases h
      · cases h
    · cases h
  case invokestatic idx =>
    simp [rk_len] at hlen; subst hlen
    simp only [rk_call] at h
    split at h
    · next kd f n hlk1 =>
      split at h
      · next hkd =>
        split at h
        · next as r hpop =>
          split at h
          · next hcnd =>
            cases hcl1 : call f as env hp with
            | none => rw [hcl1] at h; cases h
            | some o =>
              rw [hcl1] at h
              obtain ⟨v2, rest, ha1, hS1, rfl, hn⟩ := rk_pop_ok n hpop (show rk_A2 (rk_g vals (ws.map Prod.fst)) [] [] from trivial) hS
              rw [List.append_nil] at ha1
              have hck1 := hck _ (rk_lk_mem hlk1)
              obtain ⟨qr, hqr, hr1, hr2⟩ := rk_after_ne h
              have hrm := hroom qr hqr
              rw [hr1, hr2] at hrm
              have hsum := hcnd
              rw [rk_sum_ok hG.1 hS1] at hsum
              rcases hkd with rfl | rfl
              · obtain ⟨q, hq, w1, w2, w4⟩ := hck1
                obtain ⟨M, hM, hM21, hmet⟩ := hcall f _ _ _ _ hcl1 q hq
                obtain ⟨m1, m2, m3, m4, m5, -⟩ := hmok f q M hq hM
                refine rk_back (as := v2.toArray) hA hG hl hL hS1 ?_ h kk
                exact va_runS hfix (hmet vals ws v2 H.size hG.1 ha1) ⟨callB_of n hts (rk_good hgw m4) rfl rfl rfl (hts _ m5) (hts _ w1) ⟨m3.1, m3.2, w4⟩ ⟨hfr, by show 8 + (M.2.1 + 11) + 40 * d ≤ R.locals; omega⟩, hts _ w2⟩ ⟨rk_blind hxo hxt, fun U hU hW => rk_pre hxo hxw hxt hXt hA hK hG U hU hW⟩ rfl hn hl.1 rfl (lv_room hsum) hdg hrm
              · obtain ⟨q, host, hq, w1, w2, w4⟩ := hck1
                obtain ⟨M, hM, hM21, hmet⟩ := hcall f _ _ _ _ hcl1 q hq
                obtain ⟨m1, m2, m3, m4, m5, -⟩ := hmok f q M hq hM
                refine rk_back (as := v2.toArray) hA hG hl hL hS1 ?_ h kk
                exact va_runSN hfix (hmet vals ws v2 H.size hG.1 ha1) ⟨va_cnB n hts (rk_good hgw m4) rfl rfl rfl (hxw _ w1) (hts _ m5) ⟨m3.1, m3.2, w4⟩ ⟨hfr, by show 8 + (M.2.1 + 11) + 40 * d ≤ R.locals; omega⟩, hts _ w2, trivial⟩ ⟨rk_blind hxo hxt, fun U hU hW => rk_pre hxo hxw hxt hXt hA hK hG U hU hW⟩ rfl hn hl.1 rfl (lv_room hsum) hdg hrm
          · cases h
        · cases h
      · cases h
    · cases h
  case invokespecial idx =>
    simp [rk_len] at hlen; subst hlen
    simp only [rk_call] at h
    split at h
    · next kd f n hlk1 =>
      split at h
      · next hkd =>
        split at h
        · next as j r hpop =>
          split at h
          · next hcnd =>
            cases hcl1 : call f (.inr (.inl j) :: as) env hp with
            | none => rw [hcl1] at h; cases h
            | some o =>
              rw [hcl1] at h
              obtain ⟨v2, r2, ha1, hr1, rfl, hn⟩ := rk_pop_ok n hpop (show rk_A2 (rk_g vals (ws.map Prod.fst)) [] [] from trivial) hS
              rw [List.append_nil] at ha1
              obtain ⟨vr, rest, rfl, hgr, hS1⟩ := hr1.cons
              obtain ⟨x, hjx, rfl⟩ := id hgr
              have hck1 := hck _ (rk_lk_mem hlk1)
              obtain ⟨qr, hqr, hr1, hr2⟩ := rk_after_ne h
              have hrm := hroom qr hqr
              rw [hr1, hr2] at hrm
              have hsum := hcnd
              rw [rk_sum_ok hG.1 hS1] at hsum
              rcases hkd with rfl | rfl
              · obtain ⟨q, hq, w0, w1, w2, w3, w4⟩ := hck1
                obtain ⟨M, hM, hM21, hmet⟩ := hcall f _ _ _ _ hcl1 q hq
                obtain ⟨m1, m2, m3, m4, m5, -⟩ := hmok f q M hq hM
                refine rk_back (as := (Value.ref x :: v2).toArray) hA hG hl hL hS1 ?_ h kk
                have hret : M.2.2.2.2.1 = none := w0 M hM
                rw [hret] at hmet m4
                exact va_runI hfix (hmet vals ws (.ref x :: v2) H.size hG.1 ⟨hgr, ha1⟩) ⟨callB_of n hts (rk_good hgw m4) rfl rfl rfl (hts _ m5) (hts _ w1) ⟨m3.1, m3.2, w4⟩ ⟨hfr, by show 8 + (M.2.1 + 11) + 40 * d ≤ R.locals; omega⟩, w3, hts _ w2⟩ ⟨rk_blind hxo hxt, fun U hU hW => rk_pre hxo hxw hxt hXt hA hK hG U hU hW⟩ rfl hn hl.1 rfl (lv_room hsum) hdg hrm
              · obtain ⟨q, host, hq, w0, w1, w2, w3, w4⟩ := hck1
                obtain ⟨M, hM, hM21, hmet⟩ := hcall f _ _ _ _ hcl1 q hq
                obtain ⟨m1, m2, m3, m4, m5, -⟩ := hmok f q M hq hM
                refine rk_back (as := (Value.ref x :: v2).toArray) hA hG hl hL hS1 ?_ h kk
                have hret : M.2.2.2.2.1 = none := w0 M hM
                rw [hret] at hmet m4
                exact va_runIN hfix (hmet vals ws (.ref x :: v2) H.size hG.1 ⟨hgr, ha1⟩) ⟨va_cnB n hts (rk_good hgw m4) rfl rfl rfl (hxw _ w1) (hts _ m5) ⟨m3.1, m3.2, w4⟩ ⟨hfr, by show 8 + (M.2.1 + 11) + 40 * d ≤ R.locals; omega⟩, w3, hts _ w2⟩ ⟨rk_blind hxo hxt, fun U hU hW => rk_pre hxo hxw hxt hXt hA hK hG U hU hW⟩ rfl hn hl.1 rfl (lv_room hsum) hdg hrm
          · cases h
        · cases h
      · split at h
        · next hkd =>
          subst hkd
          split at h
          · next j r =>
            split at h
            · next hcnd =>
              cases h
              obtain ⟨va, k1, rfl, ⟨x, hjx, rfl⟩, hSn⟩ := hS.cons; clear hS; have hS := hSn; clear hSn
              obtain ⟨w1, w2, w3⟩ := hck _ (rk_lk_mem hlk1)
              have hsum := hcnd
              rw [rk_sum_ok hG.1 hS] at hsum
              have hlr := lv_room (m := m) (pc := pc) (ls := ls) (rest := .ref x :: k1) hsum
              refine W.objInit hx hb hown (hts _ w1) (hts _ w2) (hts _ w3) rfl (by rw [hml]; exact hl.1) rfl hdg (by omega) (by omega) ?_
              exact kk _ (List.mem_singleton.mpr rfl) vals ws H locs ls _ lc hG hl hL hS
            · cases h
          · cases h
        · cases h
    · cases h
  all_goals (simp [rk_call] at h)
end RKL
end MG1_4
section MG1_5
/-! ===== rk: a call that sees a part of the world alone ===== -/
theorem rk_Met_imp {l : Launch} {y : MethodName} {ws : List Jvm.Cond} {rm : Room} {Pc Pc' : Array Value → State → Prop} {Qc Qc' : Array Value → State → Outcome → State → Prop} {mc ms : Nat} {free free' : Addr → Prop} (h : Met l y ws rm Pc Qc mc ms free) (h1 : ∀ a U, Pc' a U → Pc a U) (h2 : ∀ a st o t, Pc' a st → st.WarmedH t.vm → Qc a st o t → Qc' a st o t) (h3 : ∀ q, free q → free' q) : Met l y ws rm Pc' Qc' mc ms free' := by
  unfold Met at h ⊢
  refine MetFree.mono h h1 (fun _ _ _ _ _ z => z) (fun a st o t hP hQ => ?_)
  obtain ⟨hQ1, L, hL, hLf⟩ := hQ
  exact ⟨h2 a st o t hP hL.2.1 hQ1, L, hL, fun q hq => h3 _ (hLf q hq)⟩
theorem rk_look_map (g : rk_V → rk_V) (d : rk_V) (j : Nat) : ∀ ov : List (Nat × rk_V), rk_look (g d) (ov.map (fun z => (z.1, g z.2))) j = g (rk_look d ov j)
  | [] => rfl
  | q :: r => by
    show (if q.1 = j then g q.2 else rk_look (g d) (r.map (fun z => (z.1, g z.2))) j) = g (if q.1 = j then q.2 else rk_look d r j)
    by_cases e : q.1 = j
    · rw [if_pos e, if_pos e]
    · rw [if_neg e, if_neg e]
      exact rk_look_map g d j r
theorem rk_look_all {P : rk_V → Bool} {d : rk_V} (hd : P d = true) (j : Nat) : ∀ {ov : List (Nat × rk_V)}, ov.all (fun z => P z.2) = true → P (rk_look d ov j) = true
  | [], _ => hd
  | q :: r, h => by
    simp only [List.all_cons, Bool.and_eq_true] at h
    show P (if q.1 = j then q.2 else rk_look d r j) = true
    by_cases e : q.1 = j
    · rw [if_pos e]; exact h.1
    · rw [if_neg e]; exact rk_look_all hd j h.2
theorem rk_A2.mapL {α β : Type} {R R' : α → β → Prop} {g : α → α} {P : α → Bool} (H : ∀ a b, P a = true → R a b → R' (g a) b) : ∀ {l : List α} {l' : List β}, l.all P = true → rk_A2 R l l' → rk_A2 R' (l.map g) l' := by
  intro l
  induction l with
  | nil => intro l' _ h; rw [h.nil]; trivial
  | cons a l ih =>
    intro l' hp h
    obtain ⟨b, k, rfl, h1, h2⟩ := h.cons
    simp only [List.all_cons, Bool.and_eq_true] at hp
    exact ⟨H a b hp.1 h1, ih hp.2 h2⟩
theorem rk_A2.imp {α β : Type} {R R' : α → β → Prop} {P : α → Bool} (H : ∀ a b, P a = true → R a b → R' a b) : ∀ {l : List α} {l' : List β}, l.all P = true → rk_A2 R l l' → rk_A2 R' l l' := by
  intro l
  induction l with
  | nil => intro l' _ h; rw [h.nil]; trivial
  | cons a l ih =>
    intro l' hp h
    obtain ⟨b, k, rfl, h1, h2⟩ := h.cons
    simp only [List.all_cons, Bool.and_eq_true] at hp
    exact ⟨H a b hp.1 h1, ih hp.2 h2⟩
theorem rk_A2.drop {α β : Type} {R : α → β → Prop} : ∀ (n : Nat) {l : List α} {l' : List β}, rk_A2 R l l' → rk_A2 R (l.drop n) (l'.drop n)
  | 0, _, _, h => h
  | n + 1, [], _, h => by rw [h.nil]; trivial
  | n + 1, a :: l, _, h => by
    obtain ⟨b, k, rfl, h1, h2⟩ := h.cons
    exact rk_A2.drop n h2
theorem rk_A2.take {α β : Type} {R : α → β → Prop} : ∀ (n : Nat) {l : List α} {l' : List β}, rk_A2 R l l' → rk_A2 R (l.take n) (l'.take n)
  | 0, _, _, h => by simp [rk_A2]
  | n + 1, [], _, h => by rw [h.nil]; trivial
  | n + 1, a :: l, _, h => by
    obtain ⟨b, k, rfl, h1, h2⟩ := h.cons
    exact ⟨h1, rk_A2.take n h2⟩
theorem rk_c.map {U : State} {vals : List Value} {ads ads' : List Nat} {g : rk_V → rk_V} {P : rk_V → Bool} (H : ∀ a v, P a = true → rk_g vals ads a v → rk_g vals ads' (g a) v) {c : rk_H} {e : va_E} (hp : rk_alc P c = true) (h : rk_c U vals ads c e) : rk_c U vals ads' (rk_mpc g c) e := by
  rcases c with o | ⟨ty, n, d, ov⟩
  · obtain ⟨vs, e1, h1⟩ := h
    exact ⟨vs, e1, rk_A2.mapL H hp h1⟩
  · obtain ⟨cA, h1, h2, h3⟩ := h
    simp only [rk_alc, Bool.and_eq_true] at hp
    have key : ∀ j v, rk_g vals ads (rk_look d ov j) v → rk_g vals ads' (rk_look (g d) (ov.map (fun z => (z.1, g z.2))) j) v := fun j v hv => by
      rw [rk_look_map]
      exact H _ _ (rk_look_all hp.1 j hp.2) hv
    refine ⟨cA, h1, h2, ?_⟩
    cases ty <;> first
      | exact False.elim h3
      | (obtain ⟨f, e1, h4⟩ := h3; exact ⟨f, e1, fun j => key j _ (h4 j)⟩)
theorem rk_c.same {U : State} {vals : List Value} {ads ads' : List Nat} {P : rk_V → Bool} (H : ∀ a v, P a = true → rk_g vals ads a v → rk_g vals ads' a v) {c : rk_H} {e : va_E} (hp : rk_alc P c = true) (h : rk_c U vals ads c e) : rk_c U vals ads' c e := by
  rcases c with o | ⟨ty, n, d, ov⟩
  · obtain ⟨vs, e1, h1⟩ := h
    exact ⟨vs, e1, rk_A2.imp H hp h1⟩
  · obtain ⟨cA, h1, h2, h3⟩ := h
    simp only [rk_alc, Bool.and_eq_true] at hp
    refine ⟨cA, h1, h2, ?_⟩
    cases ty <;> first
      | exact False.elim h3
      | (obtain ⟨f, e1, h4⟩ := h3; exact ⟨f, e1, fun j => H _ _ (rk_look_all hp.1 j hp.2) (h4 j)⟩)
theorem rk_alc_tt (c : rk_H) : rk_alc (fun _ => true) c = true := by
  rcases c with c | c
  · exact List.all_eq_true.mpr (fun _ _ => rfl)
  · exact Bool.and_eq_true_iff.mpr ⟨rfl, List.all_eq_true.mpr (fun _ _ => rfl)⟩
theorem rk_g_up {vals : List Value} {adsA adsB : List Nat} {n : Nat} (hn : adsA.length = n) (a : rk_V) (v : Value) (_ : (fun _ : rk_V => true) a = true) (h : rk_g vals adsB a v) : rk_g vals (adsA ++ adsB) (rk_up n a) v := by
  rcases a with w | j | k | k
  · exact h
  · obtain ⟨x, hx, rfl⟩ := h
    exact ⟨x, by rw [List.getElem?_append_right (by omega), show j + n - adsA.length = j by omega]; exact hx, rfl⟩
  · exact h
  · exact h
theorem rk_g_dn {vals : List Value} {ads : List Nat} {n : Nat} (a : rk_V) (v : Value) (hg : rk_ge n a = true) (h : rk_g vals ads a v) : rk_g vals (ads.drop n) (rk_dn n a) v := by
  rcases a with w | j | k | k
  · exact h
  · obtain ⟨x, hx, rfl⟩ := h
    have hj : n ≤ j := of_decide_eq_true hg
    exact ⟨x, by rw [List.getElem?_drop, show n + (j - n) = j by omega]; exact hx, rfl⟩
  · exact h
  · exact h
theorem rk_g_tk {vals : List Value} {ads : List Nat} {n : Nat} (a : rk_V) (v : Value) (hg : rk_lt n a = true) (h : rk_g vals ads a v) : rk_g vals (ads.take n) a v := by
  rcases a with w | j | k | k
  · exact h
  · obtain ⟨x, hx, rfl⟩ := h
    have hj : j < n := of_decide_eq_true hg
    exact ⟨x, by rw [List.getElem?_take_of_lt hj]; exact hx, rfl⟩
  · exact h
  · exact h
theorem rk_nro_g {vals : List Value} {ads ads' : List Nat} {r : Option rk_V} {oc : Outcome} (hn : rk_nro r = true) (h : rk_ret r vals ads oc) : rk_ret r vals ads' oc := by
  rcases r with _ | a
  · exact h
  · obtain ⟨v, hg, e⟩ := h
    refine ⟨v, ?_, e⟩
    rcases a with w | j | k | k
    · exact hg
    · cases hn
    · exact hg
    · exact hg
section RKFR
variable {l : Launch} {D : va_G} {cl : List vw_C} {xt : rk_XT} {tbl xw : List Jvm.Cond} {MN : List rk_N} {P : List rk_M2}
theorem rk_P_drop {ws : va_W} {H : Heap} (n : Nat) (h : va_P D cl ws H) : va_P D cl (ws.drop n) H := fun k q hk => h (n + k) q (by rw [List.getElem?_drop] at hk; exact hk)
theorem rk_P_take {ws : va_W} {H : Heap} (n : Nat) (h : va_P D cl ws H) : va_P D cl (ws.take n) H := fun k q hk => h k q (by
  have hk1 : k < n := by
    have := (List.getElem?_eq_some_iff.mp hk).1
    rw [List.length_take] at this
    omega
  rw [List.getElem?_take_of_lt hk1] at hk
  exact hk)
theorem rk_D_drop {A : Nat → Prop} {ws : va_W} (n : Nat) (h : va_D A ws) : va_D A (ws.drop n) := ⟨fun i j p q hi hj e => by
    rw [List.getElem?_drop] at hi hj
    have := h.1 (n + i) (n + j) p q hi hj e
    omega, fun k q hk => h.2 (n + k) q (by rw [List.getElem?_drop] at hk; exact hk)⟩
theorem rk_tk {α : Type} {n k : Nat} {ws : List α} {q : α} (hk : (ws.take n)[k]? = some q) : k < n ∧ ws[k]? = some q := by
  have hk1 : k < n := by
    have := (List.getElem?_eq_some_iff.mp hk).1
    rw [List.length_take] at this
    omega
  rw [List.getElem?_take_of_lt hk1] at hk
  exact ⟨hk1, hk⟩
theorem rk_D_take {A : Nat → Prop} {ws : va_W} (n : Nat) (h : va_D A ws) : va_D A (ws.take n) := ⟨fun i j p q hi hj e => h.1 i j p q (rk_tk hi).2 (rk_tk hj).2 e, fun k q hk => h.2 k q (rk_tk hk).2⟩
set_option maxHeartbeats 4000000 in
theorem rk_suf_ok {call : Nat → List rk_V → List rk_T → List rk_H → Option rk_O} {d n : Nat} (hxt : rk_xtok xt) (hcall : rk_SC l D cl tbl xw xt MN P d call) : rk_SC l D cl tbl xw xt MN P d (rk_suf call n) := by
  intro f as env hp o h q hq
  unfold rk_suf at h
  split at h
  · next hc =>
    obtain ⟨hn, hc1, hc2⟩ := hc
    split at h
    · next o1 ho1 =>
      split at h
      · next hno =>
        cases h
        obtain ⟨M, hM, hM21, hmet⟩ := hcall f _ env _ o1 ho1 q hq
        refine ⟨M, hM, hM21, fun vals ws av sz hE hA2 => ?_⟩
        have hfree : ∀ q, va_A (ws.drop n) sz q → va_A ws sz q := by
          rintro q (⟨k, e1, hk⟩ | hq)
          · exact Or.inl ⟨n + k, e1, by rw [List.getElem?_drop] at hk; exact hk⟩
          · exact Or.inr hq
        refine rk_Met_imp (hmet vals (ws.drop n) av sz hE ?_) ?_ ?_ hfree
        · rw [List.map_drop]
          exact rk_A2.mapL (fun a v hP hg => rk_g_dn a v hP hg) hc1 hA2
        · rintro a U ⟨h1, h2, h3, h4, h5, h6, h7, h8⟩
          refine ⟨h1, h2, rk_P_drop n h3, h4, rk_D_drop n h5, ?_, h7, hxt.2.2.2 vals (va_A ws sz) (va_A (ws.drop n) sz) U U.heap U.heap h8 (fun _ _ _ => rfl) hfree⟩
          rw [List.map_drop]
          exact rk_A2.mapL (R := fun (c : rk_H) (q : Nat × va_E) => rk_c U vals (ws.map Prod.fst) c q.2) (R' := fun (c : rk_H) (q : Nat × va_E) => rk_c U vals ((ws.map Prod.fst).drop n) c q.2) (P := rk_alc (rk_ge n)) (fun c q hP hg => rk_c.map (fun a v => rk_g_dn a v) hP hg) hc2 (h6.drop n)
        · rintro a st oc t ⟨p1, p2, p3, p4, p5, p6, p7, p8⟩ hW ⟨⟨x, hx, vals', ws', ⟨kv, hv'⟩, ⟨k, hk⟩, hE', hC', hP', hD', hret⟩, hF⟩
          have hwl : n ≤ ws.length := by rw [← p6.len]; exact hn
          have hTl : (ws.take n).length = n := by rw [List.length_take]; omega
          have hads : (ws.take n ++ ws').map Prod.fst = ws.map Prod.fst ++ k := by rw [List.map_append, hk, ← List.append_assoc, ← List.map_append, List.take_append_drop]
          have hsz : ∀ (k9 : Nat) (z : Nat × va_E), ws[k9]? = some z → z.1 < sz := fun k9 z hz => by rw [← p2]; exact (p3 k9 z hz).lt
          have hout : ∀ (k9 : Nat) (z : Nat × va_E), (ws.take n)[k9]? = some z → ¬ va_A (ws.drop n) sz z.1 := by
            rintro k9 z hz (⟨k8, e8, hk8⟩ | hq8)
            · obtain ⟨a1, a2⟩ := rk_tk hz
              rw [List.getElem?_drop] at hk8
              have := p5.1 k9 (n + k8) z (z.1, e8) a2 hk8 rfl
              omega
            · have := hsz k9 z (rk_tk hz).2
              omega
          refine ⟨⟨_, List.mem_map.mpr ⟨x, hx, rfl⟩, vals', ws.take n ++ ws', ⟨kv, hv'⟩, ⟨k, hads⟩, hE', ?_, ?_, ?_, ?_⟩, hF.1, fun q9 h9 hn9 => hF.2 q9 h9 (fun z => hn9 (hfree q9 z))⟩
          · dsimp only
            rw [hads]
            refine rk_A2.app ?_ ((p6.take n).mono (fun c z hz => (hz.moved hW.alike).grow ⟨kv, hv'⟩ ⟨k, rfl⟩))
            rw [← hads, List.map_append]
            exact rk_A2.mapL (R := fun (c : rk_H) (q : Nat × va_E) => rk_c t vals' (ws'.map Prod.fst) c q.2) (R' := fun (c : rk_H) (q : Nat × va_E) => rk_c t vals' ((ws.take n).map Prod.fst ++ ws'.map Prod.fst) c q.2) (P := fun _ => true) (fun c z _ hz => rk_c.map (P := fun _ => true) (fun a v => rk_g_up (n := n) (by rw [List.length_map]; exact hTl) a v) (rk_alc_tt c) hz) (List.all_eq_true.mpr (fun _ _ => rfl)) hC'
          · exact ((rk_P_take n p3).kept (fun k9 z hz => hF.2 z.1 ((p3 k9 z (rk_tk hz).2).lt) (hout k9 z hz))).app hP'
          · refine va_D.app ((rk_D_take n p5).weaken (fun k9 z hz _ => Or.inl ⟨k9, z.2, (rk_tk hz).2⟩)) (hD'.weaken (fun _ _ _ z => hfree _ z)) (fun i j a1 a2 hi hj e9 => ?_)
            exact hout i a1 hi (e9 ▸ hD'.2 j a2 hj)
          · exact rk_nro_g (List.all_eq_true.mp hno x hx) hret
      · cases h
    · cases h
  · cases h
set_option maxHeartbeats 4000000 in
theorem rk_pfx_ok {call : Nat → List rk_V → List rk_T → List rk_H → Option rk_O} {d n : Nat} (hxt : rk_xtok xt) (hcall : rk_SC l D cl tbl xw xt MN P d call) : rk_SC l D cl tbl xw xt MN P d (rk_pfx call n) := by
  intro f as env hp o h q hq
  unfold rk_pfx at h
  split at h
  · next hc =>
    obtain ⟨hn, hc1, hc2⟩ := hc
    split at h
    · next o1 ho1 =>
      split at h
      · next hno =>
        cases h
        obtain ⟨M, hM, hM21, hmet⟩ := hcall f _ env _ o1 ho1 q hq
        refine ⟨M, hM, hM21, fun vals ws av sz hE hA2 => ?_⟩
        have hfree : ∀ q, va_A (ws.take n) sz q → va_A ws sz q := by
          rintro q (⟨k, e1, hk⟩ | hq)
          · exact Or.inl ⟨k, e1, (rk_tk hk).2⟩
          · exact Or.inr hq
        refine rk_Met_imp (hmet vals (ws.take n) av sz hE ?_) ?_ ?_ hfree
        · rw [List.map_take]
          exact rk_A2.imp (fun a v hP hg => rk_g_tk a v hP hg) hc1 hA2
        · rintro a U ⟨h1, h2, h3, h4, h5, h6, h7, h8⟩
          refine ⟨h1, h2, rk_P_take n h3, h4, rk_D_take n h5, ?_, h7, hxt.2.2.2 vals (va_A ws sz) (va_A (ws.take n) sz) U U.heap U.heap h8 (fun _ _ _ => rfl) hfree⟩
          rw [List.map_take]
          exact rk_A2.imp (R := fun (c : rk_H) (q : Nat × va_E) => rk_c U vals (ws.map Prod.fst) c q.2) (R' := fun (c : rk_H) (q : Nat × va_E) => rk_c U vals ((ws.map Prod.fst).take n) c q.2) (P := rk_alc (rk_lt n)) (fun c q hP hg => rk_c.same (fun a v => rk_g_tk a v) hP hg) hc2 (h6.take n)
        · rintro a st oc t ⟨p1, p2, p3, p4, p5, p6, p7, p8⟩ hW ⟨⟨x, hx, vals', ws', ⟨kv, hv'⟩, ⟨k, hk⟩, hE', hC', hP', hD', hret⟩, hF⟩
          have hwl : n ≤ ws.length := by rw [← p6.len]; exact hn
          have hTl : (ws.take n).length = n := by rw [List.length_take]; omega
          have hxl : x.2.2.1.length = n := of_decide_eq_true (List.all_eq_true.mp hno x hx)
          have hk0 : k = [] := by
            have h1 : ws'.length = n := by rw [← hC'.len]; exact hxl
            have h2 : (ws'.map Prod.fst).length = ((ws.take n).map Prod.fst ++ k).length := by rw [hk]
            rw [List.length_append, List.length_map, List.length_map, hTl, h1] at h2
            exact List.length_eq_zero_iff.mp (by omega)
          rw [hk0, List.append_nil] at hk
          have hads : (ws' ++ ws.drop n).map Prod.fst = ws.map Prod.fst := by rw [List.map_append, hk, ← List.map_append, List.take_append_drop]
          have hsz : ∀ (k9 : Nat) (z : Nat × va_E), ws[k9]? = some z → z.1 < sz := fun k9 z hz => by rw [← p2]; exact (p3 k9 z hz).lt
          have hout : ∀ (k9 : Nat) (z : Nat × va_E), (ws.drop n)[k9]? = some z → ¬ va_A (ws.take n) sz z.1 := by
            rintro k9 z hz (⟨k8, e8, hk8⟩ | hq8)
            · obtain ⟨a1, a2⟩ := rk_tk hk8
              rw [List.getElem?_drop] at hz
              have := p5.1 (n + k9) k8 z (z.1, e8) hz a2 rfl
              omega
            · rw [List.getElem?_drop] at hz
              have := hsz _ z hz
              omega
          refine ⟨⟨_, List.mem_map.mpr ⟨x, hx, rfl⟩, vals', ws' ++ ws.drop n, ⟨kv, hv'⟩, ⟨[], by rw [hads, List.append_nil]⟩, hE', ?_, ?_, ?_, ?_⟩, hF.1, fun q9 h9 hn9 => hF.2 q9 h9 (fun z => hn9 (hfree q9 z))⟩
          · dsimp only
            rw [hads]
            refine rk_A2.app ((p6.drop n).mono (fun c z hz => (hz.moved hW.alike).grow ⟨kv, hv'⟩ ⟨[], by simp⟩)) ?_
            exact hC'.mono (fun c z hz => hz.grow ⟨[], by simp⟩ ⟨(ws.drop n).map Prod.fst, by rw [hk, ← List.map_append, List.take_append_drop]⟩)
          · exact hP'.app ((rk_P_drop n p3).kept (fun k9 z hz => hF.2 z.1 ((rk_P_drop n p3 k9 z hz).lt) (hout k9 z hz)))
          · refine va_D.app (hD'.weaken (fun _ _ _ z => hfree _ z)) ((rk_D_drop n p5).weaken (fun k9 z hz _ => Or.inl ⟨n + k9, z.2, by rw [List.getElem?_drop] at hz; exact hz⟩)) (fun i j a1 a2 hi hj e9 => ?_)
            exact hout j a2 hj (e9 ▸ hD'.2 i a1 hi)
          · cases hr : x.1 with
            | none => rw [hr] at hret; exact hret
            | some r1 =>
              rw [hr] at hret
              obtain ⟨v, hg, e⟩ := hret
              exact ⟨v, hg.grow ⟨[], by simp⟩ ⟨(ws.drop n).map Prod.fst, by rw [List.map_append]⟩, e⟩
      · cases h
    · cases h
  · cases h
/-- a call on the newest cell alone sees that cell alone -/
theorem rk_wrap_ok {call : Nat → List rk_V → List rk_T → List rk_H → Option rk_O} {d : Nat} (hxt : rk_xtok xt) (hcall : rk_SC l D cl tbl xw xt MN P d call) : rk_SC l D cl tbl xw xt MN P d (rk_wrap call) := by
  intro f as env hp o h q hq
  unfold rk_wrap at h
  split at h
  · split at h
    · split at h
      · next o1 ho1 =>
        cases h
        exact rk_suf_ok hxt hcall f _ env hp o ho1 q hq
      · exact hcall f _ env hp o h q hq
    · exact hcall f _ env hp o h q hq
  · exact hcall f _ env hp o h q hq
end RKFR
end MG1_5
section MG1_6
theorem rk_lgsl : ∀ (av : List Value), (lg_sl av).length = (av.map fun v => v.category).sum
  | [] => rfl
  | v :: av => by
    have e : lg_sl (v :: av) = (if v.category = 2 then [Slot.val v, .second] else [.val v]) ++ lg_sl av := rfl
    rw [e, List.length_append, rk_lgsl av]
    rcases lv_cat v with z | z <;> simp [z]
section RKT
variable {p : Program} {l : Launch} {e : Env} {R : Room} {s : State} {m : MethodId} {args : Array Value} {below : List Frame} {meth : Method} {c : Code} {Q : State → Prop} {cc : ByteArray} {D : va_G} {cl : List vw_C} {Ad : Nat → Prop} {nL : Nat} {vals0 : List Value} {ads0 : List Nat}
variable {xt : rk_XT} {tbl xw : List Jvm.Cond} {fty : rk_F} {cln : List String} {MN : List rk_N} {mci : List Nat} {P : List rk_M2}
theorem rk_each_ok {K : rk_K} {a : rk_V} {pc : Nat} {lo : List (Nat × rk_V)} {sk : List rk_V} {env : List rk_T} {hp : List rk_H} {nc ns : Nat} {vals : List Value} {ads : List Nat} {x : Int32} (hE : rk_E env vals) (ga : rk_g vals ads a (.int x)) : ∀ (n : Nat) (v : Int), v ≤ x.toInt → x.toInt < v + n → ∃ env', rk_E env' vals ∧ (pc, (lo, sk, env', hp, nc, ns)) ∈ rk_each a pc lo sk env hp nc ns v n := by
  intro n
  induction n with
  | zero => intro v h1 h2; omega
  | succ n ih =>
    intro v h1 h2
    by_cases e : x.toInt = v
    · obtain ⟨e2, q1, q2⟩ := rk_cut_ok (lo := v) (hi := v) hE ga (by omega) (by omega)
      exact ⟨e2, q2, List.mem_append_left _ (rk_opt_mem q1 _ lo sk hp nc ns)⟩
    · obtain ⟨e2, q1, q2⟩ := ih (v + 1) (by omega) (by omega)
      exact ⟨e2, q1, List.mem_append_right _ q2⟩
theorem rk_split_ok {K : rk_K} {pc : Nat} {ins : Instr} {st : rk_S} {res : List (Nat × rk_S)} (h : rk_split pc ins st = some res) (kk : ∀ q ∈ res, rk_W K s D cl Ad nL vals0 ads0 q.1 q.2) : rk_W K s D cl Ad nL vals0 ads0 pc st := by
  obtain ⟨lo, sk, env, hp, nc, ns⟩ := st
  intro vals ws H locs ls stk lc hG hl hL hS
  dsimp only at hG hL hS ⊢
  unfold rk_split at h
  split at h
  · next a ha =>
    split at h
    · next I hI =>
      split at h
      · next hc =>
        cases h
        have hin : ∃ k : Nat, sk[k]? = some a := by
          unfold rk_which at ha
          split at ha
          all_goals first
            | exact ⟨_, ha⟩
            | cases ha
        obtain ⟨k, hk⟩ := hin
        obtain ⟨v, hv, hg⟩ := hS.get hk
        obtain ⟨x, rfl, h1, h2⟩ := rk_iv_ok hG.1 hg hI
        obtain ⟨e2, q1, q2⟩ := rk_each_ok (K := K) (pc := pc) (lo := lo) (sk := sk) (hp := hp) (nc := nc) (ns := ns) hG.1 hg (I.2 - I.1 + 1).toNat I.1 h1 (by omega)
        exact kk _ q2 vals ws H locs ls stk lc (hG.env0 q1) hl hL hS
      · cases h
    · cases h
  · cases h
theorem rk_pre0_ok {K : rk_K} {pc : Nat} {ins : Instr} {st : rk_S} {res : List (Nat × rk_S)} (h : rk_pre0 pc ins st = some res) (kk : ∀ q ∈ res, rk_W K s D cl Ad nL vals0 ads0 q.1 q.2) : rk_W K s D cl Ad nL vals0 ads0 pc st := by
  obtain ⟨lo, sk, env, hp, nc, ns⟩ := st
  intro vals ws H locs ls stk lc hG hl hL hS
  dsimp only at hG hL hS ⊢
  unfold rk_pre0 at h
  split at h
  · dsimp only at h
    split at h
    · next y k r =>
      obtain ⟨v1, k1, rfl, g1, hS1⟩ := hS.cons
      obtain ⟨v2, k2, rfl, ⟨x, hx, rfl⟩, hS2⟩ := hS1.cons
      split at h
      · next I hI =>
        obtain ⟨x', e', h1, h2⟩ := rk_iv_ok hG.1 (show rk_g vals (ws.map Prod.fst) (.inr (.inr (.inl k))) (.int x) from hx) hI
        cases e'
        split at h
        · next e =>
          cases h
          refine kk _ (List.mem_singleton.mpr rfl) vals ws H locs ls _ lc hG hl hL ⟨g1, ?_, hS2⟩
          show Value.long x.toInt64 = Value.long (Int32.ofInt I.1).toInt64
          rw [show I.1 = x.toInt by omega, Int32.ofInt_toInt]
        · split at h
          · cases h
            obtain ⟨e2, q1, q2⟩ := rk_each_ok (K := K) (pc := pc) (lo := lo) (sk := .inl (.long y) :: .inr (.inr (.inr k)) :: r) (hp := hp) (nc := nc) (ns := ns) hG.1 (show rk_g vals (ws.map Prod.fst) (.inr (.inr (.inl k))) (.int x) from hx) (I.2 - I.1 + 1).toNat I.1 h1 (by omega)
            exact kk _ q2 vals ws H locs ls _ lc (hG.env0 q1) hl hL hS
          · cases h
      · cases h
    · cases h
  · cases h
theorem rk_step_ok (hxt : rk_xtok xt) (hXt : xt vals0 Ad s s.heap) (hok : rk_ok tbl xw cl fty cln MN mci P) (hx : p.tables.exec = Jvm.exec) (hb : c.code = cc) {M : rk_M2} (hml : c.maxLocals = M.2.1) {own : String} (hF : rk_Fr s m args meth D cl Ad tbl xw fty cln own M.2.2.1 M.2.2.2.1) (hck : ∀ r ∈ M.2.2.1, rk_cok tbl xw MN P own r) (hkk : ∀ r ∈ M.2.2.1, rk_kok tbl own r) {d : Nat} {call : Nat → List rk_V → List rk_T → List rk_H → Option rk_O} (hcall : rk_SC l D cl tbl xw xt MN P d call) {ext : rk_Ext} (hext : ∀ (pc : Nat) (ins : Instr) (len : Nat) (st : rk_S) (res : List (Nat × rk_S)), decode cc pc = .ok (ins, len) → rk_len ins len = true → ext pc ins st = some res → (∀ q ∈ res, q.2.2.2.2.2.1 ≤ R.cells ∧ q.2.2.2.2.2.2 ≤ R.slots) → (∀ q ∈ res, rk_W (rk_KW p l e R s m args below meth c Q) s D cl Ad M.2.1 vals0 ads0 q.1 q.2) → rk_W (rk_KW p l e R s m args below meth c Q) s D cl Ad M.2.1 vals0 ads0 pc st) (hfr : d + 1 ≤ R.frames) (hlo : 40 * (d + 1) ≤ R.locals) {pc : Nat} {ins : Instr} {len : Nat} {st : rk_S} {res : List (Nat × rk_S)} (hdg : decode cc pc = .ok (ins, len)) (hlen : rk_len ins len = true) (h : rk_step fty cln mci call ext M pc ins st = some res) (hroom : ∀ q ∈ res, q.2.2.2.2.2.1 ≤ R.cells ∧ q.2.2.2.2.2.2 ≤ R.slots) (kk : ∀ q ∈ res, rk_W (rk_KW p l e R s m args below meth c Q) s D cl Ad M.2.1 vals0 ads0 q.1 q.2) : rk_W (rk_KW p l e R s m args below meth c Q) s D cl Ad M.2.1 vals0 ads0 pc st := by
  unfold rk_step at h
  split at h
  · next r hr => cases h; exact hext pc ins len st _ hdg hlen hr hroom kk
  split at h
  · next r hr => cases h; exact rk_pre0_ok hr kk
  split at h
  · next r hr => cases h; exact rk_pure_ok hx hb hdg hlen hr kk
  · split at h
    · next r hr => cases h; exact rk_pure2_ok hx hb hdg hlen hr kk
    · split at h
      · next r hr => cases h; exact rk_heap_ok hx hb hF hdg hlen hr hroom kk
      · split at h
        · next r hr => cases h; exact rk_call_ok hxt hXt hok hx hb hml hF hck hcall hfr hlo hdg hlen hr hroom kk
        · split at h
          · next r hr => cases h; exact rk_copy_ok hx hb hml hF hkk (by omega) (by omega) hdg hlen hr kk
          · split at h
            · next r hr => cases h; exact rk_split_ok hr kk
            · exact rk_math_ok hx hb hml hF (by omega) (by omega) hdg hlen h hroom kk
set_option maxHeartbeats 4000000 in
theorem rk_loop_ok (hxt : rk_xtok xt) (hXt : xt vals0 Ad s s.heap) (hok : rk_ok tbl xw cl fty cln MN mci P) (hx : p.tables.exec = Jvm.exec) (hb : c.code = cc) {M : rk_M2} (hml : c.maxLocals = M.2.1) (hins : ∀ r ∈ M.1, decode cc r.1 = .ok r.2) {own : String} (hF : rk_Fr s m args meth D cl Ad tbl xw fty cln own M.2.2.1 M.2.2.2.1) (hck : ∀ r ∈ M.2.2.1, rk_cok tbl xw MN P own r) (hkk : ∀ r ∈ M.2.2.1, rk_kok tbl own r) {d : Nat} {call : Nat → List rk_V → List rk_T → List rk_H → Option rk_O} (hcall : rk_SC l D cl tbl xw xt MN P d call) {ext : rk_Ext} (hext : ∀ (pc : Nat) (ins : Instr) (len : Nat) (st : rk_S) (res : List (Nat × rk_S)), decode cc pc = .ok (ins, len) → rk_len ins len = true → ext pc ins st = some res → (∀ q ∈ res, q.2.2.2.2.2.1 ≤ R.cells ∧ q.2.2.2.2.2.2 ≤ R.slots) → (∀ q ∈ res, rk_W (rk_KW p l e R s m args below meth c Q) s D cl Ad M.2.1 vals0 ads0 q.1 q.2) → rk_W (rk_KW p l e R s m args below meth c Q) s D cl Ad M.2.1 vals0 ads0 pc st) (hfr : d + 1 ≤ R.frames) (hlo : 40 * (d + 1) ≤ R.locals) {XS : List rk_X}
    (hend : ∀ (pc : Nat) (ins : Instr) (len : Nat) (st : rk_S) (x : rk_X), decode cc pc = .ok (ins, len) → rk_len ins len = true → rk_end M.2.2.2.2.1 ins st = some (some x) → x ∈ XS → st.2.2.2.2.1 ≤ R.cells → st.2.2.2.2.2 ≤ R.slots → rk_W (rk_KW p l e R s m args below meth c Q) s D cl Ad M.2.1 vals0 ads0 pc st) :
    ∀ (n : Nat) (q : Nat × rk_S) (o : rk_O), rk_loop fty cln mci call ext M n q = some o → (∀ x ∈ o.2.2, x ∈ XS) → o.1 ≤ R.cells → o.2.1 ≤ R.slots → rk_W (rk_KW p l e R s m args below meth c Q) s D cl Ad M.2.1 vals0 ads0 q.1 q.2 := by
  intro n
  induction n with
  | zero => intro q o h; cases h
  | succ n ih =>
    intro q o h hXS hmc hms
    unfold rk_loop at h
    split at h
    · cases h
    · next il hft =>
      have hdg := hins _ (rk_fetch_mem hft)
      split at h
      · next hlen =>
        split at h
        · next x hx1 =>
          cases h
          exact hend q.1 il.1 il.2 q.2 x hdg hlen hx1 (hXS _ (List.mem_singleton.mpr rfl)) hmc hms
        · cases h
        · split at h
          · next succ hsucc =>
            split at h
            · next o1 ho1 =>
              cases h
              have hcb := rk_comb_ok ho1
              have hm1 : o1.1 ≤ R.cells := Nat.le_trans (Nat.le_max_right _ _) hmc
              have hm2 : o1.2.1 ≤ R.slots := Nat.le_trans (Nat.le_max_right _ _) hms
              refine rk_step_ok hxt hXt hok hx hb hml hF hck hkk hcall hext hfr hlo hdg hlen hsucc (fun z hz => ?_) (fun z hz => ?_)
              · obtain ⟨o2, q1, q2, q3, q4⟩ := hcb z hz
                have := rk_loop_ge q1
                exact ⟨Nat.le_trans this.1 (Nat.le_trans q2 hm1), Nat.le_trans this.2 (Nat.le_trans q3 hm2)⟩
              · obtain ⟨o2, q1, q2, q3, q4⟩ := hcb z hz
                exact ih z o2 q1 (fun x hx => hXS _ (q4 x hx)) (Nat.le_trans q2 hm1) (Nat.le_trans q3 hm2)
            · cases h
          · cases h
      · cases h
set_option maxHeartbeats 4000000 in
/-- a method's end, by its contract -/
theorem rk_end_ok (hx : p.tables.exec = Jvm.exec) (hb : c.code = cc) (hlocks : meth.locks = false) {ret : Option FieldType} (hr : meth.sig.returnType = ret) {XS : List rk_X} {pc : Nat} {ins : Instr} {len : Nat} {st : rk_S} {x : rk_X} (hdg : decode cc pc = .ok (ins, len)) (hlen : rk_len ins len = true) (h : rk_end ret ins st = some (some x)) (hXS : x ∈ XS) (hmc : st.2.2.2.2.1 ≤ R.cells) (hms : st.2.2.2.2.2 ≤ R.slots) : rk_W (rk_KW p l e R s m args below meth c (MQ below (rk_Post D cl XS vals0 ads0 Ad) args s R.cells R.slots Ad)) s D cl Ad nL vals0 ads0 pc st := by
  obtain ⟨lo, sk, env, hp, nc, ns⟩ := st
  unfold rk_end at h
  split at h
  · split at h
    · next hsk =>
      cases h
      simp [rk_len] at hlen; subst hlen
      intro vals ws H locs ls stk lc hG hl hL hS
      dsimp only at hsk hG hL hS hmc hms ⊢
      subst hsk
      have hnil := hS.nil
      subst hnil
      refine W.widen (k := R.cells) (n := R.slots) hmc hms ?_
      exact W.vret hx hb hr (fun t ht hW => ⟨⟨_, hXS, vals, ws, hG.2.2.2.2.2.1, hG.2.2.2.2.2.2, hG.1, hG.2.1.mono (fun _ _ h => h.moved hW.alike), by rw [ht]; exact hG.2.2.1, hG.2.2.2.1, rfl⟩, hG.2.2.2.2.1.F ht⟩) hG.2.2.2.2.1.2.2 hdg
    · cases h
  · split at h
    · next a hsk =>
      split at h
      · next hro =>
        cases h
        simp [rk_len] at hlen; subst hlen
        intro vals ws H locs ls stk lc hG hl hL hS
        dsimp only at hsk hG hL hS hmc hms hro ⊢
        subst hsk
        obtain ⟨v, k, rfl, hg, hSn⟩ := hS.cons; clear hS; have hS := hSn; clear hSn
        have hnil := hS.nil
        subst hnil
        refine W.widen (k := R.cells) (n := R.slots) hmc hms ?_
        have hpost : ∀ t : State, t.heap = H → s.WarmedH t.vm → rk_Post D cl XS vals0 ads0 Ad args s (.returned (some v)) t := fun t ht hW => ⟨⟨_, hXS, vals, ws, hG.2.2.2.2.2.1, hG.2.2.2.2.2.2, hG.1, hG.2.1.mono (fun _ _ h => h.moved hW.alike), by rw [ht]; exact hG.2.2.1, hG.2.2.2.1, v, hg, rfl⟩, hG.2.2.2.2.1.F ht⟩
        obtain ⟨hro, hnl⟩ := hro
        unfold rk_rok at hro
        split at hro
        · obtain ⟨I, hI⟩ := Option.isSome_iff_exists.mp hro
          obtain ⟨x, rfl, -, -⟩ := rk_iv_ok hG.1 hg hI
          exact W.iret hx hb hr hpost hG.2.2.2.2.1.2.2 hdg
        · have hfit := rk_fit_ok hG.1 hg hro
          unfold rk_fit at hro
          dsimp only at hro
          split at hro
          · next I hI =>
            obtain ⟨x, rfl, -, -⟩ := rk_iv_ok hG.1 hg hI
            exact W.zret (ty := .boolean) hx hb hr hfit.1 hpost hG.2.2.2.2.1.2.2 hdg
          · cases hro
        · exact absurd rfl hnl
        · cases hro
      · cases h
    · cases h
  · split at h
    · next a hsk =>
      split at h
      · next hro =>
        cases h
        simp [rk_len] at hlen; subst hlen
        intro vals ws H locs ls stk lc hG hl hL hS
        dsimp only at hsk hG hL hS hmc hms hro ⊢
        subst hsk
        obtain ⟨v, k, rfl, hg, hSn⟩ := hS.cons; clear hS; have hS := hSn; clear hSn
        have hnil := hS.nil
        subst hnil
        refine W.widen (k := R.cells) (n := R.slots) hmc hms ?_
        have hpost : ∀ t : State, t.heap = H → s.WarmedH t.vm → rk_Post D cl XS vals0 ads0 Ad args s (.returned (some v)) t := fun t ht hW => ⟨⟨_, hXS, vals, ws, hG.2.2.2.2.2.1, hG.2.2.2.2.2.2, hG.1, hG.2.1.mono (fun _ _ h => h.moved hW.alike), by rw [ht]; exact hG.2.2.1, hG.2.2.2.1, v, hg, rfl⟩, hG.2.2.2.2.1.F ht⟩
        obtain ⟨hro, hnl⟩ := hro
        rw [hnl] at hro
        obtain ⟨x, rfl⟩ := rk_isL_ok hG.1 hg hro
        exact W.lret hx hb (by rw [hr]; exact hnl) hpost hG.2.2.2.2.1.2.2 hdg
      · cases h
    · cases h
  · cases h
theorem rk_run_ok (l : Launch) (D : va_G) (hxt : rk_xtok xt) (hok : rk_ok tbl xw cl fty cln MN mci P) {sum : Nat → Nat → List rk_V → List rk_T → List rk_H → Option rk_O} (hsum : ∀ d : Nat, rk_SC l D cl tbl xw xt MN P (d + 1) (sum d)) (fuel : Nat) : ∀ d : Nat, rk_SC l D cl tbl xw xt MN P d (rk_run P fty cln mci sum fuel d) := by
  intro d
  induction d with
  | zero => intro f as env hp o h; cases h
  | succ d ih =>
    intro f as env hp o h q hq
    unfold rk_run at h
    split at h
    · next o1 ho1 =>
      cases h
      exact hsum d f as env hp o ho1 q hq
    split at h
    · next M hM =>
      split at h
      · next hc =>
        refine ⟨M, hM, hc.1, fun vals ws av sz hE hA2 => ?_⟩
        obtain ⟨hgw, hxo, hcl, hac, hlenM, hmok, hmci⟩ := id hok
        obtain ⟨m1, m2, m3, m4, m5, m6, m7, m8, m9⟩ := hmok f q M hq hM
        refine Met.ofW (cc := q.2.2) (maxL := M.2.1) (ret := M.2.2.2.2.1) m1 rfl ?_
        intro p e s m args below meth c s₁ B hml hv
        obtain ⟨rfl, hsz, hP, hK, hD0, hC, hxw, hXt⟩ := hv
        have hts0 := atoms_spec (ws := Jvm.Cond.code q.2.1 q.2.2 M.2.1 M.2.2.2.2.1 :: tbl) B.pre
        have hts : ∀ w ∈ tbl, w.before av.toArray s = true := fun w hw => hts0 w (List.mem_cons_of_mem _ hw)
        have hown : s.vm.findClass q.1 = some m.cls := by rw [← m2]; exact findClass_of_methodNamed B.named
        have hnm : meth.name = q.2.1.name := (name_of_methodNamed B.named B.method).1
        subst hsz
        have hF : rk_Fr s m av.toArray meth D cl (va_A ws s.heap.size) tbl xw fty cln q.1 M.2.2.1 M.2.2.2.1 := ⟨hts, hxw, hown, hK, fun z hz => Or.inr hz, hcl, fun r hr => (m7 r hr).1, fun hz => by rw [hnm]; exact m8 hz, hac, m9⟩
        have key := rk_loop_ok (l := l) (p := p) (e := e) (R := (headSpec (Jvm.Cond.code q.2.1 q.2.2 M.2.1 M.2.2.2.2.1 :: tbl) { frames := d + 1, cells := o.1, slots := o.2.1, locals := 40 * (d + 1) }).room) (below := below) (vals0 := vals) (ads0 := ws.map Prod.fst) hxt hXt hok B.exec B.bytes hml m6 hF (fun r hr => (m7 r hr).2.1) (fun r hr => (m7 r hr).2.2) (rk_wrap_ok hxt ih) (ext := fun _ _ _ => none) (fun _ _ _ _ _ _ _ z => by cases z) (Nat.le_refl _) (Nat.le_refl _) (XS := o.2.2) (fun pc ins len st x a1 a2 a3 a4 a5 a6 => rk_end_ok B.exec B.bytes B.notSynchronized B.returns a1 a2 a3 a4 a5 a6) fuel _ o h (fun x hx => hx) (Nat.le_refl _) (Nat.le_refl _)
        have hlen : (lg_sl av).length ≤ M.2.1 := by
          rw [rk_lgsl, ← rk_sum_ok hE hA2]
          exact hc.2
        have hl := lv_entry av (n := M.2.1) hlen
        rw [lg_entry_eq]
        exact key vals ws s.heap [] _ [] _ ⟨hE, hC, hP, hD0.self, va_S.rf, ⟨[], by simp⟩, ⟨[], by simp⟩⟩ hl (rk_args_ok hE 0 hA2) trivial
      · cases h
    · cases h
end RKT
end MG1_6
section MG1_7
/-! ===== rk: the law's frame: the script's ints are the symbols 0 to 5, the script the symbol 6, its length the symbol 7 ===== -/
def rk_lawx : rk_Ext := fun pc ins st =>
  let lo := st.1; let sk := st.2.1; let env := st.2.2.1; let hp := st.2.2.2.1; let nc := st.2.2.2.2.1; let ns := st.2.2.2.2.2
  match ins with
  | .aload_n k => match rk_ld lo k with
    | some (.inr (.inr (.inl 6))) => some [(pc + 1, (lo, .inr (.inr (.inl 6)) :: sk, env, hp, nc, ns))]
    | _ => none
  | .arraylength => match sk with
    | .inr (.inr (.inl 6)) :: r => some [(pc + 1, (lo, rk_norm env (.inr (.inr (.inl 7))) :: r, env, hp, nc, ns))]
    | _ => none
  | .iaload => match sk with
    | ix :: .inr (.inr (.inl 6)) :: r => match rk_ix env ix 6, rk_iv env (.inr (.inr (.inl 7))) with
      | some i, some J => if 6 ≤ J.1 then some [(pc + 1, (lo, rk_norm env (.inr (.inr (.inl i))) :: r, env, hp, nc, ns))] else none
      | _, _ => none
    | _ => none
  | _ => none
section RKX
variable {p : Program} {l : Launch} {e : Env} {R : Room} {s : State} {m : MethodId} {args : Array Value} {below : List Frame} {meth : Method} {c : Code} {Q : State → Prop} {cc : ByteArray} {D : va_G} {cl : List vw_C} {Ad : Nat → Prop} {nL : Nat} {ads0 : List Nat} {b L : Nat} {xs : Nat → Int32}
def rk_v0 (b L : Nat) (xs : Nat → Int32) : List Value := [.int (xs 0), .int (xs 1), .int (xs 2), .int (xs 3), .int (xs 4), .int (xs 5), .ref b, .int (Int32.ofNat L)]
theorem rk_v0_at {vals : List Value} (h : ∃ k, vals = rk_v0 b L xs ++ k) {i : Nat} {v : Value} (hi : (rk_v0 b L xs)[i]? = some v) : vals[i]? = some v := by
  obtain ⟨k, rfl⟩ := h
  rw [List.getElem?_append_left (List.getElem?_eq_some_iff.mp hi).1]
  exact hi
theorem rk_v0_x {i : Nat} (hi : i < 6) : (rk_v0 b L xs)[i]? = some (.int (xs i)) := by
  match i, hi with
  | 0, _ => rfl
  | 1, _ => rfl
  | 2, _ => rfl
  | 3, _ => rfl
  | 4, _ => rfl
  | 5, _ => rfl
set_option maxHeartbeats 4000000 in
theorem rk_lawx_ok (hx : p.tables.exec = Jvm.exec) (hb : c.code = cc) (hX : va_X b L xs s s.heap) (hbl : b < s.heap.size) (hbA : ¬ Ad b) (hL : L < 2147483648) (pc : Nat) (ins : Instr) (len : Nat) (st : rk_S) (res : List (Nat × rk_S)) (hdg : decode cc pc = .ok (ins, len)) (hlen : rk_len ins len = true) (h : rk_lawx pc ins st = some res) (kk : ∀ q ∈ res, rk_W (rk_KW p l e R s m args below meth c Q) s D cl Ad nL (rk_v0 b L xs) ads0 q.1 q.2) : rk_W (rk_KW p l e R s m args below meth c Q) s D cl Ad nL (rk_v0 b L xs) ads0 pc st := by
  obtain ⟨lo, sk, env, hp, nc, ns⟩ := st
  intro vals ws H locs ls stk lc hG hl hL2 hS
  dsimp only at hG hL2 hS ⊢
  have hpre := hG.2.2.2.2.2.1
  have h6 : rk_g vals (ws.map Prod.fst) (.inr (.inr (.inl 6))) (.ref b) := rk_v0_at hpre rfl
  have h7 : rk_g vals (ws.map Prod.fst) (.inr (.inr (.inl 7))) (.int (Int32.ofNat L)) := rk_v0_at hpre rfl
  cases ins
  case aload_n k =>
    simp [rk_len] at hlen; subst hlen
    simp only [rk_lawx] at h
    split at h
    · next ha =>
      cases h
      obtain ⟨v, hv, hg⟩ := rk_ld_ok hL2 ha
      have ev : v = .ref b := Option.some.inj ((show vals[6]? = some v from hg).symm.trans h6)
      subst ev
      exact lv_aload_n hx hb hdg rfl (hl.2.2 _ hv) (kk _ (List.mem_singleton.mpr rfl) vals ws H locs ls _ lc hG hl hL2 ⟨hg, hS⟩)
    · cases h
  case arraylength =>
    simp [rk_len] at hlen; subst hlen
    simp only [rk_lawx] at h
    split at h
    · next r =>
      cases h
      obtain ⟨v, k1, rfl, hg, hSn⟩ := hS.cons; clear hS; have hS := hSn; clear hSn
      have ev : v = .ref b := Option.some.inj ((show vals[6]? = some v from hg).symm.trans h6)
      subst ev
      exact va_slen hx hb hX hbl hbA hG.2.2.2.2.1 hdg (kk _ (List.mem_singleton.mpr rfl) vals ws H locs ls _ lc hG hl hL2 ⟨rk_norm_ok hG.1 h7, hS⟩)
    · cases h
  case iaload =>
    simp [rk_len] at hlen; subst hlen
    simp only [rk_lawx] at h
    split at h
    · next ix r =>
      split at h
      · next i J hi hJ =>
        split at h
        · next h6J =>
          cases h
          obtain ⟨vi, k0, rfl, hgi, hSn⟩ := hS.cons; clear hS; have hS := hSn; clear hSn
          obtain ⟨v, k1, rfl, hg, hSn⟩ := hS.cons; clear hS; have hS := hSn; clear hSn
          have ev : v = .ref b := Option.some.inj ((show vals[6]? = some v from hg).symm.trans h6)
          subst ev
          obtain ⟨xi, rfl, hin, rfl⟩ := rk_ix_ok hG.1 hgi hi
          obtain ⟨y, ey, y1, y2⟩ := rk_iv_ok hG.1 h7 hJ
          cases ey
          have hLn : (Int32.ofNat L).toInt = L := nI_toInt (n := L) hL
          have hLi : 6 ≤ L := by omega
          have hi6 := (vp_in_iff.mp hin)
          have hin2 : vp_in xi L := vp_in_iff.mpr ⟨hi6.1, by omega⟩
          have hlt : xi.toNatClampNeg < 6 := by have : xi.toNatClampNeg = xi.toInt.toNat := rfl; omega
          exact va_sld hx hb hX hbl hbA hG.2.2.2.2.1 hin2 hdg (kk _ (List.mem_singleton.mpr rfl) vals ws H locs ls _ lc hG hl hL2 ⟨rk_norm_ok hG.1 (rk_v0_at hpre (rk_v0_x hlt)), hS⟩)
        · cases h
      · cases h
    · cases h
  all_goals (simp [rk_lawx] at h)
end RKX
end MG1_7
