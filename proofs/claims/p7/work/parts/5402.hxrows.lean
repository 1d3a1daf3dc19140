/-! ===== hx: single steps of a run, where something must be shown ===== -/
section HXS
variable {call : fx_Ca} {fty : rk_F} {mci : List Nat} {M : rk_M2}
theorem hx_one {n pc : Nat} {ins : Instr} {len : Nat} {lc : fx_L} {stk : List Value} {mem : fx_M} {z : Nat × fx_L × List Value × fx_M} (hat : tk_at M.1 pc = some (pc, ins, len)) (hl : rk_len ins len = true) (he : fx_end M.2.2.2.2.1 ins stk = none) (hs : hx_step call fty mci M pc ins lc stk mem = some z) : hx_run call fty mci M (n + 1) pc lc stk mem = hx_run call fty mci M n z.1 z.2.1 z.2.2.1 z.2.2.2 := by
  conv => lhs; unfold hx_run
  rw [hat]
  dsimp only
  rw [hl, he, hs]
  rfl
theorem hx_ldI {n pc : Nat} {i : Int32} {j len : Nat} {f : Nat → Int32} {lc : fx_L} {r : List Value} {mem : fx_M} (hat : tk_at M.1 pc = some (pc, .iaload, 1)) (hj : mem[j]? = some (.inr (.int, len, .inl f))) (hin : fx_in i len = true) : hx_run call fty mci M (n + 1) pc lc (.int i :: .ref j :: r) mem = hx_run call fty mci M n (pc + 1) lc (.int (f i.toNatClampNeg) :: r) mem :=
  hx_one (z := (pc + 1, lc, .int (f i.toNatClampNeg) :: r, mem)) hat rfl rfl (by
    show fx_ia (pc + 1) lc (.int i :: .ref j :: r) mem = _
    unfold fx_ia
    dsimp only
    rw [hj]
    dsimp only
    rw [hin]
    rfl)
theorem hx_ldB {n pc : Nat} {i : Int32} {j len : Nat} {f : Nat → Int32} {lc : fx_L} {r : List Value} {mem : fx_M} (hat : tk_at M.1 pc = some (pc, .baload, 1)) (hj : mem[j]? = some (.inr (.byte, len, .inl f))) (hin : fx_in i len = true) : hx_run call fty mci M (n + 1) pc lc (.int i :: .ref j :: r) mem = hx_run call fty mci M n (pc + 1) lc (.int (f i.toNatClampNeg) :: r) mem :=
  hx_one (z := (pc + 1, lc, .int (f i.toNatClampNeg) :: r, mem)) hat rfl rfl (by
    show fx_ba (pc + 1) lc (.int i :: .ref j :: r) mem = _
    unfold fx_ba
    dsimp only
    rw [hj]
    dsimp only
    rw [hin]
    rfl)
theorem hx_ldL {n pc : Nat} {i : Int32} {j len : Nat} {f : Nat → Int64} {lc : fx_L} {r : List Value} {mem : fx_M} (hat : tk_at M.1 pc = some (pc, .laload, 1)) (hj : mem[j]? = some (.inr (.long, len, .inr (.inl f)))) (hin : fx_in i len = true) : hx_run call fty mci M (n + 1) pc lc (.int i :: .ref j :: r) mem = hx_run call fty mci M n (pc + 1) lc (.long (f i.toNatClampNeg) :: r) mem :=
  hx_one (z := (pc + 1, lc, .long (f i.toNatClampNeg) :: r, mem)) hat rfl rfl (by
    show fx_la (pc + 1) lc (.int i :: .ref j :: r) mem = _
    unfold fx_la
    dsimp only
    rw [hj]
    dsimp only
    rw [hin]
    rfl)
theorem hx_stI {n pc : Nat} {i v : Int32} {j len : Nat} {f : Nat → Int32} {lc : fx_L} {r : List Value} {mem mem' : fx_M} (hat : tk_at M.1 pc = some (pc, .iastore, 1)) (hj : mem[j]? = some (.inr (.int, len, .inl f))) (hin : fx_in i len = true) (hm : mem.set j (.inr (.int, len, .inl (upd f i.toNatClampNeg v))) = mem') : hx_run call fty mci M (n + 1) pc lc (.int v :: .int i :: .ref j :: r) mem = hx_run call fty mci M n (pc + 1) lc r mem' :=
  hx_one (z := (pc + 1, lc, r, mem')) hat rfl rfl (by
    show fx_is (pc + 1) lc (.int v :: .int i :: .ref j :: r) mem = _
    unfold fx_is
    dsimp only
    rw [hj]
    dsimp only
    rw [hin, hm]
    rfl)
theorem hx_stB {n pc : Nat} {i v : Int32} {j len : Nat} {f : Nat → Int32} {lc : fx_L} {r : List Value} {mem mem' : fx_M} (hat : tk_at M.1 pc = some (pc, .bastore, 1)) (hj : mem[j]? = some (.inr (.byte, len, .inl f))) (hin : fx_in i len = true) (hm : mem.set j (.inr (.byte, len, .inl (upd f i.toNatClampNeg v.toInt8.toInt32))) = mem') : hx_run call fty mci M (n + 1) pc lc (.int v :: .int i :: .ref j :: r) mem = hx_run call fty mci M n (pc + 1) lc r mem' :=
  hx_one (z := (pc + 1, lc, r, mem')) hat rfl rfl (by
    show fx_bs (pc + 1) lc (.int v :: .int i :: .ref j :: r) mem = _
    unfold fx_bs
    dsimp only
    rw [hj]
    dsimp only
    rw [hin, hm]
    rfl)
theorem hx_stL {n pc : Nat} {i : Int32} {v : Int64} {j len : Nat} {f : Nat → Int64} {lc : fx_L} {r : List Value} {mem mem' : fx_M} (hat : tk_at M.1 pc = some (pc, .lastore, 1)) (hj : mem[j]? = some (.inr (.long, len, .inr (.inl f)))) (hin : fx_in i len = true) (hm : mem.set j (.inr (.long, len, .inr (.inl (vp_updL f i.toNatClampNeg v)))) = mem') : hx_run call fty mci M (n + 1) pc lc (.long v :: .int i :: .ref j :: r) mem = hx_run call fty mci M n (pc + 1) lc r mem' :=
  hx_one (z := (pc + 1, lc, r, mem')) hat rfl rfl (by
    show fx_ls (pc + 1) lc (.long v :: .int i :: .ref j :: r) mem = _
    unfold fx_ls
    dsimp only
    rw [hj]
    dsimp only
    rw [hin, hm]
    rfl)
theorem hx_ivV {n pc idx kd f k j : Nat} {o : Nat × List Value} {lc : fx_L} {stk as r : List Value} {v : Option Value} {mem mem' : fx_M} (hat : tk_at M.1 pc = some (pc, .invokevirtual idx, 3)) (hlk : rk_lk M.2.2.1 idx = some (kd, f, k)) (hkd : (Nat.beq kd 5 || Nat.beq kd 6) = true) (hpop : fx_pops k [] stk = some (as, .ref j :: r)) (hj : mem[j]? = some (.inl o)) (hsum : (Nat.ble (fx_sum r) 8 && decide (mci[f]? = some o.1)) = true) (hc : call f (.ref j :: as) mem = some (v, mem')) : hx_run call fty mci M (n + 1) pc lc stk mem = hx_run call fty mci M n (pc + 3) lc (v.toList ++ r) mem' :=
  hx_one (z := (pc + 3, lc, v.toList ++ r, mem')) hat rfl rfl (by
    show (match rk_lk M.2.2.1 idx with
      | some q => cond (Nat.beq q.1 5 || Nat.beq q.1 6) (hx_cv mci call (pc + 3) q.2.1 q.2.2 lc stk mem) none
      | none => none) = _
    rw [hlk]
    dsimp only
    rw [hkd]
    show hx_cv mci call (pc + 3) f k lc stk mem = _
    unfold hx_cv
    rw [hpop]
    dsimp only
    rw [hj]
    dsimp only
    rw [hsum, hc]
    rfl)
theorem hx_ivS {n pc idx kd f k : Nat} {lc : fx_L} {stk as r : List Value} {v : Option Value} {mem mem' : fx_M} (hat : tk_at M.1 pc = some (pc, .invokestatic idx, 3)) (hlk : rk_lk M.2.2.1 idx = some (kd, f, k)) (hkd : (Nat.beq kd 7 || Nat.beq kd 8) = true) (hpop : fx_pops k [] stk = some (as, r)) (hsum : Nat.ble (fx_sum r) 8 = true) (hc : call f as mem = some (v, mem')) : hx_run call fty mci M (n + 1) pc lc stk mem = hx_run call fty mci M n (pc + 3) lc (v.toList ++ r) mem' :=
  hx_one (z := (pc + 3, lc, v.toList ++ r, mem')) hat rfl rfl (by
    show (match rk_lk M.2.2.1 idx with
      | some q => cond (Nat.beq q.1 7 || Nat.beq q.1 8) (fx_cs call (pc + 3) q.2.1 q.2.2 lc stk mem) (cond (Nat.beq q.1 12) (hx_cp (pc + 3) lc stk mem) (fx_mem fty M pc (.invokestatic idx) lc stk mem))
      | none => none) = _
    rw [hlk]
    dsimp only
    rw [hkd]
    show fx_cs call (pc + 3) f k lc stk mem = _
    unfold fx_cs
    rw [hpop]
    dsimp only
    rw [hsum, hc]
    rfl)
theorem hx_ldA {n pc : Nat} {i : Int32} {j len : Nat} {ty : FieldType} {f : Nat → Option Nat} {lc : fx_L} {r : List Value} {mem : fx_M} (hat : tk_at M.1 pc = some (pc, .aaload, 1)) (hj : mem[j]? = some (.inr (ty, len, .inr (.inr (.inr (.inr f)))))) (hin : fx_in i len = true) (hro : hx_ro ty = true) : hx_run call fty mci M (n + 1) pc lc (.int i :: .ref j :: r) mem = hx_run call fty mci M n (pc + 1) lc (va_rf (f i.toNatClampNeg) :: r) mem :=
  hx_one (z := (pc + 1, lc, va_rf (f i.toNatClampNeg) :: r, mem)) hat rfl rfl (by
    show hx_aa (pc + 1) lc (.int i :: .ref j :: r) mem = _
    unfold hx_aa
    dsimp only
    rw [hj]
    dsimp only
    rw [hin, hro]
    rfl)
theorem hx_cpL {n pc idx a b : Nat} {x dp sp : Int32} {j0 j1 n0 n1 : Nat} {f g : Nat → Int64} {lc : fx_L} {r : List Value} {mem mem' : fx_M} (hat : tk_at M.1 pc = some (pc, .invokestatic idx, 3)) (hlk : rk_lk M.2.2.1 idx = some (12, a, b)) (h0 : mem[j0]? = some (.inr (.long, n0, .inr (.inl f)))) (h1 : mem[j1]? = some (.inr (.long, n1, .inr (.inl g)))) (hsum : Nat.ble (fx_sum r) 8 = true) (hc : hx_cc x dp sp n0 n1 = true) (hm : mem.set j1 (.inr (.long, n1, .inr (.inl (va_cpy f g sp.toNatClampNeg dp.toNatClampNeg x.toNatClampNeg)))) = mem') : hx_run call fty mci M (n + 1) pc lc (.int x :: .int dp :: .ref j1 :: .int sp :: .ref j0 :: r) mem = hx_run call fty mci M n (pc + 3) lc r mem' :=
  hx_one (z := (pc + 3, lc, r, mem')) hat rfl rfl (by
    show (match rk_lk M.2.2.1 idx with
      | some q => cond (Nat.beq q.1 7 || Nat.beq q.1 8) (fx_cs call (pc + 3) q.2.1 q.2.2 lc _ mem) (cond (Nat.beq q.1 12) (hx_cp (pc + 3) lc _ mem) (fx_mem fty M pc (.invokestatic idx) lc _ mem))
      | none => none) = _
    rw [hlk]
    dsimp only
    rw [show (Nat.beq 12 7 || Nat.beq 12 8) = false from rfl, show Nat.beq 12 12 = true from rfl]
    show hx_cp (pc + 3) lc (.int x :: .int dp :: .ref j1 :: .int sp :: .ref j0 :: r) mem = _
    unfold hx_cp
    dsimp only
    rw [h0, h1]
    dsimp only
    rw [hsum, hc, hm]
    rfl)
theorem hx_cpI {n pc idx a b : Nat} {x dp sp : Int32} {j0 j1 n0 n1 : Nat} {f g : Nat → Int32} {lc : fx_L} {r : List Value} {mem mem' : fx_M} (hat : tk_at M.1 pc = some (pc, .invokestatic idx, 3)) (hlk : rk_lk M.2.2.1 idx = some (12, a, b)) (h0 : mem[j0]? = some (.inr (.int, n0, .inl f))) (h1 : mem[j1]? = some (.inr (.int, n1, .inl g))) (hsum : Nat.ble (fx_sum r) 8 = true) (hc : hx_cc x dp sp n0 n1 = true) (hm : mem.set j1 (.inr (.int, n1, .inl (va_cpy f g sp.toNatClampNeg dp.toNatClampNeg x.toNatClampNeg))) = mem') : hx_run call fty mci M (n + 1) pc lc (.int x :: .int dp :: .ref j1 :: .int sp :: .ref j0 :: r) mem = hx_run call fty mci M n (pc + 3) lc r mem' :=
  hx_one (z := (pc + 3, lc, r, mem')) hat rfl rfl (by
    show (match rk_lk M.2.2.1 idx with
      | some q => cond (Nat.beq q.1 7 || Nat.beq q.1 8) (fx_cs call (pc + 3) q.2.1 q.2.2 lc _ mem) (cond (Nat.beq q.1 12) (hx_cp (pc + 3) lc _ mem) (fx_mem fty M pc (.invokestatic idx) lc _ mem))
      | none => none) = _
    rw [hlk]
    dsimp only
    rw [show (Nat.beq 12 7 || Nat.beq 12 8) = false from rfl, show Nat.beq 12 12 = true from rfl]
    show hx_cp (pc + 3) lc (.int x :: .int dp :: .ref j1 :: .int sp :: .ref j0 :: r) mem = _
    unfold hx_cp
    dsimp only
    rw [h0, h1]
    dsimp only
    rw [hsum, hc, hm]
    rfl)
end HXS
