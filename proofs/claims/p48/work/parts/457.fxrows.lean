/-! ===== fx: single steps of a run, where something must be shown ===== -/
section FXS
variable {call : fx_Ca} {fty : rk_F} {mci : List Nat} {M : rk_M2}
theorem fx_one {n pc : Nat} {ins : Instr} {len : Nat} {lc : fx_L} {stk : List Value} {mem : fx_M} {z : Nat × fx_L × List Value × fx_M} (hat : tk_at M.1 pc = some (pc, ins, len)) (hl : rk_len ins len = true) (he : fx_end M.2.2.2.2.1 ins stk = none) (hs : fx_step call fty mci M pc ins lc stk mem = some z) : fx_run call fty mci M (n + 1) pc lc stk mem = fx_run call fty mci M n z.1 z.2.1 z.2.2.1 z.2.2.2 := by
  conv => lhs; unfold fx_run
  rw [hat]
  dsimp only
  rw [hl, he, hs]
  rfl
theorem fx_ldI {n pc : Nat} {i : Int32} {j len : Nat} {f : Nat → Int32} {lc : fx_L} {r : List Value} {mem : fx_M} (hat : tk_at M.1 pc = some (pc, .iaload, 1)) (hj : mem[j]? = some (.inr (.int, len, .inl f))) (hin : fx_in i len = true) : fx_run call fty mci M (n + 1) pc lc (.int i :: .ref j :: r) mem = fx_run call fty mci M n (pc + 1) lc (.int (f i.toNatClampNeg) :: r) mem :=
  fx_one (z := (pc + 1, lc, .int (f i.toNatClampNeg) :: r, mem)) hat rfl rfl (by
    show fx_ia (pc + 1) lc (.int i :: .ref j :: r) mem = _
    unfold fx_ia
    dsimp only
    rw [hj]
    dsimp only
    rw [hin]
    rfl)
theorem fx_ldB {n pc : Nat} {i : Int32} {j len : Nat} {f : Nat → Int32} {lc : fx_L} {r : List Value} {mem : fx_M} (hat : tk_at M.1 pc = some (pc, .baload, 1)) (hj : mem[j]? = some (.inr (.byte, len, .inl f))) (hin : fx_in i len = true) : fx_run call fty mci M (n + 1) pc lc (.int i :: .ref j :: r) mem = fx_run call fty mci M n (pc + 1) lc (.int (f i.toNatClampNeg) :: r) mem :=
  fx_one (z := (pc + 1, lc, .int (f i.toNatClampNeg) :: r, mem)) hat rfl rfl (by
    show fx_ba (pc + 1) lc (.int i :: .ref j :: r) mem = _
    unfold fx_ba
    dsimp only
    rw [hj]
    dsimp only
    rw [hin]
    rfl)
theorem fx_ldL {n pc : Nat} {i : Int32} {j len : Nat} {f : Nat → Int64} {lc : fx_L} {r : List Value} {mem : fx_M} (hat : tk_at M.1 pc = some (pc, .laload, 1)) (hj : mem[j]? = some (.inr (.long, len, .inr (.inl f)))) (hin : fx_in i len = true) : fx_run call fty mci M (n + 1) pc lc (.int i :: .ref j :: r) mem = fx_run call fty mci M n (pc + 1) lc (.long (f i.toNatClampNeg) :: r) mem :=
  fx_one (z := (pc + 1, lc, .long (f i.toNatClampNeg) :: r, mem)) hat rfl rfl (by
    show fx_la (pc + 1) lc (.int i :: .ref j :: r) mem = _
    unfold fx_la
    dsimp only
    rw [hj]
    dsimp only
    rw [hin]
    rfl)
theorem fx_stI {n pc : Nat} {i v : Int32} {j len : Nat} {f : Nat → Int32} {lc : fx_L} {r : List Value} {mem mem' : fx_M} (hat : tk_at M.1 pc = some (pc, .iastore, 1)) (hj : mem[j]? = some (.inr (.int, len, .inl f))) (hin : fx_in i len = true) (hm : mem.set j (.inr (.int, len, .inl (upd f i.toNatClampNeg v))) = mem') : fx_run call fty mci M (n + 1) pc lc (.int v :: .int i :: .ref j :: r) mem = fx_run call fty mci M n (pc + 1) lc r mem' :=
  fx_one (z := (pc + 1, lc, r, mem')) hat rfl rfl (by
    show fx_is (pc + 1) lc (.int v :: .int i :: .ref j :: r) mem = _
    unfold fx_is
    dsimp only
    rw [hj]
    dsimp only
    rw [hin, hm]
    rfl)
theorem fx_stB {n pc : Nat} {i v : Int32} {j len : Nat} {f : Nat → Int32} {lc : fx_L} {r : List Value} {mem mem' : fx_M} (hat : tk_at M.1 pc = some (pc, .bastore, 1)) (hj : mem[j]? = some (.inr (.byte, len, .inl f))) (hin : fx_in i len = true) (hm : mem.set j (.inr (.byte, len, .inl (upd f i.toNatClampNeg v.toInt8.toInt32))) = mem') : fx_run call fty mci M (n + 1) pc lc (.int v :: .int i :: .ref j :: r) mem = fx_run call fty mci M n (pc + 1) lc r mem' :=
  fx_one (z := (pc + 1, lc, r, mem')) hat rfl rfl (by
    show fx_bs (pc + 1) lc (.int v :: .int i :: .ref j :: r) mem = _
    unfold fx_bs
    dsimp only
    rw [hj]
    dsimp only
    rw [hin, hm]
    rfl)
theorem fx_stL {n pc : Nat} {i : Int32} {v : Int64} {j len : Nat} {f : Nat → Int64} {lc : fx_L} {r : List Value} {mem mem' : fx_M} (hat : tk_at M.1 pc = some (pc, .lastore, 1)) (hj : mem[j]? = some (.inr (.long, len, .inr (.inl f)))) (hin : fx_in i len = true) (hm : mem.set j (.inr (.long, len, .inr (.inl (vp_updL f i.toNatClampNeg v)))) = mem') : fx_run call fty mci M (n + 1) pc lc (.long v :: .int i :: .ref j :: r) mem = fx_run call fty mci M n (pc + 1) lc r mem' :=
  fx_one (z := (pc + 1, lc, r, mem')) hat rfl rfl (by
    show fx_ls (pc + 1) lc (.long v :: .int i :: .ref j :: r) mem = _
    unfold fx_ls
    dsimp only
    rw [hj]
    dsimp only
    rw [hin, hm]
    rfl)
theorem fx_ivV {n pc idx kd f k j : Nat} {o : Nat × List Value} {lc : fx_L} {stk as r : List Value} {v : Option Value} {mem mem' : fx_M} (hat : tk_at M.1 pc = some (pc, .invokevirtual idx, 3)) (hlk : rk_lk M.2.2.1 idx = some (kd, f, k)) (hkd : (Nat.beq kd 5 || Nat.beq kd 6) = true) (hpop : fx_pops k [] stk = some (as, .ref j :: r)) (hj : mem[j]? = some (.inl o)) (hsum : (Nat.ble (fx_sum r) 8 && decide (mci[f]? = some o.1)) = true) (hc : call f (.ref j :: as) mem = some (v, mem')) : fx_run call fty mci M (n + 1) pc lc stk mem = fx_run call fty mci M n (pc + 3) lc (v.toList ++ r) mem' :=
  fx_one (z := (pc + 3, lc, v.toList ++ r, mem')) hat rfl rfl (by
    show (match rk_lk M.2.2.1 idx with
      | some q => cond (Nat.beq q.1 5 || Nat.beq q.1 6) (fx_cv mci call (pc + 3) q.2.1 q.2.2 lc stk mem) none
      | none => none) = _
    rw [hlk]
    dsimp only
    rw [hkd]
    show fx_cv mci call (pc + 3) f k lc stk mem = _
    unfold fx_cv
    rw [hpop]
    dsimp only
    rw [hj]
    dsimp only
    rw [hsum, hc]
    rfl)
theorem fx_ivS {n pc idx kd f k : Nat} {lc : fx_L} {stk as r : List Value} {v : Option Value} {mem mem' : fx_M} (hat : tk_at M.1 pc = some (pc, .invokestatic idx, 3)) (hlk : rk_lk M.2.2.1 idx = some (kd, f, k)) (hkd : (Nat.beq kd 7 || Nat.beq kd 8) = true) (hpop : fx_pops k [] stk = some (as, r)) (hsum : Nat.ble (fx_sum r) 8 = true) (hc : call f as mem = some (v, mem')) : fx_run call fty mci M (n + 1) pc lc stk mem = fx_run call fty mci M n (pc + 3) lc (v.toList ++ r) mem' :=
  fx_one (z := (pc + 3, lc, v.toList ++ r, mem')) hat rfl rfl (by
    show (match rk_lk M.2.2.1 idx with
      | some q => cond (Nat.beq q.1 7 || Nat.beq q.1 8) (fx_cs call (pc + 3) q.2.1 q.2.2 lc stk mem) (fx_mem fty M pc (.invokestatic idx) lc stk mem)
      | none => none) = _
    rw [hlk]
    dsimp only
    rw [hkd]
    show fx_cs call (pc + 3) f k lc stk mem = _
    unfold fx_cs
    rw [hpop]
    dsimp only
    rw [hsum, hc]
    rfl)
end FXS
theorem fx_in_of {i : Int32} {n : Nat} (h1 : 0 ≤ i.toInt) (h2 : i.toInt < (n : Int)) : fx_in i n = true := by
  unfold fx_in
  rw [decide_eq_true h1, decide_eq_true h2]
  rfl
theorem fx_inN {i n : Nat} (h : i < n) (hn : n < 2 ^ 31) : fx_in (nI i) n = true := fx_in_of (by rw [nI_toInt (by omega)]; omega) (by rw [nI_toInt (by omega)]; omega)
