abbrev hm_call (N d : Nat) : fx_Ca := hx_call gk_fty gk_mci gk_P N d
/-! ===== fr: runs and calls of the program, with fuel and depth as wanted ===== -/
def hr_R (k : Nat) (M : rk_M2) (pc : Nat) (lc : fx_L) (stk : List Value) (mem : fx_M) (R : Option Value × fx_M) : Prop := ∃ N0 n0 : Nat, ∀ N d n : Nat, hx_run (hm_call (N + N0 + 100) (d + k)) gk_fty gk_mci M (n + n0) pc lc stk mem = some R
def hr_T (k f : Nat) (as : List Value) (mem : fx_M) (r : Option Value) (mem' : fx_M) : Prop := ∃ N0 : Nat, ∀ N d : Nat, hm_call (N + N0 + 100) (d + k) f as mem = some (r, mem')
section HFR
variable {k pc : Nat} {M : rk_M2} {lc : fx_L} {stk r as : List Value} {mem : fx_M} {R : Option Value × fx_M}
/-- steps that are plain -/
theorem hr_s (j : Nat) {pc' : Nat} {lc' : fx_L} {stk' : List Value} {mem' : fx_M} (h : ∀ N d n : Nat, hx_run (hm_call (N + 100) (d + k)) gk_fty gk_mci M (n + j) pc lc stk mem = hx_run (hm_call (N + 100) (d + k)) gk_fty gk_mci M n pc' lc' stk' mem') (kk : hr_R k M pc' lc' stk' mem' R) : hr_R k M pc lc stk mem R := by
  obtain ⟨N0, n0, hk⟩ := kk
  refine ⟨N0, n0 + j, fun N d n => ?_⟩
  rw [← Nat.add_assoc, h (N + N0) d (n + n0)]
  exact hk N d n
theorem hr_ret {v : Option Value} {ins : Instr} {len : Nat} (hat : tk_at M.1 pc = some (pc, ins, len)) (hl : rk_len ins len = true) (he : fx_end M.2.2.2.2.1 ins stk = some (some v)) : hr_R k M pc lc stk mem (v, mem) := by
  refine ⟨0, 1, fun N d n => ?_⟩
  show hx_run _ _ _ _ (n + 1) _ _ _ _ = _
  unfold hx_run
  rw [hat]
  dsimp only
  rw [hl, he]
  rfl
theorem hr_1 {pc' : Nat} {lc' : fx_L} {stk' : List Value} {mem' : fx_M} (h : ∀ (call : fx_Ca) (n : Nat), hx_run call gk_fty gk_mci M (n + 1) pc lc stk mem = hx_run call gk_fty gk_mci M n pc' lc' stk' mem') (kk : hr_R k M pc' lc' stk' mem' R) : hr_R k M pc lc stk mem R := by
  obtain ⟨N0, n0, hk⟩ := kk
  refine ⟨N0, n0 + 1, fun N d n => ?_⟩
  rw [← Nat.add_assoc, h]
  exact hk N d n
theorem hr_ldI {i : Int32} {j len : Nat} {f : Nat → Int32} (hat : tk_at M.1 pc = some (pc, .iaload, 1)) (hj : mem[j]? = some (.inr (.int, len, .inl f))) (hin : fx_in i len = true) (kk : hr_R k M (pc + 1) lc (.int (f i.toNatClampNeg) :: r) mem R) : hr_R k M pc lc (.int i :: .ref j :: r) mem R := hr_1 (fun _ _ => hx_ldI hat hj hin) kk
theorem hr_ldB {i : Int32} {j len : Nat} {f : Nat → Int32} (hat : tk_at M.1 pc = some (pc, .baload, 1)) (hj : mem[j]? = some (.inr (.byte, len, .inl f))) (hin : fx_in i len = true) (kk : hr_R k M (pc + 1) lc (.int (f i.toNatClampNeg) :: r) mem R) : hr_R k M pc lc (.int i :: .ref j :: r) mem R := hr_1 (fun _ _ => hx_ldB hat hj hin) kk
theorem hr_ldL {i : Int32} {j len : Nat} {f : Nat → Int64} (hat : tk_at M.1 pc = some (pc, .laload, 1)) (hj : mem[j]? = some (.inr (.long, len, .inr (.inl f)))) (hin : fx_in i len = true) (kk : hr_R k M (pc + 1) lc (.long (f i.toNatClampNeg) :: r) mem R) : hr_R k M pc lc (.int i :: .ref j :: r) mem R := hr_1 (fun _ _ => hx_ldL hat hj hin) kk
theorem hr_stI {i v : Int32} {j len : Nat} {f : Nat → Int32} {mem' : fx_M} (hat : tk_at M.1 pc = some (pc, .iastore, 1)) (hj : mem[j]? = some (.inr (.int, len, .inl f))) (hin : fx_in i len = true) (hm : mem.set j (.inr (.int, len, .inl (upd f i.toNatClampNeg v))) = mem') (kk : hr_R k M (pc + 1) lc r mem' R) : hr_R k M pc lc (.int v :: .int i :: .ref j :: r) mem R := hr_1 (fun _ _ => hx_stI hat hj hin hm) kk
theorem hr_stL {i : Int32} {v : Int64} {j len : Nat} {f : Nat → Int64} {mem' : fx_M} (hat : tk_at M.1 pc = some (pc, .lastore, 1)) (hj : mem[j]? = some (.inr (.long, len, .inr (.inl f)))) (hin : fx_in i len = true) (hm : mem.set j (.inr (.long, len, .inr (.inl (vp_updL f i.toNatClampNeg v)))) = mem') (kk : hr_R k M (pc + 1) lc r mem' R) : hr_R k M pc lc (.long v :: .int i :: .ref j :: r) mem R := hr_1 (fun _ _ => hx_stL hat hj hin hm) kk
theorem hr_ivV {idx kd f na j k' : Nat} {o : Nat × List Value} {v : Option Value} {mem' : fx_M} (hc : hr_T k' f (.ref j :: as) mem v mem') (hk : k' ≤ k) (hat : tk_at M.1 pc = some (pc, .invokevirtual idx, 3)) (hlk : rk_lk M.2.2.1 idx = some (kd, f, na)) (hkd : (Nat.beq kd 5 || Nat.beq kd 6) = true) (hpop : fx_pops na [] stk = some (as, .ref j :: r)) (hj : mem[j]? = some (.inl o)) (hsum : (Nat.ble (fx_sum r) 8 && decide (gk_mci[f]? = some o.1)) = true) (kk : hr_R k M (pc + 3) lc (v.toList ++ r) mem' R) : hr_R k M pc lc stk mem R := by
  obtain ⟨N1, hc⟩ := hc
  obtain ⟨N0, n0, hk2⟩ := kk
  refine ⟨N0 + N1, n0 + 1, fun N d n => ?_⟩
  have e1 : N + (N0 + N1) + 100 = (N + N0) + N1 + 100 := by omega
  have e2 : N + (N0 + N1) + 100 = (N + N1) + N0 + 100 := by omega
  have hc2 := hc (N + N0) (d + (k - k'))
  rw [← e1, show d + (k - k') + k' = d + k by omega] at hc2
  rw [show n + (n0 + 1) = (n + n0) + 1 by omega, hx_ivV hat hlk hkd hpop hj hsum hc2, e2]
  exact hk2 (N + N1) d n
theorem hr_ivS {idx kd f na k' : Nat} {v : Option Value} {mem' : fx_M} (hc : hr_T k' f as mem v mem') (hk : k' ≤ k) (hat : tk_at M.1 pc = some (pc, .invokestatic idx, 3)) (hlk : rk_lk M.2.2.1 idx = some (kd, f, na)) (hkd : (Nat.beq kd 7 || Nat.beq kd 8) = true) (hpop : fx_pops na [] stk = some (as, r)) (hsum : Nat.ble (fx_sum r) 8 = true) (kk : hr_R k M (pc + 3) lc (v.toList ++ r) mem' R) : hr_R k M pc lc stk mem R := by
  obtain ⟨N1, hc⟩ := hc
  obtain ⟨N0, n0, hk2⟩ := kk
  refine ⟨N0 + N1, n0 + 1, fun N d n => ?_⟩
  have e1 : N + (N0 + N1) + 100 = (N + N0) + N1 + 100 := by omega
  have e2 : N + (N0 + N1) + 100 = (N + N1) + N0 + 100 := by omega
  have hc2 := hc (N + N0) (d + (k - k'))
  rw [← e1, show d + (k - k') + k' = d + k by omega] at hc2
  rw [show n + (n0 + 1) = (n + n0) + 1 by omega, hx_ivS hat hlk hkd hpop hsum hc2, e2]
  exact hk2 (N + N1) d n
theorem hr_meth {f : Nat} {v : Option Value} {mem' : fx_M} (hM : gk_P[f]? = some M) (hc : (Nat.ble M.2.1 21 && Nat.ble (fx_sum as) M.2.1) = true) (kk : hr_R k M 0 (lv_args 0 as) [] mem (v, mem')) : hr_T (k + 1) f as mem v mem' := by
  obtain ⟨N0, n0, hk⟩ := kk
  refine ⟨N0 + n0, fun N d => ?_⟩
  show hx_call gk_fty gk_mci gk_P (N + (N0 + n0) + 100) ((d + k) + 1) f as mem = _
  unfold hx_call
  rw [hM]
  dsimp only
  rw [hc]
  have h := hk (N + n0) d (N + N0 + 100)
  rw [show N + n0 + N0 + 100 = N + (N0 + n0) + 100 by omega, show N + N0 + 100 + n0 = N + (N0 + n0) + 100 by omega] at h
  exact h
theorem hr_ldA {i : Int32} {j len : Nat} {ty : FieldType} {f : Nat → Option Nat} (hat : tk_at M.1 pc = some (pc, .aaload, 1)) (hj : mem[j]? = some (.inr (ty, len, .inr (.inr (.inr (.inr f)))))) (hin : fx_in i len = true) (hro : hx_ro ty = true) (kk : hr_R k M (pc + 1) lc (va_rf (f i.toNatClampNeg) :: r) mem R) : hr_R k M pc lc (.int i :: .ref j :: r) mem R := hr_1 (fun call n => hx_ldA hat hj hin hro) kk
theorem hr_stB {i v : Int32} {j len : Nat} {f : Nat → Int32} {mem' : fx_M} (hat : tk_at M.1 pc = some (pc, .bastore, 1)) (hj : mem[j]? = some (.inr (.byte, len, .inl f))) (hin : fx_in i len = true) (hm : mem.set j (.inr (.byte, len, .inl (upd f i.toNatClampNeg v.toInt8.toInt32))) = mem') (kk : hr_R k M (pc + 1) lc r mem' R) : hr_R k M pc lc (.int v :: .int i :: .ref j :: r) mem R := hr_1 (fun call n => hx_stB hat hj hin hm) kk
theorem hr_len {j : Nat} {ty : FieldType} {z : vp_A} (hat : tk_at M.1 pc = some (pc, .arraylength, 1)) (hj : mem[j]? = some (.inr (ty, z))) (kk : hr_R k M (pc + 1) lc (.int (Int32.ofNat z.1) :: r) mem R) : hr_R k M pc lc (.ref j :: r) mem R := hr_1 (fun call n => hx_one (z := (pc + 1, lc, .int (Int32.ofNat z.1) :: r, mem)) hat rfl rfl (by
    show hx_al (pc + 1) lc (.ref j :: r) mem = _
    unfold hx_al
    dsimp only
    rw [hj])) kk
theorem hr_cpL {idx a b : Nat} {x dp sp : Int32} {j0 j1 n0 n1 : Nat} {f g : Nat → Int64} {mem' : fx_M} (hat : tk_at M.1 pc = some (pc, .invokestatic idx, 3)) (hlk : rk_lk M.2.2.1 idx = some (12, a, b)) (h0 : mem[j0]? = some (.inr (.long, n0, .inr (.inl f)))) (h1 : mem[j1]? = some (.inr (.long, n1, .inr (.inl g)))) (hsum : Nat.ble (fx_sum r) 8 = true) (hc : hx_cc x dp sp n0 n1 = true) (hm : mem.set j1 (.inr (.long, n1, .inr (.inl (va_cpy f g sp.toNatClampNeg dp.toNatClampNeg x.toNatClampNeg)))) = mem') (kk : hr_R k M (pc + 3) lc r mem' R) : hr_R k M pc lc (.int x :: .int dp :: .ref j1 :: .int sp :: .ref j0 :: r) mem R := hr_1 (fun call n => hx_cpL hat hlk h0 h1 hsum hc hm) kk
theorem hr_cpI {idx a b : Nat} {x dp sp : Int32} {j0 j1 n0 n1 : Nat} {f g : Nat → Int32} {mem' : fx_M} (hat : tk_at M.1 pc = some (pc, .invokestatic idx, 3)) (hlk : rk_lk M.2.2.1 idx = some (12, a, b)) (h0 : mem[j0]? = some (.inr (.int, n0, .inl f))) (h1 : mem[j1]? = some (.inr (.int, n1, .inl g))) (hsum : Nat.ble (fx_sum r) 8 = true) (hc : hx_cc x dp sp n0 n1 = true) (hm : mem.set j1 (.inr (.int, n1, .inl (va_cpy f g sp.toNatClampNeg dp.toNatClampNeg x.toNatClampNeg))) = mem') (kk : hr_R k M (pc + 3) lc r mem' R) : hr_R k M pc lc (.int x :: .int dp :: .ref j1 :: .int sp :: .ref j0 :: r) mem R := hr_1 (fun call n => hx_cpI hat hlk h0 h1 hsum hc hm) kk
theorem hr_retz {x : Int32} (hx : x = 0 ∨ x = 1) (hat : tk_at M.1 pc = some (pc, .ireturn, 1)) (hr : M.2.2.2.2.1 = some .boolean) : hr_R k M pc lc [.int x] mem (some (.int x), mem) := hr_ret hat rfl (by rw [hr]; rcases hx with rfl | rfl <;> rfl)
end HFR
