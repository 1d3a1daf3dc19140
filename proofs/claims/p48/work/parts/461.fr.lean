/-! ===== fr: runs and calls of the program, with fuel and depth as wanted ===== -/
def fr_R (k : Nat) (M : rk_M2) (pc : Nat) (lc : fx_L) (stk : List Value) (mem : fx_M) (R : Option Value × fx_M) : Prop := ∃ N0 n0 : Nat, ∀ N d n : Nat, fx_run (fm_call (N + N0 + 100) (d + k)) gk_fty gk_mci M (n + n0) pc lc stk mem = some R
def fr_T (k f : Nat) (as : List Value) (mem : fx_M) (r : Option Value) (mem' : fx_M) : Prop := ∃ N0 : Nat, ∀ N d : Nat, fm_call (N + N0 + 100) (d + k) f as mem = some (r, mem')
section FR
variable {k pc : Nat} {M : rk_M2} {lc : fx_L} {stk r as : List Value} {mem : fx_M} {R : Option Value × fx_M}
/-- steps that are plain -/
theorem fr_s (j : Nat) {pc' : Nat} {lc' : fx_L} {stk' : List Value} {mem' : fx_M} (h : ∀ N d n : Nat, fx_run (fm_call (N + 100) (d + k)) gk_fty gk_mci M (n + j) pc lc stk mem = fx_run (fm_call (N + 100) (d + k)) gk_fty gk_mci M n pc' lc' stk' mem') (kk : fr_R k M pc' lc' stk' mem' R) : fr_R k M pc lc stk mem R := by
  obtain ⟨N0, n0, hk⟩ := kk
  refine ⟨N0, n0 + j, fun N d n => ?_⟩
  rw [← Nat.add_assoc, h (N + N0) d (n + n0)]
  exact hk N d n
theorem fr_ret {v : Option Value} {ins : Instr} {len : Nat} (hat : tk_at M.1 pc = some (pc, ins, len)) (hl : rk_len ins len = true) (he : fx_end M.2.2.2.2.1 ins stk = some (some v)) : fr_R k M pc lc stk mem (v, mem) := by
  refine ⟨0, 1, fun N d n => ?_⟩
  show fx_run _ _ _ _ (n + 1) _ _ _ _ = _
  unfold fx_run
  rw [hat]
  dsimp only
  rw [hl, he]
  rfl
theorem fr_1 {pc' : Nat} {lc' : fx_L} {stk' : List Value} {mem' : fx_M} (h : ∀ (call : fx_Ca) (n : Nat), fx_run call gk_fty gk_mci M (n + 1) pc lc stk mem = fx_run call gk_fty gk_mci M n pc' lc' stk' mem') (kk : fr_R k M pc' lc' stk' mem' R) : fr_R k M pc lc stk mem R := by
  obtain ⟨N0, n0, hk⟩ := kk
  refine ⟨N0, n0 + 1, fun N d n => ?_⟩
  rw [← Nat.add_assoc, h]
  exact hk N d n
theorem fr_ldI {i : Int32} {j len : Nat} {f : Nat → Int32} (hat : tk_at M.1 pc = some (pc, .iaload, 1)) (hj : mem[j]? = some (.inr (.int, len, .inl f))) (hin : fx_in i len = true) (kk : fr_R k M (pc + 1) lc (.int (f i.toNatClampNeg) :: r) mem R) : fr_R k M pc lc (.int i :: .ref j :: r) mem R := fr_1 (fun _ _ => fx_ldI hat hj hin) kk
theorem fr_ldB {i : Int32} {j len : Nat} {f : Nat → Int32} (hat : tk_at M.1 pc = some (pc, .baload, 1)) (hj : mem[j]? = some (.inr (.byte, len, .inl f))) (hin : fx_in i len = true) (kk : fr_R k M (pc + 1) lc (.int (f i.toNatClampNeg) :: r) mem R) : fr_R k M pc lc (.int i :: .ref j :: r) mem R := fr_1 (fun _ _ => fx_ldB hat hj hin) kk
theorem fr_ldL {i : Int32} {j len : Nat} {f : Nat → Int64} (hat : tk_at M.1 pc = some (pc, .laload, 1)) (hj : mem[j]? = some (.inr (.long, len, .inr (.inl f)))) (hin : fx_in i len = true) (kk : fr_R k M (pc + 1) lc (.long (f i.toNatClampNeg) :: r) mem R) : fr_R k M pc lc (.int i :: .ref j :: r) mem R := fr_1 (fun _ _ => fx_ldL hat hj hin) kk
theorem fr_stI {i v : Int32} {j len : Nat} {f : Nat → Int32} {mem' : fx_M} (hat : tk_at M.1 pc = some (pc, .iastore, 1)) (hj : mem[j]? = some (.inr (.int, len, .inl f))) (hin : fx_in i len = true) (hm : mem.set j (.inr (.int, len, .inl (upd f i.toNatClampNeg v))) = mem') (kk : fr_R k M (pc + 1) lc r mem' R) : fr_R k M pc lc (.int v :: .int i :: .ref j :: r) mem R := fr_1 (fun _ _ => fx_stI hat hj hin hm) kk
theorem fr_stL {i : Int32} {v : Int64} {j len : Nat} {f : Nat → Int64} {mem' : fx_M} (hat : tk_at M.1 pc = some (pc, .lastore, 1)) (hj : mem[j]? = some (.inr (.long, len, .inr (.inl f)))) (hin : fx_in i len = true) (hm : mem.set j (.inr (.long, len, .inr (.inl (vp_updL f i.toNatClampNeg v)))) = mem') (kk : fr_R k M (pc + 1) lc r mem' R) : fr_R k M pc lc (.long v :: .int i :: .ref j :: r) mem R := fr_1 (fun _ _ => fx_stL hat hj hin hm) kk
theorem fr_ivV {idx kd f na j k' : Nat} {o : Nat × List Value} {v : Option Value} {mem' : fx_M} (hc : fr_T k' f (.ref j :: as) mem v mem') (hk : k' ≤ k) (hat : tk_at M.1 pc = some (pc, .invokevirtual idx, 3)) (hlk : rk_lk M.2.2.1 idx = some (kd, f, na)) (hkd : (Nat.beq kd 5 || Nat.beq kd 6) = true) (hpop : fx_pops na [] stk = some (as, .ref j :: r)) (hj : mem[j]? = some (.inl o)) (hsum : (Nat.ble (fx_sum r) 8 && decide (gk_mci[f]? = some o.1)) = true) (kk : fr_R k M (pc + 3) lc (v.toList ++ r) mem' R) : fr_R k M pc lc stk mem R := by
  obtain ⟨N1, hc⟩ := hc
  obtain ⟨N0, n0, hk2⟩ := kk
  refine ⟨N0 + N1, n0 + 1, fun N d n => ?_⟩
  have e1 : N + (N0 + N1) + 100 = (N + N0) + N1 + 100 := by omega
  have e2 : N + (N0 + N1) + 100 = (N + N1) + N0 + 100 := by omega
  have hc2 := hc (N + N0) (d + (k - k'))
  rw [← e1, show d + (k - k') + k' = d + k by omega] at hc2
  rw [show n + (n0 + 1) = (n + n0) + 1 by omega, fx_ivV hat hlk hkd hpop hj hsum hc2, e2]
  exact hk2 (N + N1) d n
theorem fr_ivS {idx kd f na k' : Nat} {v : Option Value} {mem' : fx_M} (hc : fr_T k' f as mem v mem') (hk : k' ≤ k) (hat : tk_at M.1 pc = some (pc, .invokestatic idx, 3)) (hlk : rk_lk M.2.2.1 idx = some (kd, f, na)) (hkd : (Nat.beq kd 7 || Nat.beq kd 8) = true) (hpop : fx_pops na [] stk = some (as, r)) (hsum : Nat.ble (fx_sum r) 8 = true) (kk : fr_R k M (pc + 3) lc (v.toList ++ r) mem' R) : fr_R k M pc lc stk mem R := by
  obtain ⟨N1, hc⟩ := hc
  obtain ⟨N0, n0, hk2⟩ := kk
  refine ⟨N0 + N1, n0 + 1, fun N d n => ?_⟩
  have e1 : N + (N0 + N1) + 100 = (N + N0) + N1 + 100 := by omega
  have e2 : N + (N0 + N1) + 100 = (N + N1) + N0 + 100 := by omega
  have hc2 := hc (N + N0) (d + (k - k'))
  rw [← e1, show d + (k - k') + k' = d + k by omega] at hc2
  rw [show n + (n0 + 1) = (n + n0) + 1 by omega, fx_ivS hat hlk hkd hpop hsum hc2, e2]
  exact hk2 (N + N1) d n
theorem fr_meth {f : Nat} {v : Option Value} {mem' : fx_M} (hM : gk_P[f]? = some M) (hc : (Nat.ble M.2.1 21 && Nat.ble (fx_sum as) M.2.1) = true) (kk : fr_R k M 0 (lv_args 0 as) [] mem (v, mem')) : fr_T (k + 1) f as mem v mem' := by
  obtain ⟨N0, n0, hk⟩ := kk
  refine ⟨N0 + n0, fun N d => ?_⟩
  show fx_call gk_fty gk_mci gk_P (N + (N0 + n0) + 100) ((d + k) + 1) f as mem = _
  unfold fx_call
  rw [hM]
  dsimp only
  rw [hc]
  have h := hk (N + n0) d (N + N0 + 100)
  rw [show N + n0 + N0 + 100 = N + (N0 + n0) + 100 by omega, show N + N0 + 100 + n0 = N + (N0 + n0) + 100 by omega] at h
  exact h
end FR
/-- the contract of a method by its call -/
theorem fr_Met {l : Launch} {D : va_G} {k f : Nat} {as : List Value} {mem mem' : fx_M} {r : Option Value} (h : fr_T k f as mem r mem') : ∀ q : rk_N, gk_MN[f]? = some q → ∃ M, gk_P[f]? = some M ∧ M.2.1 ≤ 21 ∧ ∀ (ps : fx_P) (sz : Nat), Met l q.2.1 (Jvm.Cond.code q.2.1 q.2.2 M.2.1 M.2.2.2.2.1 :: gk_tbl) { frames := k + 4, cells := 0, slots := 0, locals := 40 * (k + 4) } (fx_Pre D ps mem sz as) (fx_Post D ps mem' r (va_A (fx_w ps mem) sz)) 0 0 (va_A (fx_w ps mem) sz) := by
  obtain ⟨N0, h⟩ := h
  have h1 := h 0 0
  rw [Nat.zero_add k] at h1
  exact fx_call_ok gk_rok _ k f as mem mem' r h1
