section MH16_0
abbrev hm_call (N d : Nat) : fx_Ca := hx_call gk_fty gk_mci gk_P N d
/-! ===== fr: runs and calls of the program, with fuel and depth as wanted ===== -/
def hr_R (k : Nat) (M : rk_M2) (pc : Nat) (lc : fx_L) (stk : List Value) (mem : fx_M) (R : Option Value × fx_M) : Prop := ∃ N0 n0 : Nat, ∀ N d n : Nat, hx_run (hm_call (N + N0 + 100) (d + k)) gk_fty gk_mci M (n + n0) pc lc stk mem = some R
def hr_T (k f : Nat) (as : List Value) (mem : fx_M) (r : Option Value) (mem' : fx_M) : Prop := ∃ N0 : Nat, ∀ N d : Nat, hm_call (N + N0 + 100) (d + k) f as mem = some (r, mem')
section HFR
variable {k pc : Nat} {M : rk_M2} {lc : fx_L} {stk r as : List Value} {mem : fx_M} {R : Option Value × fx_M}
/-- steps that are plain -/
theorem hr_s (j : Nat) {pc' : Nat} {lc' : fx_L} {stk' : List Value} {mem' : fx_M} (h : ∀ N d n : Nat, hx_run (hm_call (N + 100) (d + k)) gk_fty gk_mci M (n + j) pc lc stk mem = hx_run (hm_call (N + 100) (d + k)) gk_fty gk_mci M n pc' lc' stk' mem') (kk : hr_R k M pc' lc' stk' mem' R) : hr_R k M pc lc stk mem R := by
  obtain ⟨N0, n0, hk⟩ := kk
  refine ⟨N0, n0 + j, fun N d n => ?_⟩
  rw [← Nat.add_assoc, h (N + N0) d (n + n0)]
  exact hk N d n
theorem hr_ret {v : Option Value} {ins : Instr} {len : Nat} (hat : tk_at M.1 pc = some (pc, ins, len)) (hl : rk_len ins len = true) (he : fx_end M.2.2.2.2.1 ins stk = some (some v)) : hr_R k M pc lc stk mem (v, mem) := by
  refine ⟨0, 1, fun N d n => ?_⟩
  show hx_run _ _ _ _ (n + 1) _ _ _ _ = _
  unfold hx_run
  rw [hat]
  dsimp only
  rw [hl, he]
  rfl
theorem hr_1 {pc' : Nat} {lc' : fx_L} {stk' : List Value} {mem' : fx_M} (h : ∀ (call : fx_Ca) (n : Nat), hx_run call gk_fty gk_mci M (n + 1) pc lc stk mem = hx_run call gk_fty gk_mci M n pc' lc' stk' mem') (kk : hr_R k M pc' lc' stk' mem' R) : hr_R k M pc lc stk mem R := by
  obtain ⟨N0, n0, hk⟩ := kk
  refine ⟨N0, n0 + 1, fun N d n => ?_⟩
  rw [← Nat.add_assoc, h]
  exact hk N d n
theorem hr_ldI {i : Int32} {j len : Nat} {f : Nat → Int32} (hat : tk_at M.1 pc = some (pc, .iaload, 1)) (hj : mem[j]? = some (.inr (.int, len, .inl f))) (hin : fx_in i len = true) (kk : hr_R k M (pc + 1) lc (.int (f i.toNatClampNeg) :: r) mem R) : hr_R k M pc lc (.int i :: .ref j :: r) mem R := hr_1 (fun _ _ => hx_ldI hat hj hin) kk
theorem hr_ldB {i : Int32} {j len : Nat} {f : Nat → Int32} (hat : tk_at M.1 pc = some (pc, .baload, 1)) (hj : mem[j]? = some (.inr (.byte, len, .inl f))) (hin : fx_in i len = true) (kk : hr_R k M (pc + 1) lc (.int (f i.toNatClampNeg) :: r) mem R) : hr_R k M pc lc (.int i :: .ref j :: r) mem R := hr_1 (fun _ _ => hx_ldB hat hj hin) kk
theorem hr_ldL {i : Int32} {j len : Nat} {f : Nat → Int64} (hat : tk_at M.1 pc = some (pc, .laload, 1)) (hj : mem[j]? = some (.inr (.long, len, .inr (.inl f)))) (hin : fx_in i len = true) (kk : hr_R k M (pc + 1) lc (.long (f i.toNatClampNeg) :: r) mem R) : hr_R k M pc lc (.int i :: .ref j :: r) mem R := hr_1 (fun _ _ => hx_ldL hat hj hin) kk
theorem hr_stI {i v : Int32} {j len : Nat} {f : Nat → Int32} {mem' : fx_M} (hat : tk_at M.1 pc = some (pc, .iastore, 1)) (hj : mem[j]? = some (.inr (.int, len, .inl f))) (hin : fx_in i len = true) (hm : mem.set j (.inr (.int, len, .inl (upd f i.toNatClampNeg v))) = mem') (kk : hr_R k M (pc + 1) lc r mem' R) : hr_R k M pc lc (.int v :: .int i :: .ref j :: r) mem R := hr_1 (fun _ _ => hx_stI hat hj hin hm) kk
theorem hr_stL {i : Int32} {v : Int64} {j len : Nat} {f : Nat → Int64} {mem' : fx_M} (hat : tk_at M.1 pc = some (pc, .lastore, 1)) (hj : mem[j]? = some (.inr (.long, len, .inr (.inl f)))) (hin : fx_in i len = true) (hm : mem.set j (.inr (.long, len, .inr (.inl (vp_updL f i.toNatClampNeg v)))) = mem') (kk : hr_R k M (pc + 1) lc r mem' R) : hr_R k M pc lc (.long v :: .int i :: .ref j :: r) mem R := hr_1 (fun _ _ => hx_stL hat hj hin hm) kk
theorem hr_ivV {idx kd f na j k' : Nat} {o : Nat × List Value} {v : Option Value} {mem' : fx_M} (hc : hr_T k' f (.ref j :: as) mem v mem') (hk : k' ≤ k) (hat : tk_at M.1 pc = some (pc, .invokevirtual idx, 3)) (hlk : rk_lk M.2.2.1 idx = some (kd, f, na)) (hkd : (Nat.beq kd 5 || Nat.beq kd 6) = true) (hpop : fx_pops na [] stk = some (as, .ref j :: r)) (hj : mem[j]? = some (.inl o)) (hsum : (Nat.ble (fx_sum r) 8 && decide (gk_mci[f]? = some o.1)) = true) (kk : hr_R k M (pc + 3) lc (v.toList ++ r) mem' R) : hr_R k M pc lc stk mem R := by
  obtain ⟨N1, hc⟩ := hc
  obtain ⟨N0, n0, hk2⟩ := kk
  refine ⟨N0 + N1, n0 + 1, fun N d n => ?_⟩
  have e1 : N + (N0 + N1) + 100 = (N + N0) + N1 + 100 := by omega
  have e2 : N + (N0 + N1) + 100 = (N + N1) + N0 + 100 := by omega
  have hc2 := hc (N + N0) (d + (k - k'))
  rw [← e1, show d + (k - k') + k' = d + k by omega] at hc2
  rw [show n + (n0 + 1) = (n + n0) + 1 by omega, hx_ivV hat hlk hkd hpop hj hsum hc2, e2]
  exact hk2 (N + N1) d n
theorem hr_ivS {idx kd f na k' : Nat} {v : Option Value} {mem' : fx_M} (hc : hr_T k' f as mem v mem') (hk : k' ≤ k) (hat : tk_at M.1 pc = some (pc, .invokestatic idx, 3)) (hlk : rk_lk M.2.2.1 idx = some (kd, f, na)) (hkd : (Nat.beq kd 7 || Nat.beq kd 8) = true) (hpop : fx_pops na [] stk = some (as, r)) (hsum : Nat.ble (fx_sum r) 8 = true) (kk : hr_R k M (pc + 3) lc (v.toList ++ r) mem' R) : hr_R k M pc lc stk mem R := by
  obtain ⟨N1, hc⟩ := hc
  obtain ⟨N0, n0, hk2⟩ := kk
  refine ⟨N0 + N1, n0 + 1, fun N d n => ?_⟩
  have e1 : N + (N0 + N1) + 100 = (N + N0) + N1 + 100 := by omega
  have e2 : N + (N0 + N1) + 100 = (N + N1) + N0 + 100 := by omega
  have hc2 := hc (N + N0) (d + (k - k'))
  rw [← e1, show d + (k - k') + k' = d + k by omega] at hc2
  rw [show n + (n0 + 1) = (n + n0) + 1 by omega, hx_ivS hat hlk hkd hpop hsum hc2, e2]
  exact hk2 (N + N1) d n
theorem hr_meth {f : Nat} {v : Option Value} {mem' : fx_M} (hM : gk_P[f]? = some M) (hc : (Nat.ble M.2.1 21 && Nat.ble (fx_sum as) M.2.1) = true) (kk : hr_R k M 0 (lv_args 0 as) [] mem (v, mem')) : hr_T (k + 1) f as mem v mem' := by
  obtain ⟨N0, n0, hk⟩ := kk
  refine ⟨N0 + n0, fun N d => ?_⟩
  show hx_call gk_fty gk_mci gk_P (N + (N0 + n0) + 100) ((d + k) + 1) f as mem = _
  unfold hx_call
  rw [hM]
  dsimp only
  rw [hc]
  have h := hk (N + n0) d (N + N0 + 100)
  rw [show N + n0 + N0 + 100 = N + (N0 + n0) + 100 by omega, show N + N0 + 100 + n0 = N + (N0 + n0) + 100 by omega] at h
  exact h
theorem hr_ldA {i : Int32} {j len : Nat} {ty : FieldType} {f : Nat → Option Nat} (hat : tk_at M.1 pc = some (pc, .aaload, 1)) (hj : mem[j]? = some (.inr (ty, len, .inr (.inr (.inr (.inr f)))))) (hin : fx_in i len = true) (hro : hx_ro ty = true) (kk : hr_R k M (pc + 1) lc (va_rf (f i.toNatClampNeg) :: r) mem R) : hr_R k M pc lc (.int i :: .ref j :: r) mem R := hr_1 (fun call n => hx_ldA hat hj hin hro) kk
theorem hr_stB {i v : Int32} {j len : Nat} {f : Nat → Int32} {mem' : fx_M} (hat : tk_at M.1 pc = some (pc, .bastore, 1)) (hj : mem[j]? = some (.inr (.byte, len, .inl f))) (hin : fx_in i len = true) (hm : mem.set j (.inr (.byte, len, .inl (upd f i.toNatClampNeg v.toInt8.toInt32))) = mem') (kk : hr_R k M (pc + 1) lc r mem' R) : hr_R k M pc lc (.int v :: .int i :: .ref j :: r) mem R := hr_1 (fun call n => hx_stB hat hj hin hm) kk
theorem hr_len {j : Nat} {ty : FieldType} {z : vp_A} (hat : tk_at M.1 pc = some (pc, .arraylength, 1)) (hj : mem[j]? = some (.inr (ty, z))) (kk : hr_R k M (pc + 1) lc (.int (Int32.ofNat z.1) :: r) mem R) : hr_R k M pc lc (.ref j :: r) mem R := hr_1 (fun call n => hx_one (z := (pc + 1, lc, .int (Int32.ofNat z.1) :: r, mem)) hat rfl rfl (by
    show hx_al (pc + 1) lc (.ref j :: r) mem = _
    unfold hx_al
    dsimp only
    rw [hj])) kk
theorem hr_cpL {idx a b : Nat} {x dp sp : Int32} {j0 j1 n0 n1 : Nat} {f g : Nat → Int64} {mem' : fx_M} (hat : tk_at M.1 pc = some (pc, .invokestatic idx, 3)) (hlk : rk_lk M.2.2.1 idx = some (12, a, b)) (h0 : mem[j0]? = some (.inr (.long, n0, .inr (.inl f)))) (h1 : mem[j1]? = some (.inr (.long, n1, .inr (.inl g)))) (hsum : Nat.ble (fx_sum r) 8 = true) (hc : hx_cc x dp sp n0 n1 = true) (hm : mem.set j1 (.inr (.long, n1, .inr (.inl (va_cpy f g sp.toNatClampNeg dp.toNatClampNeg x.toNatClampNeg)))) = mem') (kk : hr_R k M (pc + 3) lc r mem' R) : hr_R k M pc lc (.int x :: .int dp :: .ref j1 :: .int sp :: .ref j0 :: r) mem R := hr_1 (fun call n => hx_cpL hat hlk h0 h1 hsum hc hm) kk
theorem hr_cpI {idx a b : Nat} {x dp sp : Int32} {j0 j1 n0 n1 : Nat} {f g : Nat → Int32} {mem' : fx_M} (hat : tk_at M.1 pc = some (pc, .invokestatic idx, 3)) (hlk : rk_lk M.2.2.1 idx = some (12, a, b)) (h0 : mem[j0]? = some (.inr (.int, n0, .inl f))) (h1 : mem[j1]? = some (.inr (.int, n1, .inl g))) (hsum : Nat.ble (fx_sum r) 8 = true) (hc : hx_cc x dp sp n0 n1 = true) (hm : mem.set j1 (.inr (.int, n1, .inl (va_cpy f g sp.toNatClampNeg dp.toNatClampNeg x.toNatClampNeg))) = mem') (kk : hr_R k M (pc + 3) lc r mem' R) : hr_R k M pc lc (.int x :: .int dp :: .ref j1 :: .int sp :: .ref j0 :: r) mem R := hr_1 (fun call n => hx_cpI hat hlk h0 h1 hsum hc hm) kk
theorem hr_retz {x : Int32} (hx : x = 0 ∨ x = 1) (hat : tk_at M.1 pc = some (pc, .ireturn, 1)) (hr : M.2.2.2.2.1 = some .boolean) : hr_R k M pc lc [.int x] mem (some (.int x), mem) := hr_ret hat rfl (by rw [hr]; rcases hx with rfl | rfl <;> rfl)
end HFR
end MH16_0
section MH16_1
/-! ===== fe: a run that ends in one of several ways ===== -/
def he_R (k : Nat) (M : rk_M2) (pc : Nat) (lc : fx_L) (stk : List Value) (mem : fx_M) (F : Option Value × fx_M → Prop) : Prop := ∃ R, F R ∧ hr_R k M pc lc stk mem R
section HFE
variable {k pc : Nat} {M : rk_M2} {lc : fx_L} {stk r as : List Value} {mem : fx_M} {F : Option Value × fx_M → Prop}
theorem he_of {k' pc' : Nat} {M' : rk_M2} {lc' : fx_L} {stk' : List Value} {mem' : fx_M} (h : ∀ R, hr_R k' M' pc' lc' stk' mem' R → hr_R k M pc lc stk mem R) (kk : he_R k' M' pc' lc' stk' mem' F) : he_R k M pc lc stk mem F := by
  obtain ⟨R, h1, h2⟩ := kk
  exact ⟨R, h1, h R h2⟩
theorem he_s (j : Nat) {pc' : Nat} {lc' : fx_L} {stk' : List Value} {mem' : fx_M} (h : ∀ N d n : Nat, hx_run (hm_call (N + 100) (d + k)) gk_fty gk_mci M (n + j) pc lc stk mem = hx_run (hm_call (N + 100) (d + k)) gk_fty gk_mci M n pc' lc' stk' mem') (kk : he_R k M pc' lc' stk' mem' F) : he_R k M pc lc stk mem F := he_of (fun _ z => hr_s j h z) kk
theorem he_ret {v : Option Value} {ins : Instr} {len : Nat} (hF : F (v, mem)) (hat : tk_at M.1 pc = some (pc, ins, len)) (hl : rk_len ins len = true) (he : fx_end M.2.2.2.2.1 ins stk = some (some v)) : he_R k M pc lc stk mem F := ⟨_, hF, hr_ret hat hl he⟩
theorem he_retz {x : Int32} (hF : F (some (.int x), mem)) (hx : x = 0 ∨ x = 1) (hat : tk_at M.1 pc = some (pc, .ireturn, 1)) (hr : M.2.2.2.2.1 = some .boolean) : he_R k M pc lc [.int x] mem F := ⟨_, hF, hr_retz hx hat hr⟩
theorem he_ldI {i : Int32} {j len : Nat} {f : Nat → Int32} (hat : tk_at M.1 pc = some (pc, .iaload, 1)) (hj : mem[j]? = some (.inr (.int, len, .inl f))) (hin : fx_in i len = true) (kk : he_R k M (pc + 1) lc (.int (f i.toNatClampNeg) :: r) mem F) : he_R k M pc lc (.int i :: .ref j :: r) mem F := he_of (fun _ z => hr_ldI hat hj hin z) kk
theorem he_ldB {i : Int32} {j len : Nat} {f : Nat → Int32} (hat : tk_at M.1 pc = some (pc, .baload, 1)) (hj : mem[j]? = some (.inr (.byte, len, .inl f))) (hin : fx_in i len = true) (kk : he_R k M (pc + 1) lc (.int (f i.toNatClampNeg) :: r) mem F) : he_R k M pc lc (.int i :: .ref j :: r) mem F := he_of (fun _ z => hr_ldB hat hj hin z) kk
theorem he_ldL {i : Int32} {j len : Nat} {f : Nat → Int64} (hat : tk_at M.1 pc = some (pc, .laload, 1)) (hj : mem[j]? = some (.inr (.long, len, .inr (.inl f)))) (hin : fx_in i len = true) (kk : he_R k M (pc + 1) lc (.long (f i.toNatClampNeg) :: r) mem F) : he_R k M pc lc (.int i :: .ref j :: r) mem F := he_of (fun _ z => hr_ldL hat hj hin z) kk
theorem he_stI {i v : Int32} {j len : Nat} {f : Nat → Int32} {mem' : fx_M} (hat : tk_at M.1 pc = some (pc, .iastore, 1)) (hj : mem[j]? = some (.inr (.int, len, .inl f))) (hin : fx_in i len = true) (hm : mem.set j (.inr (.int, len, .inl (upd f i.toNatClampNeg v))) = mem') (kk : he_R k M (pc + 1) lc r mem' F) : he_R k M pc lc (.int v :: .int i :: .ref j :: r) mem F := he_of (fun _ z => hr_stI hat hj hin hm z) kk
theorem he_stL {i : Int32} {v : Int64} {j len : Nat} {f : Nat → Int64} {mem' : fx_M} (hat : tk_at M.1 pc = some (pc, .lastore, 1)) (hj : mem[j]? = some (.inr (.long, len, .inr (.inl f)))) (hin : fx_in i len = true) (hm : mem.set j (.inr (.long, len, .inr (.inl (vp_updL f i.toNatClampNeg v)))) = mem') (kk : he_R k M (pc + 1) lc r mem' F) : he_R k M pc lc (.long v :: .int i :: .ref j :: r) mem F := he_of (fun _ z => hr_stL hat hj hin hm z) kk
theorem he_ivV {idx kd f na j k' : Nat} {o : Nat × List Value} {v : Option Value} {mem' : fx_M} (hc : hr_T k' f (.ref j :: as) mem v mem') (hk : k' ≤ k) (hat : tk_at M.1 pc = some (pc, .invokevirtual idx, 3)) (hlk : rk_lk M.2.2.1 idx = some (kd, f, na)) (hkd : (Nat.beq kd 5 || Nat.beq kd 6) = true) (hpop : fx_pops na [] stk = some (as, .ref j :: r)) (hj : mem[j]? = some (.inl o)) (hsum : (Nat.ble (fx_sum r) 8 && decide (gk_mci[f]? = some o.1)) = true) (kk : he_R k M (pc + 3) lc (v.toList ++ r) mem' F) : he_R k M pc lc stk mem F := he_of (fun _ z => hr_ivV hc hk hat hlk hkd hpop hj hsum z) kk
theorem he_ivS {idx kd f na k' : Nat} {v : Option Value} {mem' : fx_M} (hc : hr_T k' f as mem v mem') (hk : k' ≤ k) (hat : tk_at M.1 pc = some (pc, .invokestatic idx, 3)) (hlk : rk_lk M.2.2.1 idx = some (kd, f, na)) (hkd : (Nat.beq kd 7 || Nat.beq kd 8) = true) (hpop : fx_pops na [] stk = some (as, r)) (hsum : Nat.ble (fx_sum r) 8 = true) (kk : he_R k M (pc + 3) lc (v.toList ++ r) mem' F) : he_R k M pc lc stk mem F := he_of (fun _ z => hr_ivS hc hk hat hlk hkd hpop hsum z) kk
theorem he_meth {f : Nat} (hM : gk_P[f]? = some M) (hc : (Nat.ble M.2.1 21 && Nat.ble (fx_sum as) M.2.1) = true) (kk : he_R k M 0 (lv_args 0 as) [] mem F) : ∃ (v : Option Value) (mem' : fx_M), F (v, mem') ∧ hr_T (k + 1) f as mem v mem' := by
  obtain ⟨R, h1, h2⟩ := kk
  exact ⟨R.1, R.2, h1, hr_meth hM hc h2⟩
theorem he_ldA {i : Int32} {j len : Nat} {ty : FieldType} {f : Nat → Option Nat} (hat : tk_at M.1 pc = some (pc, .aaload, 1)) (hj : mem[j]? = some (.inr (ty, len, .inr (.inr (.inr (.inr f)))))) (hin : fx_in i len = true) (hro : hx_ro ty = true) (kk : he_R k M (pc + 1) lc (va_rf (f i.toNatClampNeg) :: r) mem F) : he_R k M pc lc (.int i :: .ref j :: r) mem F := he_of (fun _ z => hr_ldA hat hj hin hro z) kk
theorem he_stB {i v : Int32} {j len : Nat} {f : Nat → Int32} {mem' : fx_M} (hat : tk_at M.1 pc = some (pc, .bastore, 1)) (hj : mem[j]? = some (.inr (.byte, len, .inl f))) (hin : fx_in i len = true) (hm : mem.set j (.inr (.byte, len, .inl (upd f i.toNatClampNeg v.toInt8.toInt32))) = mem') (kk : he_R k M (pc + 1) lc r mem' F) : he_R k M pc lc (.int v :: .int i :: .ref j :: r) mem F := he_of (fun _ z => hr_stB hat hj hin hm z) kk
theorem he_len {j : Nat} {ty : FieldType} {z : vp_A} (hat : tk_at M.1 pc = some (pc, .arraylength, 1)) (hj : mem[j]? = some (.inr (ty, z))) (kk : he_R k M (pc + 1) lc (.int (Int32.ofNat z.1) :: r) mem F) : he_R k M pc lc (.ref j :: r) mem F := he_of (fun _ z => hr_len hat hj z) kk
theorem he_cpL {idx a b : Nat} {x dp sp : Int32} {j0 j1 n0 n1 : Nat} {f g : Nat → Int64} {mem' : fx_M} (hat : tk_at M.1 pc = some (pc, .invokestatic idx, 3)) (hlk : rk_lk M.2.2.1 idx = some (12, a, b)) (h0 : mem[j0]? = some (.inr (.long, n0, .inr (.inl f)))) (h1 : mem[j1]? = some (.inr (.long, n1, .inr (.inl g)))) (hsum : Nat.ble (fx_sum r) 8 = true) (hc : hx_cc x dp sp n0 n1 = true) (hm : mem.set j1 (.inr (.long, n1, .inr (.inl (va_cpy f g sp.toNatClampNeg dp.toNatClampNeg x.toNatClampNeg)))) = mem') (kk : he_R k M (pc + 3) lc r mem' F) : he_R k M pc lc (.int x :: .int dp :: .ref j1 :: .int sp :: .ref j0 :: r) mem F := he_of (fun _ z => hr_cpL hat hlk h0 h1 hsum hc hm z) kk
theorem hr_w {lc' : fx_L} {R : Option Value × fx_M} (hs : fx_sub lc' lc) (h1 : fx_nd lc') (h2 : fx_nd lc) (h : hr_R k M pc lc' stk mem R) : hr_R k M pc lc stk mem R := by
  obtain ⟨N0, n0, hk⟩ := h
  exact ⟨N0, n0, fun N d n => hx_w_run _ _ _ _ _ _ _ _ _ _ _ ⟨fx_sub_ok hs, h1, h2⟩ (hk N d n)⟩
/-- fewer locals, or in another order -/
theorem he_w {lc' : fx_L} (hs : fx_sub lc' lc) (h1 : fx_nd lc') (h2 : fx_nd lc) (kk : he_R k M pc lc' stk mem F) : he_R k M pc lc stk mem F := he_of (fun _ z => hr_w hs h1 h2 z) kk
end HFE
end MH16_1
section MH16_2
/-! ===== the class's world as a memory of hx ===== -/
theorem arrV_congr {cI : ClassId} {N : Nat} {f g : Nat → Value} (h : ∀ j, j < N → f j = g j) : arrV cI N f = arrV cI N g := by
  unfold arrV
  have e : (fun j : Fin N => f j.val) = (fun j : Fin N => g j.val) := funext (fun j => h j.val j.isLt)
  rw [e]
/-- the place of an address -/
def hc_ix : List Nat → Nat → Nat
  | [], _ => 0
  | a :: r, y => if a = y then 0 else hc_ix r y + 1
theorem hc_ix_ok {y : Nat} : ∀ {l : List Nat}, y ∈ l → l[hc_ix l y]? = some y := by
  intro l
  induction l with
  | nil => intro h; exact absurd h List.not_mem_nil
  | cons a r ih =>
    intro h
    unfold hc_ix
    by_cases e : a = y
    · rw [if_pos e, e]; rfl
    · rw [if_neg e]
      rcases List.mem_cons.mp h with h | h
      · exact absurd h.symm e
      · rw [List.getElem?_cons_succ]; exact ih h
theorem hc_ix_at {l : List Nat} {j y : Nat} (hd : ∀ i k : Nat, ∀ x, l[i]? = some x → l[k]? = some x → i = k) (h : l[j]? = some y) : hc_ix l y = j := hd _ _ y (hc_ix_ok (List.mem_of_getElem? h)) h
def hc_bk (ads : List Nat) (v : Value) : Value := match v with
  | .ref y => .ref (hc_ix ads y)
  | v => v
def hc_ad (ads : List Nat) (n : Nat) (f : Nat → Option Nat) : Nat → Option Nat := fun i => if i < n then (f i).map (hc_ix ads) else none
def hc_z (ads : List Nat) (z : vp_A) : vp_A := match z.2 with
  | .inr (.inr (.inr (.inr f))) => (z.1, .inr (.inr (.inr (.inr (hc_ad ads z.1 f)))))
  | _ => z
def hc_ft (t : Nat) : FieldType := match gc_ty[t]? with
  | some (.inr q) => q.1
  | _ => .int
def hc_e (ads : List Nat) (t : Nat) (e : va_E) : fx_E := match e with
  | .inr o => .inl (o.1, o.2.map (hc_bk ads))
  | .inl q => .inr (hc_ft t, hc_z ads q.2)
def hc_cl (e : va_E) : ClassId := match e with
  | .inl q => q.1
  | .inr _ => (0 : Nat)
def hc_mem (ads tw : List Nat) (ws : va_W) : fx_M := List.zipWith (fun t (q : Nat × va_E) => hc_e ads t q.2) tw ws
def hc_ps (ws : va_W) : fx_P := ws.map (fun q => (q.1, hc_cl q.2))
/-- the world out of its memory -/
def hc_w (ads tw : List Nat) (ws : va_W) : va_W := fx_w (hc_ps ws) (hc_mem ads tw ws)
section HCI
variable {ads tw : List Nat} {ws : va_W} {U : State}
theorem hc_ps_at {j : Nat} {q : Nat × va_E} (h : ws[j]? = some q) : (hc_ps ws)[j]? = some (q.1, hc_cl q.2) := by
  unfold hc_ps
  rw [List.getElem?_map, h]
  rfl
theorem hc_mem_at {j t : Nat} {q : Nat × va_E} (h : ws[j]? = some q) (ht : tw[j]? = some t) : (hc_mem ads tw ws)[j]? = some (hc_e ads t q.2) := by
  unfold hc_mem
  rw [List.getElem?_zipWith, h, ht]
theorem hc_mem_len (hl : ws.length = tw.length) : (hc_mem ads tw ws).length = ws.length := by
  unfold hc_mem
  rw [List.length_zipWith, hl, Nat.min_self]
theorem hc_ps_len : (hc_ps ws).length = ws.length := List.length_map ..
theorem hc_fad (h4 : ws.map Prod.fst = ads) {y : Nat} (h : y ∈ ads) : fx_ad (hc_ps ws) (hc_ix ads y) = y := by
  have h1 := hc_ix_ok h
  rw [← h4, List.getElem?_map] at h1
  obtain ⟨q, hq, e⟩ := Option.map_eq_some_iff.mp h1
  unfold fx_ad
  rw [h4] at hq
  rw [hc_ps_at hq]
  exact e
theorem tk_ty_mem {t y : Nat} (h : tk_ty ads tw t y) : y ∈ ads := by
  obtain ⟨j, h1, -⟩ := h
  exact List.mem_of_getElem? h1
theorem hc_fv (h4 : ws.map Prod.fst = ads) {reg : Nat → Nat → tk_I} {t i : Nat} {f : tk_F} {v : Value} (h : tk_fv lc_ro reg ads tw t i f v) : fx_v (hc_ps ws) (hc_bk ads v) = v := by
  unfold tk_fv at h
  split at h
  all_goals first
    | exact h.elim
    | (obtain ⟨x, rfl, -⟩ := h; rfl)
    | (obtain ⟨y, rfl, hy⟩ := h
       show Value.ref (fx_ad (hc_ps ws) (hc_ix ads y)) = _
       rw [hc_fad h4 (tk_ty_mem hy)])
/-- a cell out of its entry: the same, but for what stands behind a row's end -/
theorem hc_c (h4 : ws.map Prod.fst = ads) {t : Nat} {e : va_E} (hc : tk_cl gc_TY lc_ro ads tw U t e) (ht : t < gc_ty.length) : (∀ i, tk_pos (fx_c (hc_ps ws) (hc_cl e) (hc_e ads t e)) i = tk_pos e i) ∧ (∀ (D : va_G) (a : Nat) (H : Heap), va_at D gk_cl (a, e) H → va_at D gk_cl (a, fx_c (hc_ps ws) (hc_cl e) (hc_e ads t e)) H) ∧ tk_cl gc_TY lc_ro ads tw U t (fx_c (hc_ps ws) (hc_cl e) (hc_e ads t e)) ∧ ∀ (ty : FieldType) (z : vp_A), hc_e ads t e = .inr (ty, z) → ArrOfT U (hc_cl e) ty ∧ va_RA U (hc_cl e) ty := by
  unfold tk_cl at hc
  have hk : gc_TY.1[t]? = some gc_ty[t] := List.getElem?_eq_getElem ht
  have hk2 : gc_ty[t]? = some gc_ty[t] := hk
  rw [hk] at hc
  cases hT : gc_ty[t] with
  | inl o =>
    rw [hT] at hc hk hk2
    obtain ⟨vs, rfl, hl, hvs⟩ := hc
    have e1 : fx_c (hc_ps ws) (hc_cl (.inr (o.1, vs))) (hc_e ads t (.inr (o.1, vs))) = .inr (o.1, vs) := by
      show (Sum.inr (o.1, (vs.map (hc_bk ads)).map (fx_v (hc_ps ws))) : va_E) = .inr (o.1, vs)
      congr 2
      apply List.ext_getElem?
      intro i
      rw [List.getElem?_map, List.getElem?_map]
      cases hi : vs[i]? with
      | none => rfl
      | some v =>
        have hlt : i < o.2.length := by rw [← hl]; exact (List.getElem?_eq_some_iff.mp hi).1
        have := hvs i _ v (List.getElem?_eq_getElem hlt) hi
        show some (fx_v (hc_ps ws) (hc_bk ads v)) = some v
        rw [hc_fv h4 this]
    rw [e1]
    refine ⟨fun _ => rfl, fun _ _ _ h => h, ?_, fun ty z h => nomatch h⟩
    unfold tk_cl
    rw [hk]
    exact ⟨vs, rfl, hl, hvs⟩
  | inr q =>
    rw [hT] at hc hk hk2
    obtain ⟨cA, g1, g2, g3⟩ := hc
    have hft : hc_ft t = q.1 := by unfold hc_ft; rw [hk2]
    have fin : ∀ z : vp_A, e = .inl (cA, z) → ∀ (ty : FieldType) (z' : vp_A), hc_e ads t e = .inr (ty, z') → ArrOfT U (hc_cl e) ty ∧ va_RA U (hc_cl e) ty := by
      rintro z rfl ty z' h
      have h : (Sum.inr (hc_ft t, hc_z ads z) : fx_E) = .inr (ty, z') := h
      cases h
      rw [hft]
      exact ⟨g1, g2⟩
    have hq3 : ∀ n, q.1 = n → q.1 = n := fun _ h => h
    unfold tk_ar at g3
    have refs : ∀ f : Nat → Option Nat, e = .inl (cA, q.2.1, .inr (.inr (.inr (.inr f)))) → (∀ i, i < q.2.1 → tk_fv lc_ro gc_TY.2.1 ads tw t i q.2.2 (va_rf (f i))) → (∀ i, tk_pos (fx_c (hc_ps ws) (hc_cl e) (hc_e ads t e)) i = tk_pos e i) ∧ (∀ (D : va_G) (a : Nat) (H : Heap), va_at D gk_cl (a, e) H → va_at D gk_cl (a, fx_c (hc_ps ws) (hc_cl e) (hc_e ads t e)) H) ∧ fx_c (hc_ps ws) (hc_cl e) (hc_e ads t e) = .inl (cA, q.2.1, .inr (.inr (.inr (.inr (fun i => ((hc_ad ads q.2.1 f) i).map (fx_ad (hc_ps ws))))))) ∧ ∀ i, i < q.2.1 → va_rf (((hc_ad ads q.2.1 f) i).map (fx_ad (hc_ps ws))) = va_rf (f i) := by
      rintro f rfl hf
      have key : ∀ i, i < q.2.1 → va_rf (((hc_ad ads q.2.1 f) i).map (fx_ad (hc_ps ws))) = va_rf (f i) := fun i hi => by
        have h1 := hc_fv h4 (hf i hi)
        unfold hc_ad
        rw [if_pos hi]
        cases hfi : f i with
        | none => rfl
        | some y =>
          rw [hfi] at h1
          exact h1
      refine ⟨fun i => ?_, fun D a H h => ?_, rfl, key⟩
      · show (if i < q.2.1 then some (va_rf (((hc_ad ads q.2.1 f) i).map (fx_ad (hc_ps ws)))) else none) = (if i < q.2.1 then some (va_rf (f i)) else none)
        by_cases hi : i < q.2.1
        · rw [if_pos hi, if_pos hi, key i hi]
        · rw [if_neg hi, if_neg hi]
      · have h : H[a]? = some (arrV cA q.2.1 (fun j => va_rf (f j))) := h
        show H[a]? = some (arrV cA q.2.1 (fun j => va_rf (((hc_ad ads q.2.1 f) j).map (fx_ad (hc_ps ws)))))
        rw [h, arrV_congr key]
    split at g3
    · obtain ⟨f, rfl, hf⟩ := g3
      refine ⟨fun _ => rfl, fun _ _ _ h => h, ?_, fin _ rfl⟩
      show tk_cl gc_TY lc_ro ads tw U t (.inl (cA, q.2.1, .inl f))
      unfold tk_cl
      rw [hk]
      refine ⟨cA, g1, g2, ?_⟩
      unfold tk_ar
      rename_i e0
      rw [e0]
      exact ⟨f, rfl, hf⟩
    · obtain ⟨f, rfl, hf⟩ := g3
      refine ⟨fun _ => rfl, fun _ _ _ h => h, ?_, fin _ rfl⟩
      show tk_cl gc_TY lc_ro ads tw U t (.inl (cA, q.2.1, .inl f))
      unfold tk_cl
      rw [hk]
      refine ⟨cA, g1, g2, ?_⟩
      unfold tk_ar
      rename_i e0
      rw [e0]
      exact ⟨f, rfl, hf⟩
    · obtain ⟨f, rfl, hf⟩ := g3
      refine ⟨fun _ => rfl, fun _ _ _ h => h, ?_, fin _ rfl⟩
      show tk_cl gc_TY lc_ro ads tw U t (.inl (cA, q.2.1, .inr (.inl f)))
      unfold tk_cl
      rw [hk]
      refine ⟨cA, g1, g2, ?_⟩
      unfold tk_ar
      rename_i e0
      rw [e0]
      exact ⟨f, rfl, hf⟩
    · obtain ⟨f, e2, hf⟩ := g3
      obtain ⟨r1, r2, r3, r4⟩ := refs f e2 hf
      refine ⟨r1, r2, ?_, fin _ e2⟩
      rw [r3]
      unfold tk_cl
      rw [hk]
      refine ⟨cA, g1, g2, ?_⟩
      unfold tk_ar
      rename_i e0
      rw [e0]
      exact ⟨_, rfl, fun i hi => by rw [r4 i hi]; exact hf i hi⟩
    · obtain ⟨f, e2, hf⟩ := g3
      obtain ⟨r1, r2, r3, r4⟩ := refs f e2 hf
      refine ⟨r1, r2, ?_, fin _ e2⟩
      rw [r3]
      unfold tk_cl
      rw [hk]
      refine ⟨cA, g1, g2, ?_⟩
      unfold tk_ar
      rename_i e0
      rw [e0]
      exact ⟨_, rfl, fun i hi => by rw [r4 i hi]; exact hf i hi⟩
    · exact g3.elim
theorem hc_w_get (hl : ws.length = tw.length) {j : Nat} {q : Nat × va_E} (h : ws[j]? = some q) : ∃ t, tw[j]? = some t ∧ (hc_w ads tw ws)[j]? = some (q.1, fx_c (hc_ps ws) (hc_cl q.2) (hc_e ads t q.2)) := by
  have hlt : j < tw.length := by rw [← hl]; exact (List.getElem?_eq_some_iff.mp h).1
  have ht : tw[j]? = some tw[j] := List.getElem?_eq_getElem hlt
  refine ⟨_, ht, ?_⟩
  unfold hc_w fx_w
  rw [List.getElem?_zipWith, hc_ps_at h, hc_mem_at h ht]
theorem hc_w_len (hl : ws.length = tw.length) : (hc_w ads tw ws).length = ws.length := by
  unfold hc_w fx_w
  rw [List.length_zipWith, hc_ps_len, hc_mem_len hl, Nat.min_self]
theorem hc_w_inv (hl : ws.length = tw.length) {j : Nat} {q : Nat × va_E} (h : (hc_w ads tw ws)[j]? = some q) : ∃ (q0 : Nat × va_E) (t : Nat), ws[j]? = some q0 ∧ tw[j]? = some t ∧ q = (q0.1, fx_c (hc_ps ws) (hc_cl q0.2) (hc_e ads t q0.2)) := by
  have hlt : j < ws.length := by rw [← hc_w_len (ads := ads) hl]; exact (List.getElem?_eq_some_iff.mp h).1
  obtain ⟨t, ht, h2⟩ := hc_w_get (ads := ads) hl (List.getElem?_eq_getElem hlt)
  rw [h] at h2
  exact ⟨ws[j], t, List.getElem?_eq_getElem hlt, ht, Option.some.inj h2⟩
/-- a world with the same places -/
def hc_sm (ws ws' : va_W) : Prop := ∀ j : Nat, (∀ (y : Nat) (e : va_E), ws'[j]? = some (y, e) → ∃ e0, ws[j]? = some (y, e0) ∧ ∀ i, tk_pos e i = tk_pos e0 i)
theorem gc_X_sm {ws' : va_W} (h : hc_sm ws ws') (hX : gc_X tw ws) : gc_X tw ws' := by
  refine ⟨fun t to ta j jo ja y yo ya r e eo ea n x v h1 h2 h3 h4 h5 h6 h7 h8 h9 h10 h11 h12 h13 h14 h15 => ?_, fun t to ta j1 j2 y1 y2 yo k e1 e2 h1 h2 h3 h4 h5 h6 h7 h8 => ?_⟩
  · obtain ⟨f, k1, k2⟩ := h j y e h6
    obtain ⟨fo, k3, k4⟩ := h jo yo eo h7
    obtain ⟨fa, k5, k6⟩ := h ja ya ea h8
    rw [k2] at h9 h10 h11
    rw [k4] at h13
    rw [k6] at h14
    exact hX.1 t to ta j jo ja y yo ya r f fo fa n x v h1 h2 h3 h4 h5 k1 k3 k5 h9 h10 h11 h12 h13 h14 h15
  · obtain ⟨f1, k1, k2⟩ := h j1 y1 e1 h5
    obtain ⟨f2, k3, k4⟩ := h j2 y2 e2 h6
    rw [k2] at h7
    rw [k4] at h8
    exact hX.2 t to ta j1 j2 y1 y2 yo k f1 f2 h1 h2 h3 h4 k1 k3 h7 h8
end HCI
end MH16_2
section MH16_3
/-! ===== a call of the class by hx: what it gives, exactly ===== -/
/-- what a changed entry must be -/
def hc_chg (ads : List Nat) (t : Nat) (e e' : fx_E) : Prop := e' = e ∨ (∃ (kd : FieldType) (n : Nat) (f' : Nat → Int32) (fl : tk_F), (kd = .int ∨ kd = .byte) ∧ e' = .inr (kd, n, .inl f') ∧ gc_ty[t]? = some (.inr (kd, n, fl)) ∧ ∀ i : Nat, i < n → tk_fv lc_ro gc_reg ads lw_twC t i fl (.int (f' i))) ∨ (∃ (n : Nat) (f' : Nat → Int64) (fl : tk_F), e' = .inr (.long, n, .inr (.inl f')) ∧ gc_ty[t]? = some (.inr (.long, n, fl)) ∧ ∀ i : Nat, i < n → tk_fv lc_ro gc_reg ads lw_twC t i fl (.long (f' i))) ∨ (∃ (ci : Nat) (vs vs' : List Value), e = .inl (ci, vs) ∧ e' = .inl (ci, vs') ∧ vs'.length = vs.length ∧ ∀ (fs : List tk_F), gc_ty[t]? = some (.inl (ci, fs)) → ∀ (i : Nat) (f : tk_F), fs[i]? = some f → vs'[i]? = vs[i]? ∨ ∃ v, vs'[i]? = some v ∧ fx_kd v ≤ 1 ∧ tk_fv lc_ro gc_reg ads lw_twC t i f v)
theorem lw_twC_lt {j t : Nat} (h : lw_twC[j]? = some t) : t < gc_ty.length := by
  have hb : j < 270 := lw_ltC h
  have key : (List.range 270).all (fun j => match lw_twC[j]? with
    | some t => Nat.blt t gc_ty.length
    | none => true) = true := by decide +kernel
  have := List.all_eq_true.mp key j (List.mem_range.mpr hb)
  rw [h] at this
  exact Nat.le_of_ble_eq_true this
theorem hr_Met {l : Launch} {D : va_G} {xt : tk_XT} (hxt : tk_xtok xt) {k f : Nat} {as : List Value} {mem mem' : fx_M} {r : Option Value} (h : hr_T k f as mem r mem') : ∀ q : rk_N, gk_MN[f]? = some q → ∃ M, gk_P[f]? = some M ∧ M.2.1 ≤ 21 ∧ ∀ (ps : fx_P) (sz : Nat), Met l q.2.1 (Jvm.Cond.code q.2.1 q.2.2 M.2.1 M.2.2.2.2.1 :: gk_tbl) { frames := k + 4, cells := 0, slots := 0, locals := 40 * (k + 4) } (hx_Pre D xt ps mem sz as) (hx_Post D ps mem' r (va_A (fx_w ps mem) sz)) 0 0 (va_A (fx_w ps mem) sz) := by
  obtain ⟨N0, h⟩ := h
  have h1 := h 0 0
  rw [Nat.zero_add k] at h1
  exact hx_call_ok hxt gk_rok _ k f as mem mem' r h1
section HCS
variable {l : Launch} {D : va_G} {xt : tk_XT} {ads : List Nat} {X : va_W → Prop}
set_option maxHeartbeats 8000000 in
theorem hc_sem0 (hxt : tk_xtok xt) {k f : Nat} {kinds : List Nat} {envs : List tk_I} {Q : List Value → va_W → va_W → Value → Prop}
    (hex : ∀ (U : State) (ax : Nat) (rest : List Value) (ws : va_W), tk_ty ads lw_twC 0 ax → rk_A2 lq_av (kinds.zip envs) rest → rk_A2 (fun t (q : Nat × va_E) => tk_cl gc_TY lc_ro ads lw_twC U t q.2) lw_twC ws → ws.map Prod.fst = ads → va_D (fun _ => True) ws → X ws → ∃ (v : Value) (mem' : fx_M), fx_kd v ≤ 1 ∧ hr_T k f (.ref 0 :: rest) (hc_mem ads lw_twC ws) (some v) mem' ∧ mem'.length = ws.length ∧ (∀ (j t : Nat) (e e' : fx_E), lw_twC[j]? = some t → (hc_mem ads lw_twC ws)[j]? = some e → mem'[j]? = some e' → hc_chg ads t e e') ∧ X (fx_w (hc_ps ws) mem') ∧ Q rest ws (fx_w (hc_ps ws) mem') v) : lw_sem l D xt gc_TY X ads lw_twC (k + 4) f kinds envs Q := by
  intro qn hqn
  obtain ⟨M, hM, hM21⟩ := gk_row hqn
  refine ⟨M, hM, hM21, fun h0 ws rest sz hty hA2' h4 hob => rk_Met_case (fun aU U hP => ?_)⟩
  obtain ⟨p1, p2, p3, p4, p5, p6, p7, p8, p10⟩ := hP
  obtain ⟨v, mem', hvv, hfr, hlen, hchg, hX2, hQ⟩ := hex U h0 rest ws hty hA2' p6 h4 p5 p10
  obtain ⟨M2, hM2, -, hmet⟩ := hr_Met (l := l) (D := D) hxt hfr qn hqn
  obtain rfl : M = M2 := Option.some.inj (hM.symm.trans hM2)
  have hl : ws.length = lw_twC.length := p6.len.symm
  have hcell : ∀ {j t : Nat} {q : Nat × va_E}, ws[j]? = some q → lw_twC[j]? = some t → tk_cl gc_TY lc_ro ads lw_twC U t q.2 := fun {j t q} h1 h2 => by
    obtain ⟨q', h3, h5⟩ := p6.get h2
    rw [h1] at h3
    cases h3
    exact h5
  have hO : hx_ok U (hc_ps ws) (hc_mem ads lw_twC ws) := ⟨by rw [hc_mem_len hl, hc_ps_len]; exact Nat.le_refl _, fun j q ty z hq hm => by
    have hlt : j < ws.length := by rw [← hc_ps_len (ws := ws)]; exact (List.getElem?_eq_some_iff.mp hq).1
    have hw : ws[j]? = some ws[j] := List.getElem?_eq_getElem hlt
    have ht : lw_twC[j]? = some (lw_twC[j]'(by omega)) := List.getElem?_eq_getElem (by omega)
    rw [hc_ps_at hw] at hq
    rw [hc_mem_at hw ht] at hm
    cases hq
    exact (hc_c h4 (hcell hw ht) (lw_twC_lt ht)).2.2.2 ty z (Option.some.inj hm)⟩
  have hPw : va_P D gk_cl (hc_w ads lw_twC ws) U.heap := fun j q hq => by
    obtain ⟨q0, t, h1, h2, rfl⟩ := hc_w_inv hl hq
    exact (hc_c h4 (hcell h1 h2) (lw_twC_lt h2)).2.1 D q0.1 U.heap (p3 j q0 h1)
  have hDw : va_D (fun _ => True) (hc_w ads lw_twC ws) := ⟨fun i j a b hi hj e => by
    obtain ⟨a0, t1, h1, -, rfl⟩ := hc_w_inv hl hi
    obtain ⟨b0, t2, h2, -, rfl⟩ := hc_w_inv hl hj
    exact p5.1 i j a0 b0 h1 h2 e, fun _ _ _ => trivial⟩
  have hfree : ∀ q, va_A (fx_w (hc_ps ws) (hc_mem ads lw_twC ws)) sz q → va_A ws sz q := by
    rintro q (⟨k1, e1, hk1⟩ | hq)
    · obtain ⟨q0, t, h1, h2, h3⟩ := hc_w_inv hl (show (hc_w ads lw_twC ws)[k1]? = some (q, e1) from hk1)
      have e9 : q = q0.1 := congrArg Prod.fst h3
      rw [e9]
      exact Or.inl ⟨k1, q0.2, h1⟩
    · exact Or.inr hq
  have hrest : rest.map (fx_v (hc_ps ws)) = rest := by
    apply List.ext_getElem?
    intro i
    rw [List.getElem?_map]
    cases hi : rest[i]? with
    | none => rfl
    | some v =>
      obtain ⟨av0, hav, hg⟩ := hA2'.getR hi
      rcases hg with ⟨-, x, rfl, -⟩ | ⟨-, x, rfl, -⟩
      · rfl
      · rfl
  have hargs : (Value.ref 0 :: rest).map (fx_v (hc_ps ws)) = .ref h0 :: rest := by
    show fx_v (hc_ps ws) (.ref 0) :: rest.map (fx_v (hc_ps ws)) = _
    rw [hrest]
    obtain ⟨j, e, hw, hj, -⟩ := tk_cell h4 p6 hty
    have := lw_twC0 j hj
    subst this
    show Value.ref (fx_ad (hc_ps ws) 0) :: rest = _
    unfold fx_ad
    rw [hc_ps_at hw]
  refine ⟨hx_Pre D xt (hc_ps ws) (hc_mem ads lw_twC ws) sz (.ref 0 :: rest), hx_Post D (hc_ps ws) mem' (some v) (va_A (fx_w (hc_ps ws) (hc_mem ads lw_twC ws)) sz), rk_Met_imp (hmet _ sz) (fun _ _ z => z) (fun _ _ _ _ _ _ z => z) hfree, ⟨by rw [hargs]; exact p1, p2, hPw, p4, hDw, hO, p7, hxt.2.2 _ _ _ _ _ p8 (fun _ _ _ => rfl) hfree⟩, ?_⟩
  rintro oc t hW ⟨⟨e1, hOt, hPt, hDt⟩, hF⟩
  have hget : ∀ {j : Nat} {q : Nat × va_E}, (fx_w (hc_ps ws) mem')[j]? = some q → ∃ (q0 : Nat × va_E) (e' : fx_E), ws[j]? = some q0 ∧ mem'[j]? = some e' ∧ q = (q0.1, fx_c (hc_ps ws) (hc_cl q0.2) e') := fun {j q} hq => by
    have hlt : j < (fx_w (hc_ps ws) mem').length := (List.getElem?_eq_some_iff.mp hq).1
    unfold fx_w at hlt
    rw [List.length_zipWith, hc_ps_len, hlen, Nat.min_self] at hlt
    have hw : ws[j]? = some ws[j] := List.getElem?_eq_getElem hlt
    have hm : mem'[j]? = some (mem'[j]'(by omega)) := List.getElem?_eq_getElem (by omega)
    refine ⟨_, _, hw, hm, ?_⟩
    unfold fx_w at hq
    rw [List.getElem?_zipWith, hc_ps_at hw, hm] at hq
    exact (Option.some.inj hq).symm
  have hwl : (fx_w (hc_ps ws) mem').length = ws.length := by
    unfold fx_w
    rw [List.length_zipWith, hc_ps_len, hlen, Nat.min_self]
  have hmap : (fx_w (hc_ps ws) mem').map Prod.fst = ads := by
    rw [← h4]
    apply List.ext_getElem?
    intro i
    rw [List.getElem?_map, List.getElem?_map]
    cases hq : (fx_w (hc_ps ws) mem')[i]? with
    | none =>
      have := List.getElem?_eq_none_iff.mp hq
      rw [List.getElem?_eq_none (by omega)]
    | some q =>
      obtain ⟨q0, e', h1, h2, rfl⟩ := hget hq
      rw [h1]
      rfl
  have hcl' : ∀ (i tt : Nat) (q : Nat × va_E), lw_twC[i]? = some tt → (fx_w (hc_ps ws) mem')[i]? = some q → tk_cl gc_TY lc_ro ads lw_twC t tt q.2 := by
    intro i tt q htw hq
    obtain ⟨q0, e', h1, h2, rfl⟩ := hget hq
    have hm0 := hc_mem_at (ads := ads) h1 htw
    have hold := (hc_c h4 (hcell h1 htw) (lw_twC_lt htw)).2.2.1
    rcases hchg i tt _ e' htw hm0 h2 with rfl | ⟨kd, n, f2, fl, hkd, rfl, k3, k4⟩ | ⟨n, f2, fl, rfl, k3, k4⟩ | ⟨ci, vs, vs', he, rfl, k4, k5⟩
    · exact tk_cl_moved hW.alike hold
    · obtain ⟨m1, m2⟩ := hOt.2 i _ _ _ (hc_ps_at h1) h2
      show tk_cl gc_TY lc_ro ads lw_twC t tt (.inl (hc_cl q0.2, n, .inl f2))
      unfold tk_cl
      rw [show gc_TY.1[tt]? = _ from k3]
      rcases hkd with rfl | rfl
      · exact ⟨_, m1, m2, f2, rfl, k4⟩
      · exact ⟨_, m1, m2, f2, rfl, k4⟩
    · obtain ⟨m1, m2⟩ := hOt.2 i _ _ _ (hc_ps_at h1) h2
      show tk_cl gc_TY lc_ro ads lw_twC t tt (.inl (hc_cl q0.2, n, .inr (.inl f2)))
      unfold tk_cl
      rw [show gc_TY.1[tt]? = _ from k3]
      exact ⟨_, m1, m2, f2, rfl, k4⟩
    · rw [he] at hold
      have hold : tk_cl gc_TY lc_ro ads lw_twC U tt (.inr (ci, vs.map (fx_v (hc_ps ws)))) := hold
      show tk_cl gc_TY lc_ro ads lw_twC t tt (.inr (ci, vs'.map (fx_v (hc_ps ws))))
      have ht := lw_twC_lt htw
      have hk : gc_TY.1[tt]? = some gc_ty[tt] := List.getElem?_eq_getElem ht
      unfold tk_cl at hold ⊢
      rw [hk] at hold ⊢
      cases hT : gc_ty[tt] with
      | inr q9 =>
        rw [hT] at hold
        obtain ⟨cA, -, -, harr⟩ := hold
        unfold tk_ar at harr
        split at harr
        all_goals first
          | exact harr.elim
          | (obtain ⟨f, e9, -⟩ := harr; cases e9)
      | inl o =>
        rw [hT] at hold hk
        obtain ⟨vz, hvz, hvzl, hvzf⟩ := hold
        obtain ⟨o1, fs⟩ := o
        have e8 : ci = o1 := by injection hvz with h; injection h
        have e9 : vs.map (fx_v (hc_ps ws)) = vz := by injection hvz with h; injection h
        subst e8
        subst e9
        refine ⟨_, rfl, by rw [List.length_map, k4, ← hvzl, List.length_map], fun i2 f2 v2 hf2 hv2 => ?_⟩
        rw [List.getElem?_map] at hv2
        obtain ⟨v3, hv3, rfl⟩ := Option.map_eq_some_iff.mp hv2
        rcases k5 fs hk i2 f2 hf2 with h9 | ⟨v9, h9, h8, h7⟩
        · exact hvzf i2 f2 _ hf2 (by rw [List.getElem?_map, ← h9, hv3]; rfl)
        · rw [hv3] at h9
          cases h9
          rw [fx_v_id h8]
          exact h7
  refine ⟨⟨fx_w (hc_ps ws) mem', v, hmap, rk_A2_of (by rw [hwl, hl]) (fun i tt q h1 h2 => hcl' i tt q h1 h2), hPt, hDt.weaken (fun _ _ _ z => hfree _ z), hX2, hQ, ?_⟩, hF.1, fun q h9' hn9 => hF.2 q h9' (fun z => hn9 (hfree q z))⟩
  rw [e1]
  show Outcome.returned (some (fx_v (hc_ps ws) v)) = .returned (some v)
  rw [fx_v_id hvv]
end HCS
end MH16_3
