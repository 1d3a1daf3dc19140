section MH38_0
/-! ===== fx: ways, where they lead ===== -/
theorem fr_retz {k pc : Nat} {M : rk_M2} {lc : fx_L} {mem : fx_M} {x : Int32} (hx : x = 0 ∨ x = 1) (hat : tk_at M.1 pc = some (pc, .ireturn, 1)) (hr : M.2.2.2.2.1 = some .boolean) : fr_R k M pc lc [.int x] mem (some (.int x), mem) := fr_ret hat rfl (by rw [hr]; rcases hx with rfl | rfl <;> rfl)
theorem fm_b_01 (x k : Int32) : fm_b x k = 0 ∨ fm_b x k = 1 := by
  unfold fm_b
  split
  · exact Or.inr rfl
  · exact Or.inl rfl
theorem fr_isIn {s k : Int32} {mem : fx_M} : fr_T 1 260 [.ref 0, .int s, .int k] mem (some (.int (fm_b s k))) mem := ⟨0, fun N d => fm_isIn (N + 88) d s k mem⟩
theorem fr_cellRow {c : Int32} {mem : fx_M} : fr_T 1 253 [.int c] mem (some (.int (8 + 6 * c))) mem := ⟨0, fun N d => fm_cellRow (N + 94) d c mem⟩
theorem fr_walkerRow {c : Int32} {mem : fx_M} : fr_T 1 254 [.int c] mem (some (.int (278 + 5 * c))) mem := ⟨0, fun N d => fm_walkerRow (N + 94) d c mem⟩
theorem fm_mul (x y : Nat) : nI x * nI y = nI (x * y) := (Int32.ofNat_mul x y).symm
theorem fm_cb_t {c : ClassFile.Cond} {x y : Int32} {b : Bool} (h : fx_cb c x y = b) : fx_cb c x y = b := h
section FW
variable {g : Nat → Int32} {tp bt : Int64} {a : Nat → Nat → Int32} {b : Nat → Nat → Int64}
theorem fr_isWay {A : Nat} {B : Int32} (hA : A < 10) : fr_T 3 262 [.ref 0, .int (nI A), .int B] (fm g tp bt a b) (some (.int (fm_b (a 1 (10 + 6 * A)) B))) (fm g tp bt a b) := by
  refine fr_meth (by rfl) (by rfl) ?_
  have e1 : 8 + 6 * nI A + 2 = nI (10 + 6 * A) := by
    rw [show (8 : Int32) = nI 8 from rfl, show (6 : Int32) = nI 6 from rfl, show (2 : Int32) = nI 2 from rfl, fm_mul, nI_add, nI_add]
    congr 1
    omega
  refine fr_s 4 (pc' := 6) (lc' := [(0, .ref 0), (1, .int (nI A)), (2, .int B)]) (stk' := [.int (nI A), .ref 1, .ref 0]) (mem' := fm g tp bt a b) (by intro _ _ _; eq_refl) ?_
  refine fr_ivS fr_cellRow (by omega) (by rfl) (by rfl) (by rfl) (by rfl) (by rfl) ?_
  refine fr_s 2 (pc' := 11) (lc' := [(0, .ref 0), (1, .int (nI A)), (2, .int B)]) (stk' := [.int ((8 + 6 * nI A) + 2), .ref 1, .ref 0]) (mem' := fm g tp bt a b) (by intro _ _ _; eq_refl) ?_
  rw [e1]
  refine fr_ldI (by rfl) (by rfl) (fx_inN (by omega) (by omega)) ?_
  rw [nI_clamp (by omega)]
  refine fr_s 1 (pc' := 13) (lc' := [(0, .ref 0), (1, .int (nI A)), (2, .int B)]) (stk' := [.int B, .int (a 1 (10 + 6 * A)), .ref 0]) (mem' := fm g tp bt a b) (by intro _ _ _; eq_refl) ?_
  refine fr_ivV fr_isIn (by omega) (by rfl) (by rfl) (by rfl) (by rfl) (by rfl) (by rfl) ?_
  exact fr_retz (fm_b_01 _ _) (by rfl) (by rfl)
theorem fr_whereOf {W : Nat} (hW : W < 8) : fr_T 2 265 [.ref 0, .int (nI W)] (fm g tp bt a b) (some (.int (a 1 (279 + 5 * W)))) (fm g tp bt a b) := by
  refine fr_meth (by rfl) (by rfl) ?_
  have e1 : 278 + 5 * nI W + 1 = nI (279 + 5 * W) := by
    rw [show (278 : Int32) = nI 278 from rfl, show (5 : Int32) = nI 5 from rfl, show (1 : Int32) = nI 1 from rfl, fm_mul, nI_add, nI_add]
    congr 1
    omega
  refine fr_s 3 (pc' := 5) (lc' := [(0, .ref 0), (1, .int (nI W))]) (stk' := [.int (nI W), .ref 1]) (mem' := fm g tp bt a b) (by intro _ _ _; eq_refl) ?_
  refine fr_ivS fr_walkerRow (by omega) (by rfl) (by rfl) (by rfl) (by rfl) (by rfl) ?_
  refine fr_s 2 (pc' := 10) (lc' := [(0, .ref 0), (1, .int (nI W))]) (stk' := [.int ((278 + 5 * nI W) + 1), .ref 1]) (mem' := fm g tp bt a b) (by intro _ _ _; eq_refl) ?_
  rw [e1]
  refine fr_ldI (by rfl) (by rfl) (fx_inN (by omega) (by omega)) ?_
  rw [nI_clamp (by omega)]
  exact fr_ret (by rfl) (by rfl) (by rfl)
/-- a CELL from which one is a STEP nearer, by a WAY -/
def fm_near (a : Nat → Nat → Int32) (X c : Nat) : Prop := fm_b (a 1 (10 + 6 * X)) (nI c) = 1 ∧ a 9 c = a 9 X - 1
theorem fr_nextOn {X c0 : Nat} (hX : X < 10) (hc0 : c0 < 10) (hn : fm_near a X c0) (hmin : ∀ c, c < c0 → ¬ fm_near a X c) : fr_T 4 306 [.ref 0, .int (nI X)] (fm g tp bt a b) (some (.int (nI c0))) (fm g tp bt a b) := by
  refine fr_meth (by rfl) (by rfl) ?_
  have loop : ∀ (r c : Nat), c + r = c0 → fr_R 3 gk_m306 2 [(2, .int (nI c)), (0, .ref 0), (1, .int (nI X))] [] (fm g tp bt a b) (some (.int (nI c0)), fm g tp bt a b) := by
    intro r
    induction r with
    | zero =>
      intro c hc
      obtain rfl : c = c0 := by omega
      refine fr_s 3 (pc' := 5) (lc' := [(2, .int (nI c)), (0, .ref 0), (1, .int (nI X))]) (stk' := [.int (nI c), .int (nI X), .ref 0]) (mem' := fm g tp bt a b) (by intro _ _ _; eq_refl) ?_
      refine fr_ivV (fr_isWay hX) (by omega) (by rfl) (by rfl) (by rfl) (by rfl) (by rfl) (by rfl) ?_
      rw [hn.1]
      refine fr_s 1 (pc' := cond (fx_cb .eq 1 0) 28 11) (lc' := [(2, .int (nI c)), (0, .ref 0), (1, .int (nI X))]) (stk' := []) (mem' := fm g tp bt a b) (by intro _ _ _; eq_refl) ?_
      rw [show fx_cb .eq 1 0 = false from rfl]
      dsimp only [cond]
      refine fr_s 3 (pc' := 16) (lc' := [(2, .int (nI c)), (0, .ref 0), (1, .int (nI X))]) (stk' := [.int (nI c), .ref 9]) (mem' := fm g tp bt a b) (by intro _ _ _; eq_refl) ?_
      refine fr_ldI (by rfl) (by rfl) (fx_inN (by omega) (by omega)) ?_
      rw [nI_clamp (by omega)]
      refine fr_s 3 (pc' := 22) (lc' := [(2, .int (nI c)), (0, .ref 0), (1, .int (nI X))]) (stk' := [.int (nI X), .ref 9, .int (a 9 c)]) (mem' := fm g tp bt a b) (by intro _ _ _; eq_refl) ?_
      refine fr_ldI (by rfl) (by rfl) (fx_inN (by omega) (by omega)) ?_
      rw [nI_clamp (by omega)]
      refine fr_s 2 (pc' := 25) (lc' := [(2, .int (nI c)), (0, .ref 0), (1, .int (nI X))]) (stk' := [.int ((a 9 X) - 1), .int (a 9 c)]) (mem' := fm g tp bt a b) (by intro _ _ _; eq_refl) ?_
      refine fr_s 1 (pc' := cond (fx_cb .eq (a 9 c) ((a 9 X) - 1)) 34 28) (lc' := [(2, .int (nI c)), (0, .ref 0), (1, .int (nI X))]) (stk' := []) (mem' := fm g tp bt a b) (by intro _ _ _; eq_refl) ?_
      rw [show fx_cb .eq (a 9 c) ((a 9 X) - 1) = true from decide_eq_true hn.2]
      dsimp only [cond]
      refine fr_s 1 (pc' := 35) (lc' := [(2, .int (nI c)), (0, .ref 0), (1, .int (nI X))]) (stk' := [.int (nI c)]) (mem' := fm g tp bt a b) (by intro _ _ _; eq_refl) ?_
      exact fr_ret (by rfl) (by rfl) (by rfl)
    | succ r ih =>
      intro c hc
      have hno := hmin c (by omega)
      refine fr_s 3 (pc' := 5) (lc' := [(2, .int (nI c)), (0, .ref 0), (1, .int (nI X))]) (stk' := [.int (nI c), .int (nI X), .ref 0]) (mem' := fm g tp bt a b) (by intro _ _ _; eq_refl) ?_
      refine fr_ivV (fr_isWay hX) (by omega) (by rfl) (by rfl) (by rfl) (by rfl) (by rfl) (by rfl) ?_
      rcases fm_b_01 (a 1 (10 + 6 * X)) (nI c) with h0 | h1
      · rw [h0]
        refine fr_s 1 (pc' := cond (fx_cb .eq 0 0) 28 11) (lc' := [(2, .int (nI c)), (0, .ref 0), (1, .int (nI X))]) (stk' := []) (mem' := fm g tp bt a b) (by intro _ _ _; eq_refl) ?_
        rw [show fx_cb .eq 0 0 = true from rfl]
        dsimp only [cond]
        refine fr_s 2 (pc' := 2) (lc' := [(2, .int ((nI c) + 1)), (0, .ref 0), (1, .int (nI X))]) (stk' := []) (mem' := fm g tp bt a b) (by intro _ _ _; eq_refl) ?_
        rw [nI_1]
        exact ih (c + 1) (by omega)
      · have hne : ¬ a 9 c = a 9 X - 1 := fun z => hno ⟨h1, z⟩
        rw [h1]
        refine fr_s 1 (pc' := cond (fx_cb .eq 1 0) 28 11) (lc' := [(2, .int (nI c)), (0, .ref 0), (1, .int (nI X))]) (stk' := []) (mem' := fm g tp bt a b) (by intro _ _ _; eq_refl) ?_
        rw [show fx_cb .eq 1 0 = false from rfl]
        dsimp only [cond]
        refine fr_s 3 (pc' := 16) (lc' := [(2, .int (nI c)), (0, .ref 0), (1, .int (nI X))]) (stk' := [.int (nI c), .ref 9]) (mem' := fm g tp bt a b) (by intro _ _ _; eq_refl) ?_
        refine fr_ldI (by rfl) (by rfl) (fx_inN (by omega) (by omega)) ?_
        rw [nI_clamp (by omega)]
        refine fr_s 3 (pc' := 22) (lc' := [(2, .int (nI c)), (0, .ref 0), (1, .int (nI X))]) (stk' := [.int (nI X), .ref 9, .int (a 9 c)]) (mem' := fm g tp bt a b) (by intro _ _ _; eq_refl) ?_
        refine fr_ldI (by rfl) (by rfl) (fx_inN (by omega) (by omega)) ?_
        rw [nI_clamp (by omega)]
        refine fr_s 2 (pc' := 25) (lc' := [(2, .int (nI c)), (0, .ref 0), (1, .int (nI X))]) (stk' := [.int ((a 9 X) - 1), .int (a 9 c)]) (mem' := fm g tp bt a b) (by intro _ _ _; eq_refl) ?_
        refine fr_s 1 (pc' := cond (fx_cb .eq (a 9 c) ((a 9 X) - 1)) 34 28) (lc' := [(2, .int (nI c)), (0, .ref 0), (1, .int (nI X))]) (stk' := []) (mem' := fm g tp bt a b) (by intro _ _ _; eq_refl) ?_
        rw [show fx_cb .eq (a 9 c) ((a 9 X) - 1) = false from decide_eq_false hne]
        dsimp only [cond]
        refine fr_s 2 (pc' := 2) (lc' := [(2, .int ((nI c) + 1)), (0, .ref 0), (1, .int (nI X))]) (stk' := []) (mem' := fm g tp bt a b) (by intro _ _ _; eq_refl) ?_
        rw [nI_1]
        exact ih (c + 1) (by omega)
  refine fr_s 2 (pc' := 2) (lc' := [(2, .int (nI 0)), (0, .ref 0), (1, .int (nI X))]) (stk' := []) (mem' := fm g tp bt a b) (by intro _ _ _; eq_refl) ?_
  exact loop c0 0 (by omega)
end FW
end MH38_0
section MH38_1
/-! ===== fe: a run that ends in one of several ways ===== -/
def fe_R (k : Nat) (M : rk_M2) (pc : Nat) (lc : fx_L) (stk : List Value) (mem : fx_M) (F : Option Value × fx_M → Prop) : Prop := ∃ R, F R ∧ fr_R k M pc lc stk mem R
section FE
variable {k pc : Nat} {M : rk_M2} {lc : fx_L} {stk r as : List Value} {mem : fx_M} {F : Option Value × fx_M → Prop}
theorem fe_of {k' pc' : Nat} {M' : rk_M2} {lc' : fx_L} {stk' : List Value} {mem' : fx_M} (h : ∀ R, fr_R k' M' pc' lc' stk' mem' R → fr_R k M pc lc stk mem R) (kk : fe_R k' M' pc' lc' stk' mem' F) : fe_R k M pc lc stk mem F := by
  obtain ⟨R, h1, h2⟩ := kk
  exact ⟨R, h1, h R h2⟩
theorem fe_s (j : Nat) {pc' : Nat} {lc' : fx_L} {stk' : List Value} {mem' : fx_M} (h : ∀ N d n : Nat, fx_run (fm_call (N + 100) (d + k)) gk_fty gk_mci M (n + j) pc lc stk mem = fx_run (fm_call (N + 100) (d + k)) gk_fty gk_mci M n pc' lc' stk' mem') (kk : fe_R k M pc' lc' stk' mem' F) : fe_R k M pc lc stk mem F := fe_of (fun _ z => fr_s j h z) kk
theorem fe_ret {v : Option Value} {ins : Instr} {len : Nat} (hF : F (v, mem)) (hat : tk_at M.1 pc = some (pc, ins, len)) (hl : rk_len ins len = true) (he : fx_end M.2.2.2.2.1 ins stk = some (some v)) : fe_R k M pc lc stk mem F := ⟨_, hF, fr_ret hat hl he⟩
theorem fe_retz {x : Int32} (hF : F (some (.int x), mem)) (hx : x = 0 ∨ x = 1) (hat : tk_at M.1 pc = some (pc, .ireturn, 1)) (hr : M.2.2.2.2.1 = some .boolean) : fe_R k M pc lc [.int x] mem F := ⟨_, hF, fr_retz hx hat hr⟩
theorem fe_ldI {i : Int32} {j len : Nat} {f : Nat → Int32} (hat : tk_at M.1 pc = some (pc, .iaload, 1)) (hj : mem[j]? = some (.inr (.int, len, .inl f))) (hin : fx_in i len = true) (kk : fe_R k M (pc + 1) lc (.int (f i.toNatClampNeg) :: r) mem F) : fe_R k M pc lc (.int i :: .ref j :: r) mem F := fe_of (fun _ z => fr_ldI hat hj hin z) kk
theorem fe_ldB {i : Int32} {j len : Nat} {f : Nat → Int32} (hat : tk_at M.1 pc = some (pc, .baload, 1)) (hj : mem[j]? = some (.inr (.byte, len, .inl f))) (hin : fx_in i len = true) (kk : fe_R k M (pc + 1) lc (.int (f i.toNatClampNeg) :: r) mem F) : fe_R k M pc lc (.int i :: .ref j :: r) mem F := fe_of (fun _ z => fr_ldB hat hj hin z) kk
theorem fe_ldL {i : Int32} {j len : Nat} {f : Nat → Int64} (hat : tk_at M.1 pc = some (pc, .laload, 1)) (hj : mem[j]? = some (.inr (.long, len, .inr (.inl f)))) (hin : fx_in i len = true) (kk : fe_R k M (pc + 1) lc (.long (f i.toNatClampNeg) :: r) mem F) : fe_R k M pc lc (.int i :: .ref j :: r) mem F := fe_of (fun _ z => fr_ldL hat hj hin z) kk
theorem fe_stI {i v : Int32} {j len : Nat} {f : Nat → Int32} {mem' : fx_M} (hat : tk_at M.1 pc = some (pc, .iastore, 1)) (hj : mem[j]? = some (.inr (.int, len, .inl f))) (hin : fx_in i len = true) (hm : mem.set j (.inr (.int, len, .inl (upd f i.toNatClampNeg v))) = mem') (kk : fe_R k M (pc + 1) lc r mem' F) : fe_R k M pc lc (.int v :: .int i :: .ref j :: r) mem F := fe_of (fun _ z => fr_stI hat hj hin hm z) kk
theorem fe_stL {i : Int32} {v : Int64} {j len : Nat} {f : Nat → Int64} {mem' : fx_M} (hat : tk_at M.1 pc = some (pc, .lastore, 1)) (hj : mem[j]? = some (.inr (.long, len, .inr (.inl f)))) (hin : fx_in i len = true) (hm : mem.set j (.inr (.long, len, .inr (.inl (vp_updL f i.toNatClampNeg v)))) = mem') (kk : fe_R k M (pc + 1) lc r mem' F) : fe_R k M pc lc (.long v :: .int i :: .ref j :: r) mem F := fe_of (fun _ z => fr_stL hat hj hin hm z) kk
theorem fe_ivV {idx kd f na j k' : Nat} {o : Nat × List Value} {v : Option Value} {mem' : fx_M} (hc : fr_T k' f (.ref j :: as) mem v mem') (hk : k' ≤ k) (hat : tk_at M.1 pc = some (pc, .invokevirtual idx, 3)) (hlk : rk_lk M.2.2.1 idx = some (kd, f, na)) (hkd : (Nat.beq kd 5 || Nat.beq kd 6) = true) (hpop : fx_pops na [] stk = some (as, .ref j :: r)) (hj : mem[j]? = some (.inl o)) (hsum : (Nat.ble (fx_sum r) 8 && decide (gk_mci[f]? = some o.1)) = true) (kk : fe_R k M (pc + 3) lc (v.toList ++ r) mem' F) : fe_R k M pc lc stk mem F := fe_of (fun _ z => fr_ivV hc hk hat hlk hkd hpop hj hsum z) kk
theorem fe_ivS {idx kd f na k' : Nat} {v : Option Value} {mem' : fx_M} (hc : fr_T k' f as mem v mem') (hk : k' ≤ k) (hat : tk_at M.1 pc = some (pc, .invokestatic idx, 3)) (hlk : rk_lk M.2.2.1 idx = some (kd, f, na)) (hkd : (Nat.beq kd 7 || Nat.beq kd 8) = true) (hpop : fx_pops na [] stk = some (as, r)) (hsum : Nat.ble (fx_sum r) 8 = true) (kk : fe_R k M (pc + 3) lc (v.toList ++ r) mem' F) : fe_R k M pc lc stk mem F := fe_of (fun _ z => fr_ivS hc hk hat hlk hkd hpop hsum z) kk
theorem fe_meth {f : Nat} (hM : gk_P[f]? = some M) (hc : (Nat.ble M.2.1 21 && Nat.ble (fx_sum as) M.2.1) = true) (kk : fe_R k M 0 (lv_args 0 as) [] mem F) : ∃ (v : Option Value) (mem' : fx_M), F (v, mem') ∧ fr_T (k + 1) f as mem v mem' := by
  obtain ⟨R, h1, h2⟩ := kk
  exact ⟨R.1, R.2, h1, fr_meth hM hc h2⟩
theorem fr_w {lc' : fx_L} {R : Option Value × fx_M} (hs : fx_sub lc' lc) (h1 : fx_nd lc') (h2 : fx_nd lc) (h : fr_R k M pc lc' stk mem R) : fr_R k M pc lc stk mem R := by
  obtain ⟨N0, n0, hk⟩ := h
  exact ⟨N0, n0, fun N d n => fx_w_run _ _ _ _ _ _ _ _ _ _ _ ⟨fx_sub_ok hs, h1, h2⟩ (hk N d n)⟩
/-- fewer locals, or in another order -/
theorem fe_w {lc' : fx_L} (hs : fx_sub lc' lc) (h1 : fx_nd lc') (h2 : fx_nd lc) (kk : fe_R k M pc lc' stk mem F) : fe_R k M pc lc stk mem F := fe_of (fun _ z => fr_w hs h1 h2 z) kk
end FE
end MH38_1
section MH38_2
/-! ===== fx: laysFar: how far each CELL is ===== -/
/-- each CELL that is reached is at the end, or has one beside it by a WAY that is a STEP nearer -/
def fm_bfs (p : Nat → Nat → Int32) : Prop := ∀ c, c < 10 → p 9 c = 1000000 ∨ ∃ v, v ≤ 10 ∧ p 9 c = nI v ∧ (v = 0 ∨ ∃ c1, c1 < 10 ∧ p 9 c1 = nI (v - 1) ∧ fm_b (p 1 (10 + 6 * c1)) (nI c) = 1)
def fm_ok9 (a p : Nat → Nat → Int32) : Prop := (∀ t, t ≠ 9 → p t = a t) ∧ fm_bfs p
theorem fm_u9 {p : Nat → Nat → Int32} {i : Nat} {v : Int32} : fm_u p 9 i v 9 = upd (p 9) i v := if_pos rfl
theorem fm_u9' {p : Nat → Nat → Int32} {i t : Nat} {v : Int32} (h : t ≠ 9) : fm_u p 9 i v t = p t := if_neg h
theorem fm_far {v : Nat} (h : v ≤ 10) : nI v ≠ 1000000 := fun z => by
  have := congrArg Int32.toInt z
  rw [nI_toInt (by omega), show (1000000 : Int32).toInt = 1000000 from rfl] at this
  omega
theorem fm_bfs_set {p : Nat → Nat → Int32} {n A B : Nat} (h : fm_bfs p) (hn : n < 10) (hA : A < 10) (hB : B < 10) (h1 : p 9 A = nI n) (h2 : p 9 B = 1000000) (h3 : fm_b (p 1 (10 + 6 * A)) (nI B) = 1) : fm_bfs (fm_u p 9 B (nI (n + 1))) := by
  have hne : A ≠ B := fun z => by subst z; rw [h1] at h2; exact fm_far (by omega) h2
  intro c hc
  rw [fm_u9, fm_u9' (show (1 : Nat) ≠ 9 by decide)]
  by_cases e : c = B
  · subst e
    rw [pk_us]
    exact Or.inr ⟨n + 1, by omega, rfl, Or.inr ⟨A, hA, by rw [pk_un hne]; exact h1, h3⟩⟩
  · rw [pk_un e]
    rcases h c hc with g | ⟨v, g1, g2, g3⟩
    · exact Or.inl g
    · refine Or.inr ⟨v, g1, g2, ?_⟩
      rcases g3 with g3 | ⟨c1, k1, k2, k3⟩
      · exact Or.inl g3
      · refine Or.inr ⟨c1, k1, ?_, k3⟩
        have hne1 : c1 ≠ B := fun z => by subst z; rw [k2] at h2; exact fm_far (by omega) h2
        rw [pk_un hne1]
        exact k2
section FL
variable {g : Nat → Int32} {tp bt : Int64} {a : Nat → Nat → Int32} {b : Nat → Nat → Int64} {W X NC : Nat} {to bby : Int32}
def fm_F9 (g : Nat → Int32) (tp bt : Int64) (a : Nat → Nat → Int32) (b : Nat → Nat → Int64) (X : Nat) (R : Option Value × fx_M) : Prop := ∃ p, fm_ok9 a p ∧ R = (some (.int (p 9 X)), fm g tp bt p b)
theorem fm_lf_b (hW : W < 8) (hX : a 1 (279 + 5 * W) = nI X) (hNC : a 1 0 = nI NC) (hNC10 : NC ≤ 10) {n A : Nat} (hn : n < 10) (hA : A < NC) {F : Option Value × fx_M → Prop}
    (kk : ∀ p, fm_ok9 a p → fe_R 4 gk_m305 165 [(6, .int (nI NC)), (5, .int (nI A)), (4, .int (nI n)), (0, .ref 0), (1, .int (nI W)), (2, .int to), (3, .int bby)] [] (fm g tp bt p b) F) : ∀ (r B : Nat), B + r = NC → ∀ p, fm_ok9 a p → fe_R 4 gk_m305 81 [(6, .int (nI B)), (5, .int (nI A)), (4, .int (nI n)), (0, .ref 0), (1, .int (nI W)), (2, .int to), (3, .int bby)] [] (fm g tp bt p b) F := by
  intro r
  induction r with
  | zero =>
    intro B hB p hp
    obtain rfl : B = NC := by omega
    have hc : p 1 0 = nI B := by rw [hp.1 1 (by decide)]; exact hNC
    refine fe_s 4 (pc' := 88) (lc' := [(6, .int (nI B)), (5, .int (nI A)), (4, .int (nI n)), (0, .ref 0), (1, .int (nI W)), (2, .int to), (3, .int bby)]) (stk' := [.int 0, .ref 1, .int (nI B)]) (mem' := fm g tp bt p b) (by intro _ _ _; eq_refl) ?_
    refine fe_ldI (by rfl) (by rfl) (fx_inN (i := 0) (by omega) (by omega)) ?_
    rw [show p 1 (Int32.toNatClampNeg 0) = nI B from hc]
    refine fe_s 1 (pc' := cond (fx_cb .ge (nI B) (nI B)) 165 92) (lc' := [(6, .int (nI B)), (5, .int (nI A)), (4, .int (nI n)), (0, .ref 0), (1, .int (nI W)), (2, .int to), (3, .int bby)]) (stk' := []) (mem' := fm g tp bt p b) (by intro _ _ _; eq_refl) ?_
    rw [show fx_cb .ge (nI B) (nI B) = true from decide_eq_true (nI_le (Nat.le_refl _) (by omega))]
    dsimp only [cond]
    exact kk p hp
  | succ r ih =>
    intro B hB p hp
    have hc : p 1 0 = nI NC := by rw [hp.1 1 (by decide)]; exact hNC
    have hXp : p 1 (279 + 5 * W) = nI X := by rw [hp.1 1 (by decide)]; exact hX
    have step : ∀ q, fm_ok9 a q → fe_R 4 gk_m305 159 [(6, .int (nI B)), (5, .int (nI A)), (4, .int (nI n)), (0, .ref 0), (1, .int (nI W)), (2, .int to), (3, .int bby)] [] (fm g tp bt q b) F := by
      intro q hq
      refine fe_s 2 (pc' := 81) (lc' := [(6, .int ((nI B) + 1)), (5, .int (nI A)), (4, .int (nI n)), (0, .ref 0), (1, .int (nI W)), (2, .int to), (3, .int bby)]) (stk' := []) (mem' := fm g tp bt q b) (by intro _ _ _; eq_refl) ?_
      rw [nI_1]
      exact ih (B + 1) (by omega) q hq
    refine fe_s 4 (pc' := 88) (lc' := [(6, .int (nI B)), (5, .int (nI A)), (4, .int (nI n)), (0, .ref 0), (1, .int (nI W)), (2, .int to), (3, .int bby)]) (stk' := [.int 0, .ref 1, .int (nI B)]) (mem' := fm g tp bt p b) (by intro _ _ _; eq_refl) ?_
    refine fe_ldI (by rfl) (by rfl) (fx_inN (i := 0) (by omega) (by omega)) ?_
    rw [show p 1 (Int32.toNatClampNeg 0) = nI NC from hc]
    refine fe_s 1 (pc' := cond (fx_cb .ge (nI B) (nI NC)) 165 92) (lc' := [(6, .int (nI B)), (5, .int (nI A)), (4, .int (nI n)), (0, .ref 0), (1, .int (nI W)), (2, .int to), (3, .int bby)]) (stk' := []) (mem' := fm g tp bt p b) (by intro _ _ _; eq_refl) ?_
    rw [show fx_cb .ge (nI B) (nI NC) = false from decide_eq_false (nI_ge (by omega) (by omega))]
    dsimp only [cond]
    refine fe_s 3 (pc' := 98) (lc' := [(6, .int (nI B)), (5, .int (nI A)), (4, .int (nI n)), (0, .ref 0), (1, .int (nI W)), (2, .int to), (3, .int bby)]) (stk' := [.int (nI A), .ref 9]) (mem' := fm g tp bt p b) (by intro _ _ _; eq_refl) ?_
    refine fe_ldI (by rfl) (by rfl) (fx_inN (by omega) (by omega)) ?_
    rw [nI_clamp (by omega)]
    refine fe_s 1 (pc' := 101) (lc' := [(6, .int (nI B)), (5, .int (nI A)), (4, .int (nI n)), (0, .ref 0), (1, .int (nI W)), (2, .int to), (3, .int bby)]) (stk' := [.int (nI n), .int (p 9 A)]) (mem' := fm g tp bt p b) (by intro _ _ _; eq_refl) ?_
    by_cases h1 : p 9 A = nI n
    · refine fe_s 1 (pc' := cond (fx_cb .ne (p 9 A) (nI n)) 159 104) (lc' := [(6, .int (nI B)), (5, .int (nI A)), (4, .int (nI n)), (0, .ref 0), (1, .int (nI W)), (2, .int to), (3, .int bby)]) (stk' := []) (mem' := fm g tp bt p b) (by intro _ _ _; eq_refl) ?_
      rw [show fx_cb .ne (p 9 A) (nI n) = false from by rw [show fx_cb .ne (p 9 A) (nI n) = !decide (p 9 A = nI n) from rfl, decide_eq_true h1]; rfl]
      dsimp only [cond]
      refine fe_s 3 (pc' := 110) (lc' := [(6, .int (nI B)), (5, .int (nI A)), (4, .int (nI n)), (0, .ref 0), (1, .int (nI W)), (2, .int to), (3, .int bby)]) (stk' := [.int (nI B), .ref 9]) (mem' := fm g tp bt p b) (by intro _ _ _; eq_refl) ?_
      refine fe_ldI (by rfl) (by rfl) (fx_inN (by omega) (by omega)) ?_
      rw [nI_clamp (by omega)]
      refine fe_s 1 (pc' := 114) (lc' := [(6, .int (nI B)), (5, .int (nI A)), (4, .int (nI n)), (0, .ref 0), (1, .int (nI W)), (2, .int to), (3, .int bby)]) (stk' := [.int 1000000, .int (p 9 B)]) (mem' := fm g tp bt p b) (by intro _ _ _; eq_refl) ?_
      by_cases h2 : p 9 B = 1000000
      · refine fe_s 1 (pc' := cond (fx_cb .ne (p 9 B) 1000000) 159 117) (lc' := [(6, .int (nI B)), (5, .int (nI A)), (4, .int (nI n)), (0, .ref 0), (1, .int (nI W)), (2, .int to), (3, .int bby)]) (stk' := []) (mem' := fm g tp bt p b) (by intro _ _ _; eq_refl) ?_
        rw [show fx_cb .ne (p 9 B) 1000000 = false from by rw [show fx_cb .ne (p 9 B) 1000000 = !decide (p 9 B = 1000000) from rfl, decide_eq_true h2]; rfl]
        dsimp only [cond]
        refine fe_s 3 (pc' := 122) (lc' := [(6, .int (nI B)), (5, .int (nI A)), (4, .int (nI n)), (0, .ref 0), (1, .int (nI W)), (2, .int to), (3, .int bby)]) (stk' := [.int (nI B), .int (nI A), .ref 0]) (mem' := fm g tp bt p b) (by intro _ _ _; eq_refl) ?_
        refine fe_ivV (fr_isWay (show A < 10 by omega)) (by omega) (by rfl) (by rfl) (by rfl) (by rfl) (by rfl) (by rfl) ?_
        rcases fm_b_01 (p 1 (10 + 6 * A)) (nI B) with h3 | h3
        · rw [h3]
          refine fe_s 1 (pc' := cond (fx_cb .eq 0 0) 159 128) (lc' := [(6, .int (nI B)), (5, .int (nI A)), (4, .int (nI n)), (0, .ref 0), (1, .int (nI W)), (2, .int to), (3, .int bby)]) (stk' := []) (mem' := fm g tp bt p b) (by intro _ _ _; eq_refl) ?_
          rw [show fx_cb .eq 0 0 = true from rfl]
          dsimp only [cond]
          exact step p hp
        · rw [h3]
          refine fe_s 1 (pc' := cond (fx_cb .eq 1 0) 159 128) (lc' := [(6, .int (nI B)), (5, .int (nI A)), (4, .int (nI n)), (0, .ref 0), (1, .int (nI W)), (2, .int to), (3, .int bby)]) (stk' := []) (mem' := fm g tp bt p b) (by intro _ _ _; eq_refl) ?_
          rw [show fx_cb .eq 1 0 = false from rfl]
          dsimp only [cond]
          have store : fe_R 4 gk_m305 148 [(6, .int (nI B)), (5, .int (nI A)), (4, .int (nI n)), (0, .ref 0), (1, .int (nI W)), (2, .int to), (3, .int bby)] [] (fm g tp bt p b) F := by
            refine fe_s 6 (pc' := 158) (lc' := [(6, .int (nI B)), (5, .int (nI A)), (4, .int (nI n)), (0, .ref 0), (1, .int (nI W)), (2, .int to), (3, .int bby)]) (stk' := [.int ((nI n) + 1), .int (nI B), .ref 9]) (mem' := fm g tp bt p b) (by intro _ _ _; eq_refl) ?_
            refine fe_stI (mem' := fm g tp bt (fm_u p 9 (nI B).toNatClampNeg ((nI n) + 1)) b) (by rfl) (by rfl) (fx_inN (by omega) (by omega)) fm_si9 ?_
            rw [nI_clamp (by omega), nI_1]
            refine step _ ⟨fun t ht => by rw [fm_u9' ht]; exact hp.1 t ht, fm_bfs_set hp.2 hn (by omega) (by omega) h1 h2 h3⟩
          refine fe_s 3 (pc' := 132) (lc' := [(6, .int (nI B)), (5, .int (nI A)), (4, .int (nI n)), (0, .ref 0), (1, .int (nI W)), (2, .int to), (3, .int bby)]) (stk' := [.int (nI B), .int bby, .ref 0]) (mem' := fm g tp bt p b) (by intro _ _ _; eq_refl) ?_
          refine fe_ivV fr_isIn (by omega) (by rfl) (by rfl) (by rfl) (by rfl) (by rfl) (by rfl) ?_
          rcases fm_b_01 bby (nI B) with h4 | h4
          · rw [h4]
            refine fe_s 1 (pc' := cond (fx_cb .ne 0 0) 148 138) (lc' := [(6, .int (nI B)), (5, .int (nI A)), (4, .int (nI n)), (0, .ref 0), (1, .int (nI W)), (2, .int to), (3, .int bby)]) (stk' := []) (mem' := fm g tp bt p b) (by intro _ _ _; eq_refl) ?_
            rw [show fx_cb .ne 0 0 = false from rfl]
            dsimp only [cond]
            refine fe_s 3 (pc' := 142) (lc' := [(6, .int (nI B)), (5, .int (nI A)), (4, .int (nI n)), (0, .ref 0), (1, .int (nI W)), (2, .int to), (3, .int bby)]) (stk' := [.int (nI W), .ref 0, .int (nI B)]) (mem' := fm g tp bt p b) (by intro _ _ _; eq_refl) ?_
            refine fe_ivV (fr_whereOf hW) (by omega) (by rfl) (by rfl) (by rfl) (by rfl) (by rfl) (by rfl) ?_
            rw [hXp]
            by_cases h5 : nI B = nI X
            · refine fe_s 1 (pc' := cond (fx_cb .ne (nI B) (nI X)) 159 148) (lc' := [(6, .int (nI B)), (5, .int (nI A)), (4, .int (nI n)), (0, .ref 0), (1, .int (nI W)), (2, .int to), (3, .int bby)]) (stk' := []) (mem' := fm g tp bt p b) (by intro _ _ _; eq_refl) ?_
              rw [show fx_cb .ne (nI B) (nI X) = false from by rw [show fx_cb .ne (nI B) (nI X) = !decide (nI B = nI X) from rfl, decide_eq_true h5]; rfl]
              dsimp only [cond]
              exact store
            · refine fe_s 1 (pc' := cond (fx_cb .ne (nI B) (nI X)) 159 148) (lc' := [(6, .int (nI B)), (5, .int (nI A)), (4, .int (nI n)), (0, .ref 0), (1, .int (nI W)), (2, .int to), (3, .int bby)]) (stk' := []) (mem' := fm g tp bt p b) (by intro _ _ _; eq_refl) ?_
              rw [show fx_cb .ne (nI B) (nI X) = true from by rw [show fx_cb .ne (nI B) (nI X) = !decide (nI B = nI X) from rfl, decide_eq_false h5]; rfl]
              dsimp only [cond]
              exact step p hp
          · rw [h4]
            refine fe_s 1 (pc' := cond (fx_cb .ne 1 0) 148 138) (lc' := [(6, .int (nI B)), (5, .int (nI A)), (4, .int (nI n)), (0, .ref 0), (1, .int (nI W)), (2, .int to), (3, .int bby)]) (stk' := []) (mem' := fm g tp bt p b) (by intro _ _ _; eq_refl) ?_
            rw [show fx_cb .ne 1 0 = true from rfl]
            dsimp only [cond]
            exact store
      · refine fe_s 1 (pc' := cond (fx_cb .ne (p 9 B) 1000000) 159 117) (lc' := [(6, .int (nI B)), (5, .int (nI A)), (4, .int (nI n)), (0, .ref 0), (1, .int (nI W)), (2, .int to), (3, .int bby)]) (stk' := []) (mem' := fm g tp bt p b) (by intro _ _ _; eq_refl) ?_
        rw [show fx_cb .ne (p 9 B) 1000000 = true from by rw [show fx_cb .ne (p 9 B) 1000000 = !decide (p 9 B = 1000000) from rfl, decide_eq_false h2]; rfl]
        dsimp only [cond]
        exact step p hp
    · refine fe_s 1 (pc' := cond (fx_cb .ne (p 9 A) (nI n)) 159 104) (lc' := [(6, .int (nI B)), (5, .int (nI A)), (4, .int (nI n)), (0, .ref 0), (1, .int (nI W)), (2, .int to), (3, .int bby)]) (stk' := []) (mem' := fm g tp bt p b) (by intro _ _ _; eq_refl) ?_
      rw [show fx_cb .ne (p 9 A) (nI n) = true from by rw [show fx_cb .ne (p 9 A) (nI n) = !decide (p 9 A = nI n) from rfl, decide_eq_false h1]; rfl]
      dsimp only [cond]
      exact step p hp
theorem fm_lf_a (hW : W < 8) (hX : a 1 (279 + 5 * W) = nI X) (hNC : a 1 0 = nI NC) (hNC10 : NC ≤ 10) {n : Nat} (hn : n < 10) {F : Option Value × fx_M → Prop}
    (kk : ∀ p, fm_ok9 a p → fe_R 4 gk_m305 171 [(4, .int (nI n)), (0, .ref 0), (1, .int (nI W)), (2, .int to), (3, .int bby)] [] (fm g tp bt p b) F) : ∀ (r A : Nat), A + r = NC → ∀ p, fm_ok9 a p → fe_R 4 gk_m305 67 [(5, .int (nI A)), (4, .int (nI n)), (0, .ref 0), (1, .int (nI W)), (2, .int to), (3, .int bby)] [] (fm g tp bt p b) F := by
  intro r
  induction r with
  | zero =>
    intro A hA p hp
    obtain rfl : A = NC := by omega
    have hc : p 1 0 = nI A := by rw [hp.1 1 (by decide)]; exact hNC
    refine fe_s 4 (pc' := 74) (lc' := [(5, .int (nI A)), (4, .int (nI n)), (0, .ref 0), (1, .int (nI W)), (2, .int to), (3, .int bby)]) (stk' := [.int 0, .ref 1, .int (nI A)]) (mem' := fm g tp bt p b) (by intro _ _ _; eq_refl) ?_
    refine fe_ldI (by rfl) (by rfl) (fx_inN (i := 0) (by omega) (by omega)) ?_
    rw [show p 1 (Int32.toNatClampNeg 0) = nI A from hc]
    refine fe_s 1 (pc' := cond (fx_cb .ge (nI A) (nI A)) 171 78) (lc' := [(5, .int (nI A)), (4, .int (nI n)), (0, .ref 0), (1, .int (nI W)), (2, .int to), (3, .int bby)]) (stk' := []) (mem' := fm g tp bt p b) (by intro _ _ _; eq_refl) ?_
    rw [show fx_cb .ge (nI A) (nI A) = true from decide_eq_true (nI_le (Nat.le_refl _) (by omega))]
    dsimp only [cond]
    refine fe_w (lc' := [(4, .int (nI n)), (0, .ref 0), (1, .int (nI W)), (2, .int to), (3, .int bby)]) ⟨rfl, rfl, rfl, rfl, rfl, trivial⟩ (by show List.Nodup [4, 0, 1, 2, 3]; decide) (by show List.Nodup [5, 4, 0, 1, 2, 3]; decide) ?_
    exact kk p hp
  | succ r ih =>
    intro A hA p hp
    have hc : p 1 0 = nI NC := by rw [hp.1 1 (by decide)]; exact hNC
    refine fe_s 4 (pc' := 74) (lc' := [(5, .int (nI A)), (4, .int (nI n)), (0, .ref 0), (1, .int (nI W)), (2, .int to), (3, .int bby)]) (stk' := [.int 0, .ref 1, .int (nI A)]) (mem' := fm g tp bt p b) (by intro _ _ _; eq_refl) ?_
    refine fe_ldI (by rfl) (by rfl) (fx_inN (i := 0) (by omega) (by omega)) ?_
    rw [show p 1 (Int32.toNatClampNeg 0) = nI NC from hc]
    refine fe_s 1 (pc' := cond (fx_cb .ge (nI A) (nI NC)) 171 78) (lc' := [(5, .int (nI A)), (4, .int (nI n)), (0, .ref 0), (1, .int (nI W)), (2, .int to), (3, .int bby)]) (stk' := []) (mem' := fm g tp bt p b) (by intro _ _ _; eq_refl) ?_
    rw [show fx_cb .ge (nI A) (nI NC) = false from decide_eq_false (nI_ge (by omega) (by omega))]
    dsimp only [cond]
    refine fe_s 2 (pc' := 81) (lc' := [(6, .int 0), (5, .int (nI A)), (4, .int (nI n)), (0, .ref 0), (1, .int (nI W)), (2, .int to), (3, .int bby)]) (stk' := []) (mem' := fm g tp bt p b) (by intro _ _ _; eq_refl) ?_
    refine fm_lf_b hW hX hNC hNC10 hn (by omega) (fun q hq => ?_) NC 0 (by omega) p hp
    refine fe_s 2 (pc' := 67) (lc' := [(5, .int ((nI A) + 1)), (6, .int (nI NC)), (4, .int (nI n)), (0, .ref 0), (1, .int (nI W)), (2, .int to), (3, .int bby)]) (stk' := []) (mem' := fm g tp bt q b) (by intro _ _ _; eq_refl) ?_
    refine fe_w (lc' := [(5, .int ((nI A) + 1)), (4, .int (nI n)), (0, .ref 0), (1, .int (nI W)), (2, .int to), (3, .int bby)]) ⟨rfl, rfl, rfl, rfl, rfl, rfl, trivial⟩ (by show List.Nodup [5, 4, 0, 1, 2, 3]; decide) (by show List.Nodup [5, 6, 4, 0, 1, 2, 3]; decide) ?_
    rw [nI_1]
    exact ih (A + 1) (by omega) q hq
theorem fm_lf_n (hW : W < 8) (hX : a 1 (279 + 5 * W) = nI X) (hX10 : X < 10) (hNC : a 1 0 = nI NC) (hNC10 : NC ≤ 10) : ∀ (r n : Nat), n + r = 10 → ∀ p, fm_ok9 a p → fe_R 4 gk_m305 57 [(4, .int (nI n)), (0, .ref 0), (1, .int (nI W)), (2, .int to), (3, .int bby)] [] (fm g tp bt p b) (fm_F9 g tp bt a b X) := by
  intro r
  induction r with
  | zero =>
    intro n hn p hp
    obtain rfl : n = 10 := by omega
    have hXp : p 1 (279 + 5 * W) = nI X := by rw [hp.1 1 (by decide)]; exact hX
    refine fe_s 2 (pc' := 61) (lc' := [(4, .int (nI 10)), (0, .ref 0), (1, .int (nI W)), (2, .int to), (3, .int bby)]) (stk' := [.int 10, .int (nI 10)]) (mem' := fm g tp bt p b) (by intro _ _ _; eq_refl) ?_
    refine fe_s 1 (pc' := cond (fx_cb .ge (nI 10) 10) 177 64) (lc' := [(4, .int (nI 10)), (0, .ref 0), (1, .int (nI W)), (2, .int to), (3, .int bby)]) (stk' := []) (mem' := fm g tp bt p b) (by intro _ _ _; eq_refl) ?_
    rw [show fx_cb .ge (nI 10) 10 = true from rfl]
    dsimp only [cond]
    refine fe_s 4 (pc' := 183) (lc' := [(4, .int (nI 10)), (0, .ref 0), (1, .int (nI W)), (2, .int to), (3, .int bby)]) (stk' := [.int (nI W), .ref 0, .ref 9]) (mem' := fm g tp bt p b) (by intro _ _ _; eq_refl) ?_
    refine fe_ivV (fr_whereOf hW) (by omega) (by rfl) (by rfl) (by rfl) (by rfl) (by rfl) (by rfl) ?_
    rw [hXp]
    show fe_R 4 gk_m305 186 [(4, .int (nI 10)), (0, .ref 0), (1, .int (nI W)), (2, .int to), (3, .int bby)] [.int (nI X), .ref 9] (fm g tp bt p b) _
    refine fe_ldI (by rfl) (by rfl) (fx_inN (by omega) (by omega)) ?_
    rw [nI_clamp (by omega)]
    exact fe_ret (⟨p, hp, rfl⟩) (by rfl) (by rfl) (by rfl)
  | succ r ih =>
    intro n hn p hp
    refine fe_s 2 (pc' := 61) (lc' := [(4, .int (nI n)), (0, .ref 0), (1, .int (nI W)), (2, .int to), (3, .int bby)]) (stk' := [.int 10, .int (nI n)]) (mem' := fm g tp bt p b) (by intro _ _ _; eq_refl) ?_
    refine fe_s 1 (pc' := cond (fx_cb .ge (nI n) 10) 177 64) (lc' := [(4, .int (nI n)), (0, .ref 0), (1, .int (nI W)), (2, .int to), (3, .int bby)]) (stk' := []) (mem' := fm g tp bt p b) (by intro _ _ _; eq_refl) ?_
    rw [show fx_cb .ge (nI n) 10 = false from decide_eq_false (nI_ge (b := 10) (by omega) (by omega))]
    dsimp only [cond]
    refine fe_s 2 (pc' := 67) (lc' := [(5, .int 0), (4, .int (nI n)), (0, .ref 0), (1, .int (nI W)), (2, .int to), (3, .int bby)]) (stk' := []) (mem' := fm g tp bt p b) (by intro _ _ _; eq_refl) ?_
    refine fm_lf_a hW hX hNC hNC10 (by omega) (fun q hq => ?_) NC 0 (by omega) p hp
    refine fe_s 2 (pc' := 57) (lc' := [(4, .int ((nI n) + 1)), (0, .ref 0), (1, .int (nI W)), (2, .int to), (3, .int bby)]) (stk' := []) (mem' := fm g tp bt q b) (by intro _ _ _; eq_refl) ?_
    rw [nI_1]
    exact ih (n + 1) (by omega) q hq
theorem fr_laysFar (hW : W < 8) (hX : a 1 (279 + 5 * W) = nI X) (hX10 : X < 10) (hNC : a 1 0 = nI NC) (hNC10 : NC ≤ 10) : ∃ (v : Option Value) (mem' : fx_M), fm_F9 g tp bt a b X (v, mem') ∧ fr_T 5 305 [.ref 0, .int (nI W), .int to, .int bby] (fm g tp bt a b) v mem' := by
  refine fe_meth (by rfl) (by rfl) ?_
  have loop : ∀ (r c : Nat), c + r = 10 → ∀ p : Nat → Nat → Int32, (∀ t, t ≠ 9 → p t = a t) → (∀ i, i < c → p 9 i = 0 ∨ p 9 i = 1000000) → fe_R 4 gk_m305 3 [(4, .int (nI c)), (0, .ref 0), (1, .int (nI W)), (2, .int to), (3, .int bby)] [] (fm g tp bt p b) (fm_F9 g tp bt a b X) := by
    intro r
    induction r with
    | zero =>
      intro c hc p hp hi
      obtain rfl : c = 10 := by omega
      refine fe_s 2 (pc' := 7) (lc' := [(4, .int (nI 10)), (0, .ref 0), (1, .int (nI W)), (2, .int to), (3, .int bby)]) (stk' := [.int 10, .int (nI 10)]) (mem' := fm g tp bt p b) (by intro _ _ _; eq_refl) ?_
      refine fe_s 1 (pc' := cond (fx_cb .ge (nI 10) 10) 54 10) (lc' := [(4, .int (nI 10)), (0, .ref 0), (1, .int (nI W)), (2, .int to), (3, .int bby)]) (stk' := []) (mem' := fm g tp bt p b) (by intro _ _ _; eq_refl) ?_
      rw [show fx_cb .ge (nI 10) 10 = true from rfl]
      dsimp only [cond]
      refine fe_s 2 (pc' := 57) (lc' := [(4, .int 0), (0, .ref 0), (1, .int (nI W)), (2, .int to), (3, .int bby)]) (stk' := []) (mem' := fm g tp bt p b) (by intro _ _ _; eq_refl) ?_
      exact fm_lf_n hW hX hX10 hNC hNC10 10 0 (by omega) p ⟨hp, fun i hi2 => (hi i hi2).elim (fun z => Or.inr ⟨0, by omega, z, Or.inl rfl⟩) Or.inl⟩
    | succ r ih =>
      intro c hc p hp hi
      have hXp : p 1 (279 + 5 * W) = nI X := by rw [hp 1 (by decide)]; exact hX
      have store : ∀ v : Int32, v = 0 ∨ v = 1000000 → fe_R 4 gk_m305 47 [(4, .int (nI c)), (0, .ref 0), (1, .int (nI W)), (2, .int to), (3, .int bby)] [.int v, .int (nI c), .ref 9] (fm g tp bt p b) (fm_F9 g tp bt a b X) := by
        intro v hv
        refine fe_stI (mem' := fm g tp bt (fm_u p 9 (nI c).toNatClampNeg v) b) (by rfl) (by rfl) (fx_inN (by omega) (by omega)) fm_si9 ?_
        rw [nI_clamp (by omega)]
        refine fe_s 2 (pc' := 3) (lc' := [(4, .int ((nI c) + 1)), (0, .ref 0), (1, .int (nI W)), (2, .int to), (3, .int bby)]) (stk' := []) (mem' := fm g tp bt (fm_u p 9 c v) b) (by intro _ _ _; eq_refl) ?_
        rw [nI_1]
        refine ih (c + 1) (by omega) _ (fun t ht => by rw [fm_u9' ht]; exact hp t ht) (fun i hi2 => ?_)
        rw [fm_u9]
        by_cases e : i = c
        · subst e; rw [pk_us]; exact hv
        · rw [pk_un e]; exact hi i (by omega)
      refine fe_s 2 (pc' := 7) (lc' := [(4, .int (nI c)), (0, .ref 0), (1, .int (nI W)), (2, .int to), (3, .int bby)]) (stk' := [.int 10, .int (nI c)]) (mem' := fm g tp bt p b) (by intro _ _ _; eq_refl) ?_
      refine fe_s 1 (pc' := cond (fx_cb .ge (nI c) 10) 54 10) (lc' := [(4, .int (nI c)), (0, .ref 0), (1, .int (nI W)), (2, .int to), (3, .int bby)]) (stk' := []) (mem' := fm g tp bt p b) (by intro _ _ _; eq_refl) ?_
      rw [show fx_cb .ge (nI c) 10 = false from decide_eq_false (nI_ge (b := 10) (by omega) (by omega))]
      dsimp only [cond]
      refine fe_s 5 (pc' := 19) (lc' := [(4, .int (nI c)), (0, .ref 0), (1, .int (nI W)), (2, .int to), (3, .int bby)]) (stk' := [.int to, .int (nI c), .int (nI c), .ref 9]) (mem' := fm g tp bt p b) (by intro _ _ _; eq_refl) ?_
      by_cases h1 : nI c = to
      · refine fe_s 1 (pc' := cond (fx_cb .ne (nI c) to) 44 22) (lc' := [(4, .int (nI c)), (0, .ref 0), (1, .int (nI W)), (2, .int to), (3, .int bby)]) (stk' := [.int (nI c), .ref 9]) (mem' := fm g tp bt p b) (by intro _ _ _; eq_refl) ?_
        rw [show fx_cb .ne (nI c) to = false from by rw [show fx_cb .ne (nI c) to = !decide (nI c = to) from rfl, decide_eq_true h1]; rfl]
        dsimp only [cond]
        refine fe_s 3 (pc' := 25) (lc' := [(4, .int (nI c)), (0, .ref 0), (1, .int (nI W)), (2, .int to), (3, .int bby)]) (stk' := [.int to, .int bby, .ref 0, .int (nI c), .ref 9]) (mem' := fm g tp bt p b) (by intro _ _ _; eq_refl) ?_
        refine fe_ivV fr_isIn (by omega) (by rfl) (by rfl) (by rfl) (by rfl) (by rfl) (by rfl) ?_
        rcases fm_b_01 bby to with h2 | h2
        · rw [h2]
          refine fe_s 1 (pc' := cond (fx_cb .ne 0 0) 40 31) (lc' := [(4, .int (nI c)), (0, .ref 0), (1, .int (nI W)), (2, .int to), (3, .int bby)]) (stk' := [.int (nI c), .ref 9]) (mem' := fm g tp bt p b) (by intro _ _ _; eq_refl) ?_
          rw [show fx_cb .ne 0 0 = false from rfl]
          dsimp only [cond]
          refine fe_s 2 (pc' := 33) (lc' := [(4, .int (nI c)), (0, .ref 0), (1, .int (nI W)), (2, .int to), (3, .int bby)]) (stk' := [.int (nI W), .ref 0, .int (nI c), .ref 9]) (mem' := fm g tp bt p b) (by intro _ _ _; eq_refl) ?_
          refine fe_ivV (fr_whereOf hW) (by omega) (by rfl) (by rfl) (by rfl) (by rfl) (by rfl) (by rfl) ?_
          rw [hXp]
          refine fe_s 1 (pc' := 37) (lc' := [(4, .int (nI c)), (0, .ref 0), (1, .int (nI W)), (2, .int to), (3, .int bby)]) (stk' := [.int to, .int (nI X), .int (nI c), .ref 9]) (mem' := fm g tp bt p b) (by intro _ _ _; eq_refl) ?_
          by_cases h3 : nI X = to
          · refine fe_s 1 (pc' := cond (fx_cb .ne (nI X) to) 44 40) (lc' := [(4, .int (nI c)), (0, .ref 0), (1, .int (nI W)), (2, .int to), (3, .int bby)]) (stk' := [.int (nI c), .ref 9]) (mem' := fm g tp bt p b) (by intro _ _ _; eq_refl) ?_
            rw [show fx_cb .ne (nI X) to = false from by rw [show fx_cb .ne (nI X) to = !decide (nI X = to) from rfl, decide_eq_true h3]; rfl]
            dsimp only [cond]
            refine fe_s 2 (pc' := 47) (lc' := [(4, .int (nI c)), (0, .ref 0), (1, .int (nI W)), (2, .int to), (3, .int bby)]) (stk' := [.int 0, .int (nI c), .ref 9]) (mem' := fm g tp bt p b) (by intro _ _ _; eq_refl) ?_
            exact store 0 (Or.inl rfl)
          · refine fe_s 1 (pc' := cond (fx_cb .ne (nI X) to) 44 40) (lc' := [(4, .int (nI c)), (0, .ref 0), (1, .int (nI W)), (2, .int to), (3, .int bby)]) (stk' := [.int (nI c), .ref 9]) (mem' := fm g tp bt p b) (by intro _ _ _; eq_refl) ?_
            rw [show fx_cb .ne (nI X) to = true from by rw [show fx_cb .ne (nI X) to = !decide (nI X = to) from rfl, decide_eq_false h3]; rfl]
            dsimp only [cond]
            refine fe_s 1 (pc' := 47) (lc' := [(4, .int (nI c)), (0, .ref 0), (1, .int (nI W)), (2, .int to), (3, .int bby)]) (stk' := [.int 1000000, .int (nI c), .ref 9]) (mem' := fm g tp bt p b) (by intro _ _ _; eq_refl) ?_
            exact store 1000000 (Or.inr rfl)
        · rw [h2]
          refine fe_s 1 (pc' := cond (fx_cb .ne 1 0) 40 31) (lc' := [(4, .int (nI c)), (0, .ref 0), (1, .int (nI W)), (2, .int to), (3, .int bby)]) (stk' := [.int (nI c), .ref 9]) (mem' := fm g tp bt p b) (by intro _ _ _; eq_refl) ?_
          rw [show fx_cb .ne 1 0 = true from rfl]
          dsimp only [cond]
          refine fe_s 2 (pc' := 47) (lc' := [(4, .int (nI c)), (0, .ref 0), (1, .int (nI W)), (2, .int to), (3, .int bby)]) (stk' := [.int 0, .int (nI c), .ref 9]) (mem' := fm g tp bt p b) (by intro _ _ _; eq_refl) ?_
          exact store 0 (Or.inl rfl)
      · refine fe_s 1 (pc' := cond (fx_cb .ne (nI c) to) 44 22) (lc' := [(4, .int (nI c)), (0, .ref 0), (1, .int (nI W)), (2, .int to), (3, .int bby)]) (stk' := [.int (nI c), .ref 9]) (mem' := fm g tp bt p b) (by intro _ _ _; eq_refl) ?_
        rw [show fx_cb .ne (nI c) to = true from by rw [show fx_cb .ne (nI c) to = !decide (nI c = to) from rfl, decide_eq_false h1]; rfl]
        dsimp only [cond]
        refine fe_s 1 (pc' := 47) (lc' := [(4, .int (nI c)), (0, .ref 0), (1, .int (nI W)), (2, .int to), (3, .int bby)]) (stk' := [.int 1000000, .int (nI c), .ref 9]) (mem' := fm g tp bt p b) (by intro _ _ _; eq_refl) ?_
        exact store 1000000 (Or.inr rfl)
  refine fe_s 2 (pc' := 3) (lc' := [(4, .int (nI 0)), (0, .ref 0), (1, .int (nI W)), (2, .int to), (3, .int bby)]) (stk' := []) (mem' := fm g tp bt a b) (by intro _ _ _; eq_refl) ?_
  exact loop 10 0 (by omega) a (fun _ _ => rfl) (fun i h => absurd h (Nat.not_lt_zero i))
end FL
end MH38_2
section MH38_3
/-! ===== fx and tk: the model's memory out of a typed world ===== -/
def fm_Ty (TY : tk_TT) : Prop := TY.1 = gm_ty ∧ TY.2.1 = gm_reg ∧ TY.2.2.1 = gm_rgn
/-- the model's cells stand in a world -/
def fm_at (s : State) (tw : List Nat) (ws : va_W) (h0 : Nat) (ps : fx_P) (σ : List Nat) (mem : fx_M) : Prop := ps.length = 23 ∧ σ.length = 22 ∧ (∃ c, ps[0]? = some (h0, c)) ∧ fx_ok s ps mem ∧ ∀ (t j : Nat), σ[t]? = some j → tw[j]? = some t ∧ ∃ (q : Nat × ClassId) (e : fx_E), ps[t]? = some q ∧ mem[t]? = some e ∧ ws[j]? = some (q.1, fx_c ps q.2 e)
def fm_gi (vs : List Value) (k : Nat) : Int32 := match vs[k]? with
  | some (.int x) => x
  | _ => 0
def fm_gl (vs : List Value) (k : Nat) : Int64 := match vs[k]? with
  | some (.long x) => x
  | _ => 0
theorem fm_fi {ro : Nat → Nat → Int → Prop} {reg : Nat → Nat → tk_I} {ads tw : List Nat} {vs : List Value} {k t : Nat} {lo hi : Int} {o2 : List tk_F} (hl : vs.length = o2.length) (hvs : ∀ (i : Nat) (f : tk_F) (v : Value), o2[i]? = some f → vs[i]? = some v → tk_fv ro reg ads tw t i f v) (hf : o2[k]? = some (0, lo, hi)) : vs[k]? = some (.int (fm_gi vs k)) := by
  have hk : k < vs.length := by rw [hl]; exact (List.getElem?_eq_some_iff.mp hf).1
  obtain ⟨x, hx, -⟩ := hvs k _ _ hf (List.getElem?_eq_getElem hk)
  unfold fm_gi
  rw [List.getElem?_eq_getElem hk, hx]
theorem fm_fl {ro : Nat → Nat → Int → Prop} {reg : Nat → Nat → tk_I} {ads tw : List Nat} {vs : List Value} {k t : Nat} {lo hi : Int} {o2 : List tk_F} (hl : vs.length = o2.length) (hvs : ∀ (i : Nat) (f : tk_F) (v : Value), o2[i]? = some f → vs[i]? = some v → tk_fv ro reg ads tw t i f v) (hf : o2[k]? = some (1, lo, hi)) : vs[k]? = some (.long (fm_gl vs k)) := by
  have hk : k < vs.length := by rw [hl]; exact (List.getElem?_eq_some_iff.mp hf).1
  obtain ⟨x, hx, -⟩ := hvs k _ _ hf (List.getElem?_eq_getElem hk)
  unfold fm_gl
  rw [List.getElem?_eq_getElem hk, hx]
theorem fm_fr {ro : Nat → Nat → Int → Prop} {reg : Nat → Nat → tk_I} {ads tw : List Nat} {vs : List Value} {k t : Nat} {lo : Int} {o2 : List tk_F} (hl : vs.length = o2.length) (hvs : ∀ (i : Nat) (f : tk_F) (v : Value), o2[i]? = some f → vs[i]? = some v → tk_fv ro reg ads tw t i f v) (hf : o2[k]? = some (2, lo, 0)) : ∃ y, vs[k]? = some (.ref y) ∧ tk_ty ads tw lo.toNat y := by
  have hk : k < vs.length := by rw [hl]; exact (List.getElem?_eq_some_iff.mp hf).1
  obtain ⟨y, hy, ht⟩ := hvs k _ _ hf (List.getElem?_eq_getElem hk)
  refine ⟨y, by rw [List.getElem?_eq_getElem hk, hy], ?_⟩
  have e : lo.toNat + k * (0 : Int).toNat = lo.toNat := by
    show lo.toNat + k * 0 = lo.toNat
    omega
  rw [← e]
  exact ht
def fm_s2 (L : List (Nat → Int32)) (t : Nat) : Nat → Int32 := L.getD t (fun _ => 0)
def fm_s3 (L : List (Nat → Int64)) (t : Nat) : Nat → Int64 := L.getD t (fun _ => 0)
set_option maxHeartbeats 8000000 in
theorem fm_in (z : Nat) {TY : tk_TT} {ro : Nat → Nat → Int → Prop} {ads tw : List Nat} {s : State} {ws : va_W} {h0 : Nat} (hT : fm_Ty TY) (h4 : ws.map Prod.fst = ads) (h5 : rk_A2 (fun t (q : Nat × va_E) => tk_cl TY ro ads tw s t q.2) tw ws) (hty : tk_ty ads tw 0 h0) : ∃ (g : Nat → Int32) (tp bt : Int64) (a : Nat → Nat → Int32) (b : Nat → Nat → Int64) (ps : fx_P) (σ : List Nat), fm_at s tw ws h0 ps σ (fm g tp bt a b) ∧ fx_ad ps 22 = z := by
  obtain ⟨T1, T2, T3, T4⟩ := TY
  obtain ⟨hT1, hT2, hT3⟩ := hT
  dsimp only at hT1 hT2 hT3
  subst hT1 hT2 hT3
  obtain ⟨j0, e0, hw0, hj0, hc0⟩ := tk_cell h4 h5 hty
  unfold tk_cl at hc0
  rw [show gm_ty[0]? = some (.inl (12, _)) from rfl] at hc0
  obtain ⟨vs, rfl, hvl, hvs⟩ := hc0
  dsimp only at hw0
  obtain ⟨y1, f0, ty1⟩ := fm_fr (k := 0) hvl hvs rfl
  obtain ⟨j1, e1, hw1, hj1, hc1⟩ := tk_cell h4 h5 ty1
  unfold tk_cl at hc1
  rw [show gm_ty[(1 : Int).toNat]? = some (.inr (.int, 5894, _)) from rfl] at hc1
  obtain ⟨c1, hA1, hR1, F1, rfl, hf1⟩ := hc1
  dsimp only at hw1 hA1 hR1
  obtain ⟨y2, f1, ty2⟩ := fm_fr (k := 1) hvl hvs rfl
  obtain ⟨j2, e2, hw2, hj2, hc2⟩ := tk_cell h4 h5 ty2
  unfold tk_cl at hc2
  rw [show gm_ty[(2 : Int).toNat]? = some (.inr (.long, 108, _)) from rfl] at hc2
  obtain ⟨c2, hA2, hR2, F2, rfl, hf2⟩ := hc2
  dsimp only at hw2 hA2 hR2
  have f2 := fm_fi (k := 2) hvl hvs rfl
  have f3 := fm_fl (k := 3) hvl hvs rfl
  have f4 := fm_fl (k := 4) hvl hvs rfl
  obtain ⟨y3, f5, ty3⟩ := fm_fr (k := 5) hvl hvs rfl
  obtain ⟨j3, e3, hw3, hj3, hc3⟩ := tk_cell h4 h5 ty3
  unfold tk_cl at hc3
  rw [show gm_ty[(3 : Int).toNat]? = some (.inr (.int, 4, _)) from rfl] at hc3
  obtain ⟨c3, hA3, hR3, F3, rfl, hf3⟩ := hc3
  dsimp only at hw3 hA3 hR3
  obtain ⟨y4, f6, ty4⟩ := fm_fr (k := 6) hvl hvs rfl
  obtain ⟨j4, e4, hw4, hj4, hc4⟩ := tk_cell h4 h5 ty4
  unfold tk_cl at hc4
  rw [show gm_ty[(4 : Int).toNat]? = some (.inr (.int, 4, _)) from rfl] at hc4
  obtain ⟨c4, hA4, hR4, F4, rfl, hf4⟩ := hc4
  dsimp only at hw4 hA4 hR4
  obtain ⟨y5, f7, ty5⟩ := fm_fr (k := 7) hvl hvs rfl
  obtain ⟨j5, e5, hw5, hj5, hc5⟩ := tk_cell h4 h5 ty5
  unfold tk_cl at hc5
  rw [show gm_ty[(5 : Int).toNat]? = some (.inr (.long, 240, _)) from rfl] at hc5
  obtain ⟨c5, hA5, hR5, F5, rfl, hf5⟩ := hc5
  dsimp only at hw5 hA5 hR5
  obtain ⟨y6, f8, ty6⟩ := fm_fr (k := 8) hvl hvs rfl
  obtain ⟨j6, e6, hw6, hj6, hc6⟩ := tk_cell h4 h5 ty6
  unfold tk_cl at hc6
  rw [show gm_ty[(6 : Int).toNat]? = some (.inr (.byte, 900, _)) from rfl] at hc6
  obtain ⟨c6, hA6, hR6, F6, rfl, hf6⟩ := hc6
  dsimp only at hw6 hA6 hR6
  obtain ⟨y7, f9, ty7⟩ := fm_fr (k := 9) hvl hvs rfl
  obtain ⟨j7, e7, hw7, hj7, hc7⟩ := tk_cell h4 h5 ty7
  unfold tk_cl at hc7
  rw [show gm_ty[(7 : Int).toNat]? = some (.inr (.byte, 900, _)) from rfl] at hc7
  obtain ⟨c7, hA7, hR7, F7, rfl, hf7⟩ := hc7
  dsimp only at hw7 hA7 hR7
  have f10 := fm_fi (k := 10) hvl hvs rfl
  have f11 := fm_fi (k := 11) hvl hvs rfl
  have f12 := fm_fi (k := 12) hvl hvs rfl
  have f13 := fm_fi (k := 13) hvl hvs rfl
  have f14 := fm_fi (k := 14) hvl hvs rfl
  have f15 := fm_fi (k := 15) hvl hvs rfl
  have f16 := fm_fi (k := 16) hvl hvs rfl
  have f17 := fm_fi (k := 17) hvl hvs rfl
  have f18 := fm_fi (k := 18) hvl hvs rfl
  have f19 := fm_fi (k := 19) hvl hvs rfl
  have f20 := fm_fi (k := 20) hvl hvs rfl
  obtain ⟨y8, f21, ty8⟩ := fm_fr (k := 21) hvl hvs rfl
  obtain ⟨j8, e8, hw8, hj8, hc8⟩ := tk_cell h4 h5 ty8
  unfold tk_cl at hc8
  rw [show gm_ty[(8 : Int).toNat]? = some (.inr (.int, 3, _)) from rfl] at hc8
  obtain ⟨c8, hA8, hR8, F8, rfl, hf8⟩ := hc8
  dsimp only at hw8 hA8 hR8
  have f22 := fm_fi (k := 22) hvl hvs rfl
  have f23 := fm_fi (k := 23) hvl hvs rfl
  obtain ⟨y9, f24, ty9⟩ := fm_fr (k := 24) hvl hvs rfl
  obtain ⟨j9, e9, hw9, hj9, hc9⟩ := tk_cell h4 h5 ty9
  unfold tk_cl at hc9
  rw [show gm_ty[(9 : Int).toNat]? = some (.inr (.int, 10, _)) from rfl] at hc9
  obtain ⟨c9, hA9, hR9, F9, rfl, hf9⟩ := hc9
  dsimp only at hw9 hA9 hR9
  have f25 := fm_fi (k := 25) hvl hvs rfl
  obtain ⟨y10, f26, ty10⟩ := fm_fr (k := 26) hvl hvs rfl
  obtain ⟨j10, e10, hw10, hj10, hc10⟩ := tk_cell h4 h5 ty10
  unfold tk_cl at hc10
  rw [show gm_ty[(10 : Int).toNat]? = some (.inr (.int, 4, _)) from rfl] at hc10
  obtain ⟨c10, hA10, hR10, F10, rfl, hf10⟩ := hc10
  dsimp only at hw10 hA10 hR10
  obtain ⟨y11, f27, ty11⟩ := fm_fr (k := 27) hvl hvs rfl
  obtain ⟨j11, e11, hw11, hj11, hc11⟩ := tk_cell h4 h5 ty11
  unfold tk_cl at hc11
  rw [show gm_ty[(11 : Int).toNat]? = some (.inr (.int, 4, _)) from rfl] at hc11
  obtain ⟨c11, hA11, hR11, F11, rfl, hf11⟩ := hc11
  dsimp only at hw11 hA11 hR11
  obtain ⟨y12, f28, ty12⟩ := fm_fr (k := 28) hvl hvs rfl
  obtain ⟨j12, e12, hw12, hj12, hc12⟩ := tk_cell h4 h5 ty12
  unfold tk_cl at hc12
  rw [show gm_ty[(12 : Int).toNat]? = some (.inr (.int, 4, _)) from rfl] at hc12
  obtain ⟨c12, hA12, hR12, F12, rfl, hf12⟩ := hc12
  dsimp only at hw12 hA12 hR12
  obtain ⟨y13, f29, ty13⟩ := fm_fr (k := 29) hvl hvs rfl
  obtain ⟨j13, e13, hw13, hj13, hc13⟩ := tk_cell h4 h5 ty13
  unfold tk_cl at hc13
  rw [show gm_ty[(13 : Int).toNat]? = some (.inr (.int, 4, _)) from rfl] at hc13
  obtain ⟨c13, hA13, hR13, F13, rfl, hf13⟩ := hc13
  dsimp only at hw13 hA13 hR13
  have f30 := fm_fi (k := 30) hvl hvs rfl
  obtain ⟨y14, f31, ty14⟩ := fm_fr (k := 31) hvl hvs rfl
  obtain ⟨j14, e14, hw14, hj14, hc14⟩ := tk_cell h4 h5 ty14
  unfold tk_cl at hc14
  rw [show gm_ty[(14 : Int).toNat]? = some (.inr (.int, 256, _)) from rfl] at hc14
  obtain ⟨c14, hA14, hR14, F14, rfl, hf14⟩ := hc14
  dsimp only at hw14 hA14 hR14
  obtain ⟨y15, f32, ty15⟩ := fm_fr (k := 32) hvl hvs rfl
  obtain ⟨j15, e15, hw15, hj15, hc15⟩ := tk_cell h4 h5 ty15
  unfold tk_cl at hc15
  rw [show gm_ty[(15 : Int).toNat]? = some (.inr (.int, 427, _)) from rfl] at hc15
  obtain ⟨c15, hA15, hR15, F15, rfl, hf15⟩ := hc15
  dsimp only at hw15 hA15 hR15
  obtain ⟨y16, f33, ty16⟩ := fm_fr (k := 33) hvl hvs rfl
  obtain ⟨j16, e16, hw16, hj16, hc16⟩ := tk_cell h4 h5 ty16
  unfold tk_cl at hc16
  rw [show gm_ty[(16 : Int).toNat]? = some (.inr (.int, 10, _)) from rfl] at hc16
  obtain ⟨c16, hA16, hR16, F16, rfl, hf16⟩ := hc16
  dsimp only at hw16 hA16 hR16
  obtain ⟨y17, f34, ty17⟩ := fm_fr (k := 34) hvl hvs rfl
  obtain ⟨j17, e17, hw17, hj17, hc17⟩ := tk_cell h4 h5 ty17
  unfold tk_cl at hc17
  rw [show gm_ty[(17 : Int).toNat]? = some (.inr (.long, 21, _)) from rfl] at hc17
  obtain ⟨c17, hA17, hR17, F17, rfl, hf17⟩ := hc17
  dsimp only at hw17 hA17 hR17
  obtain ⟨y18, f35, ty18⟩ := fm_fr (k := 35) hvl hvs rfl
  obtain ⟨j18, e18, hw18, hj18, hc18⟩ := tk_cell h4 h5 ty18
  unfold tk_cl at hc18
  rw [show gm_ty[(18 : Int).toNat]? = some (.inr (.long, 21, _)) from rfl] at hc18
  obtain ⟨c18, hA18, hR18, F18, rfl, hf18⟩ := hc18
  dsimp only at hw18 hA18 hR18
  have f36 := fm_fi (k := 36) hvl hvs rfl
  have f37 := fm_fi (k := 37) hvl hvs rfl
  obtain ⟨y19, f38, ty19⟩ := fm_fr (k := 38) hvl hvs rfl
  obtain ⟨j19, e19, hw19, hj19, hc19⟩ := tk_cell h4 h5 ty19
  unfold tk_cl at hc19
  rw [show gm_ty[(19 : Int).toNat]? = some (.inr (.int, 80, _)) from rfl] at hc19
  obtain ⟨c19, hA19, hR19, F19, rfl, hf19⟩ := hc19
  dsimp only at hw19 hA19 hR19
  obtain ⟨y20, f39, ty20⟩ := fm_fr (k := 39) hvl hvs rfl
  obtain ⟨j20, e20, hw20, hj20, hc20⟩ := tk_cell h4 h5 ty20
  unfold tk_cl at hc20
  rw [show gm_ty[(20 : Int).toNat]? = some (.inr (.int, 5, _)) from rfl] at hc20
  obtain ⟨c20, hA20, hR20, F20, rfl, hf20⟩ := hc20
  dsimp only at hw20 hA20 hR20
  obtain ⟨y21, f40, ty21⟩ := fm_fr (k := 40) hvl hvs rfl
  obtain ⟨j21, e21, hw21, hj21, hc21⟩ := tk_cell h4 h5 ty21
  unfold tk_cl at hc21
  rw [show gm_ty[(21 : Int).toNat]? = some (.inr (.int, 5, _)) from rfl] at hc21
  obtain ⟨c21, hA21, hR21, F21, rfl, hf21⟩ := hc21
  dsimp only at hw21 hA21 hR21
  have f41 := fm_fi (k := 41) hvl hvs rfl
  have f42 := fm_fi (k := 42) hvl hvs rfl
  let ps : fx_P := [(h0, 0), (y1, c1), (y2, c2), (y3, c3), (y4, c4), (y5, c5), (y6, c6), (y7, c7), (y8, c8), (y9, c9), (y10, c10), (y11, c11), (y12, c12), (y13, c13), (y14, c14), (y15, c15), (y16, c16), (y17, c17), (y18, c18), (y19, c19), (y20, c20), (y21, c21), (z, 0)]
  let a : Nat → Nat → Int32 := fm_s2 [(fun _ => 0), F1, (fun _ => 0), F3, F4, (fun _ => 0), F6, F7, F8, F9, F10, F11, F12, F13, F14, F15, F16, (fun _ => 0), (fun _ => 0), F19, F20, F21]
  let b : Nat → Nat → Int64 := fm_s3 [(fun _ => 0), (fun _ => 0), F2, (fun _ => 0), (fun _ => 0), F5, (fun _ => 0), (fun _ => 0), (fun _ => 0), (fun _ => 0), (fun _ => 0), (fun _ => 0), (fun _ => 0), (fun _ => 0), (fun _ => 0), (fun _ => 0), (fun _ => 0), F17, F18, (fun _ => 0), (fun _ => 0), (fun _ => 0)]
  have hobj : vs = (fm_o (fm_gi vs) (fm_gl vs 3) (fm_gl vs 4)).map (fx_v ps) := by
    apply List.ext_getElem?
    intro k
    match k with
    | 0 => exact f0
    | 1 => exact f1
    | 2 => exact f2
    | 3 => exact f3
    | 4 => exact f4
    | 5 => exact f5
    | 6 => exact f6
    | 7 => exact f7
    | 8 => exact f8
    | 9 => exact f9
    | 10 => exact f10
    | 11 => exact f11
    | 12 => exact f12
    | 13 => exact f13
    | 14 => exact f14
    | 15 => exact f15
    | 16 => exact f16
    | 17 => exact f17
    | 18 => exact f18
    | 19 => exact f19
    | 20 => exact f20
    | 21 => exact f21
    | 22 => exact f22
    | 23 => exact f23
    | 24 => exact f24
    | 25 => exact f25
    | 26 => exact f26
    | 27 => exact f27
    | 28 => exact f28
    | 29 => exact f29
    | 30 => exact f30
    | 31 => exact f31
    | 32 => exact f32
    | 33 => exact f33
    | 34 => exact f34
    | 35 => exact f35
    | 36 => exact f36
    | 37 => exact f37
    | 38 => exact f38
    | 39 => exact f39
    | 40 => exact f40
    | 41 => exact f41
    | 42 => exact f42
    | k + 43 =>
      rw [List.getElem?_eq_none (by rw [hvl]; show 43 ≤ k + 43; omega), List.getElem?_eq_none (by rw [List.length_map]; show 43 ≤ k + 43; omega)]
  refine ⟨fm_gi vs, fm_gl vs 3, fm_gl vs 4, a, b, ps, [j0, j1, j2, j3, j4, j5, j6, j7, j8, j9, j10, j11, j12, j13, j14, j15, j16, j17, j18, j19, j20, j21], ⟨rfl, rfl, ⟨0, rfl⟩, ⟨rfl, fun j q ty z hq hm => ?_⟩, fun t j hs => ?_⟩, rfl⟩
  · match j with
    | 0 => cases hm
    | 1 => cases hq; cases hm; exact ⟨hA1, hR1⟩
    | 2 => cases hq; cases hm; exact ⟨hA2, hR2⟩
    | 3 => cases hq; cases hm; exact ⟨hA3, hR3⟩
    | 4 => cases hq; cases hm; exact ⟨hA4, hR4⟩
    | 5 => cases hq; cases hm; exact ⟨hA5, hR5⟩
    | 6 => cases hq; cases hm; exact ⟨hA6, hR6⟩
    | 7 => cases hq; cases hm; exact ⟨hA7, hR7⟩
    | 8 => cases hq; cases hm; exact ⟨hA8, hR8⟩
    | 9 => cases hq; cases hm; exact ⟨hA9, hR9⟩
    | 10 => cases hq; cases hm; exact ⟨hA10, hR10⟩
    | 11 => cases hq; cases hm; exact ⟨hA11, hR11⟩
    | 12 => cases hq; cases hm; exact ⟨hA12, hR12⟩
    | 13 => cases hq; cases hm; exact ⟨hA13, hR13⟩
    | 14 => cases hq; cases hm; exact ⟨hA14, hR14⟩
    | 15 => cases hq; cases hm; exact ⟨hA15, hR15⟩
    | 16 => cases hq; cases hm; exact ⟨hA16, hR16⟩
    | 17 => cases hq; cases hm; exact ⟨hA17, hR17⟩
    | 18 => cases hq; cases hm; exact ⟨hA18, hR18⟩
    | 19 => cases hq; cases hm; exact ⟨hA19, hR19⟩
    | 20 => cases hq; cases hm; exact ⟨hA20, hR20⟩
    | 21 => cases hq; cases hm; exact ⟨hA21, hR21⟩
    | j + 22 => cases hm
  · match t with
    | 0 => cases hs; exact ⟨hj0, _, _, rfl, rfl, by rw [hw0]; show some (h0, Sum.inr (12, vs)) = some (h0, Sum.inr (12, (fm_o (fm_gi vs) (fm_gl vs 3) (fm_gl vs 4)).map (fx_v ps))); rw [← hobj]⟩
    | 1 => cases hs; exact ⟨hj1, _, _, rfl, rfl, hw1⟩
    | 2 => cases hs; exact ⟨hj2, _, _, rfl, rfl, hw2⟩
    | 3 => cases hs; exact ⟨hj3, _, _, rfl, rfl, hw3⟩
    | 4 => cases hs; exact ⟨hj4, _, _, rfl, rfl, hw4⟩
    | 5 => cases hs; exact ⟨hj5, _, _, rfl, rfl, hw5⟩
    | 6 => cases hs; exact ⟨hj6, _, _, rfl, rfl, hw6⟩
    | 7 => cases hs; exact ⟨hj7, _, _, rfl, rfl, hw7⟩
    | 8 => cases hs; exact ⟨hj8, _, _, rfl, rfl, hw8⟩
    | 9 => cases hs; exact ⟨hj9, _, _, rfl, rfl, hw9⟩
    | 10 => cases hs; exact ⟨hj10, _, _, rfl, rfl, hw10⟩
    | 11 => cases hs; exact ⟨hj11, _, _, rfl, rfl, hw11⟩
    | 12 => cases hs; exact ⟨hj12, _, _, rfl, rfl, hw12⟩
    | 13 => cases hs; exact ⟨hj13, _, _, rfl, rfl, hw13⟩
    | 14 => cases hs; exact ⟨hj14, _, _, rfl, rfl, hw14⟩
    | 15 => cases hs; exact ⟨hj15, _, _, rfl, rfl, hw15⟩
    | 16 => cases hs; exact ⟨hj16, _, _, rfl, rfl, hw16⟩
    | 17 => cases hs; exact ⟨hj17, _, _, rfl, rfl, hw17⟩
    | 18 => cases hs; exact ⟨hj18, _, _, rfl, rfl, hw18⟩
    | 19 => cases hs; exact ⟨hj19, _, _, rfl, rfl, hw19⟩
    | 20 => cases hs; exact ⟨hj20, _, _, rfl, rfl, hw20⟩
    | 21 => cases hs; exact ⟨hj21, _, _, rfl, rfl, hw21⟩
    | t + 22 => cases hs
end MH38_3
section MH38_4
/-! ===== fx and tk: behind a call, the world again; contracts of the model by fx ===== -/
theorem rk_A2_of {α β : Type} {R : α → β → Prop} : ∀ {l : List α} {l' : List β}, l.length = l'.length → (∀ (i : Nat) (a : α) (b : β), l[i]? = some a → l'[i]? = some b → R a b) → rk_A2 R l l' := by
  intro l
  induction l with
  | nil =>
    intro l' hl _
    cases l' with
    | nil => trivial
    | cons b r => cases hl
  | cons a r ih =>
    intro l' hl h
    cases l' with
    | nil => cases hl
    | cons b r' => exact ⟨h 0 a b rfl rfl, ih (by simpa using hl) (fun i x y hx hy => h (i + 1) x y hx hy)⟩
def fx_put : va_W → List Nat → va_W → va_W
  | ws, j :: σ, w :: W => (fx_put ws σ W).set j w
  | ws, _, _ => ws
theorem fx_put_len (ws : va_W) : ∀ (σ : List Nat) (W : va_W), (fx_put ws σ W).length = ws.length := by
  intro σ
  induction σ with
  | nil => intro W; cases W <;> rfl
  | cons j σ ih =>
    intro W
    cases W with
    | nil => rfl
    | cons w W =>
      show ((fx_put ws σ W).set j w).length = _
      rw [List.length_set, ih]
theorem fx_put_out (ws : va_W) {i : Nat} : ∀ (σ : List Nat) (W : va_W), (∀ t : Nat, ¬ σ[t]? = some i) → (fx_put ws σ W)[i]? = ws[i]? := by
  intro σ
  induction σ with
  | nil => intro W _; cases W <;> rfl
  | cons j σ ih =>
    intro W h
    cases W with
    | nil => rfl
    | cons w W =>
      show ((fx_put ws σ W).set j w)[i]? = _
      have hne : ¬ j = i := fun e => h 0 (by rw [e]; rfl)
      rw [List.getElem?_set_ne hne]
      exact ih W (fun t => h (t + 1))
theorem fx_put_in (ws : va_W) {i : Nat} (hi : i < ws.length) {w : Nat × va_E} : ∀ (σ : List Nat) (W : va_W) (t : Nat), (∀ (t1 t2 j : Nat), σ[t1]? = some j → σ[t2]? = some j → t1 = t2) → σ[t]? = some i → W[t]? = some w → (fx_put ws σ W)[i]? = some w := by
  intro σ
  induction σ with
  | nil => intro W t _ h; cases h
  | cons j σ ih =>
    intro W t hinj h hw
    cases W with
    | nil => cases hw
    | cons w0 W =>
      show ((fx_put ws σ W).set j w0)[i]? = _
      cases t with
      | zero =>
        cases h
        cases hw
        exact List.getElem?_set_self (by rw [fx_put_len]; exact hi)
      | succ t =>
        have hne : ¬ j = i := fun e => by
          have := hinj 0 (t + 1) i (by rw [← e]; rfl) h
          omega
        rw [List.getElem?_set_ne hne]
        exact ih W t (fun t1 t2 k h1 h2 => by have := hinj (t1 + 1) (t2 + 1) k h1 h2; omega) h hw
theorem fm_at_inj {s : State} {tw : List Nat} {ws : va_W} {h0 : Nat} {ps : fx_P} {σ : List Nat} {mem : fx_M} (h : fm_at s tw ws h0 ps σ mem) : ∀ (t1 t2 j : Nat), σ[t1]? = some j → σ[t2]? = some j → t1 = t2 := fun t1 t2 j h1 h2 => by
  have e1 := (h.2.2.2.2 t1 j h1).1
  have e2 := (h.2.2.2.2 t2 j h2).1
  rw [e1] at e2
  exact Option.some.inj e2
/-- a place of the new world -/
theorem fm_put {s s' : State} {tw : List Nat} {ws : va_W} {h0 : Nat} {ps : fx_P} {σ : List Nat} {mem mem' : fx_M} (h : fm_at s tw ws h0 ps σ mem) (hO : fx_ok s' ps mem') : (∀ i : Nat, (∀ t : Nat, ¬ σ[t]? = some i) → (fx_put ws σ (fx_w ps mem'))[i]? = ws[i]?) ∧ ∀ (t j : Nat), σ[t]? = some j → tw[j]? = some t ∧ ∃ (q : Nat × ClassId) (e e' : fx_E), ps[t]? = some q ∧ mem[t]? = some e ∧ mem'[t]? = some e' ∧ ws[j]? = some (q.1, fx_c ps q.2 e) ∧ (fx_put ws σ (fx_w ps mem'))[j]? = some (q.1, fx_c ps q.2 e') := by
  refine ⟨fun i hi => fx_put_out ws σ _ hi, fun t j hj => ?_⟩
  obtain ⟨h1, q, e, g1, g2, g3⟩ := h.2.2.2.2 t j hj
  have hl : t < mem'.length := by
    have h7 := hO.1
    have h8 := h.2.2.2.1.1
    have h9 := (List.getElem?_eq_some_iff.mp g2).1
    omega
  have he : mem'[t]? = some mem'[t] := List.getElem?_eq_getElem hl
  refine ⟨h1, q, e, mem'[t], g1, g2, he, g3, fx_put_in ws (List.getElem?_eq_some_iff.mp g3).1 σ _ t (fm_at_inj h) hj ?_⟩
  unfold fx_w
  rw [List.getElem?_zipWith, g1, he]
theorem fm_in_or {σ : List Nat} (i : Nat) : (∃ t : Nat, σ[t]? = some i) ∨ ∀ t : Nat, ¬ σ[t]? = some i := by
  by_cases h : ∃ t : Nat, σ[t]? = some i
  · exact Or.inl h
  · exact Or.inr (fun t ht => h ⟨t, ht⟩)
/-- what a changed cell must be -/
def fm_chg (TY : tk_TT) (ro : Nat → Nat → Int → Prop) (ads tw : List Nat) (mods : List (Nat × Nat)) (ps : fx_P) (t : Nat) (e e' : fx_E) : Prop := e' = e ∨ (∃ (n : Nat) (f f' : Nat → Int32) (fl : tk_F), e = .inr (.int, n, .inl f) ∧ e' = .inr (.int, n, .inl f') ∧ TY.1[t]? = some (.inr (.int, n, fl)) ∧ (∀ i : Nat, i < n → tk_fv ro TY.2.1 ads tw t i fl (.int (f' i))) ∧ (∀ i : Nat, ¬ (t, tk_rg TY t i) ∈ mods → f' i = f i) ∧ ∃ i : Nat, (t, tk_rg TY t i) ∈ mods) ∨ (∃ (ci : Nat) (vs vs' : List Value) (fs : List tk_F), e = .inl (ci, vs) ∧ e' = .inl (ci, vs') ∧ TY.1[t]? = some (.inl (ci, fs)) ∧ vs'.length = fs.length ∧ (∀ (i : Nat) (f : tk_F) (v : Value), fs[i]? = some f → vs'[i]? = some v → ¬ f.1 = 2 → tk_fv ro TY.2.1 ads tw t i f (fx_v ps v)) ∧ (∀ (i : Nat) (f : tk_F), fs[i]? = some f → f.1 = 2 → vs'[i]? = vs[i]?) ∧ (∀ i : Nat, ¬ (t, tk_rg TY t i) ∈ mods → vs'[i]? = vs[i]?) ∧ ∃ i : Nat, (t, tk_rg TY t i) ∈ mods)
section FMO
variable {l : Launch} {D : va_G} {tbl xw : List Jvm.Cond} {xt : tk_XT} {MN : List rk_N} {P : List rk_M2} {TY : tk_TT} {ro : Nat → Nat → Int → Prop} {X1 X2 : va_W → Prop} {ads tw : List Nat}
def tk_KS2 (l : Launch) (D : va_G) (cl : List vw_C) (tbl xw : List Jvm.Cond) (xt : tk_XT) (MN : List rk_N) (P : List rk_M2) (TY : tk_TT) (ro : Nat → Nat → Int → Prop) (X1 X2 : va_W → Prop) (ads tw : List Nat) (d : Nat) (K : tk_K) : Prop := ∀ (q : rk_N), MN[K.1]? = some q → ∃ M, P[K.1]? = some M ∧ M.2.1 ≤ 21 ∧ ∀ (vals : List Int) (rads : List Nat) (ws : va_W) (av : List Value) (sz : Nat), tk_H K.2.2.1 vals → rk_A2 (fun t y => tk_ty ads tw t y) K.2.2.2.1 rads → rk_A2 (tk_g vals rads) K.2.1 av → ws.map Prod.fst = ads → (∀ z ∈ K.2.2.2.2.1, tk_fk vals rads ws z) → tk_ob TY ro ads tw ws → Met l q.2.1 (Jvm.Cond.code q.2.1 q.2.2 M.2.1 M.2.2.2.2.1 :: tbl) { frames := d, cells := 0, slots := 0, locals := 40 * d } (tk_Pre D cl xw xt TY ro X1 ads tw ws sz av) (tk_Post D cl TY ro X2 ads tw K.2.2.2.2.2 vals rads ws (va_A ws sz)) 0 0 (va_A ws sz)
theorem tk_KS2_1 {cl : List vw_C} {X : va_W → Prop} {d : Nat} {K : tk_K} (h : tk_KS2 l D cl tbl xw xt MN P TY ro X X ads tw d K) : tk_KS l D cl tbl xw xt MN P TY ro X ads tw d K := h
set_option maxHeartbeats 8000000 in
theorem fm_KS2 (hst : ∀ (Ad : Nat → Prop) (U : State) (H : Heap), xt Ad U H → ∃ pl v tx, sk_X pl v Ad U H ∧ vk_R "GooseIceModel" 189 tx pl U) (hT : fm_Ty TY) {k f : Nat} {rs : List tk_V} {w : tk_W} {fa : tk_FA} {ys : List tk_X} {mods : List (Nat × Nat)} (hrs : rs.all (fun v => Nat.beq v.1 0) = true)
    (hex : ∀ (U : State) (vals : List Int) (rest : List Value) (ws : va_W) (h0 : Nat) (ps : fx_P) (σ : List Nat) (g : Nat → Int32) (tp bt : Int64) (a : Nat → Nat → Int32) (b : Nat → Nat → Int64), tk_H w vals → rk_A2 (tk_g vals [h0]) rs rest → rk_A2 (fun t (q : Nat × va_E) => tk_cl TY ro ads tw U t q.2) tw ws → ws.map Prod.fst = ads → va_D (fun _ => True) ws → (∀ z ∈ fa, tk_fk vals [h0] ws z) → fm_at U tw ws h0 ps σ (fm g tp bt a b) → X1 ws →
      ∃ (r : Option Value) (mem' : fx_M), fr_T k f (.ref 0 :: rest) (fm g tp bt a b) r mem' ∧ (∀ (t : Nat) (e e' : fx_E), (fm g tp bt a b)[t]? = some e → mem'[t]? = some e' → fm_chg TY ro ads tw mods ps t e e') ∧ X2 (fx_put ws σ (fx_w ps mem')) ∧ ∃ x ∈ ys, ∃ vals' : List Int, (∃ k, vals' = vals ++ k) ∧ tk_H x.2.1 vals' ∧ x.2.2.1 = [0] ∧ (∀ q ∈ x.2.2.2, tk_fk vals' [h0] (fx_put ws σ (fx_w ps mem')) q) ∧ tk_ret x.1 vals' [h0] (.returned (r.map (fx_v ps)))) : tk_KS2 l D gk_cl gk_tbl gk_xw xt gk_MN gk_P TY ro X1 X2 ads tw (k + 4) (f, (2, 0, 0, 0) :: rs, w, [0], fa, ys, mods) := by
  intro qn hqn
  -- the method's own table row
  obtain ⟨M, hM, hM21⟩ : ∃ M, gk_P[f]? = some M ∧ M.2.1 ≤ 21 := by
    have hlen : gk_MN.length = gk_P.length := gk_rok.2.2.2.2.1
    have hlt : f < gk_P.length := by rw [← hlen]; exact (List.getElem?_eq_some_iff.mp hqn).1
    refine ⟨gk_P[f], List.getElem?_eq_getElem hlt, ?_⟩
    have hall : gk_P.all (fun M => Nat.ble M.2.1 21) = true := by decide +kernel
    exact Nat.le_of_ble_eq_true (List.all_eq_true.mp hall _ (List.getElem_mem hlt))
  refine ⟨M, hM, hM21, fun vals rads ws av sz hH h3 hA2 h4 h9 hob => rk_Met_case (fun aU U hP => ?_)⟩
  obtain ⟨p1, p2, p3, p4, p5, p6, p7, p8, p10⟩ := hP
  obtain ⟨h0, r0, rfl, hty, h3'⟩ := h3.cons
  have hr0 := h3'.nil
  subst hr0
  obtain ⟨v0, rest, rfl, hg0, hA2'⟩ := hA2.cons
  obtain ⟨x0, hx0, rfl⟩ := tk_g2 hg0 rfl
  obtain rfl : h0 = x0 := Option.some.inj hx0
  obtain ⟨pl, v9, tx9, hsX, hsR⟩ := hst _ _ _ p8
  obtain ⟨g, tp, bt, a, b, ps, σ, hat, hz⟩ := fm_in pl hT h4 p6 hty
  obtain ⟨r, mem', hfr, hchg, hX2, x, hx, vals', hv, hH', hrf, hfk, hret⟩ := hex U vals rest ws h0 ps σ g tp bt a b hH hA2' p6 h4 p5 h9 hat p10
  obtain ⟨M2, hM2, -, hmet⟩ := fr_Met (l := l) (D := D) hfr qn hqn
  obtain rfl : M = M2 := Option.some.inj (hM.symm.trans hM2)
  obtain ⟨a1, a2, ⟨c0, a3⟩, a4, a5⟩ := id hat
  have hsub : ∀ (j : Nat) (q : Nat × va_E), (fx_w ps (fm g tp bt a b))[j]? = some q → ∃ i : Nat, ws[i]? = some q := by
    intro j q hj
    have hl : j < (fx_w ps (fm g tp bt a b)).length := (List.getElem?_eq_some_iff.mp hj).1
    have hl2 : j < ps.length := by
      unfold fx_w at hl
      rw [List.length_zipWith] at hl
      omega
    have hl3 : j < 22 := by
      unfold fx_w at hl
      rw [List.length_zipWith, show (fm g tp bt a b).length = 22 from rfl] at hl
      omega
    have hs : σ[j]? = some σ[j] := List.getElem?_eq_getElem (by omega)
    obtain ⟨b1, q1, e1, b2, b3, b4⟩ := a5 j _ hs
    refine ⟨σ[j], ?_⟩
    rw [b4, ← hj]
    unfold fx_w
    rw [List.getElem?_zipWith, b2, b3]
  have hPf : va_P D gk_cl (fx_w ps (fm g tp bt a b)) U.heap := fun j q hj => by
    obtain ⟨i, hi⟩ := hsub j q hj
    exact p3 i q hi
  have hidx : ∀ (j : Nat) (q : Nat × va_E), (fx_w ps (fm g tp bt a b))[j]? = some q → ∃ i : Nat, σ[j]? = some i ∧ ws[i]? = some q := by
    intro j q hj
    have hl : j < (fx_w ps (fm g tp bt a b)).length := (List.getElem?_eq_some_iff.mp hj).1
    have hl2 : j < ps.length := by
      unfold fx_w at hl
      rw [List.length_zipWith] at hl
      omega
    have hl3 : j < 22 := by
      unfold fx_w at hl
      rw [List.length_zipWith, show (fm g tp bt a b).length = 22 from rfl] at hl
      omega
    have hs : σ[j]? = some σ[j] := List.getElem?_eq_getElem (by omega)
    obtain ⟨b1, q1, e1, b2, b3, b4⟩ := a5 j _ hs
    refine ⟨σ[j], hs, ?_⟩
    rw [b4, ← hj]
    unfold fx_w
    rw [List.getElem?_zipWith, b2, b3]
  have hDf : va_D (fun _ => True) (fx_w ps (fm g tp bt a b)) := ⟨fun i j q1 q2 hi hj e => by
    obtain ⟨i', g1, g2⟩ := hidx i q1 hi
    obtain ⟨j', g3, g4⟩ := hidx j q2 hj
    have := p5.1 i' j' q1 q2 g2 g4 e
    subst this
    exact fm_at_inj hat i j i' g1 g3, fun _ _ _ => trivial⟩
  have hfree : ∀ q, va_A (fx_w ps (fm g tp bt a b)) sz q → va_A ws sz q := by
    rintro q (⟨k1, e1, hk1⟩ | hq)
    · obtain ⟨i, hi⟩ := hsub k1 _ hk1
      exact Or.inl ⟨i, e1, hi⟩
    · exact Or.inr hq
  have hrest : rest.map (fx_v ps) = rest := by
    apply List.ext_getElem?
    intro i
    rw [List.getElem?_map]
    cases hi : rest[i]? with
    | none => rfl
    | some v =>
      obtain ⟨av0, hav, hg⟩ := hA2'.getR hi
      have hk := List.all_eq_true.mp hrs av0 (List.mem_of_getElem? hav)
      obtain ⟨z, rfl, -⟩ := tk_g0 hg (Nat.eq_of_beq_eq_true hk)
      rfl
  have hargs : (Value.ref 0 :: rest).map (fx_v ps) = .ref h0 :: rest := by
    show fx_v ps (.ref 0) :: rest.map (fx_v ps) = _
    rw [hrest]
    show Value.ref (fx_ad ps 0) :: rest = _
    unfold fx_ad
    rw [a3]
  refine ⟨fx_Pre D ps (fm g tp bt a b) sz (.ref 0 :: rest), fx_Post D ps mem' r (va_A (fx_w ps (fm g tp bt a b)) sz), rk_Met_imp (hmet ps sz) (fun _ _ z => z) (fun _ _ _ _ _ _ z => z) hfree, ⟨by rw [hargs]; exact p1, p2, hPf, p4, hDf, a4, p7, ⟨v9, tx9, by rw [a1]; show sk_X (fx_ad ps 22) _ _ _ _; rw [hz]; exact hsX.narrow hfree, by rw [a1]; show vk_R _ _ _ (fx_ad ps 22) _; rw [hz]; exact hsR⟩⟩, ?_⟩
  rintro oc t hW ⟨⟨e1, hOt, hPt, hDt⟩, hF⟩
  obtain ⟨hput1, hput2⟩ := fm_put hat hOt
  have hmap : (fx_put ws σ (fx_w ps mem')).map Prod.fst = ads := by
    rw [← h4]
    apply List.ext_getElem?
    intro i
    rw [List.getElem?_map, List.getElem?_map]
    rcases fm_in_or (σ := σ) i with ⟨tt, ht⟩ | hno
    · obtain ⟨-, q, e, e', g1, g2, g3, g4, g5⟩ := hput2 tt i ht
      rw [g4, g5]
      rfl
    · rw [hput1 i hno]
  have hlenw : (fx_put ws σ (fx_w ps mem')).length = tw.length := by rw [fx_put_len]; exact p6.len.symm
  have hcl' : ∀ (i tt : Nat) (q : Nat × va_E), tw[i]? = some tt → (fx_put ws σ (fx_w ps mem'))[i]? = some q → tk_cl TY ro ads tw t tt q.2 := by
    intro i tt q htw hq
    rcases fm_in_or (σ := σ) i with ⟨t2, ht⟩ | hno
    · obtain ⟨k1, q1, e, e', g1, g2, g3, g4, g5⟩ := hput2 t2 i ht
      rw [htw] at k1
      obtain rfl : tt = t2 := Option.some.inj k1
      rw [g5] at hq
      cases hq
      obtain ⟨qq, hqq, hc0⟩ := p6.get htw
      rw [g4] at hqq
      cases hqq
      rcases hchg tt e e' g2 g3 with rfl | ⟨n, f1, f2, fl, rfl, rfl, k3, k4, -⟩ | ⟨ci, vs, vs', fs, rfl, rfl, k3, k4, k5, k6, -⟩
      · exact tk_cl_moved hW.alike hc0
      · obtain ⟨m1, m2⟩ := hOt.2 tt q1 _ _ g1 g3
        show tk_cl TY ro ads tw t tt (.inl (q1.2, n, .inl f2))
        unfold tk_cl
        rw [k3]
        exact ⟨q1.2, m1, m2, f2, rfl, k4⟩
      · unfold tk_cl at hc0
        rw [k3] at hc0
        obtain ⟨vz, hvz, hvzl, hvzf⟩ := hc0
        cases hvz
        show tk_cl TY ro ads tw t tt (.inr (ci, vs'.map (fx_v ps)))
        unfold tk_cl
        rw [k3]
        refine ⟨_, rfl, by rw [List.length_map]; exact k4, fun i2 f2 v2 hf2 hv2 => ?_⟩
        rw [List.getElem?_map] at hv2
        obtain ⟨v3, hv3, rfl⟩ := Option.map_eq_some_iff.mp hv2
        by_cases h2 : f2.1 = 2
        · have := k6 i2 f2 hf2 h2
          rw [hv3] at this
          exact hvzf i2 f2 _ hf2 (by rw [List.getElem?_map, ← this]; rfl)
        · exact k5 i2 f2 v3 hf2 hv3 h2
    · rw [hput1 i hno] at hq
      obtain ⟨qq, hqq, hc0⟩ := p6.get htw
      rw [hq] at hqq
      cases hqq
      exact tk_cl_moved hW.alike hc0
  have hnin : ∀ (i : Nat) (q : Nat × va_E), (∀ t2 : Nat, ¬ σ[t2]? = some i) → ws[i]? = some q → ¬ va_A (fx_w ps (fm g tp bt a b)) sz q.1 := by
    rintro i q hno hq (⟨k1, ee, hk1⟩ | hge)
    · obtain ⟨i', g1, g2⟩ := hidx k1 _ hk1
      have := p5.1 i i' q _ hq g2 rfl
      subst this
      exact hno k1 g1
    · have := (p3 i q hq).lt
      rw [p2] at this
      omega
  have hPw : va_P D gk_cl (fx_put ws σ (fx_w ps mem')) t.heap := by
    intro i q hq
    rcases fm_in_or (σ := σ) i with ⟨t2, ht⟩ | hno
    · obtain ⟨k1, q1, e, e', g1, g2, g3, g4, g5⟩ := hput2 t2 i ht
      rw [g5] at hq
      cases hq
      refine hPt t2 _ ?_
      unfold fx_w
      rw [List.getElem?_zipWith, g1, g3]
    · rw [hput1 i hno] at hq
      exact (p3 i q hq).kept (hF.2 q.1 (p3 i q hq).lt (hnin i q hno hq))
  have hget : ∀ (i : Nat) (q : Nat × va_E), (fx_put ws σ (fx_w ps mem'))[i]? = some q → ∃ e9, ws[i]? = some (q.1, e9) := by
    intro i q hq
    rcases fm_in_or (σ := σ) i with ⟨t2, ht⟩ | hno
    · obtain ⟨k1, q1, e, e', g1, g2, g3, g4, g5⟩ := hput2 t2 i ht
      rw [g5] at hq
      cases hq
      exact ⟨_, g4⟩
    · rw [hput1 i hno] at hq
      exact ⟨q.2, hq⟩
  have hDw : va_D (va_A ws sz) (fx_put ws σ (fx_w ps mem')) := ⟨fun i j q1 q2 hi hj e => by
    obtain ⟨e9, g1⟩ := hget i q1 hi
    obtain ⟨e8, g2⟩ := hget j q2 hj
    exact p5.1 i j _ _ g1 g2 e, fun i q hi => by
    obtain ⟨e9, g1⟩ := hget i q hi
    exact Or.inl ⟨i, e9, g1⟩⟩
  refine ⟨⟨x, hx, vals', [h0], fx_put ws σ (fx_w ps mem'), hv, ⟨[], by simp⟩, hH', ?_, hmap, rk_A2_of (by rw [hlenw]) (fun i tt q h1 h2 => hcl' i tt q h1 h2), hPw, hDw, hfk, ⟨?_, hX2⟩, ?_⟩, hF.1, fun q h9' hn9 => hF.2 q h9' (fun z => hn9 (hfree q z))⟩
  · rw [hrf]
    exact ⟨hty, trivial⟩
  · intro j y e hj
    rcases fm_in_or (σ := σ) j with ⟨t2, ht⟩ | hno
    · obtain ⟨k1, q1, e0, e', g1, g2, g3, g4, g5⟩ := hput2 t2 j ht
      rw [hj] at g4
      cases g4
      refine ⟨_, g5, ?_⟩
      rcases hchg t2 e0 e' g2 g3 with rfl | ⟨n, f1, f2, fl, rfl, rfl, k3, k4, k5, k6⟩ | ⟨ci, vs, vs', fs, rfl, rfl, k3, k4, k5, k6, k7, k8⟩
      · exact ⟨fun _ _ _ _ => rfl, fun _ _ _ => rfl⟩
      · refine ⟨fun i t ht2 hn => ?_, fun t ht2 hn => ?_⟩
        · rw [k1] at ht2
          cases ht2
          show (if i < n then some (Value.int (f2 i)) else none) = (if i < n then some (Value.int (f1 i)) else none)
          rw [k5 i hn]
        · rw [k1] at ht2
          cases ht2
          obtain ⟨i, hi⟩ := k6
          exact absurd hi (hn i)
      · refine ⟨fun i t ht2 hn => ?_, fun t ht2 hn => ?_⟩
        · rw [k1] at ht2
          cases ht2
          show (vs'.map (fx_v ps))[i]? = (vs.map (fx_v ps))[i]?
          rw [List.getElem?_map, List.getElem?_map, k7 i hn]
        · rw [k1] at ht2
          cases ht2
          obtain ⟨i, hi⟩ := k8
          exact absurd hi (hn i)
    · exact ⟨e, by rw [hput1 j hno]; exact hj, fun _ _ _ _ => rfl, fun _ _ _ => rfl⟩
  · rw [e1]
    exact hret
end FMO
end MH38_4
section MH38_5
/-! ===== fx: what one looks up of the LAKE ends, and changes nothing ===== -/
theorem fm_rw (bb m k n : Nat) : nI bb + nI m * nI n + nI k = nI (bb + k + m * n) := by
  rw [fm_mul, nI_add, nI_add]
  congr 1
  omega
theorem tg_sub2 {x y : Nat} (h : y ≤ x) : nI x - nI y = nI (x - y) := by
  obtain ⟨d, rfl⟩ := Nat.exists_eq_add_of_le h
  rw [← nI_add, Nat.add_sub_cancel_left]
  exact Int32.toBitVec_inj.mp (by rw [Int32.toBitVec_sub, Int32.toBitVec_add, BitVec.add_comm, BitVec.add_sub_cancel])
theorem fm_rw0 (bb m n : Nat) : nI bb + nI m * nI n = nI (bb + m * n) := by
  rw [fm_mul, nI_add]
/-- the heads of the LAKE are within their bounds -/
def fm_t (a : Nat → Nat → Int32) : Prop := (∃ n, n ≤ 10 ∧ a 1 0 = nI n) ∧ (∃ n, n ≤ 8 ∧ a 1 1 = nI n) ∧ (∃ n, n ≤ 20 ∧ a 1 3 = nI n) ∧ (∃ n, n ≤ 10030 ∧ a 1 5 = nI n) ∧ ∀ w, w < 8 → ∃ X, X < 10 ∧ a 1 (279 + 5 * w) = nI X
/-- an int is answered, nothing is changed -/
def fm_P (k f : Nat) (as : List Value) (mem : fx_M) : Prop := ∃ v : Int32, fr_T k f as mem (some (.int v)) mem
def fm_Pz (k f : Nat) (as : List Value) (mem : fx_M) : Prop := ∃ v : Int32, (v = 0 ∨ v = 1) ∧ fr_T k f as mem (some (.int v)) mem
def fm_FP (mem : fx_M) (R : Option Value × fx_M) : Prop := ∃ v : Int32, R = (some (.int v), mem)
def fm_FZ (mem : fx_M) (R : Option Value × fx_M) : Prop := ∃ v : Int32, (v = 0 ∨ v = 1) ∧ R = (some (.int v), mem)
theorem fm_P_of {k f : Nat} {as : List Value} {mem : fx_M} {M : rk_M2} (hM : gk_P[f]? = some M) (hc : (Nat.ble M.2.1 21 && Nat.ble (fx_sum as) M.2.1) = true) (h : fe_R k M 0 (lv_args 0 as) [] mem (fm_FP mem)) : fm_P (k + 1) f as mem := by
  obtain ⟨v, mem', ⟨x, e⟩, h2⟩ := fe_meth hM hc h
  cases e
  exact ⟨x, h2⟩
theorem fm_Pz_of {k f : Nat} {as : List Value} {mem : fx_M} {M : rk_M2} (hM : gk_P[f]? = some M) (hc : (Nat.ble M.2.1 21 && Nat.ble (fx_sum as) M.2.1) = true) (h : fe_R k M 0 (lv_args 0 as) [] mem (fm_FZ mem)) : fm_Pz (k + 1) f as mem := by
  obtain ⟨v, mem', ⟨x, hx, e⟩, h2⟩ := fe_meth hM hc h
  cases e
  exact ⟨x, hx, h2⟩
section FQ
variable {g : Nat → Int32} {tp bt : Int64} {a : Nat → Nat → Int32} {b : Nat → Nat → Int64}
theorem fq_isShore {C : Nat} (h : C < 10) : fm_Pz 2 256 [.ref 0, .int (nI C)] (fm g tp bt a b) := by
  refine fm_Pz_of (by rfl) (by rfl) ?_
  refine fe_s 3 (pc' := 5) (lc' := [(0, .ref 0), (1, .int (nI C))]) (stk' := [.int (nI C), .ref 1]) (mem' := fm g tp bt a b) (by intro _ _ _; eq_refl) ?_
  refine fe_ivS fr_cellRow (by omega) (by rfl) (by rfl) (by rfl) (by rfl) (by rfl) ?_
  rw [show (8 + 6 * nI C : Int32) = nI (8 + 6 * C) from fm_rw0 8 6 C]
  refine fe_ldI (by rfl) (by rfl) (fx_inN (by omega) (by omega)) ?_
  rw [nI_clamp (by omega)]
  refine fe_s 1 (pc' := 10) (lc' := [(0, .ref 0), (1, .int (nI C))]) (stk' := [.int 1, .int (a 1 (8 + 6 * C))]) (mem' := fm g tp bt a b) (by intro _ _ _; eq_refl) ?_
  refine fe_s 1 (pc' := cond (fx_cb .ne (a 1 (8 + 6 * C)) 1) 17 13) (lc' := [(0, .ref 0), (1, .int (nI C))]) (stk' := []) (mem' := fm g tp bt a b) (by intro _ _ _; eq_refl) ?_
  cases hb : fx_cb .ne (a 1 (8 + 6 * C)) 1
  · refine fe_s 2 (pc' := 18) (lc' := [(0, .ref 0), (1, .int (nI C))]) (stk' := [.int 1]) (mem' := fm g tp bt a b) (by intro _ _ _; eq_refl) ?_
    exact fe_ret ⟨_, Or.inr rfl, rfl⟩ (by rfl) (by rfl) (by rfl)
  · refine fe_s 1 (pc' := 18) (lc' := [(0, .ref 0), (1, .int (nI C))]) (stk' := [.int 0]) (mem' := fm g tp bt a b) (by intro _ _ _; eq_refl) ?_
    exact fe_ret ⟨_, Or.inl rfl, rfl⟩ (by rfl) (by rfl) (by rfl)
theorem fq_isBroken {C : Nat} (h : C < 10) : fm_Pz 2 263 [.ref 0, .int (nI C)] (fm g tp bt a b) := by
  refine fm_Pz_of (by rfl) (by rfl) ?_
  refine fe_s 3 (pc' := 5) (lc' := [(0, .ref 0), (1, .int (nI C))]) (stk' := [.int (nI C), .ref 1]) (mem' := fm g tp bt a b) (by intro _ _ _; eq_refl) ?_
  refine fe_ivS fr_cellRow (by omega) (by rfl) (by rfl) (by rfl) (by rfl) (by rfl) ?_
  refine fe_s 2 (pc' := 10) (lc' := [(0, .ref 0), (1, .int (nI C))]) (stk' := [.int ((8 + 6 * nI C) + 4), .ref 1]) (mem' := fm g tp bt a b) (by intro _ _ _; eq_refl) ?_
  rw [show (8 + 6 * nI C + 4 : Int32) = nI (12 + 6 * C) from fm_rw 8 6 4 C]
  refine fe_ldI (by rfl) (by rfl) (fx_inN (by omega) (by omega)) ?_
  rw [nI_clamp (by omega)]
  refine fe_s 1 (pc' := 12) (lc' := [(0, .ref 0), (1, .int (nI C))]) (stk' := [.int 1, .int (a 1 (12 + 6 * C))]) (mem' := fm g tp bt a b) (by intro _ _ _; eq_refl) ?_
  refine fe_s 1 (pc' := cond (fx_cb .ne (a 1 (12 + 6 * C)) 1) 19 15) (lc' := [(0, .ref 0), (1, .int (nI C))]) (stk' := []) (mem' := fm g tp bt a b) (by intro _ _ _; eq_refl) ?_
  cases hb : fx_cb .ne (a 1 (12 + 6 * C)) 1
  · refine fe_s 2 (pc' := 20) (lc' := [(0, .ref 0), (1, .int (nI C))]) (stk' := [.int 1]) (mem' := fm g tp bt a b) (by intro _ _ _; eq_refl) ?_
    exact fe_ret ⟨_, Or.inr rfl, rfl⟩ (by rfl) (by rfl) (by rfl)
  · refine fe_s 1 (pc' := 20) (lc' := [(0, .ref 0), (1, .int (nI C))]) (stk' := [.int 0]) (mem' := fm g tp bt a b) (by intro _ _ _; eq_refl) ?_
    exact fe_ret ⟨_, Or.inl rfl, rfl⟩ (by rfl) (by rfl) (by rfl)
theorem fq_isWet {V : Nat} (h : V < 8) : fm_Pz 2 266 [.ref 0, .int (nI V)] (fm g tp bt a b) := by
  refine fm_Pz_of (by rfl) (by rfl) ?_
  refine fe_s 3 (pc' := 5) (lc' := [(0, .ref 0), (1, .int (nI V))]) (stk' := [.int (nI V), .ref 1]) (mem' := fm g tp bt a b) (by intro _ _ _; eq_refl) ?_
  refine fe_ivS fr_walkerRow (by omega) (by rfl) (by rfl) (by rfl) (by rfl) (by rfl) ?_
  refine fe_s 2 (pc' := 10) (lc' := [(0, .ref 0), (1, .int (nI V))]) (stk' := [.int ((278 + 5 * nI V) + 2), .ref 1]) (mem' := fm g tp bt a b) (by intro _ _ _; eq_refl) ?_
  rw [show (278 + 5 * nI V + 2 : Int32) = nI (280 + 5 * V) from fm_rw 278 5 2 V]
  refine fe_ldI (by rfl) (by rfl) (fx_inN (by omega) (by omega)) ?_
  rw [nI_clamp (by omega)]
  refine fe_s 1 (pc' := 12) (lc' := [(0, .ref 0), (1, .int (nI V))]) (stk' := [.int 1, .int (a 1 (280 + 5 * V))]) (mem' := fm g tp bt a b) (by intro _ _ _; eq_refl) ?_
  refine fe_s 1 (pc' := cond (fx_cb .ne (a 1 (280 + 5 * V)) 1) 19 15) (lc' := [(0, .ref 0), (1, .int (nI V))]) (stk' := []) (mem' := fm g tp bt a b) (by intro _ _ _; eq_refl) ?_
  cases hb : fx_cb .ne (a 1 (280 + 5 * V)) 1
  · refine fe_s 2 (pc' := 20) (lc' := [(0, .ref 0), (1, .int (nI V))]) (stk' := [.int 1]) (mem' := fm g tp bt a b) (by intro _ _ _; eq_refl) ?_
    exact fe_ret ⟨_, Or.inr rfl, rfl⟩ (by rfl) (by rfl) (by rfl)
  · refine fe_s 1 (pc' := 20) (lc' := [(0, .ref 0), (1, .int (nI V))]) (stk' := [.int 0]) (mem' := fm g tp bt a b) (by intro _ _ _; eq_refl) ?_
    exact fe_ret ⟨_, Or.inl rfl, rfl⟩ (by rfl) (by rfl) (by rfl)
theorem fq_leftOf {V : Nat} (h : V < 8) : fm_P 2 267 [.ref 0, .int (nI V)] (fm g tp bt a b) := by
  refine fm_P_of (by rfl) (by rfl) ?_
  refine fe_s 3 (pc' := 5) (lc' := [(0, .ref 0), (1, .int (nI V))]) (stk' := [.int (nI V), .ref 1]) (mem' := fm g tp bt a b) (by intro _ _ _; eq_refl) ?_
  refine fe_ivS fr_walkerRow (by omega) (by rfl) (by rfl) (by rfl) (by rfl) (by rfl) ?_
  refine fe_s 2 (pc' := 10) (lc' := [(0, .ref 0), (1, .int (nI V))]) (stk' := [.int ((278 + 5 * nI V) + 3), .ref 1]) (mem' := fm g tp bt a b) (by intro _ _ _; eq_refl) ?_
  rw [show (278 + 5 * nI V + 3 : Int32) = nI (281 + 5 * V) from fm_rw 278 5 3 V]
  refine fe_ldI (by rfl) (by rfl) (fx_inN (by omega) (by omega)) ?_
  rw [nI_clamp (by omega)]
  exact fe_ret ⟨_, rfl⟩ (by rfl) (by rfl) (by rfl)
theorem fq_weightOf {V : Nat} (h : V < 8) : fm_P 2 264 [.ref 0, .int (nI V)] (fm g tp bt a b) := by
  refine fm_P_of (by rfl) (by rfl) ?_
  refine fe_s 3 (pc' := 5) (lc' := [(0, .ref 0), (1, .int (nI V))]) (stk' := [.int (nI V), .ref 1]) (mem' := fm g tp bt a b) (by intro _ _ _; eq_refl) ?_
  refine fe_ivS fr_walkerRow (by omega) (by rfl) (by rfl) (by rfl) (by rfl) (by rfl) ?_
  rw [show (278 + 5 * nI V : Int32) = nI (278 + 5 * V) from fm_rw0 278 5 V]
  refine fe_ldI (by rfl) (by rfl) (fx_inN (by omega) (by omega)) ?_
  rw [nI_clamp (by omega)]
  exact fe_ret ⟨_, rfl⟩ (by rfl) (by rfl) (by rfl)
theorem fq_cameAgo {C S : Nat} (ht : fm_t a) (hC : C < 10) (hS : S ≤ 20) : fm_P 2 269 [.ref 0, .int (nI C), .int (nI S)] (fm g tp bt a b) := by
  refine fm_P_of (by rfl) (by rfl) ?_
  obtain ⟨-, -, -, ⟨NN, hNN, eN⟩, -⟩ := ht
  refine fe_s 3 (pc' := 5) (lc' := [(0, .ref 0), (1, .int (nI C)), (2, .int (nI S))]) (stk' := [.int 5, .ref 1]) (mem' := fm g tp bt a b) (by intro _ _ _; eq_refl) ?_
  refine fe_ldI (by rfl) (by rfl) (fx_inN (i := 5) (by omega) (by omega)) ?_
  rw [show Int32.toNatClampNeg 5 = 5 from rfl]
  rw [eN]
  refine fe_s 1 (pc' := 7) (lc' := [(0, .ref 0), (1, .int (nI C)), (2, .int (nI S))]) (stk' := [.int (nI S), .int (nI NN)]) (mem' := fm g tp bt a b) (by intro _ _ _; eq_refl) ?_
  refine fe_s 1 (pc' := cond (fx_cb .ge (nI NN) (nI S)) 14 10) (lc' := [(0, .ref 0), (1, .int (nI C)), (2, .int (nI S))]) (stk' := []) (mem' := fm g tp bt a b) (by intro _ _ _; eq_refl) ?_
  cases hb : fx_cb .ge (nI NN) (nI S)
  · refine fe_s 2 (pc' := 38) (lc' := [(0, .ref 0), (1, .int (nI C)), (2, .int (nI S))]) (stk' := [.int 0]) (mem' := fm g tp bt a b) (by intro _ _ _; eq_refl) ?_
    exact fe_ret ⟨_, rfl⟩ (by rfl) (by rfl) (by rfl)
  · have hle : S ≤ NN := (nI_leI (by omega) (by omega)).mp (of_decide_eq_true hb)
    refine fe_s 10 (pc' := 30) (lc' := [(0, .ref 0), (1, .int (nI C)), (2, .int (nI S))]) (stk' := [.int 5, .ref 1, .int (68 + (21 * (nI C))), .ref 1]) (mem' := fm g tp bt a b) (by intro _ _ _; eq_refl) ?_
    refine fe_ldI (by rfl) (by rfl) (fx_inN (i := 5) (by omega) (by omega)) ?_
    rw [show Int32.toNatClampNeg 5 = 5 from rfl]
    rw [eN]
    refine fe_s 3 (pc' := 35) (lc' := [(0, .ref 0), (1, .int (nI C)), (2, .int (nI S))]) (stk' := [.int 21, .int ((nI NN) - (nI S)), .int (68 + (21 * (nI C))), .ref 1]) (mem' := fm g tp bt a b) (by intro _ _ _; eq_refl) ?_
    rw [tg_sub2 hle]
    refine fe_s 1 (pc' := 36) (lc' := [(0, .ref 0), (1, .int (nI C)), (2, .int (nI S))]) (stk' := [.int (nI (NN - S) - nI (NN - S) / 21 * 21), .int (68 + 21 * nI C), .ref 1]) (mem' := fm g tp bt a b) (by intro _ _ _; eq_refl) ?_
    rw [show nI (NN - S) - nI (NN - S) / 21 * 21 = nI ((NN - S) % 21) from pk_rem (a := NN - S) (d := 21) (by omega) (by decide) (by decide)]
    refine fe_s 1 (pc' := 37) (lc' := [(0, .ref 0), (1, .int (nI C)), (2, .int (nI S))]) (stk' := [.int ((68 + 21 * nI C) + (nI ((NN - S) % 21))), .ref 1]) (mem' := fm g tp bt a b) (by intro _ _ _; eq_refl) ?_
    have hm := Nat.mod_lt (NN - S) (show 0 < 21 by decide)
    rw [show (68 + 21 * nI C + nI ((NN - S) % 21) : Int32) = nI (68 + (NN - S) % 21 + 21 * C) from fm_rw 68 21 _ C]
    refine fe_ldI (by rfl) (by rfl) (fx_inN (by omega) (by omega)) ?_
    exact fe_ret ⟨_, rfl⟩ (by rfl) (by rfl) (by rfl)
end FQ
end MH38_5
section MH38_6
/-! ===== fx: branches over numbers that are natural ===== -/
section FCB
variable {a b : Nat}
theorem cb_ltT (ha : a < 2147483648) (hb : b < 2147483648) (h : a < b) : fx_cb .lt (nI a) (nI b) = true := decide_eq_true ((nI_ltI (by omega) (by omega)).mpr h)
theorem cb_ltF (ha : a < 2147483648) (hb : b < 2147483648) (h : ¬ a < b) : fx_cb .lt (nI a) (nI b) = false := decide_eq_false (fun z => h ((nI_ltI (by omega) (by omega)).mp z))
theorem cb_geT (ha : a < 2147483648) (hb : b < 2147483648) (h : b ≤ a) : fx_cb .ge (nI a) (nI b) = true := decide_eq_true ((nI_leI (by omega) (by omega)).mpr h)
theorem cb_geF (ha : a < 2147483648) (hb : b < 2147483648) (h : ¬ b ≤ a) : fx_cb .ge (nI a) (nI b) = false := decide_eq_false (fun z => h ((nI_leI (by omega) (by omega)).mp z))
theorem cb_gtT (ha : a < 2147483648) (hb : b < 2147483648) (h : b < a) : fx_cb .gt (nI a) (nI b) = true := decide_eq_true ((nI_ltI (by omega) (by omega)).mpr h)
theorem cb_gtF (ha : a < 2147483648) (hb : b < 2147483648) (h : ¬ b < a) : fx_cb .gt (nI a) (nI b) = false := decide_eq_false (fun z => h ((nI_ltI (by omega) (by omega)).mp z))
theorem cb_leT (ha : a < 2147483648) (hb : b < 2147483648) (h : a ≤ b) : fx_cb .le (nI a) (nI b) = true := decide_eq_true ((nI_leI (by omega) (by omega)).mpr h)
theorem cb_leF (ha : a < 2147483648) (hb : b < 2147483648) (h : ¬ a ≤ b) : fx_cb .le (nI a) (nI b) = false := decide_eq_false (fun z => h ((nI_leI (by omega) (by omega)).mp z))
theorem cb_eqT (ha : a < 2147483648) (hb : b < 2147483648) (h : a = b) : fx_cb .eq (nI a) (nI b) = true := decide_eq_true ((nI_eq (by omega) (by omega)).mpr h)
theorem cb_eqF (ha : a < 2147483648) (hb : b < 2147483648) (h : ¬ a = b) : fx_cb .eq (nI a) (nI b) = false := decide_eq_false (fun z => h ((nI_eq (by omega) (by omega)).mp z))
theorem cb_neF (ha : a < 2147483648) (hb : b < 2147483648) (h : a = b) : fx_cb .ne (nI a) (nI b) = false := by
  show (!decide (nI a = nI b)) = false
  rw [decide_eq_true ((nI_eq (by omega) (by omega)).mpr h)]; rfl
theorem cb_neT (ha : a < 2147483648) (hb : b < 2147483648) (h : ¬ a = b) : fx_cb .ne (nI a) (nI b) = true := by
  show (!decide (nI a = nI b)) = true
  rw [decide_eq_false (fun z => h ((nI_eq (by omega) (by omega)).mp z))]; rfl
theorem cb_n_lt {y : Int32} (ha : a < 2147483648) (hy : y < 0) : fx_cb .lt (nI a) y = false := decide_eq_false (fun z => by
  have h1 := Int32.lt_iff_toInt_lt.mp z
  have h2 := Int32.lt_iff_toInt_lt.mp hy
  rw [nI_toInt (by omega)] at h1
  have h3 : (0 : Int32).toInt = 0 := rfl
  omega)
theorem cb_n_ge {y : Int32} (ha : a < 2147483648) (hy : y < 0) : fx_cb .ge (nI a) y = true := decide_eq_true (by
  have h2 := Int32.lt_iff_toInt_lt.mp hy
  refine Int32.le_iff_toInt_le.mpr ?_
  rw [nI_toInt (by omega)]
  have h3 : (0 : Int32).toInt = 0 := rfl
  omega)
theorem cb_n_gt {y : Int32} (ha : a < 2147483648) (hy : y < 0) : fx_cb .gt (nI a) y = true := decide_eq_true (by
  have h2 := Int32.lt_iff_toInt_lt.mp hy
  refine Int32.lt_iff_toInt_lt.mpr ?_
  rw [nI_toInt (by omega)]
  have h3 : (0 : Int32).toInt = 0 := rfl
  omega)
theorem cb_n_ne' {y : Int32} (ha : a < 2147483648) (hy : y < 0) : ¬ nI a = y := by
  rintro rfl
  exact absurd hy (nI_pos (by omega))
theorem cb_n_eq {y : Int32} (ha : a < 2147483648) (hy : y < 0) : fx_cb .eq (nI a) y = false := decide_eq_false (cb_n_ne' ha hy)
theorem cb_n_ne {y : Int32} (ha : a < 2147483648) (hy : y < 0) : fx_cb .ne (nI a) y = true := by
  show (!decide (nI a = y)) = true
  rw [decide_eq_false (cb_n_ne' ha hy)]; rfl
end FCB
end MH38_6
