/-! ===== fx: what one looks up of the LAKE ends, and changes nothing ===== -/
theorem fm_rw (bb m k n : Nat) : nI bb + nI m * nI n + nI k = nI (bb + k + m * n) := by
  rw [fm_mul, nI_add, nI_add]
  congr 1
  omega
theorem tg_sub2 {x y : Nat} (h : y ≤ x) : nI x - nI y = nI (x - y) := by
  obtain ⟨d, rfl⟩ := Nat.exists_eq_add_of_le h
  rw [← nI_add, Nat.add_sub_cancel_left]
  exact Int32.toBitVec_inj.mp (by rw [Int32.toBitVec_sub, Int32.toBitVec_add, BitVec.add_comm, BitVec.add_sub_cancel])
theorem fm_rw0 (bb m n : Nat) : nI bb + nI m * nI n = nI (bb + m * n) := by
  rw [fm_mul, nI_add]
/-- the heads of the LAKE are within their bounds -/
def fm_t (a : Nat → Nat → Int32) : Prop := (∃ n, n ≤ 10 ∧ a 1 0 = nI n) ∧ (∃ n, n ≤ 8 ∧ a 1 1 = nI n) ∧ (∃ n, n ≤ 20 ∧ a 1 3 = nI n) ∧ (∃ n, n ≤ 10030 ∧ a 1 5 = nI n) ∧ ∀ w, w < 8 → ∃ X, X < 10 ∧ a 1 (279 + 5 * w) = nI X
/-- an int is answered, nothing is changed -/
def fm_P (k f : Nat) (as : List Value) (mem : fx_M) : Prop := ∃ v : Int32, fr_T k f as mem (some (.int v)) mem
def fm_Pz (k f : Nat) (as : List Value) (mem : fx_M) : Prop := ∃ v : Int32, (v = 0 ∨ v = 1) ∧ fr_T k f as mem (some (.int v)) mem
def fm_FP (mem : fx_M) (R : Option Value × fx_M) : Prop := ∃ v : Int32, R = (some (.int v), mem)
def fm_FZ (mem : fx_M) (R : Option Value × fx_M) : Prop := ∃ v : Int32, (v = 0 ∨ v = 1) ∧ R = (some (.int v), mem)
theorem fm_P_of {k f : Nat} {as : List Value} {mem : fx_M} {M : rk_M2} (hM : gk_P[f]? = some M) (hc : (Nat.ble M.2.1 21 && Nat.ble (fx_sum as) M.2.1) = true) (h : fe_R k M 0 (lv_args 0 as) [] mem (fm_FP mem)) : fm_P (k + 1) f as mem := by
  obtain ⟨v, mem', ⟨x, e⟩, h2⟩ := fe_meth hM hc h
  cases e
  exact ⟨x, h2⟩
theorem fm_Pz_of {k f : Nat} {as : List Value} {mem : fx_M} {M : rk_M2} (hM : gk_P[f]? = some M) (hc : (Nat.ble M.2.1 21 && Nat.ble (fx_sum as) M.2.1) = true) (h : fe_R k M 0 (lv_args 0 as) [] mem (fm_FZ mem)) : fm_Pz (k + 1) f as mem := by
  obtain ⟨v, mem', ⟨x, hx, e⟩, h2⟩ := fe_meth hM hc h
  cases e
  exact ⟨x, hx, h2⟩
section FQ
variable {g : Nat → Int32} {tp bt : Int64} {a : Nat → Nat → Int32} {b : Nat → Nat → Int64}
theorem fq_isShore {C : Nat} (h : C < 10) : fm_Pz 2 256 [.ref 0, .int (nI C)] (fm g tp bt a b) := by
  refine fm_Pz_of (by rfl) (by rfl) ?_
  refine fe_s 3 (pc' := 5) (lc' := [(0, .ref 0), (1, .int (nI C))]) (stk' := [.int (nI C), .ref 1]) (mem' := fm g tp bt a b) (fun _ _ _ => rfl) ?_
  refine fe_ivS fr_cellRow (by omega) (by rfl) (by rfl) (by rfl) (by rfl) (by rfl) ?_
  rw [show (8 + 6 * nI C : Int32) = nI (8 + 6 * C) from fm_rw0 8 6 C]
  refine fe_ldI (by rfl) (by rfl) (fx_inN (by omega) (by omega)) ?_
  rw [nI_clamp (by omega)]
  refine fe_s 1 (pc' := 10) (lc' := [(0, .ref 0), (1, .int (nI C))]) (stk' := [.int 1, .int (a 1 (8 + 6 * C))]) (mem' := fm g tp bt a b) (fun _ _ _ => rfl) ?_
  refine fe_s 1 (pc' := cond (fx_cb .ne (a 1 (8 + 6 * C)) 1) 17 13) (lc' := [(0, .ref 0), (1, .int (nI C))]) (stk' := []) (mem' := fm g tp bt a b) (fun _ _ _ => rfl) ?_
  cases hb : fx_cb .ne (a 1 (8 + 6 * C)) 1
  · refine fe_s 2 (pc' := 18) (lc' := [(0, .ref 0), (1, .int (nI C))]) (stk' := [.int 1]) (mem' := fm g tp bt a b) (fun _ _ _ => rfl) ?_
    exact fe_ret ⟨_, Or.inr rfl, rfl⟩ (by rfl) (by rfl) (by rfl)
  · refine fe_s 1 (pc' := 18) (lc' := [(0, .ref 0), (1, .int (nI C))]) (stk' := [.int 0]) (mem' := fm g tp bt a b) (fun _ _ _ => rfl) ?_
    exact fe_ret ⟨_, Or.inl rfl, rfl⟩ (by rfl) (by rfl) (by rfl)
theorem fq_isBroken {C : Nat} (h : C < 10) : fm_Pz 2 263 [.ref 0, .int (nI C)] (fm g tp bt a b) := by
  refine fm_Pz_of (by rfl) (by rfl) ?_
  refine fe_s 3 (pc' := 5) (lc' := [(0, .ref 0), (1, .int (nI C))]) (stk' := [.int (nI C), .ref 1]) (mem' := fm g tp bt a b) (fun _ _ _ => rfl) ?_
  refine fe_ivS fr_cellRow (by omega) (by rfl) (by rfl) (by rfl) (by rfl) (by rfl) ?_
  refine fe_s 2 (pc' := 10) (lc' := [(0, .ref 0), (1, .int (nI C))]) (stk' := [.int ((8 + 6 * nI C) + 4), .ref 1]) (mem' := fm g tp bt a b) (fun _ _ _ => rfl) ?_
  rw [show (8 + 6 * nI C + 4 : Int32) = nI (12 + 6 * C) from fm_rw 8 6 4 C]
  refine fe_ldI (by rfl) (by rfl) (fx_inN (by omega) (by omega)) ?_
  rw [nI_clamp (by omega)]
  refine fe_s 1 (pc' := 12) (lc' := [(0, .ref 0), (1, .int (nI C))]) (stk' := [.int 1, .int (a 1 (12 + 6 * C))]) (mem' := fm g tp bt a b) (fun _ _ _ => rfl) ?_
  refine fe_s 1 (pc' := cond (fx_cb .ne (a 1 (12 + 6 * C)) 1) 19 15) (lc' := [(0, .ref 0), (1, .int (nI C))]) (stk' := []) (mem' := fm g tp bt a b) (fun _ _ _ => rfl) ?_
  cases hb : fx_cb .ne (a 1 (12 + 6 * C)) 1
  · refine fe_s 2 (pc' := 20) (lc' := [(0, .ref 0), (1, .int (nI C))]) (stk' := [.int 1]) (mem' := fm g tp bt a b) (fun _ _ _ => rfl) ?_
    exact fe_ret ⟨_, Or.inr rfl, rfl⟩ (by rfl) (by rfl) (by rfl)
  · refine fe_s 1 (pc' := 20) (lc' := [(0, .ref 0), (1, .int (nI C))]) (stk' := [.int 0]) (mem' := fm g tp bt a b) (fun _ _ _ => rfl) ?_
    exact fe_ret ⟨_, Or.inl rfl, rfl⟩ (by rfl) (by rfl) (by rfl)
theorem fq_isWet {V : Nat} (h : V < 8) : fm_Pz 2 266 [.ref 0, .int (nI V)] (fm g tp bt a b) := by
  refine fm_Pz_of (by rfl) (by rfl) ?_
  refine fe_s 3 (pc' := 5) (lc' := [(0, .ref 0), (1, .int (nI V))]) (stk' := [.int (nI V), .ref 1]) (mem' := fm g tp bt a b) (fun _ _ _ => rfl) ?_
  refine fe_ivS fr_walkerRow (by omega) (by rfl) (by rfl) (by rfl) (by rfl) (by rfl) ?_
  refine fe_s 2 (pc' := 10) (lc' := [(0, .ref 0), (1, .int (nI V))]) (stk' := [.int ((278 + 5 * nI V) + 2), .ref 1]) (mem' := fm g tp bt a b) (fun _ _ _ => rfl) ?_
  rw [show (278 + 5 * nI V + 2 : Int32) = nI (280 + 5 * V) from fm_rw 278 5 2 V]
  refine fe_ldI (by rfl) (by rfl) (fx_inN (by omega) (by omega)) ?_
  rw [nI_clamp (by omega)]
  refine fe_s 1 (pc' := 12) (lc' := [(0, .ref 0), (1, .int (nI V))]) (stk' := [.int 1, .int (a 1 (280 + 5 * V))]) (mem' := fm g tp bt a b) (fun _ _ _ => rfl) ?_
  refine fe_s 1 (pc' := cond (fx_cb .ne (a 1 (280 + 5 * V)) 1) 19 15) (lc' := [(0, .ref 0), (1, .int (nI V))]) (stk' := []) (mem' := fm g tp bt a b) (fun _ _ _ => rfl) ?_
  cases hb : fx_cb .ne (a 1 (280 + 5 * V)) 1
  · refine fe_s 2 (pc' := 20) (lc' := [(0, .ref 0), (1, .int (nI V))]) (stk' := [.int 1]) (mem' := fm g tp bt a b) (fun _ _ _ => rfl) ?_
    exact fe_ret ⟨_, Or.inr rfl, rfl⟩ (by rfl) (by rfl) (by rfl)
  · refine fe_s 1 (pc' := 20) (lc' := [(0, .ref 0), (1, .int (nI V))]) (stk' := [.int 0]) (mem' := fm g tp bt a b) (fun _ _ _ => rfl) ?_
    exact fe_ret ⟨_, Or.inl rfl, rfl⟩ (by rfl) (by rfl) (by rfl)
theorem fq_leftOf {V : Nat} (h : V < 8) : fm_P 2 267 [.ref 0, .int (nI V)] (fm g tp bt a b) := by
  refine fm_P_of (by rfl) (by rfl) ?_
  refine fe_s 3 (pc' := 5) (lc' := [(0, .ref 0), (1, .int (nI V))]) (stk' := [.int (nI V), .ref 1]) (mem' := fm g tp bt a b) (fun _ _ _ => rfl) ?_
  refine fe_ivS fr_walkerRow (by omega) (by rfl) (by rfl) (by rfl) (by rfl) (by rfl) ?_
  refine fe_s 2 (pc' := 10) (lc' := [(0, .ref 0), (1, .int (nI V))]) (stk' := [.int ((278 + 5 * nI V) + 3), .ref 1]) (mem' := fm g tp bt a b) (fun _ _ _ => rfl) ?_
  rw [show (278 + 5 * nI V + 3 : Int32) = nI (281 + 5 * V) from fm_rw 278 5 3 V]
  refine fe_ldI (by rfl) (by rfl) (fx_inN (by omega) (by omega)) ?_
  rw [nI_clamp (by omega)]
  exact fe_ret ⟨_, rfl⟩ (by rfl) (by rfl) (by rfl)
theorem fq_weightOf {V : Nat} (h : V < 8) : fm_P 2 264 [.ref 0, .int (nI V)] (fm g tp bt a b) := by
  refine fm_P_of (by rfl) (by rfl) ?_
  refine fe_s 3 (pc' := 5) (lc' := [(0, .ref 0), (1, .int (nI V))]) (stk' := [.int (nI V), .ref 1]) (mem' := fm g tp bt a b) (fun _ _ _ => rfl) ?_
  refine fe_ivS fr_walkerRow (by omega) (by rfl) (by rfl) (by rfl) (by rfl) (by rfl) ?_
  rw [show (278 + 5 * nI V : Int32) = nI (278 + 5 * V) from fm_rw0 278 5 V]
  refine fe_ldI (by rfl) (by rfl) (fx_inN (by omega) (by omega)) ?_
  rw [nI_clamp (by omega)]
  exact fe_ret ⟨_, rfl⟩ (by rfl) (by rfl) (by rfl)
theorem fq_cameAgo {C S : Nat} (ht : fm_t a) (hC : C < 10) (hS : S ≤ 20) : fm_P 2 269 [.ref 0, .int (nI C), .int (nI S)] (fm g tp bt a b) := by
  refine fm_P_of (by rfl) (by rfl) ?_
  obtain ⟨-, -, -, ⟨NN, hNN, eN⟩, -⟩ := ht
  refine fe_s 3 (pc' := 5) (lc' := [(0, .ref 0), (1, .int (nI C)), (2, .int (nI S))]) (stk' := [.int 5, .ref 1]) (mem' := fm g tp bt a b) (fun _ _ _ => rfl) ?_
  refine fe_ldI (by rfl) (by rfl) (fx_inN (i := 5) (by omega) (by omega)) ?_
  rw [show Int32.toNatClampNeg 5 = 5 from rfl]
  rw [eN]
  refine fe_s 1 (pc' := 7) (lc' := [(0, .ref 0), (1, .int (nI C)), (2, .int (nI S))]) (stk' := [.int (nI S), .int (nI NN)]) (mem' := fm g tp bt a b) (fun _ _ _ => rfl) ?_
  refine fe_s 1 (pc' := cond (fx_cb .ge (nI NN) (nI S)) 14 10) (lc' := [(0, .ref 0), (1, .int (nI C)), (2, .int (nI S))]) (stk' := []) (mem' := fm g tp bt a b) (fun _ _ _ => rfl) ?_
  cases hb : fx_cb .ge (nI NN) (nI S)
  · refine fe_s 2 (pc' := 38) (lc' := [(0, .ref 0), (1, .int (nI C)), (2, .int (nI S))]) (stk' := [.int 0]) (mem' := fm g tp bt a b) (fun _ _ _ => rfl) ?_
    exact fe_ret ⟨_, rfl⟩ (by rfl) (by rfl) (by rfl)
  · have hle : S ≤ NN := (nI_leI (by omega) (by omega)).mp (of_decide_eq_true hb)
    refine fe_s 10 (pc' := 30) (lc' := [(0, .ref 0), (1, .int (nI C)), (2, .int (nI S))]) (stk' := [.int 5, .ref 1, .int (68 + (21 * (nI C))), .ref 1]) (mem' := fm g tp bt a b) (fun _ _ _ => rfl) ?_
    refine fe_ldI (by rfl) (by rfl) (fx_inN (i := 5) (by omega) (by omega)) ?_
    rw [show Int32.toNatClampNeg 5 = 5 from rfl]
    rw [eN]
    refine fe_s 3 (pc' := 35) (lc' := [(0, .ref 0), (1, .int (nI C)), (2, .int (nI S))]) (stk' := [.int 21, .int ((nI NN) - (nI S)), .int (68 + (21 * (nI C))), .ref 1]) (mem' := fm g tp bt a b) (fun _ _ _ => rfl) ?_
    rw [tg_sub2 hle]
    refine fe_s 1 (pc' := 36) (lc' := [(0, .ref 0), (1, .int (nI C)), (2, .int (nI S))]) (stk' := [.int (nI (NN - S) - nI (NN - S) / 21 * 21), .int (68 + 21 * nI C), .ref 1]) (mem' := fm g tp bt a b) (fun _ _ _ => rfl) ?_
    rw [show nI (NN - S) - nI (NN - S) / 21 * 21 = nI ((NN - S) % 21) from pk_rem (a := NN - S) (d := 21) (by omega) (by decide) (by decide)]
    refine fe_s 1 (pc' := 37) (lc' := [(0, .ref 0), (1, .int (nI C)), (2, .int (nI S))]) (stk' := [.int ((68 + 21 * nI C) + (nI ((NN - S) % 21))), .ref 1]) (mem' := fm g tp bt a b) (fun _ _ _ => rfl) ?_
    have hm := Nat.mod_lt (NN - S) (show 0 < 21 by decide)
    rw [show (68 + 21 * nI C + nI ((NN - S) % 21) : Int32) = nI (68 + (NN - S) % 21 + 21 * C) from fm_rw 68 21 _ C]
    refine fe_ldI (by rfl) (by rfl) (fx_inN (by omega) (by omega)) ?_
    exact fe_ret ⟨_, rfl⟩ (by rfl) (by rfl) (by rfl)
end FQ
