/-! ===== fx: ways, where they lead ===== -/
theorem fr_retz {k pc : Nat} {M : rk_M2} {lc : fx_L} {mem : fx_M} {x : Int32} (hx : x = 0 ∨ x = 1) (hat : tk_at M.1 pc = some (pc, .ireturn, 1)) (hr : M.2.2.2.2.1 = some .boolean) : fr_R k M pc lc [.int x] mem (some (.int x), mem) := fr_ret hat rfl (by rw [hr]; rcases hx with rfl | rfl <;> rfl)
theorem fm_b_01 (x k : Int32) : fm_b x k = 0 ∨ fm_b x k = 1 := by
  unfold fm_b
  split
  · exact Or.inr rfl
  · exact Or.inl rfl
theorem fr_isIn {s k : Int32} {mem : fx_M} : fr_T 1 260 [.ref 0, .int s, .int k] mem (some (.int (fm_b s k))) mem := ⟨0, fun N d => fm_isIn (N + 88) d s k mem⟩
theorem fr_cellRow {c : Int32} {mem : fx_M} : fr_T 1 253 [.int c] mem (some (.int (8 + 6 * c))) mem := ⟨0, fun N d => fm_cellRow (N + 94) d c mem⟩
theorem fr_walkerRow {c : Int32} {mem : fx_M} : fr_T 1 254 [.int c] mem (some (.int (278 + 5 * c))) mem := ⟨0, fun N d => fm_walkerRow (N + 94) d c mem⟩
theorem fm_mul (x y : Nat) : nI x * nI y = nI (x * y) := (Int32.ofNat_mul x y).symm
theorem fm_cb_t {c : ClassFile.Cond} {x y : Int32} {b : Bool} (h : fx_cb c x y = b) : fx_cb c x y = b := h
section FW
variable {g : Nat → Int32} {tp bt : Int64} {a : Nat → Nat → Int32} {b : Nat → Nat → Int64}
theorem fr_isWay {A : Nat} {B : Int32} (hA : A < 10) : fr_T 3 262 [.ref 0, .int (nI A), .int B] (fm g tp bt a b) (some (.int (fm_b (a 1 (10 + 6 * A)) B))) (fm g tp bt a b) := by
  refine fr_meth (by rfl) (by rfl) ?_
  have e1 : 8 + 6 * nI A + 2 = nI (10 + 6 * A) := by
    rw [show (8 : Int32) = nI 8 from rfl, show (6 : Int32) = nI 6 from rfl, show (2 : Int32) = nI 2 from rfl, fm_mul, nI_add, nI_add]
    congr 1
    omega
  refine fr_s 4 (pc' := 6) (lc' := [(0, .ref 0), (1, .int (nI A)), (2, .int B)]) (stk' := [.int (nI A), .ref 1, .ref 0]) (mem' := fm g tp bt a b) (fun _ _ _ => rfl) ?_
  refine fr_ivS fr_cellRow (by omega) (by rfl) (by rfl) (by rfl) (by rfl) (by rfl) ?_
  refine fr_s 2 (pc' := 11) (lc' := [(0, .ref 0), (1, .int (nI A)), (2, .int B)]) (stk' := [.int ((8 + 6 * nI A) + 2), .ref 1, .ref 0]) (mem' := fm g tp bt a b) (fun _ _ _ => rfl) ?_
  rw [e1]
  refine fr_ldI (by rfl) (by rfl) (fx_inN (by omega) (by omega)) ?_
  rw [nI_clamp (by omega)]
  refine fr_s 1 (pc' := 13) (lc' := [(0, .ref 0), (1, .int (nI A)), (2, .int B)]) (stk' := [.int B, .int (a 1 (10 + 6 * A)), .ref 0]) (mem' := fm g tp bt a b) (fun _ _ _ => rfl) ?_
  refine fr_ivV fr_isIn (by omega) (by rfl) (by rfl) (by rfl) (by rfl) (by rfl) (by rfl) ?_
  exact fr_retz (fm_b_01 _ _) (by rfl) (by rfl)
theorem fr_whereOf {W : Nat} (hW : W < 8) : fr_T 2 265 [.ref 0, .int (nI W)] (fm g tp bt a b) (some (.int (a 1 (279 + 5 * W)))) (fm g tp bt a b) := by
  refine fr_meth (by rfl) (by rfl) ?_
  have e1 : 278 + 5 * nI W + 1 = nI (279 + 5 * W) := by
    rw [show (278 : Int32) = nI 278 from rfl, show (5 : Int32) = nI 5 from rfl, show (1 : Int32) = nI 1 from rfl, fm_mul, nI_add, nI_add]
    congr 1
    omega
  refine fr_s 3 (pc' := 5) (lc' := [(0, .ref 0), (1, .int (nI W))]) (stk' := [.int (nI W), .ref 1]) (mem' := fm g tp bt a b) (fun _ _ _ => rfl) ?_
  refine fr_ivS fr_walkerRow (by omega) (by rfl) (by rfl) (by rfl) (by rfl) (by rfl) ?_
  refine fr_s 2 (pc' := 10) (lc' := [(0, .ref 0), (1, .int (nI W))]) (stk' := [.int ((278 + 5 * nI W) + 1), .ref 1]) (mem' := fm g tp bt a b) (fun _ _ _ => rfl) ?_
  rw [e1]
  refine fr_ldI (by rfl) (by rfl) (fx_inN (by omega) (by omega)) ?_
  rw [nI_clamp (by omega)]
  exact fr_ret (by rfl) (by rfl) (by rfl)
/-- a CELL from which one is a STEP nearer, by a WAY -/
def fm_near (a : Nat → Nat → Int32) (X c : Nat) : Prop := fm_b (a 1 (10 + 6 * X)) (nI c) = 1 ∧ a 9 c = a 9 X - 1
theorem fr_nextOn {X c0 : Nat} (hX : X < 10) (hc0 : c0 < 10) (hn : fm_near a X c0) (hmin : ∀ c, c < c0 → ¬ fm_near a X c) : fr_T 4 306 [.ref 0, .int (nI X)] (fm g tp bt a b) (some (.int (nI c0))) (fm g tp bt a b) := by
  refine fr_meth (by rfl) (by rfl) ?_
  have loop : ∀ (r c : Nat), c + r = c0 → fr_R 3 gk_m306 2 [(2, .int (nI c)), (0, .ref 0), (1, .int (nI X))] [] (fm g tp bt a b) (some (.int (nI c0)), fm g tp bt a b) := by
    intro r
    induction r with
    | zero =>
      intro c hc
      obtain rfl : c = c0 := by omega
      refine fr_s 3 (pc' := 5) (lc' := [(2, .int (nI c)), (0, .ref 0), (1, .int (nI X))]) (stk' := [.int (nI c), .int (nI X), .ref 0]) (mem' := fm g tp bt a b) (fun _ _ _ => rfl) ?_
      refine fr_ivV (fr_isWay hX) (by omega) (by rfl) (by rfl) (by rfl) (by rfl) (by rfl) (by rfl) ?_
      rw [hn.1]
      refine fr_s 1 (pc' := cond (fx_cb .eq 1 0) 28 11) (lc' := [(2, .int (nI c)), (0, .ref 0), (1, .int (nI X))]) (stk' := []) (mem' := fm g tp bt a b) (fun _ _ _ => rfl) ?_
      rw [show fx_cb .eq 1 0 = false from rfl]
      dsimp only [cond]
      refine fr_s 3 (pc' := 16) (lc' := [(2, .int (nI c)), (0, .ref 0), (1, .int (nI X))]) (stk' := [.int (nI c), .ref 9]) (mem' := fm g tp bt a b) (fun _ _ _ => rfl) ?_
      refine fr_ldI (by rfl) (by rfl) (fx_inN (by omega) (by omega)) ?_
      rw [nI_clamp (by omega)]
      refine fr_s 3 (pc' := 22) (lc' := [(2, .int (nI c)), (0, .ref 0), (1, .int (nI X))]) (stk' := [.int (nI X), .ref 9, .int (a 9 c)]) (mem' := fm g tp bt a b) (fun _ _ _ => rfl) ?_
      refine fr_ldI (by rfl) (by rfl) (fx_inN (by omega) (by omega)) ?_
      rw [nI_clamp (by omega)]
      refine fr_s 2 (pc' := 25) (lc' := [(2, .int (nI c)), (0, .ref 0), (1, .int (nI X))]) (stk' := [.int ((a 9 X) - 1), .int (a 9 c)]) (mem' := fm g tp bt a b) (fun _ _ _ => rfl) ?_
      refine fr_s 1 (pc' := cond (fx_cb .eq (a 9 c) ((a 9 X) - 1)) 34 28) (lc' := [(2, .int (nI c)), (0, .ref 0), (1, .int (nI X))]) (stk' := []) (mem' := fm g tp bt a b) (fun _ _ _ => rfl) ?_
      rw [show fx_cb .eq (a 9 c) ((a 9 X) - 1) = true from decide_eq_true hn.2]
      dsimp only [cond]
      refine fr_s 1 (pc' := 35) (lc' := [(2, .int (nI c)), (0, .ref 0), (1, .int (nI X))]) (stk' := [.int (nI c)]) (mem' := fm g tp bt a b) (fun _ _ _ => rfl) ?_
      exact fr_ret (by rfl) (by rfl) (by rfl)
    | succ r ih =>
      intro c hc
      have hno := hmin c (by omega)
      refine fr_s 3 (pc' := 5) (lc' := [(2, .int (nI c)), (0, .ref 0), (1, .int (nI X))]) (stk' := [.int (nI c), .int (nI X), .ref 0]) (mem' := fm g tp bt a b) (fun _ _ _ => rfl) ?_
      refine fr_ivV (fr_isWay hX) (by omega) (by rfl) (by rfl) (by rfl) (by rfl) (by rfl) (by rfl) ?_
      rcases fm_b_01 (a 1 (10 + 6 * X)) (nI c) with h0 | h1
      · rw [h0]
        refine fr_s 1 (pc' := cond (fx_cb .eq 0 0) 28 11) (lc' := [(2, .int (nI c)), (0, .ref 0), (1, .int (nI X))]) (stk' := []) (mem' := fm g tp bt a b) (fun _ _ _ => rfl) ?_
        rw [show fx_cb .eq 0 0 = true from rfl]
        dsimp only [cond]
        refine fr_s 2 (pc' := 2) (lc' := [(2, .int ((nI c) + 1)), (0, .ref 0), (1, .int (nI X))]) (stk' := []) (mem' := fm g tp bt a b) (fun _ _ _ => rfl) ?_
        rw [nI_1]
        exact ih (c + 1) (by omega)
      · have hne : ¬ a 9 c = a 9 X - 1 := fun z => hno ⟨h1, z⟩
        rw [h1]
        refine fr_s 1 (pc' := cond (fx_cb .eq 1 0) 28 11) (lc' := [(2, .int (nI c)), (0, .ref 0), (1, .int (nI X))]) (stk' := []) (mem' := fm g tp bt a b) (fun _ _ _ => rfl) ?_
        rw [show fx_cb .eq 1 0 = false from rfl]
        dsimp only [cond]
        refine fr_s 3 (pc' := 16) (lc' := [(2, .int (nI c)), (0, .ref 0), (1, .int (nI X))]) (stk' := [.int (nI c), .ref 9]) (mem' := fm g tp bt a b) (fun _ _ _ => rfl) ?_
        refine fr_ldI (by rfl) (by rfl) (fx_inN (by omega) (by omega)) ?_
        rw [nI_clamp (by omega)]
        refine fr_s 3 (pc' := 22) (lc' := [(2, .int (nI c)), (0, .ref 0), (1, .int (nI X))]) (stk' := [.int (nI X), .ref 9, .int (a 9 c)]) (mem' := fm g tp bt a b) (fun _ _ _ => rfl) ?_
        refine fr_ldI (by rfl) (by rfl) (fx_inN (by omega) (by omega)) ?_
        rw [nI_clamp (by omega)]
        refine fr_s 2 (pc' := 25) (lc' := [(2, .int (nI c)), (0, .ref 0), (1, .int (nI X))]) (stk' := [.int ((a 9 X) - 1), .int (a 9 c)]) (mem' := fm g tp bt a b) (fun _ _ _ => rfl) ?_
        refine fr_s 1 (pc' := cond (fx_cb .eq (a 9 c) ((a 9 X) - 1)) 34 28) (lc' := [(2, .int (nI c)), (0, .ref 0), (1, .int (nI X))]) (stk' := []) (mem' := fm g tp bt a b) (fun _ _ _ => rfl) ?_
        rw [show fx_cb .eq (a 9 c) ((a 9 X) - 1) = false from decide_eq_false hne]
        dsimp only [cond]
        refine fr_s 2 (pc' := 2) (lc' := [(2, .int ((nI c) + 1)), (0, .ref 0), (1, .int (nI X))]) (stk' := []) (mem' := fm g tp bt a b) (fun _ _ _ => rfl) ?_
        rw [nI_1]
        exact ih (c + 1) (by omega)
  refine fr_s 2 (pc' := 2) (lc' := [(2, .int (nI 0)), (0, .ref 0), (1, .int (nI X))]) (stk' := []) (mem' := fm g tp bt a b) (fun _ _ _ => rfl) ?_
  exact loop c0 0 (by omega)
end FW
