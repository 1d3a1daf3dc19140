/-! ===== fx: the model's memory ===== -/
def fm_o (g : Nat → Int32) (tp bt : Int64) : List Value := [.ref 1, .ref 2, .int (g 2), .long tp, .long bt, .ref 3, .ref 4, .ref 5, .ref 6, .ref 7, .int (g 10), .int (g 11), .int (g 12), .int (g 13), .int (g 14), .int (g 15), .int (g 16), .int (g 17), .int (g 18), .int (g 19), .int (g 20), .ref 8, .int (g 22), .int (g 23), .ref 9, .int (g 25), .ref 10, .ref 11, .ref 12, .ref 13, .int (g 30), .ref 14, .ref 15, .ref 16, .ref 17, .ref 18, .int (g 36), .int (g 37), .ref 19, .ref 20, .ref 21, .int (g 41), .int (g 42)]
def fm (g : Nat → Int32) (tp bt : Int64) (a : Nat → Nat → Int32) (b : Nat → Nat → Int64) : fx_M := [.inl (12, fm_o g tp bt), .inr (.int, 5894, .inl (a 1)), .inr (.long, 108, .inr (.inl (b 2))), .inr (.int, 4, .inl (a 3)), .inr (.int, 4, .inl (a 4)), .inr (.long, 240, .inr (.inl (b 5))), .inr (.byte, 900, .inl (a 6)), .inr (.byte, 900, .inl (a 7)), .inr (.int, 3, .inl (a 8)), .inr (.int, 10, .inl (a 9)), .inr (.int, 4, .inl (a 10)), .inr (.int, 4, .inl (a 11)), .inr (.int, 4, .inl (a 12)), .inr (.int, 4, .inl (a 13)), .inr (.int, 256, .inl (a 14)), .inr (.int, 427, .inl (a 15)), .inr (.int, 10, .inl (a 16)), .inr (.long, 21, .inr (.inl (b 17))), .inr (.long, 21, .inr (.inl (b 18))), .inr (.int, 80, .inl (a 19)), .inr (.int, 5, .inl (a 20)), .inr (.int, 5, .inl (a 21))]
def fm_u (a : Nat → Nat → Int32) (t i : Nat) (v : Int32) : Nat → Nat → Int32 := fun t2 => if t2 = t then upd (a t) i v else a t2
abbrev fm_call (N d : Nat) : fx_Ca := fx_call gk_fty gk_mci gk_P N d
/-- a bit -/
def fm_b (x k : Int32) : Int32 := if (x >>> (k &&& 31)) &&& 1 = 1 then 1 else 0
theorem fm_isIn (N d : Nat) (s k : Int32) (mem : fx_M) : fm_call (N + 12) (d + 1) 260 [.ref 0, .int s, .int k] mem = some (some (.int (fm_b s k)), mem) := by
  show fx_run (fm_call (N + 12) d) gk_fty gk_mci gk_m260 (N + 12) 0 [(0, .ref 0), (1, .int s), (2, .int k)] [] mem = _
  have e1 : fx_run (fm_call (N + 12) d) gk_fty gk_mci gk_m260 (N + 12) 0 [(0, .ref 0), (1, .int s), (2, .int k)] [] mem = fx_run (fm_call (N + 12) d) gk_fty gk_mci gk_m260 (N + 5) (cond (!decide ((s >>> (k &&& 31)) &&& 1 = 1)) 13 9) [(0, .ref 0), (1, .int s), (2, .int k)] [] mem := rfl
  rw [e1]
  unfold fm_b
  by_cases h : (s >>> (k &&& 31)) &&& 1 = 1
  · rw [if_pos h, decide_eq_true h]
    rfl
  · rw [if_neg h, decide_eq_false h]
    rfl
theorem fm_cellRow (N d : Nat) (c : Int32) (mem : fx_M) : fm_call (N + 6) (d + 1) 253 [.int c] mem = some (some (.int (8 + 6 * c)), mem) := rfl
theorem fm_walkerRow (N d : Nat) (c : Int32) (mem : fx_M) : fm_call (N + 6) (d + 1) 254 [.int c] mem = some (some (.int (278 + 5 * c)), mem) := rfl
