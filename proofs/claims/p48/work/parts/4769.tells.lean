/-! ===== fx: a part of a whole, in lowest terms ===== -/
section FTB
variable {g : Nat → Int32} {tp bt : Int64} {a : Nat → Nat → Int32} {b : Nat → Nat → Int64}
theorem fe_lrem {k : Nat} {M : rk_M2} {pc : Nat} {x y : Int64} {lc : fx_L} {r : List Value} {mem : fx_M} {F : Option Value × fx_M → Prop} (hat : tk_at M.1 pc = some (pc, .lrem, 1)) (hy : ¬ y = 0) (kk : fe_R k M (pc + 1) lc (.long (x - x / y * y) :: r) mem F) : fe_R k M pc lc (.long y :: .long x :: r) mem F := by
  refine fe_s 1 (pc' := pc + 1) (lc' := lc) (stk' := .long (x - x / y * y) :: r) (mem' := mem) (fun N d n => ?_) kk
  refine fx_one (z := (pc + 1, lc, .long (x - x / y * y) :: r, mem)) hat rfl rfl ?_
  show (match (if y = 0 then none else some (pc + 1, lc, Value.long (x - x / y * y) :: r) : fx_R) with
    | some z => some (z.1, z.2.1, z.2.2, mem)
    | none => none) = _
  rw [if_neg hy]
theorem fe_ldiv {k : Nat} {M : rk_M2} {pc : Nat} {x y : Int64} {lc : fx_L} {r : List Value} {mem : fx_M} {F : Option Value × fx_M → Prop} (hat : tk_at M.1 pc = some (pc, .ldiv, 1)) (hy : ¬ y = 0) (kk : fe_R k M (pc + 1) lc (.long (x / y) :: r) mem F) : fe_R k M pc lc (.long y :: .long x :: r) mem F := by
  refine fe_s 1 (pc' := pc + 1) (lc' := lc) (stk' := .long (x / y) :: r) (mem' := mem) (fun N d n => ?_) kk
  refine fx_one (z := (pc + 1, lc, .long (x / y) :: r, mem)) hat rfl rfl ?_
  show (match (if y = 0 then none else some (pc + 1, lc, Value.long (x / y) :: r) : fx_R) with
    | some z => some (z.1, z.2.1, z.2.2, mem)
    | none => none) = _
  rw [if_neg hy]
theorem fm_div_nn {x y : Int64} (hx : 0 ≤ x.toInt) (hy : 0 < y.toInt) : 0 ≤ (x / y).toInt := by
  rw [Int64.toInt_div, Int.tdiv_eq_ediv_of_nonneg hx]
  have h1 : 0 ≤ x.toInt / y.toInt := Int.ediv_nonneg hx (by omega)
  have h2 : x.toInt / y.toInt ≤ x.toInt := Int.ediv_le_self _ hx
  have h3 := x.toInt_lt
  rw [Int.bmod_eq_of_le (by omega) (by omega)]
  exact h1
theorem fr_is0 {g : Nat → Int32} {tp bt : Int64} {a : Nat → Nat → Int32} {b : Nat → Nat → Int64} : fr_T 1 206 [.ref 0, .int 0] (fm g tp bt a b) (some (.int 1)) (fm (upd g 2 0) tp bt a b) := by
  refine fr_meth (by rfl) (by rfl) ?_
  refine fr_s 4 (pc' := 6) (lc' := [(0, .ref 0), (1, .int 0)]) (stk' := [.int 0]) (mem' := fm (upd g 2 0) tp bt a b) (fun _ _ _ => rfl) ?_
  refine fr_s 1 (pc' := cond (fx_cb .ne 0 0) 13 9) (lc' := [(0, .ref 0), (1, .int 0)]) (stk' := []) (mem' := fm (upd g 2 0) tp bt a b) (fun _ _ _ => rfl) ?_
  rw [show (fx_cb .ne 0 0) = false from by decide]
  dsimp only [cond]
  refine fr_s 2 (pc' := 14) (lc' := [(0, .ref 0), (1, .int 0)]) (stk' := [.int 1]) (mem' := fm (upd g 2 0) tp bt a b) (fun _ _ _ => rfl) ?_
  exact fr_ret (by rfl) (by rfl) (by rfl)
theorem fm_i64 {x : Int64} (h : fx_cb .eq (lg_cmp x 0) 0 = false) : ¬ x = 0 := by
  rintro rfl
  exact absurd h (by decide)
theorem fm_i64e {x : Int64} (h : fx_cb .eq (lg_cmp x 0) 0 = true) : x = 0 := by
  have e : lg_cmp x 0 = 0 := of_decide_eq_true h
  rcases rk_lgc x 0 with ⟨z, -⟩ | ⟨-, z⟩ | ⟨z, -⟩
  · rw [z] at e; exact absurd e (by decide)
  · exact Int64.toInt_inj.mp z
  · rw [z] at e; exact absurd e (by decide)
theorem fr_tellsBy {n d : Int64} (hn : 0 ≤ n.toInt) (hd : 0 < d.toInt) : ∃ (v : Option Value) (mem' : fx_M), (fun R => ∃ t u : Int64, 0 ≤ t.toInt ∧ R = (some (.int 1), fm (upd g 2 0) t u a b)) (v, mem') ∧ fr_T 3 210 [.ref 0, .long n, .long d] (fm g tp bt a b) v mem' := by
  refine fe_meth (F := fun R => ∃ t u : Int64, 0 ≤ t.toInt ∧ R = (some (.int 1), fm (upd g 2 0) t u a b)) (M := gk_m210) (by rfl) (by rfl) ?_
  have h0 : (0 : Int64).toInt = 0 := rfl
  have loop : ∀ (r : Nat) (x y : Int64), y.toInt.toNat < r → 0 ≤ x.toInt → 0 ≤ y.toInt → (0 < x.toInt ∨ 0 < y.toInt) → fe_R 2 gk_m210 6 [(7, .long y), (5, .long x), (0, .ref 0), (1, .long n), (3, .long d)] [] (fm g tp bt a b) (fun R => ∃ t u : Int64, 0 ≤ t.toInt ∧ R = (some (.int 1), fm (upd g 2 0) t u a b)) := by
    intro r
    induction r with
    | zero => intro x y h; exact absurd h (Nat.not_lt_zero _)
    | succ r ih =>
      intro x y hr hx hy hxy
      refine fe_s 3 (pc' := 10) (lc' := [(7, .long y), (5, .long x), (0, .ref 0), (1, .long n), (3, .long d)]) (stk' := [.int (lg_cmp y 0)]) (mem' := fm g tp bt a b) (fun _ _ _ => rfl) ?_
      refine fe_s 1 (pc' := cond (fx_cb .eq (lg_cmp y 0) 0) 31 13) (lc' := [(7, .long y), (5, .long x), (0, .ref 0), (1, .long n), (3, .long d)]) (stk' := []) (mem' := fm g tp bt a b) (fun _ _ _ => rfl) ?_
      cases h1 : fx_cb .eq (lg_cmp y 0) 0
      · refine fe_s 2 (pc' := 17) (lc' := [(7, .long y), (5, .long x), (0, .ref 0), (1, .long n), (3, .long d)]) (stk' := [.long y, .long x]) (mem' := fm g tp bt a b) (fun _ _ _ => rfl) ?_
        have hy0 := fm_i64 h1
        have hy1 : 0 < y.toInt := by have : ¬ y.toInt = 0 := fun z => hy0 (Int64.toInt_inj.mp (by rw [z]; rfl)); omega
        have hm := tk_lrem_nn (x := x) (y := y) hx hy1
        have hm1 := Int.emod_nonneg x.toInt (show y.toInt ≠ 0 by omega)
        have hm2 := Int.emod_lt_of_pos x.toInt hy1
        refine fe_lrem (by rfl) hy0 ?_
        refine fe_s 6 (pc' := 6) (lc' := [(7, .long (x - x / y * y)), (5, .long y), (9, .long (x - x / y * y)), (0, .ref 0), (1, .long n), (3, .long d)]) (stk' := []) (mem' := fm g tp bt a b) (fun _ _ _ => rfl) ?_
        refine fe_w (lc' := [(7, .long (x - x / y * y)), (5, .long y), (0, .ref 0), (1, .long n), (3, .long d)]) ⟨rfl, rfl, rfl, rfl, rfl, trivial⟩ (by show List.Nodup [7, 5, 0, 1, 3]; decide) (by show List.Nodup [7, 5, 9, 0, 1, 3]; decide) ?_
        exact ih y (x - x / y * y) (by omega) hy (by omega) (Or.inl hy1)
      · obtain rfl := fm_i64e h1
        have hx1 : 0 < x.toInt := by omega
        have hx0 : ¬ x = 0 := by rintro rfl; omega
        refine fe_s 3 (pc' := 35) (lc' := [(7, .long 0), (5, .long x), (0, .ref 0), (1, .long n), (3, .long d)]) (stk' := [.long x, .long n, .ref 0]) (mem' := fm g tp bt a b) (fun _ _ _ => rfl) ?_
        refine fe_ldiv (by rfl) hx0 ?_
        refine fe_s 4 (pc' := 43) (lc' := [(7, .long 0), (5, .long x), (0, .ref 0), (1, .long n), (3, .long d)]) (stk' := [.long x, .long d, .ref 0]) (mem' := fm g (n / x) bt a b) (fun _ _ _ => rfl) ?_
        refine fe_ldiv (by rfl) hx0 ?_
        refine fe_s 3 (pc' := 49) (lc' := [(7, .long 0), (5, .long x), (0, .ref 0), (1, .long n), (3, .long d)]) (stk' := [.int 0, .ref 0]) (mem' := fm g (n / x) (d / x) a b) (fun _ _ _ => rfl) ?_
        refine fe_ivV fr_is0 (by omega) (by rfl) (by rfl) (by rfl) (by rfl) (by rfl) (by rfl) ?_
        exact fe_ret ⟨n / x, d / x, fm_div_nn hn hx1, rfl⟩ (by rfl) (by rfl) (by rfl)
  refine fe_s 4 (pc' := 6) (lc' := [(7, .long d), (5, .long n), (0, .ref 0), (1, .long n), (3, .long d)]) (stk' := []) (mem' := fm g tp bt a b) (fun _ _ _ => rfl) ?_
  exact loop (d.toInt.toNat + 1) n d (by omega) hn (by omega) (Or.inr hd)
end FTB
