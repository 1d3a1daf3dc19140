section MG9_0
/-! ===== fx: what the parser wants: a sign, a number, a name ===== -/
section FWT
variable {g : Nat → Int32} {tp bt : Int64} {a : Nat → Nat → Int32} {b : Nat → Nat → Int64}
/-- the parser's part of the state but for faults -/
def fm_tx8 (g g' : Nat → Int32) : Prop := ∀ j, j ≠ 12 → j ≠ 13 → j ≠ 14 → j ≠ 15 → j ≠ 17 → j ≠ 18 → g' j = g j
theorem fm_tx8_of {g g' : Nat → Int32} (h : fm_txt g g') : fm_tx8 g g' := fun j q1 q2 q3 q4 _ _ => h j q1 q2 q3 q4
theorem fm_tx8_rf : fm_tx8 g g := fun _ _ _ _ _ _ _ => rfl
theorem fm_tx8_tr {g1 g2 : Nat → Int32} (h : fm_tx8 g g1) (h2 : fm_tx8 g1 g2) : fm_tx8 g g2 := fun j q1 q2 q3 q4 q5 q6 => (h2 j q1 q2 q3 q4 q5 q6).trans (h j q1 q2 q3 q4 q5 q6)
theorem fm_tx8_17 {g1 : Nat → Int32} {x : Int32} (h : fm_tx8 g g1) : fm_tx8 g (upd g1 17 x) := fun j q1 q2 q3 q4 q5 q6 => by rw [pk_un q5]; exact h j q1 q2 q3 q4 q5 q6
theorem fm_tx8_18 {g1 : Nat → Int32} {x : Int32} (h : fm_tx8 g g1) : fm_tx8 g (upd g1 18 x) := fun j q1 q2 q3 q4 q5 q6 => by rw [pk_un q6]; exact h j q1 q2 q3 q4 q5 q6
/-- faults and where: within -/
def fm_flt (g : Nat → Int32) : Prop := (∃ n, n ≤ 7 ∧ g 18 = nI n) ∧ -1 ≤ (g 17).toInt ∧ (g 17).toInt ≤ 900
/-- fails: nothing but faults and where is changed; faults are then not 0 -/
def fm_FF (g : Nat → Int32) (tp bt : Int64) (a : Nat → Nat → Int32) (b : Nat → Nat → Int64) (R : Option Value × fx_M) : Prop := ∃ g', (∀ j, j ≠ 17 → j ≠ 18 → g' j = g j) ∧ fm_flt g' ∧ ¬ g' 18 = 0 ∧ R = (some (.int 0), fm g' tp bt a b)
theorem cb_ne0 {x : Int32} (h : fx_cb .ne x 0 = true) : ¬ x = 0 := by
  have h2 : (!decide (x = 0)) = true := h
  rw [Bool.not_eq_true'] at h2
  exact of_decide_eq_false h2
theorem fr_fails {x F : Nat} (hx : x ≤ 7) (hx0 : 0 < x) (hF : g 13 = nI F) (hF9 : F ≤ 900) (hfl : fm_flt g) : ∃ (v : Option Value) (mem' : fx_M), (fm_FF g tp bt a b) (v, mem') ∧ fr_T 2 227 [.ref 0, .int (nI x)] (fm g tp bt a b) v mem' := by
  refine fe_meth (F := fm_FF g tp bt a b) (M := gk_m227) (by rfl) (by rfl) ?_
  refine fe_s 2 (pc' := 4) (lc' := [(0, .ref 0), (1, .int (nI x))]) (stk' := [.int (g 18)]) (mem' := fm g tp bt a b) (fun _ _ _ => rfl) ?_
  refine fe_s 1 (pc' := cond (fx_cb .ne (g 18) 0) 32 7) (lc' := [(0, .ref 0), (1, .int (nI x))]) (stk' := []) (mem' := fm g tp bt a b) (fun _ _ _ => rfl) ?_
  cases h1 : fx_cb .ne (g 18) 0
  · refine fe_s 4 (pc' := 13) (lc' := [(0, .ref 0), (1, .int (nI x))]) (stk' := [.int 1, .int (g 12), .ref 0]) (mem' := fm g tp bt a b) (fun _ _ _ => rfl) ?_
    refine fe_s 1 (pc' := cond (fx_cb .ne (g 12) 1) 20 16) (lc' := [(0, .ref 0), (1, .int (nI x))]) (stk' := [.ref 0]) (mem' := fm g tp bt a b) (fun _ _ _ => rfl) ?_
    cases h2 : fx_cb .ne (g 12) 1
    · refine fe_s 8 (pc' := 33) (lc' := [(0, .ref 0), (1, .int (nI x))]) (stk' := [.int 0]) (mem' := fm (upd (upd g 18 1) 17 (g 13)) tp bt a b) (fun _ _ _ => rfl) ?_
      exact fe_ret ⟨(upd (upd g 18 1) 17 (g 13)), fun j q5 q6 => by rw [pk_un q5, pk_un q6], ⟨⟨1, by omega, rfl⟩, (by show -1 ≤ (g 13).toInt; rw [hF, nI_i32 (by omega)]; omega), (by show (g 13).toInt ≤ 900; rw [hF, nI_i32 (by omega)]; omega)⟩, (show ¬ (1 : Int32) = 0 by decide), rfl⟩ (by rfl) (by rfl) (by rfl)
    · refine fe_s 7 (pc' := 33) (lc' := [(0, .ref 0), (1, .int (nI x))]) (stk' := [.int 0]) (mem' := fm (upd (upd g 18 (nI x)) 17 (g 13)) tp bt a b) (fun _ _ _ => rfl) ?_
      exact fe_ret ⟨(upd (upd g 18 (nI x)) 17 (g 13)), fun j q5 q6 => by rw [pk_un q5, pk_un q6], ⟨⟨x, hx, rfl⟩, (by show -1 ≤ (g 13).toInt; rw [hF, nI_i32 (by omega)]; omega), (by show (g 13).toInt ≤ 900; rw [hF, nI_i32 (by omega)]; omega)⟩, (nI_ne0 (by omega) (by omega)), rfl⟩ (by rfl) (by rfl) (by rfl)
  · refine fe_s 1 (pc' := 33) (lc' := [(0, .ref 0), (1, .int (nI x))]) (stk' := [.int 0]) (mem' := fm g tp bt a b) (fun _ _ _ => rfl) ?_
    exact fe_ret ⟨g, fun _ _ _ => rfl, hfl, cb_ne0 h1, rfl⟩ (by rfl) (by rfl) (by rfl)
theorem fr_isSign {c : Int32}  : ∃ (v : Option Value) (mem' : fx_M), (fun R => ∃ v : Int32, (v = 0 ∨ v = 1 ∧ g 12 = 4) ∧ R = (some (.int v), fm g tp bt a b)) (v, mem') ∧ fr_T 2 225 [.ref 0, .int c] (fm g tp bt a b) v mem' := by
  refine fe_meth (F := fun R => ∃ v : Int32, (v = 0 ∨ v = 1 ∧ g 12 = 4) ∧ R = (some (.int v), fm g tp bt a b)) (M := gk_m225) (by rfl) (by rfl) ?_
  refine fe_s 3 (pc' := 5) (lc' := [(0, .ref 0), (1, .int c)]) (stk' := [.int 4, .int (g 12)]) (mem' := fm g tp bt a b) (fun _ _ _ => rfl) ?_
  refine fe_s 1 (pc' := cond (fx_cb .ne (g 12) 4) 20 8) (lc' := [(0, .ref 0), (1, .int c)]) (stk' := []) (mem' := fm g tp bt a b) (fun _ _ _ => rfl) ?_
  cases h1 : fx_cb .ne (g 12) 4
  · refine fe_s 3 (pc' := 13) (lc' := [(0, .ref 0), (1, .int c)]) (stk' := [.int c, .int (g 15)]) (mem' := fm g tp bt a b) (fun _ _ _ => rfl) ?_
    refine fe_s 1 (pc' := cond (fx_cb .ne (g 15) c) 20 16) (lc' := [(0, .ref 0), (1, .int c)]) (stk' := []) (mem' := fm g tp bt a b) (fun _ _ _ => rfl) ?_
    cases h2 : fx_cb .ne (g 15) c
    · refine fe_s 2 (pc' := 21) (lc' := [(0, .ref 0), (1, .int c)]) (stk' := [.int 1]) (mem' := fm g tp bt a b) (fun _ _ _ => rfl) ?_
      exact fe_ret ⟨_, Or.inr ⟨rfl, fm_ne h1⟩, rfl⟩ (by rfl) (by rfl) (by rfl)
    · refine fe_s 1 (pc' := 21) (lc' := [(0, .ref 0), (1, .int c)]) (stk' := [.int 0]) (mem' := fm g tp bt a b) (fun _ _ _ => rfl) ?_
      exact fe_ret ⟨_, Or.inl rfl, rfl⟩ (by rfl) (by rfl) (by rfl)
  · refine fe_s 1 (pc' := 21) (lc' := [(0, .ref 0), (1, .int c)]) (stk' := [.int 0]) (mem' := fm g tp bt a b) (fun _ _ _ => rfl) ?_
    exact fe_ret ⟨_, Or.inl rfl, rfl⟩ (by rfl) (by rfl) (by rfl)
/-- the parser has gone on, or has failed -/
def fm_FT (g : Nat → Int32) (tp bt : Int64) (a : Nat → Nat → Int32) (b : Nat → Nat → Int64) (S E : Nat) (R : Option Value × fx_M) : Prop := ∃ (v : Int32) (g' : Nat → Int32) (E' F' : Nat), (v = 0 ∨ v = 1 ∧ g' 18 = g 18 ∧ (g' 12 = 0 ∨ E < E')) ∧ fm_tx8 g g' ∧ fm_xp g' S E' F' ∧ fm_flt g' ∧ E ≤ E' ∧ R = (some (.int v), fm g' tp bt a b)
theorem fm_xp_ff {g g' : Nat → Int32} {S E F : Nat} (h : fm_xp g S E F) (hg : ∀ j, j ≠ 17 → j ≠ 18 → g' j = g j) : fm_xp g' S E F := by
  unfold fm_xp at h ⊢
  rw [hg 11 (by decide) (by decide), hg 12 (by decide) (by decide), hg 13 (by decide) (by decide), hg 14 (by decide) (by decide), hg 15 (by decide) (by decide)]
  exact h
theorem fm_flt_tx {g g' : Nat → Int32} (h : fm_flt g) (hg : fm_txt g g') : fm_flt g' := by
  unfold fm_flt at h ⊢
  rw [hg 17 (by decide) (by decide) (by decide) (by decide), hg 18 (by decide) (by decide) (by decide) (by decide)]
  exact h
theorem fm_tx8_ff {g g' : Nat → Int32} (hg : ∀ j, j ≠ 17 → j ≠ 18 → g' j = g j) : fm_tx8 g g' := fun j _ _ _ _ q5 q6 => hg j q5 q6
theorem fr_wantSign {c : Int32} {S E F : Nat} (hxp : fm_xp g S E F) (hfl : fm_flt g) : ∃ (v : Option Value) (mem' : fx_M), (fm_FT g tp bt a b S E) (v, mem') ∧ fr_T 3 229 [.ref 0, .int c] (fm g tp bt a b) v mem' := by
  refine fe_meth (F := fm_FT g tp bt a b S E) (M := gk_m229) (by rfl) (by rfl) ?_
  refine fe_s 2 (pc' := 2) (lc' := [(0, .ref 0), (1, .int c)]) (stk' := [.int c, .ref 0]) (mem' := fm g tp bt a b) (fun _ _ _ => rfl) ?_
  obtain ⟨v9, mem9, ⟨x9, hx9, hR9⟩, hfr9⟩ := fr_isSign (c := c) (g := g) (tp := tp) (bt := bt) (a := a) (b := b)
  cases hR9
  refine fe_ivV hfr9 (by omega) (by rfl) (by rfl) (by rfl) (by rfl) (by rfl) (by rfl) ?_
  rcases hx9 with rfl | ⟨rfl, hs9⟩
  · refine fe_s 1 (pc' := cond (fx_cb .ne 0 0) 14 8) (lc' := [(0, .ref 0), (1, .int c)]) (stk' := []) (mem' := fm g tp bt a b) (fun _ _ _ => rfl) ?_
    rw [show (fx_cb .ne 0 0) = false from by decide]
    dsimp only [cond]
    refine fe_s 2 (pc' := 10) (lc' := [(0, .ref 0), (1, .int c)]) (stk' := [.int 2, .ref 0]) (mem' := fm g tp bt a b) (fun _ _ _ => rfl) ?_
    obtain ⟨vf1, memf1, ⟨gf1, hgf1, hlf1, hzf1, hRf1⟩, hfrf1⟩ := fr_fails (x := 2) (F := F) (g := g) (tp := tp) (bt := bt) (a := a) (b := b) (by omega) (by omega) hxp.2.2.2.2.1 (by have := hxp.2.2.2.2.2.1; have := hxp.2.2.2.1; have := hxp.2.1; omega) hfl
    cases hRf1
    refine fe_ivV hfrf1 (by omega) (by rfl) (by rfl) (by rfl) (by rfl) (by rfl) (by rfl) ?_
    exact fe_ret ⟨_, gf1, E, F, Or.inl rfl, fm_tx8_ff hgf1, fm_xp_ff hxp hgf1, hlf1, Nat.le_refl _, rfl⟩ (by rfl) (by rfl) (by rfl)
  · refine fe_s 1 (pc' := cond (fx_cb .ne 1 0) 14 8) (lc' := [(0, .ref 0), (1, .int c)]) (stk' := []) (mem' := fm g tp bt a b) (fun _ _ _ => rfl) ?_
    rw [show (fx_cb .ne 1 0) = true from by decide]
    dsimp only [cond]
    refine fe_s 1 (pc' := 15) (lc' := [(0, .ref 0), (1, .int c)]) (stk' := [.ref 0]) (mem' := fm g tp bt a b) (fun _ _ _ => rfl) ?_
    obtain ⟨vk2, memk2, ⟨gk2, Ek2, Fk2, htk2, hxk2, hEk2, hpk2, hRk2⟩, hfrk2⟩ := fr_ahead (S := S) (E := E) (g := g) (tp := tp) (bt := bt) (a := a) (b := b) hxp.1 hxp.2.1 hxp.2.2.1 hxp.2.2.2.1
    cases hRk2
    refine fe_ivV hfrk2 (by omega) (by rfl) (by rfl) (by rfl) (by rfl) (by rfl) (by rfl) ?_
    refine fe_s 1 (pc' := 19) (lc' := [(0, .ref 0), (1, .int c)]) (stk' := [.int 1]) (mem' := fm gk2 tp bt a b) (fun _ _ _ => rfl) ?_
    exact fe_ret ⟨_, gk2, Ek2, Fk2, Or.inr ⟨rfl, htk2 18 (by decide) (by decide) (by decide) (by decide), hpk2⟩, fm_tx8_of htk2, hxk2, fm_flt_tx hfl htk2, by have := hxk2.2.2.2.2.2.1; omega, rfl⟩ (by rfl) (by rfl) (by rfl)
end FWT
end MG9_0
section MG9_1
/-! ===== fx: a part of a whole, in lowest terms ===== -/
section FTB
variable {g : Nat → Int32} {tp bt : Int64} {a : Nat → Nat → Int32} {b : Nat → Nat → Int64}
theorem fe_lrem {k : Nat} {M : rk_M2} {pc : Nat} {x y : Int64} {lc : fx_L} {r : List Value} {mem : fx_M} {F : Option Value × fx_M → Prop} (hat : tk_at M.1 pc = some (pc, .lrem, 1)) (hy : ¬ y = 0) (kk : fe_R k M (pc + 1) lc (.long (x - x / y * y) :: r) mem F) : fe_R k M pc lc (.long y :: .long x :: r) mem F := by
  refine fe_s 1 (pc' := pc + 1) (lc' := lc) (stk' := .long (x - x / y * y) :: r) (mem' := mem) (fun N d n => ?_) kk
  refine fx_one (z := (pc + 1, lc, .long (x - x / y * y) :: r, mem)) hat rfl rfl ?_
  show (match (if y = 0 then none else some (pc + 1, lc, Value.long (x - x / y * y) :: r) : fx_R) with
    | some z => some (z.1, z.2.1, z.2.2, mem)
    | none => none) = _
  rw [if_neg hy]
theorem fe_ldiv {k : Nat} {M : rk_M2} {pc : Nat} {x y : Int64} {lc : fx_L} {r : List Value} {mem : fx_M} {F : Option Value × fx_M → Prop} (hat : tk_at M.1 pc = some (pc, .ldiv, 1)) (hy : ¬ y = 0) (kk : fe_R k M (pc + 1) lc (.long (x / y) :: r) mem F) : fe_R k M pc lc (.long y :: .long x :: r) mem F := by
  refine fe_s 1 (pc' := pc + 1) (lc' := lc) (stk' := .long (x / y) :: r) (mem' := mem) (fun N d n => ?_) kk
  refine fx_one (z := (pc + 1, lc, .long (x / y) :: r, mem)) hat rfl rfl ?_
  show (match (if y = 0 then none else some (pc + 1, lc, Value.long (x / y) :: r) : fx_R) with
    | some z => some (z.1, z.2.1, z.2.2, mem)
    | none => none) = _
  rw [if_neg hy]
theorem fm_div_nn {x y : Int64} (hx : 0 ≤ x.toInt) (hy : 0 < y.toInt) : 0 ≤ (x / y).toInt := by
  rw [Int64.toInt_div, Int.tdiv_eq_ediv_of_nonneg hx]
  have h1 : 0 ≤ x.toInt / y.toInt := Int.ediv_nonneg hx (by omega)
  have h2 : x.toInt / y.toInt ≤ x.toInt := Int.ediv_le_self _ hx
  have h3 := x.toInt_lt
  rw [Int.bmod_eq_of_le (by omega) (by omega)]
  exact h1
theorem fr_is0 {g : Nat → Int32} {tp bt : Int64} {a : Nat → Nat → Int32} {b : Nat → Nat → Int64} : fr_T 1 206 [.ref 0, .int 0] (fm g tp bt a b) (some (.int 1)) (fm (upd g 2 0) tp bt a b) := by
  refine fr_meth (by rfl) (by rfl) ?_
  refine fr_s 4 (pc' := 6) (lc' := [(0, .ref 0), (1, .int 0)]) (stk' := [.int 0]) (mem' := fm (upd g 2 0) tp bt a b) (fun _ _ _ => rfl) ?_
  refine fr_s 1 (pc' := cond (fx_cb .ne 0 0) 13 9) (lc' := [(0, .ref 0), (1, .int 0)]) (stk' := []) (mem' := fm (upd g 2 0) tp bt a b) (fun _ _ _ => rfl) ?_
  rw [show (fx_cb .ne 0 0) = false from by decide]
  dsimp only [cond]
  refine fr_s 2 (pc' := 14) (lc' := [(0, .ref 0), (1, .int 0)]) (stk' := [.int 1]) (mem' := fm (upd g 2 0) tp bt a b) (fun _ _ _ => rfl) ?_
  exact fr_ret (by rfl) (by rfl) (by rfl)
theorem fm_i64 {x : Int64} (h : fx_cb .eq (lg_cmp x 0) 0 = false) : ¬ x = 0 := by
  rintro rfl
  exact absurd h (by decide)
theorem fm_i64e {x : Int64} (h : fx_cb .eq (lg_cmp x 0) 0 = true) : x = 0 := by
  have e : lg_cmp x 0 = 0 := of_decide_eq_true h
  rcases rk_lgc x 0 with ⟨z, -⟩ | ⟨-, z⟩ | ⟨z, -⟩
  · rw [z] at e; exact absurd e (by decide)
  · exact Int64.toInt_inj.mp z
  · rw [z] at e; exact absurd e (by decide)
theorem fr_tellsBy {n d : Int64} (hn : 0 ≤ n.toInt) (hd : 0 < d.toInt) : ∃ (v : Option Value) (mem' : fx_M), (fun R => ∃ t u : Int64, 0 ≤ t.toInt ∧ R = (some (.int 1), fm (upd g 2 0) t u a b)) (v, mem') ∧ fr_T 3 210 [.ref 0, .long n, .long d] (fm g tp bt a b) v mem' := by
  refine fe_meth (F := fun R => ∃ t u : Int64, 0 ≤ t.toInt ∧ R = (some (.int 1), fm (upd g 2 0) t u a b)) (M := gk_m210) (by rfl) (by rfl) ?_
  have h0 : (0 : Int64).toInt = 0 := rfl
  have loop : ∀ (r : Nat) (x y : Int64), y.toInt.toNat < r → 0 ≤ x.toInt → 0 ≤ y.toInt → (0 < x.toInt ∨ 0 < y.toInt) → fe_R 2 gk_m210 6 [(7, .long y), (5, .long x), (0, .ref 0), (1, .long n), (3, .long d)] [] (fm g tp bt a b) (fun R => ∃ t u : Int64, 0 ≤ t.toInt ∧ R = (some (.int 1), fm (upd g 2 0) t u a b)) := by
    intro r
    induction r with
    | zero => intro x y h; exact absurd h (Nat.not_lt_zero _)
    | succ r ih =>
      intro x y hr hx hy hxy
      refine fe_s 3 (pc' := 10) (lc' := [(7, .long y), (5, .long x), (0, .ref 0), (1, .long n), (3, .long d)]) (stk' := [.int (lg_cmp y 0)]) (mem' := fm g tp bt a b) (fun _ _ _ => rfl) ?_
      refine fe_s 1 (pc' := cond (fx_cb .eq (lg_cmp y 0) 0) 31 13) (lc' := [(7, .long y), (5, .long x), (0, .ref 0), (1, .long n), (3, .long d)]) (stk' := []) (mem' := fm g tp bt a b) (fun _ _ _ => rfl) ?_
      cases h1 : fx_cb .eq (lg_cmp y 0) 0
      · refine fe_s 2 (pc' := 17) (lc' := [(7, .long y), (5, .long x), (0, .ref 0), (1, .long n), (3, .long d)]) (stk' := [.long y, .long x]) (mem' := fm g tp bt a b) (fun _ _ _ => rfl) ?_
        have hy0 := fm_i64 h1
        have hy1 : 0 < y.toInt := by have : ¬ y.toInt = 0 := fun z => hy0 (Int64.toInt_inj.mp (by rw [z]; rfl)); omega
        have hm := tk_lrem_nn (x := x) (y := y) hx hy1
        have hm1 := Int.emod_nonneg x.toInt (show y.toInt ≠ 0 by omega)
        have hm2 := Int.emod_lt_of_pos x.toInt hy1
        refine fe_lrem (by rfl) hy0 ?_
        refine fe_s 6 (pc' := 6) (lc' := [(7, .long (x - x / y * y)), (5, .long y), (9, .long (x - x / y * y)), (0, .ref 0), (1, .long n), (3, .long d)]) (stk' := []) (mem' := fm g tp bt a b) (fun _ _ _ => rfl) ?_
        refine fe_w (lc' := [(7, .long (x - x / y * y)), (5, .long y), (0, .ref 0), (1, .long n), (3, .long d)]) ⟨rfl, rfl, rfl, rfl, rfl, trivial⟩ (by show List.Nodup [7, 5, 0, 1, 3]; decide) (by show List.Nodup [7, 5, 9, 0, 1, 3]; decide) ?_
        exact ih y (x - x / y * y) (by omega) hy (by omega) (Or.inl hy1)
      · obtain rfl := fm_i64e h1
        have hx1 : 0 < x.toInt := by omega
        have hx0 : ¬ x = 0 := by rintro rfl; omega
        refine fe_s 3 (pc' := 35) (lc' := [(7, .long 0), (5, .long x), (0, .ref 0), (1, .long n), (3, .long d)]) (stk' := [.long x, .long n, .ref 0]) (mem' := fm g tp bt a b) (fun _ _ _ => rfl) ?_
        refine fe_ldiv (by rfl) hx0 ?_
        refine fe_s 4 (pc' := 43) (lc' := [(7, .long 0), (5, .long x), (0, .ref 0), (1, .long n), (3, .long d)]) (stk' := [.long x, .long d, .ref 0]) (mem' := fm g (n / x) bt a b) (fun _ _ _ => rfl) ?_
        refine fe_ldiv (by rfl) hx0 ?_
        refine fe_s 3 (pc' := 49) (lc' := [(7, .long 0), (5, .long x), (0, .ref 0), (1, .long n), (3, .long d)]) (stk' := [.int 0, .ref 0]) (mem' := fm g (n / x) (d / x) a b) (fun _ _ _ => rfl) ?_
        refine fe_ivV fr_is0 (by omega) (by rfl) (by rfl) (by rfl) (by rfl) (by rfl) (by rfl) ?_
        exact fe_ret ⟨n / x, d / x, fm_div_nn hn hx1, rfl⟩ (by rfl) (by rfl) (by rfl)
  refine fe_s 4 (pc' := 6) (lc' := [(7, .long d), (5, .long n), (0, .ref 0), (1, .long n), (3, .long d)]) (stk' := []) (mem' := fm g tp bt a b) (fun _ _ _ => rfl) ?_
  exact loop (d.toInt.toNat + 1) n d (by omega) hn (by omega) (Or.inr hd)
end FTB
end MG9_1
