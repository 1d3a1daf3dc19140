/-! ===== fx: what the parser wants: a sign, a number, a name ===== -/
section FWT
variable {g : Nat → Int32} {tp bt : Int64} {a : Nat → Nat → Int32} {b : Nat → Nat → Int64}
/-- the parser's part of the state but for faults -/
def fm_tx8 (g g' : Nat → Int32) : Prop := ∀ j, j ≠ 12 → j ≠ 13 → j ≠ 14 → j ≠ 15 → j ≠ 17 → j ≠ 18 → g' j = g j
theorem fm_tx8_of {g g' : Nat → Int32} (h : fm_txt g g') : fm_tx8 g g' := fun j q1 q2 q3 q4 _ _ => h j q1 q2 q3 q4
theorem fm_tx8_rf : fm_tx8 g g := fun _ _ _ _ _ _ _ => rfl
theorem fm_tx8_tr {g1 g2 : Nat → Int32} (h : fm_tx8 g g1) (h2 : fm_tx8 g1 g2) : fm_tx8 g g2 := fun j q1 q2 q3 q4 q5 q6 => (h2 j q1 q2 q3 q4 q5 q6).trans (h j q1 q2 q3 q4 q5 q6)
theorem fm_tx8_17 {g1 : Nat → Int32} {x : Int32} (h : fm_tx8 g g1) : fm_tx8 g (upd g1 17 x) := fun j q1 q2 q3 q4 q5 q6 => by rw [pk_un q5]; exact h j q1 q2 q3 q4 q5 q6
theorem fm_tx8_18 {g1 : Nat → Int32} {x : Int32} (h : fm_tx8 g g1) : fm_tx8 g (upd g1 18 x) := fun j q1 q2 q3 q4 q5 q6 => by rw [pk_un q6]; exact h j q1 q2 q3 q4 q5 q6
/-- faults and where: within -/
def fm_flt (g : Nat → Int32) : Prop := (∃ n, n ≤ 7 ∧ g 18 = nI n) ∧ -1 ≤ (g 17).toInt ∧ (g 17).toInt ≤ 900
/-- fails: nothing but faults and where is changed; faults are then not 0 -/
def fm_FF (g : Nat → Int32) (tp bt : Int64) (a : Nat → Nat → Int32) (b : Nat → Nat → Int64) (R : Option Value × fx_M) : Prop := ∃ g', (∀ j, j ≠ 17 → j ≠ 18 → g' j = g j) ∧ fm_flt g' ∧ ¬ g' 18 = 0 ∧ R = (some (.int 0), fm g' tp bt a b)
theorem cb_ne0 {x : Int32} (h : fx_cb .ne x 0 = true) : ¬ x = 0 := by
  have h2 : (!decide (x = 0)) = true := h
  rw [Bool.not_eq_true'] at h2
  exact of_decide_eq_false h2
theorem fr_fails {x F : Nat} (hx : x ≤ 7) (hx0 : 0 < x) (hF : g 13 = nI F) (hF9 : F ≤ 900) (hfl : fm_flt g) : ∃ (v : Option Value) (mem' : fx_M), (fm_FF g tp bt a b) (v, mem') ∧ fr_T 2 227 [.ref 0, .int (nI x)] (fm g tp bt a b) v mem' := by
  refine fe_meth (F := fm_FF g tp bt a b) (M := gk_m227) (by rfl) (by rfl) ?_
  refine fe_s 2 (pc' := 4) (lc' := [(0, .ref 0), (1, .int (nI x))]) (stk' := [.int (g 18)]) (mem' := fm g tp bt a b) (fun _ _ _ => rfl) ?_
  refine fe_s 1 (pc' := cond (fx_cb .ne (g 18) 0) 32 7) (lc' := [(0, .ref 0), (1, .int (nI x))]) (stk' := []) (mem' := fm g tp bt a b) (fun _ _ _ => rfl) ?_
  cases h1 : fx_cb .ne (g 18) 0
  · refine fe_s 4 (pc' := 13) (lc' := [(0, .ref 0), (1, .int (nI x))]) (stk' := [.int 1, .int (g 12), .ref 0]) (mem' := fm g tp bt a b) (fun _ _ _ => rfl) ?_
    refine fe_s 1 (pc' := cond (fx_cb .ne (g 12) 1) 20 16) (lc' := [(0, .ref 0), (1, .int (nI x))]) (stk' := [.ref 0]) (mem' := fm g tp bt a b) (fun _ _ _ => rfl) ?_
    cases h2 : fx_cb .ne (g 12) 1
    · refine fe_s 8 (pc' := 33) (lc' := [(0, .ref 0), (1, .int (nI x))]) (stk' := [.int 0]) (mem' := fm (upd (upd g 18 1) 17 (g 13)) tp bt a b) (fun _ _ _ => rfl) ?_
      exact fe_ret ⟨(upd (upd g 18 1) 17 (g 13)), fun j q5 q6 => by rw [pk_un q5, pk_un q6], ⟨⟨1, by omega, rfl⟩, (by show -1 ≤ (g 13).toInt; rw [hF, nI_i32 (by omega)]; omega), (by show (g 13).toInt ≤ 900; rw [hF, nI_i32 (by omega)]; omega)⟩, (show ¬ (1 : Int32) = 0 by decide), rfl⟩ (by rfl) (by rfl) (by rfl)
    · refine fe_s 7 (pc' := 33) (lc' := [(0, .ref 0), (1, .int (nI x))]) (stk' := [.int 0]) (mem' := fm (upd (upd g 18 (nI x)) 17 (g 13)) tp bt a b) (fun _ _ _ => rfl) ?_
      exact fe_ret ⟨(upd (upd g 18 (nI x)) 17 (g 13)), fun j q5 q6 => by rw [pk_un q5, pk_un q6], ⟨⟨x, hx, rfl⟩, (by show -1 ≤ (g 13).toInt; rw [hF, nI_i32 (by omega)]; omega), (by show (g 13).toInt ≤ 900; rw [hF, nI_i32 (by omega)]; omega)⟩, (nI_ne0 (by omega) (by omega)), rfl⟩ (by rfl) (by rfl) (by rfl)
  · refine fe_s 1 (pc' := 33) (lc' := [(0, .ref 0), (1, .int (nI x))]) (stk' := [.int 0]) (mem' := fm g tp bt a b) (fun _ _ _ => rfl) ?_
    exact fe_ret ⟨g, fun _ _ _ => rfl, hfl, cb_ne0 h1, rfl⟩ (by rfl) (by rfl) (by rfl)
theorem fr_isSign {c : Int32}  : ∃ (v : Option Value) (mem' : fx_M), (fun R => ∃ v : Int32, (v = 0 ∨ v = 1 ∧ g 12 = 4) ∧ R = (some (.int v), fm g tp bt a b)) (v, mem') ∧ fr_T 2 225 [.ref 0, .int c] (fm g tp bt a b) v mem' := by
  refine fe_meth (F := fun R => ∃ v : Int32, (v = 0 ∨ v = 1 ∧ g 12 = 4) ∧ R = (some (.int v), fm g tp bt a b)) (M := gk_m225) (by rfl) (by rfl) ?_
  refine fe_s 3 (pc' := 5) (lc' := [(0, .ref 0), (1, .int c)]) (stk' := [.int 4, .int (g 12)]) (mem' := fm g tp bt a b) (fun _ _ _ => rfl) ?_
  refine fe_s 1 (pc' := cond (fx_cb .ne (g 12) 4) 20 8) (lc' := [(0, .ref 0), (1, .int c)]) (stk' := []) (mem' := fm g tp bt a b) (fun _ _ _ => rfl) ?_
  cases h1 : fx_cb .ne (g 12) 4
  · refine fe_s 3 (pc' := 13) (lc' := [(0, .ref 0), (1, .int c)]) (stk' := [.int c, .int (g 15)]) (mem' := fm g tp bt a b) (fun _ _ _ => rfl) ?_
    refine fe_s 1 (pc' := cond (fx_cb .ne (g 15) c) 20 16) (lc' := [(0, .ref 0), (1, .int c)]) (stk' := []) (mem' := fm g tp bt a b) (fun _ _ _ => rfl) ?_
    cases h2 : fx_cb .ne (g 15) c
    · refine fe_s 2 (pc' := 21) (lc' := [(0, .ref 0), (1, .int c)]) (stk' := [.int 1]) (mem' := fm g tp bt a b) (fun _ _ _ => rfl) ?_
      exact fe_ret ⟨_, Or.inr ⟨rfl, fm_ne h1⟩, rfl⟩ (by rfl) (by rfl) (by rfl)
    · refine fe_s 1 (pc' := 21) (lc' := [(0, .ref 0), (1, .int c)]) (stk' := [.int 0]) (mem' := fm g tp bt a b) (fun _ _ _ => rfl) ?_
      exact fe_ret ⟨_, Or.inl rfl, rfl⟩ (by rfl) (by rfl) (by rfl)
  · refine fe_s 1 (pc' := 21) (lc' := [(0, .ref 0), (1, .int c)]) (stk' := [.int 0]) (mem' := fm g tp bt a b) (fun _ _ _ => rfl) ?_
    exact fe_ret ⟨_, Or.inl rfl, rfl⟩ (by rfl) (by rfl) (by rfl)
/-- the parser has gone on, or has failed -/
def fm_FT (g : Nat → Int32) (tp bt : Int64) (a : Nat → Nat → Int32) (b : Nat → Nat → Int64) (S E : Nat) (R : Option Value × fx_M) : Prop := ∃ (v : Int32) (g' : Nat → Int32) (E' F' : Nat), (v = 0 ∨ v = 1 ∧ g' 18 = g 18 ∧ (g' 12 = 0 ∨ E < E')) ∧ fm_tx8 g g' ∧ fm_xp g' S E' F' ∧ fm_flt g' ∧ E ≤ E' ∧ R = (some (.int v), fm g' tp bt a b)
theorem fm_xp_ff {g g' : Nat → Int32} {S E F : Nat} (h : fm_xp g S E F) (hg : ∀ j, j ≠ 17 → j ≠ 18 → g' j = g j) : fm_xp g' S E F := by
  unfold fm_xp at h ⊢
  rw [hg 11 (by decide) (by decide), hg 12 (by decide) (by decide), hg 13 (by decide) (by decide), hg 14 (by decide) (by decide), hg 15 (by decide) (by decide)]
  exact h
theorem fm_flt_tx {g g' : Nat → Int32} (h : fm_flt g) (hg : fm_txt g g') : fm_flt g' := by
  unfold fm_flt at h ⊢
  rw [hg 17 (by decide) (by decide) (by decide) (by decide), hg 18 (by decide) (by decide) (by decide) (by decide)]
  exact h
theorem fm_tx8_ff {g g' : Nat → Int32} (hg : ∀ j, j ≠ 17 → j ≠ 18 → g' j = g j) : fm_tx8 g g' := fun j _ _ _ _ q5 q6 => hg j q5 q6
theorem fr_wantSign {c : Int32} {S E F : Nat} (hxp : fm_xp g S E F) (hfl : fm_flt g) : ∃ (v : Option Value) (mem' : fx_M), (fm_FT g tp bt a b S E) (v, mem') ∧ fr_T 3 229 [.ref 0, .int c] (fm g tp bt a b) v mem' := by
  refine fe_meth (F := fm_FT g tp bt a b S E) (M := gk_m229) (by rfl) (by rfl) ?_
  refine fe_s 2 (pc' := 2) (lc' := [(0, .ref 0), (1, .int c)]) (stk' := [.int c, .ref 0]) (mem' := fm g tp bt a b) (fun _ _ _ => rfl) ?_
  obtain ⟨v9, mem9, ⟨x9, hx9, hR9⟩, hfr9⟩ := fr_isSign (c := c) (g := g) (tp := tp) (bt := bt) (a := a) (b := b)
  cases hR9
  refine fe_ivV hfr9 (by omega) (by rfl) (by rfl) (by rfl) (by rfl) (by rfl) (by rfl) ?_
  rcases hx9 with rfl | ⟨rfl, hs9⟩
  · refine fe_s 1 (pc' := cond (fx_cb .ne 0 0) 14 8) (lc' := [(0, .ref 0), (1, .int c)]) (stk' := []) (mem' := fm g tp bt a b) (fun _ _ _ => rfl) ?_
    rw [show (fx_cb .ne 0 0) = false from by decide]
    dsimp only [cond]
    refine fe_s 2 (pc' := 10) (lc' := [(0, .ref 0), (1, .int c)]) (stk' := [.int 2, .ref 0]) (mem' := fm g tp bt a b) (fun _ _ _ => rfl) ?_
    obtain ⟨vf1, memf1, ⟨gf1, hgf1, hlf1, hzf1, hRf1⟩, hfrf1⟩ := fr_fails (x := 2) (F := F) (g := g) (tp := tp) (bt := bt) (a := a) (b := b) (by omega) (by omega) hxp.2.2.2.2.1 (by have := hxp.2.2.2.2.2.1; have := hxp.2.2.2.1; have := hxp.2.1; omega) hfl
    cases hRf1
    refine fe_ivV hfrf1 (by omega) (by rfl) (by rfl) (by rfl) (by rfl) (by rfl) (by rfl) ?_
    exact fe_ret ⟨_, gf1, E, F, Or.inl rfl, fm_tx8_ff hgf1, fm_xp_ff hxp hgf1, hlf1, Nat.le_refl _, rfl⟩ (by rfl) (by rfl) (by rfl)
  · refine fe_s 1 (pc' := cond (fx_cb .ne 1 0) 14 8) (lc' := [(0, .ref 0), (1, .int c)]) (stk' := []) (mem' := fm g tp bt a b) (fun _ _ _ => rfl) ?_
    rw [show (fx_cb .ne 1 0) = true from by decide]
    dsimp only [cond]
    refine fe_s 1 (pc' := 15) (lc' := [(0, .ref 0), (1, .int c)]) (stk' := [.ref 0]) (mem' := fm g tp bt a b) (fun _ _ _ => rfl) ?_
    obtain ⟨vk2, memk2, ⟨gk2, Ek2, Fk2, htk2, hxk2, hEk2, hpk2, hRk2⟩, hfrk2⟩ := fr_ahead (S := S) (E := E) (g := g) (tp := tp) (bt := bt) (a := a) (b := b) hxp.1 hxp.2.1 hxp.2.2.1 hxp.2.2.2.1
    cases hRk2
    refine fe_ivV hfrk2 (by omega) (by rfl) (by rfl) (by rfl) (by rfl) (by rfl) (by rfl) ?_
    refine fe_s 1 (pc' := 19) (lc' := [(0, .ref 0), (1, .int c)]) (stk' := [.int 1]) (mem' := fm gk2 tp bt a b) (fun _ _ _ => rfl) ?_
    exact fe_ret ⟨_, gk2, Ek2, Fk2, Or.inr ⟨rfl, htk2 18 (by decide) (by decide) (by decide) (by decide), hpk2⟩, fm_tx8_of htk2, hxk2, fm_flt_tx hfl htk2, by have := hxk2.2.2.2.2.2.1; omega, rfl⟩ (by rfl) (by rfl) (by rfl)
end FWT
