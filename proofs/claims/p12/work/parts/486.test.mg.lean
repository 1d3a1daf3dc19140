section MH3_0
/-! ===== fx: an order of the TALES ===== -/
section F486_test
variable {g : Nat → Int32} {tp bt : Int64} {a0 a : Nat → Nat → Int32} {b : Nat → Nat → Int64}
def fm_FWT (g : Nat → Int32) (tp bt : Int64) (a : Nat → Nat → Int32) (b : Nat → Nat → Int64) (S E T M : Nat) (R : Option Value × fx_M) : Prop := ∃ (v : Int32) (g' : Nat → Int32) (E' F' : Nat) (a' : Nat → Nat → Int32), fm_go g g' S E E' F' ∧ (v = 0 ∧ ¬ g' 18 = 0 ∧ (a' = a ∨ a' = fm_u a 1 T (-1)) ∨ v = 1 ∧ g' 18 = g 18 ∧ (g' 12 = 0 ∨ E < E') ∧ ∃ k, k < M ∧ a' = fm_u a 1 T (nI k)) ∧ R = (some (.int v), fm g' tp bt a' b)
theorem fr_walkerTo {S E F T M : Nat} (hxp : fm_xp g S E F) (hfl : fm_flt g) (hT : T < 5894) (hM : a 1 1 = nI M) (hM9 : M ≤ 8) : ∃ (v : Option Value) (mem' : fx_M), (fm_FWT g tp bt a b S E T M) (v, mem') ∧ fr_T 7 248 [.ref 0, .int (nI T)] (fm g tp bt a b) v mem' := by
  refine fe_meth (F := fm_FWT g tp bt a b S E T M) (M := gk_m248) (by rfl) (by rfl) ?_
  refine fe_s 5 (pc' := 8) (lc' := [(0, .ref 0), (1, .int (nI T))]) (stk' := [.int 1, .ref 1, .int 10, .ref 0]) (mem' := fm g tp bt a b) (by intro _ _ _; eq_refl) ?_
  refine fe_ldI (by rfl) (by rfl) (fx_inN (i := 1) (by omega) (by omega)) ?_
  rw [show Int32.toNatClampNeg (1) = 1 from rfl]
  rw [hM]
  refine fe_s 1 (pc' := 10) (lc' := [(0, .ref 0), (1, .int (nI T))]) (stk' := [.int (nI T), .int (nI M), .int 10, .ref 0]) (mem' := fm g tp bt a b) (by intro _ _ _; eq_refl) ?_
  obtain ⟨xo1, go1, Eo1, Fo1, ao1, hfro1, hoo1, hvo1⟩ := fr_oldOneq (T := T) (base := 10) (many := M) (g := g) (tp := tp) (bt := bt) (a := a) (b := b) (by omega) (by omega) hxp hfl
  refine fe_ivV hfro1 (by omega) (by rfl) (by rfl) (by rfl) (by rfl) (by rfl) (by rfl) ?_
  rcases hvo1 with ⟨rfl, hzo1, hao1⟩ | ⟨rfl, heo1, hpo1, hso1, ko1, hko1, hio1, hao1⟩
  · exact fe_ret ⟨_, _, _, _, _, hoo1, Or.inl ⟨rfl, hzo1, hao1.imp id (fun z => by obtain ⟨y, hy, e⟩ := z; rw [e, hy])⟩, rfl⟩ (by rfl) (by rfl) (by rfl)
  · exact fe_ret ⟨_, _, _, _, _, hoo1, Or.inr ⟨rfl, heo1, hpo1, ko1, hko1, hao1⟩, rfl⟩ (by rfl) (by rfl) (by rfl)
theorem fr_cellTo {S E F T M : Nat} (hxp : fm_xp g S E F) (hfl : fm_flt g) (hT : T < 5894) (hM : a 1 0 = nI M) (hM9 : M ≤ 10) : ∃ (v : Option Value) (mem' : fx_M), (fm_FWT g tp bt a b S E T M) (v, mem') ∧ fr_T 7 247 [.ref 0, .int (nI T)] (fm g tp bt a b) v mem' := by
  refine fe_meth (F := fm_FWT g tp bt a b S E T M) (M := gk_m247) (by rfl) (by rfl) ?_
  refine fe_s 5 (pc' := 7) (lc' := [(0, .ref 0), (1, .int (nI T))]) (stk' := [.int 0, .ref 1, .int 0, .ref 0]) (mem' := fm g tp bt a b) (by intro _ _ _; eq_refl) ?_
  refine fe_ldI (by rfl) (by rfl) (fx_inN (i := 0) (by omega) (by omega)) ?_
  rw [show Int32.toNatClampNeg (0) = 0 from rfl]
  rw [hM]
  refine fe_s 1 (pc' := 9) (lc' := [(0, .ref 0), (1, .int (nI T))]) (stk' := [.int (nI T), .int (nI M), .int 0, .ref 0]) (mem' := fm g tp bt a b) (by intro _ _ _; eq_refl) ?_
  obtain ⟨xo1, go1, Eo1, Fo1, ao1, hfro1, hoo1, hvo1⟩ := fr_oldOneq (T := T) (base := 0) (many := M) (g := g) (tp := tp) (bt := bt) (a := a) (b := b) (by omega) (by omega) hxp hfl
  refine fe_ivV hfro1 (by omega) (by rfl) (by rfl) (by rfl) (by rfl) (by rfl) (by rfl) ?_
  rcases hvo1 with ⟨rfl, hzo1, hao1⟩ | ⟨rfl, heo1, hpo1, hso1, ko1, hko1, hio1, hao1⟩
  · exact fe_ret ⟨_, _, _, _, _, hoo1, Or.inl ⟨rfl, hzo1, hao1.imp id (fun z => by obtain ⟨y, hy, e⟩ := z; rw [e, hy])⟩, rfl⟩ (by rfl) (by rfl) (by rfl)
  · exact fe_ret ⟨_, _, _, _, _, hoo1, Or.inr ⟨rfl, heo1, hpo1, ko1, hko1, hao1⟩, rfl⟩ (by rfl) (by rfl) (by rfl)
set_option maxHeartbeats 8000000 in
theorem fr_test {S E F C W n : Nat} (hxp : fm_xp g S E F) (hfl : fm_flt g) (hH : fm_th a0 C W) (hC : fm_TC a0 a n 18 0) : ∃ (v : Option Value) (mem' : fx_M), (fm_FTO a0 a g tp bt b S E n) (v, mem') ∧ fr_T 9 249 [.ref 0, .int (nI (3846 + (6 * n)))] (fm g tp bt a b) v mem' := by
  have f1 : ∀ {a' : Nat → Nat → Int32} {x y : Int32}, fm_TC a0 a' n x y → a' 1 1 = a0 1 1 := fun z => z.2.1 1 (by omega)
  have f0 : ∀ {a' : Nat → Nat → Int32} {x y : Int32}, fm_TC a0 a' n x y → a' 1 0 = a0 1 0 := fun z => z.2.1 0 (by omega)
  have hn60 := hC.2.2.2.2.2.2.2.1
  refine fe_meth (F := fm_FTO a0 a g tp bt b S E n) (M := gk_m249) (by rfl) (by rfl) ?_
  refine fe_s 2 (pc' := 3) (lc' := [(0, .ref 0), (1, .int (nI (3846 + (6 * n))))]) (stk' := [.ref 22, .ref 0]) (mem' := fm g tp bt a b) (by intro _ _ _; eq_refl) ?_
  obtain ⟨vw1, memw1, ⟨xw1, hxw1, hRw1⟩, hfrw1⟩ := fr_inWords (g := g) (tp := tp) (bt := bt) (a := a) (b := b) (fm_go_rf hxp hfl).2.1
  cases hRw1
  refine fe_ivV hfrw1 (by omega) (by rfl) (by rfl) (by rfl) (by rfl) (by rfl) (by rfl) ?_
  rcases fm_24 hxw1 with rfl | rfl | rfl | rfl | rfl | rfl | rfl | rfl | rfl | rfl | rfl | rfl | rfl | rfl | rfl | rfl | rfl | rfl | rfl | rfl | rfl | rfl | rfl | rfl | rfl
  · refine fe_s 3 (pc' := 10) (lc' := [(2, .int (-1)), (0, .ref 0), (1, .int (nI (3846 + (6 * n))))]) (stk' := [.int 8, .int (-1)]) (mem' := fm g tp bt a b) (by intro _ _ _; eq_refl) ?_
    refine fe_s 1 (pc' := cond (fx_cb .eq (-1) 8) 31 13) (lc' := [(2, .int (-1)), (0, .ref 0), (1, .int (nI (3846 + (6 * n))))]) (stk' := []) (mem' := fm g tp bt a b) (by intro _ _ _; eq_refl) ?_
    rw [show (fx_cb .eq (-1) 8) = false from by decide]
    dsimp only [cond]
    refine fe_s 2 (pc' := 16) (lc' := [(2, .int (-1)), (0, .ref 0), (1, .int (nI (3846 + (6 * n))))]) (stk' := [.int 10, .int (-1)]) (mem' := fm g tp bt a b) (by intro _ _ _; eq_refl) ?_
    refine fe_s 1 (pc' := cond (fx_cb .eq (-1) 10) 31 19) (lc' := [(2, .int (-1)), (0, .ref 0), (1, .int (nI (3846 + (6 * n))))]) (stk' := []) (mem' := fm g tp bt a b) (by intro _ _ _; eq_refl) ?_
    rw [show (fx_cb .eq (-1) 10) = false from by decide]
    dsimp only [cond]
    refine fe_s 2 (pc' := 22) (lc' := [(2, .int (-1)), (0, .ref 0), (1, .int (nI (3846 + (6 * n))))]) (stk' := [.int 22, .int (-1)]) (mem' := fm g tp bt a b) (by intro _ _ _; eq_refl) ?_
    refine fe_s 1 (pc' := cond (fx_cb .eq (-1) 22) 31 25) (lc' := [(2, .int (-1)), (0, .ref 0), (1, .int (nI (3846 + (6 * n))))]) (stk' := []) (mem' := fm g tp bt a b) (by intro _ _ _; eq_refl) ?_
    rw [show (fx_cb .eq (-1) 22) = false from by decide]
    dsimp only [cond]
    refine fe_s 2 (pc' := 27) (lc' := [(2, .int (-1)), (0, .ref 0), (1, .int (nI (3846 + (6 * n))))]) (stk' := [.int 2, .ref 0]) (mem' := fm g tp bt a b) (by intro _ _ _; eq_refl) ?_
    obtain ⟨gf2, hfrf2, hof2, hzf2⟩ := fr_failsq (x := 2) (g := g) (tp := tp) (bt := bt) (a := a) (b := b) (by omega) (by omega) (fm_go_rf hxp hfl).2.1 (fm_go_rf hxp hfl).2.2.1
    have gof2 := fm_go_tr (fm_go_rf hxp hfl) hof2
    refine fe_ivV hfrf2 (by omega) (by rfl) (by rfl) (by rfl) (by rfl) (by rfl) (by rfl) ?_
    exact fe_ret ⟨_, _, _, _, _, _, _, gof2, hC, rfl, Or.inl ⟨rfl, hzf2⟩, rfl⟩ (by rfl) (by rfl) (by rfl)
  · refine fe_s 3 (pc' := 10) (lc' := [(2, .int 0), (0, .ref 0), (1, .int (nI (3846 + (6 * n))))]) (stk' := [.int 8, .int 0]) (mem' := fm g tp bt a b) (by intro _ _ _; eq_refl) ?_
    refine fe_s 1 (pc' := cond (fx_cb .eq 0 8) 31 13) (lc' := [(2, .int 0), (0, .ref 0), (1, .int (nI (3846 + (6 * n))))]) (stk' := []) (mem' := fm g tp bt a b) (by intro _ _ _; eq_refl) ?_
    rw [show (fx_cb .eq 0 8) = false from by decide]
    dsimp only [cond]
    refine fe_s 2 (pc' := 16) (lc' := [(2, .int 0), (0, .ref 0), (1, .int (nI (3846 + (6 * n))))]) (stk' := [.int 10, .int 0]) (mem' := fm g tp bt a b) (by intro _ _ _; eq_refl) ?_
    refine fe_s 1 (pc' := cond (fx_cb .eq 0 10) 31 19) (lc' := [(2, .int 0), (0, .ref 0), (1, .int (nI (3846 + (6 * n))))]) (stk' := []) (mem' := fm g tp bt a b) (by intro _ _ _; eq_refl) ?_
    rw [show (fx_cb .eq 0 10) = false from by decide]
    dsimp only [cond]
    refine fe_s 2 (pc' := 22) (lc' := [(2, .int 0), (0, .ref 0), (1, .int (nI (3846 + (6 * n))))]) (stk' := [.int 22, .int 0]) (mem' := fm g tp bt a b) (by intro _ _ _; eq_refl) ?_
    refine fe_s 1 (pc' := cond (fx_cb .eq 0 22) 31 25) (lc' := [(2, .int 0), (0, .ref 0), (1, .int (nI (3846 + (6 * n))))]) (stk' := []) (mem' := fm g tp bt a b) (by intro _ _ _; eq_refl) ?_
    rw [show (fx_cb .eq 0 22) = false from by decide]
    dsimp only [cond]
    refine fe_s 2 (pc' := 27) (lc' := [(2, .int 0), (0, .ref 0), (1, .int (nI (3846 + (6 * n))))]) (stk' := [.int 2, .ref 0]) (mem' := fm g tp bt a b) (by intro _ _ _; eq_refl) ?_
    obtain ⟨gf3, hfrf3, hof3, hzf3⟩ := fr_failsq (x := 2) (g := g) (tp := tp) (bt := bt) (a := a) (b := b) (by omega) (by omega) (fm_go_rf hxp hfl).2.1 (fm_go_rf hxp hfl).2.2.1
    have gof3 := fm_go_tr (fm_go_rf hxp hfl) hof3
    refine fe_ivV hfrf3 (by omega) (by rfl) (by rfl) (by rfl) (by rfl) (by rfl) (by rfl) ?_
    exact fe_ret ⟨_, _, _, _, _, _, _, gof3, hC, rfl, Or.inl ⟨rfl, hzf3⟩, rfl⟩ (by rfl) (by rfl) (by rfl)
  · refine fe_s 3 (pc' := 10) (lc' := [(2, .int 1), (0, .ref 0), (1, .int (nI (3846 + (6 * n))))]) (stk' := [.int 8, .int 1]) (mem' := fm g tp bt a b) (by intro _ _ _; eq_refl) ?_
    refine fe_s 1 (pc' := cond (fx_cb .eq 1 8) 31 13) (lc' := [(2, .int 1), (0, .ref 0), (1, .int (nI (3846 + (6 * n))))]) (stk' := []) (mem' := fm g tp bt a b) (by intro _ _ _; eq_refl) ?_
    rw [show (fx_cb .eq 1 8) = false from by decide]
    dsimp only [cond]
    refine fe_s 2 (pc' := 16) (lc' := [(2, .int 1), (0, .ref 0), (1, .int (nI (3846 + (6 * n))))]) (stk' := [.int 10, .int 1]) (mem' := fm g tp bt a b) (by intro _ _ _; eq_refl) ?_
    refine fe_s 1 (pc' := cond (fx_cb .eq 1 10) 31 19) (lc' := [(2, .int 1), (0, .ref 0), (1, .int (nI (3846 + (6 * n))))]) (stk' := []) (mem' := fm g tp bt a b) (by intro _ _ _; eq_refl) ?_
    rw [show (fx_cb .eq 1 10) = false from by decide]
    dsimp only [cond]
    refine fe_s 2 (pc' := 22) (lc' := [(2, .int 1), (0, .ref 0), (1, .int (nI (3846 + (6 * n))))]) (stk' := [.int 22, .int 1]) (mem' := fm g tp bt a b) (by intro _ _ _; eq_refl) ?_
    refine fe_s 1 (pc' := cond (fx_cb .eq 1 22) 31 25) (lc' := [(2, .int 1), (0, .ref 0), (1, .int (nI (3846 + (6 * n))))]) (stk' := []) (mem' := fm g tp bt a b) (by intro _ _ _; eq_refl) ?_
    rw [show (fx_cb .eq 1 22) = false from by decide]
    dsimp only [cond]
    refine fe_s 2 (pc' := 27) (lc' := [(2, .int 1), (0, .ref 0), (1, .int (nI (3846 + (6 * n))))]) (stk' := [.int 2, .ref 0]) (mem' := fm g tp bt a b) (by intro _ _ _; eq_refl) ?_
    obtain ⟨gf4, hfrf4, hof4, hzf4⟩ := fr_failsq (x := 2) (g := g) (tp := tp) (bt := bt) (a := a) (b := b) (by omega) (by omega) (fm_go_rf hxp hfl).2.1 (fm_go_rf hxp hfl).2.2.1
    have gof4 := fm_go_tr (fm_go_rf hxp hfl) hof4
    refine fe_ivV hfrf4 (by omega) (by rfl) (by rfl) (by rfl) (by rfl) (by rfl) (by rfl) ?_
    exact fe_ret ⟨_, _, _, _, _, _, _, gof4, hC, rfl, Or.inl ⟨rfl, hzf4⟩, rfl⟩ (by rfl) (by rfl) (by rfl)
  · refine fe_s 3 (pc' := 10) (lc' := [(2, .int 2), (0, .ref 0), (1, .int (nI (3846 + (6 * n))))]) (stk' := [.int 8, .int 2]) (mem' := fm g tp bt a b) (by intro _ _ _; eq_refl) ?_
    refine fe_s 1 (pc' := cond (fx_cb .eq 2 8) 31 13) (lc' := [(2, .int 2), (0, .ref 0), (1, .int (nI (3846 + (6 * n))))]) (stk' := []) (mem' := fm g tp bt a b) (by intro _ _ _; eq_refl) ?_
    rw [show (fx_cb .eq 2 8) = false from by decide]
    dsimp only [cond]
    refine fe_s 2 (pc' := 16) (lc' := [(2, .int 2), (0, .ref 0), (1, .int (nI (3846 + (6 * n))))]) (stk' := [.int 10, .int 2]) (mem' := fm g tp bt a b) (by intro _ _ _; eq_refl) ?_
    refine fe_s 1 (pc' := cond (fx_cb .eq 2 10) 31 19) (lc' := [(2, .int 2), (0, .ref 0), (1, .int (nI (3846 + (6 * n))))]) (stk' := []) (mem' := fm g tp bt a b) (by intro _ _ _; eq_refl) ?_
    rw [show (fx_cb .eq 2 10) = false from by decide]
    dsimp only [cond]
    refine fe_s 2 (pc' := 22) (lc' := [(2, .int 2), (0, .ref 0), (1, .int (nI (3846 + (6 * n))))]) (stk' := [.int 22, .int 2]) (mem' := fm g tp bt a b) (by intro _ _ _; eq_refl) ?_
    refine fe_s 1 (pc' := cond (fx_cb .eq 2 22) 31 25) (lc' := [(2, .int 2), (0, .ref 0), (1, .int (nI (3846 + (6 * n))))]) (stk' := []) (mem' := fm g tp bt a b) (by intro _ _ _; eq_refl) ?_
    rw [show (fx_cb .eq 2 22) = false from by decide]
    dsimp only [cond]
    refine fe_s 2 (pc' := 27) (lc' := [(2, .int 2), (0, .ref 0), (1, .int (nI (3846 + (6 * n))))]) (stk' := [.int 2, .ref 0]) (mem' := fm g tp bt a b) (by intro _ _ _; eq_refl) ?_
    obtain ⟨gf5, hfrf5, hof5, hzf5⟩ := fr_failsq (x := 2) (g := g) (tp := tp) (bt := bt) (a := a) (b := b) (by omega) (by omega) (fm_go_rf hxp hfl).2.1 (fm_go_rf hxp hfl).2.2.1
    have gof5 := fm_go_tr (fm_go_rf hxp hfl) hof5
    refine fe_ivV hfrf5 (by omega) (by rfl) (by rfl) (by rfl) (by rfl) (by rfl) (by rfl) ?_
    exact fe_ret ⟨_, _, _, _, _, _, _, gof5, hC, rfl, Or.inl ⟨rfl, hzf5⟩, rfl⟩ (by rfl) (by rfl) (by rfl)
  · refine fe_s 3 (pc' := 10) (lc' := [(2, .int 3), (0, .ref 0), (1, .int (nI (3846 + (6 * n))))]) (stk' := [.int 8, .int 3]) (mem' := fm g tp bt a b) (by intro _ _ _; eq_refl) ?_
    refine fe_s 1 (pc' := cond (fx_cb .eq 3 8) 31 13) (lc' := [(2, .int 3), (0, .ref 0), (1, .int (nI (3846 + (6 * n))))]) (stk' := []) (mem' := fm g tp bt a b) (by intro _ _ _; eq_refl) ?_
    rw [show (fx_cb .eq 3 8) = false from by decide]
    dsimp only [cond]
    refine fe_s 2 (pc' := 16) (lc' := [(2, .int 3), (0, .ref 0), (1, .int (nI (3846 + (6 * n))))]) (stk' := [.int 10, .int 3]) (mem' := fm g tp bt a b) (by intro _ _ _; eq_refl) ?_
    refine fe_s 1 (pc' := cond (fx_cb .eq 3 10) 31 19) (lc' := [(2, .int 3), (0, .ref 0), (1, .int (nI (3846 + (6 * n))))]) (stk' := []) (mem' := fm g tp bt a b) (by intro _ _ _; eq_refl) ?_
    rw [show (fx_cb .eq 3 10) = false from by decide]
    dsimp only [cond]
    refine fe_s 2 (pc' := 22) (lc' := [(2, .int 3), (0, .ref 0), (1, .int (nI (3846 + (6 * n))))]) (stk' := [.int 22, .int 3]) (mem' := fm g tp bt a b) (by intro _ _ _; eq_refl) ?_
    refine fe_s 1 (pc' := cond (fx_cb .eq 3 22) 31 25) (lc' := [(2, .int 3), (0, .ref 0), (1, .int (nI (3846 + (6 * n))))]) (stk' := []) (mem' := fm g tp bt a b) (by intro _ _ _; eq_refl) ?_
    rw [show (fx_cb .eq 3 22) = false from by decide]
    dsimp only [cond]
    refine fe_s 2 (pc' := 27) (lc' := [(2, .int 3), (0, .ref 0), (1, .int (nI (3846 + (6 * n))))]) (stk' := [.int 2, .ref 0]) (mem' := fm g tp bt a b) (by intro _ _ _; eq_refl) ?_
    obtain ⟨gf6, hfrf6, hof6, hzf6⟩ := fr_failsq (x := 2) (g := g) (tp := tp) (bt := bt) (a := a) (b := b) (by omega) (by omega) (fm_go_rf hxp hfl).2.1 (fm_go_rf hxp hfl).2.2.1
    have gof6 := fm_go_tr (fm_go_rf hxp hfl) hof6
    refine fe_ivV hfrf6 (by omega) (by rfl) (by rfl) (by rfl) (by rfl) (by rfl) (by rfl) ?_
    exact fe_ret ⟨_, _, _, _, _, _, _, gof6, hC, rfl, Or.inl ⟨rfl, hzf6⟩, rfl⟩ (by rfl) (by rfl) (by rfl)
  · refine fe_s 3 (pc' := 10) (lc' := [(2, .int 4), (0, .ref 0), (1, .int (nI (3846 + (6 * n))))]) (stk' := [.int 8, .int 4]) (mem' := fm g tp bt a b) (by intro _ _ _; eq_refl) ?_
    refine fe_s 1 (pc' := cond (fx_cb .eq 4 8) 31 13) (lc' := [(2, .int 4), (0, .ref 0), (1, .int (nI (3846 + (6 * n))))]) (stk' := []) (mem' := fm g tp bt a b) (by intro _ _ _; eq_refl) ?_
    rw [show (fx_cb .eq 4 8) = false from by decide]
    dsimp only [cond]
    refine fe_s 2 (pc' := 16) (lc' := [(2, .int 4), (0, .ref 0), (1, .int (nI (3846 + (6 * n))))]) (stk' := [.int 10, .int 4]) (mem' := fm g tp bt a b) (by intro _ _ _; eq_refl) ?_
    refine fe_s 1 (pc' := cond (fx_cb .eq 4 10) 31 19) (lc' := [(2, .int 4), (0, .ref 0), (1, .int (nI (3846 + (6 * n))))]) (stk' := []) (mem' := fm g tp bt a b) (by intro _ _ _; eq_refl) ?_
    rw [show (fx_cb .eq 4 10) = false from by decide]
    dsimp only [cond]
    refine fe_s 2 (pc' := 22) (lc' := [(2, .int 4), (0, .ref 0), (1, .int (nI (3846 + (6 * n))))]) (stk' := [.int 22, .int 4]) (mem' := fm g tp bt a b) (by intro _ _ _; eq_refl) ?_
    refine fe_s 1 (pc' := cond (fx_cb .eq 4 22) 31 25) (lc' := [(2, .int 4), (0, .ref 0), (1, .int (nI (3846 + (6 * n))))]) (stk' := []) (mem' := fm g tp bt a b) (by intro _ _ _; eq_refl) ?_
    rw [show (fx_cb .eq 4 22) = false from by decide]
    dsimp only [cond]
    refine fe_s 2 (pc' := 27) (lc' := [(2, .int 4), (0, .ref 0), (1, .int (nI (3846 + (6 * n))))]) (stk' := [.int 2, .ref 0]) (mem' := fm g tp bt a b) (by intro _ _ _; eq_refl) ?_
    obtain ⟨gf7, hfrf7, hof7, hzf7⟩ := fr_failsq (x := 2) (g := g) (tp := tp) (bt := bt) (a := a) (b := b) (by omega) (by omega) (fm_go_rf hxp hfl).2.1 (fm_go_rf hxp hfl).2.2.1
    have gof7 := fm_go_tr (fm_go_rf hxp hfl) hof7
    refine fe_ivV hfrf7 (by omega) (by rfl) (by rfl) (by rfl) (by rfl) (by rfl) (by rfl) ?_
    exact fe_ret ⟨_, _, _, _, _, _, _, gof7, hC, rfl, Or.inl ⟨rfl, hzf7⟩, rfl⟩ (by rfl) (by rfl) (by rfl)
  · refine fe_s 3 (pc' := 10) (lc' := [(2, .int 5), (0, .ref 0), (1, .int (nI (3846 + (6 * n))))]) (stk' := [.int 8, .int 5]) (mem' := fm g tp bt a b) (by intro _ _ _; eq_refl) ?_
    refine fe_s 1 (pc' := cond (fx_cb .eq 5 8) 31 13) (lc' := [(2, .int 5), (0, .ref 0), (1, .int (nI (3846 + (6 * n))))]) (stk' := []) (mem' := fm g tp bt a b) (by intro _ _ _; eq_refl) ?_
    rw [show (fx_cb .eq 5 8) = false from by decide]
    dsimp only [cond]
    refine fe_s 2 (pc' := 16) (lc' := [(2, .int 5), (0, .ref 0), (1, .int (nI (3846 + (6 * n))))]) (stk' := [.int 10, .int 5]) (mem' := fm g tp bt a b) (by intro _ _ _; eq_refl) ?_
    refine fe_s 1 (pc' := cond (fx_cb .eq 5 10) 31 19) (lc' := [(2, .int 5), (0, .ref 0), (1, .int (nI (3846 + (6 * n))))]) (stk' := []) (mem' := fm g tp bt a b) (by intro _ _ _; eq_refl) ?_
    rw [show (fx_cb .eq 5 10) = false from by decide]
    dsimp only [cond]
    refine fe_s 2 (pc' := 22) (lc' := [(2, .int 5), (0, .ref 0), (1, .int (nI (3846 + (6 * n))))]) (stk' := [.int 22, .int 5]) (mem' := fm g tp bt a b) (by intro _ _ _; eq_refl) ?_
    refine fe_s 1 (pc' := cond (fx_cb .eq 5 22) 31 25) (lc' := [(2, .int 5), (0, .ref 0), (1, .int (nI (3846 + (6 * n))))]) (stk' := []) (mem' := fm g tp bt a b) (by intro _ _ _; eq_refl) ?_
    rw [show (fx_cb .eq 5 22) = false from by decide]
    dsimp only [cond]
    refine fe_s 2 (pc' := 27) (lc' := [(2, .int 5), (0, .ref 0), (1, .int (nI (3846 + (6 * n))))]) (stk' := [.int 2, .ref 0]) (mem' := fm g tp bt a b) (by intro _ _ _; eq_refl) ?_
    obtain ⟨gf8, hfrf8, hof8, hzf8⟩ := fr_failsq (x := 2) (g := g) (tp := tp) (bt := bt) (a := a) (b := b) (by omega) (by omega) (fm_go_rf hxp hfl).2.1 (fm_go_rf hxp hfl).2.2.1
    have gof8 := fm_go_tr (fm_go_rf hxp hfl) hof8
    refine fe_ivV hfrf8 (by omega) (by rfl) (by rfl) (by rfl) (by rfl) (by rfl) (by rfl) ?_
    exact fe_ret ⟨_, _, _, _, _, _, _, gof8, hC, rfl, Or.inl ⟨rfl, hzf8⟩, rfl⟩ (by rfl) (by rfl) (by rfl)
  · refine fe_s 3 (pc' := 10) (lc' := [(2, .int 6), (0, .ref 0), (1, .int (nI (3846 + (6 * n))))]) (stk' := [.int 8, .int 6]) (mem' := fm g tp bt a b) (by intro _ _ _; eq_refl) ?_
    refine fe_s 1 (pc' := cond (fx_cb .eq 6 8) 31 13) (lc' := [(2, .int 6), (0, .ref 0), (1, .int (nI (3846 + (6 * n))))]) (stk' := []) (mem' := fm g tp bt a b) (by intro _ _ _; eq_refl) ?_
    rw [show (fx_cb .eq 6 8) = false from by decide]
    dsimp only [cond]
    refine fe_s 2 (pc' := 16) (lc' := [(2, .int 6), (0, .ref 0), (1, .int (nI (3846 + (6 * n))))]) (stk' := [.int 10, .int 6]) (mem' := fm g tp bt a b) (by intro _ _ _; eq_refl) ?_
    refine fe_s 1 (pc' := cond (fx_cb .eq 6 10) 31 19) (lc' := [(2, .int 6), (0, .ref 0), (1, .int (nI (3846 + (6 * n))))]) (stk' := []) (mem' := fm g tp bt a b) (by intro _ _ _; eq_refl) ?_
    rw [show (fx_cb .eq 6 10) = false from by decide]
    dsimp only [cond]
    refine fe_s 2 (pc' := 22) (lc' := [(2, .int 6), (0, .ref 0), (1, .int (nI (3846 + (6 * n))))]) (stk' := [.int 22, .int 6]) (mem' := fm g tp bt a b) (by intro _ _ _; eq_refl) ?_
    refine fe_s 1 (pc' := cond (fx_cb .eq 6 22) 31 25) (lc' := [(2, .int 6), (0, .ref 0), (1, .int (nI (3846 + (6 * n))))]) (stk' := []) (mem' := fm g tp bt a b) (by intro _ _ _; eq_refl) ?_
    rw [show (fx_cb .eq 6 22) = false from by decide]
    dsimp only [cond]
    refine fe_s 2 (pc' := 27) (lc' := [(2, .int 6), (0, .ref 0), (1, .int (nI (3846 + (6 * n))))]) (stk' := [.int 2, .ref 0]) (mem' := fm g tp bt a b) (by intro _ _ _; eq_refl) ?_
    obtain ⟨gf9, hfrf9, hof9, hzf9⟩ := fr_failsq (x := 2) (g := g) (tp := tp) (bt := bt) (a := a) (b := b) (by omega) (by omega) (fm_go_rf hxp hfl).2.1 (fm_go_rf hxp hfl).2.2.1
    have gof9 := fm_go_tr (fm_go_rf hxp hfl) hof9
    refine fe_ivV hfrf9 (by omega) (by rfl) (by rfl) (by rfl) (by rfl) (by rfl) (by rfl) ?_
    exact fe_ret ⟨_, _, _, _, _, _, _, gof9, hC, rfl, Or.inl ⟨rfl, hzf9⟩, rfl⟩ (by rfl) (by rfl) (by rfl)
  · refine fe_s 3 (pc' := 10) (lc' := [(2, .int 7), (0, .ref 0), (1, .int (nI (3846 + (6 * n))))]) (stk' := [.int 8, .int 7]) (mem' := fm g tp bt a b) (by intro _ _ _; eq_refl) ?_
    refine fe_s 1 (pc' := cond (fx_cb .eq 7 8) 31 13) (lc' := [(2, .int 7), (0, .ref 0), (1, .int (nI (3846 + (6 * n))))]) (stk' := []) (mem' := fm g tp bt a b) (by intro _ _ _; eq_refl) ?_
    rw [show (fx_cb .eq 7 8) = false from by decide]
    dsimp only [cond]
    refine fe_s 2 (pc' := 16) (lc' := [(2, .int 7), (0, .ref 0), (1, .int (nI (3846 + (6 * n))))]) (stk' := [.int 10, .int 7]) (mem' := fm g tp bt a b) (by intro _ _ _; eq_refl) ?_
    refine fe_s 1 (pc' := cond (fx_cb .eq 7 10) 31 19) (lc' := [(2, .int 7), (0, .ref 0), (1, .int (nI (3846 + (6 * n))))]) (stk' := []) (mem' := fm g tp bt a b) (by intro _ _ _; eq_refl) ?_
    rw [show (fx_cb .eq 7 10) = false from by decide]
    dsimp only [cond]
    refine fe_s 2 (pc' := 22) (lc' := [(2, .int 7), (0, .ref 0), (1, .int (nI (3846 + (6 * n))))]) (stk' := [.int 22, .int 7]) (mem' := fm g tp bt a b) (by intro _ _ _; eq_refl) ?_
    refine fe_s 1 (pc' := cond (fx_cb .eq 7 22) 31 25) (lc' := [(2, .int 7), (0, .ref 0), (1, .int (nI (3846 + (6 * n))))]) (stk' := []) (mem' := fm g tp bt a b) (by intro _ _ _; eq_refl) ?_
    rw [show (fx_cb .eq 7 22) = false from by decide]
    dsimp only [cond]
    refine fe_s 2 (pc' := 27) (lc' := [(2, .int 7), (0, .ref 0), (1, .int (nI (3846 + (6 * n))))]) (stk' := [.int 2, .ref 0]) (mem' := fm g tp bt a b) (by intro _ _ _; eq_refl) ?_
    obtain ⟨gf10, hfrf10, hof10, hzf10⟩ := fr_failsq (x := 2) (g := g) (tp := tp) (bt := bt) (a := a) (b := b) (by omega) (by omega) (fm_go_rf hxp hfl).2.1 (fm_go_rf hxp hfl).2.2.1
    have gof10 := fm_go_tr (fm_go_rf hxp hfl) hof10
    refine fe_ivV hfrf10 (by omega) (by rfl) (by rfl) (by rfl) (by rfl) (by rfl) (by rfl) ?_
    exact fe_ret ⟨_, _, _, _, _, _, _, gof10, hC, rfl, Or.inl ⟨rfl, hzf10⟩, rfl⟩ (by rfl) (by rfl) (by rfl)
  · refine fe_s 3 (pc' := 10) (lc' := [(2, .int 8), (0, .ref 0), (1, .int (nI (3846 + (6 * n))))]) (stk' := [.int 8, .int 8]) (mem' := fm g tp bt a b) (by intro _ _ _; eq_refl) ?_
    refine fe_s 1 (pc' := cond (fx_cb .eq 8 8) 31 13) (lc' := [(2, .int 8), (0, .ref 0), (1, .int (nI (3846 + (6 * n))))]) (stk' := []) (mem' := fm g tp bt a b) (by intro _ _ _; eq_refl) ?_
    rw [show (fx_cb .eq 8 8) = true from by decide]
    dsimp only [cond]
    refine fe_s 6 (pc' := 41) (lc' := [(2, .int 8), (0, .ref 0), (1, .int (nI (3846 + (6 * n))))]) (stk' := [.int (1800 + 8), .int (nI (3846 + (6 * n))), .ref 1]) (mem' := fm g tp bt a b) (by intro _ _ _; eq_refl) ?_
    rw [show (1800 + 8 : Int32) = 1808 from rfl]
    refine fe_stI (mem' := fm g tp bt (fm_u a 1 (nI (3846 + (6 * n)) : Int32).toNatClampNeg 1808) b) (by rfl) (by rfl) (fx_inN (i := 3846 + (6 * n)) (by have := hC.2.2.2.2.2.2.2.1; omega) (by omega)) fm_si1 ?_
    rw [show Int32.toNatClampNeg (nI (3846 + (6 * n))) = 3846 + (6 * n) from nI_clamp (by have := hC.2.2.2.2.2.2.2.1; omega)]
    obtain ⟨at11, hat11⟩ : ∃ z, z = fm_u a 1 (3846 + (6 * n)) 1808 := ⟨_, rfl⟩
    rw [← hat11]
    have hCt11 : fm_TC a0 at11 n 1808 0 := by rw [hat11]; rw [show 3846 + (6 * n) = 3846 + 6 * n by omega]; exact fm_TC_0 hC (by decide) (by decide)
    have h8t11 : at11 8 = a 8 := (congrFun hat11 8).trans ((fm_ut (by decide)).trans rfl)
    refine fe_s 1 (pc' := 43) (lc' := [(2, .int 8), (0, .ref 0), (1, .int (nI (3846 + (6 * n))))]) (stk' := [.ref 0]) (mem' := fm g tp bt at11 b) (by intro _ _ _; eq_refl) ?_
    obtain ⟨gk12, Ek12, Fk12, hfrk12, hok12, hek12, hpk12⟩ := fr_aheadq (g := g) (tp := tp) (bt := bt) (a := at11) (b := b) (fm_go_rf hxp hfl).2.1 (fm_go_rf hxp hfl).2.2.1
    have gok12 := fm_go_tr (fm_go_rf hxp hfl) hok12
    have e18k12 : gk12 18 = g 18 := hek12.trans rfl
    have prk12 : gk12 12 = 0 ∨ E < Ek12 := hpk12.imp id (fun z => by have := (fm_go_rf hxp hfl).2.2.2; omega)
    refine fe_ivV hfrk12 (by omega) (by rfl) (by rfl) (by rfl) (by rfl) (by rfl) (by rfl) ?_
    refine fe_s 2 (pc' := 49) (lc' := [(2, .int 8), (0, .ref 0), (1, .int (nI (3846 + (6 * n))))]) (stk' := [.int 22, .int 8]) (mem' := fm gk12 tp bt at11 b) (by intro _ _ _; eq_refl) ?_
    refine fe_s 1 (pc' := cond (fx_cb .ne 8 22) 60 52) (lc' := [(2, .int 8), (0, .ref 0), (1, .int (nI (3846 + (6 * n))))]) (stk' := []) (mem' := fm gk12 tp bt at11 b) (by intro _ _ _; eq_refl) ?_
    rw [show (fx_cb .ne 8 22) = true from by decide]
    dsimp only [cond]
    refine fe_s 2 (pc' := 63) (lc' := [(2, .int 8), (0, .ref 0), (1, .int (nI (3846 + (6 * n))))]) (stk' := [.int 10, .int 8]) (mem' := fm gk12 tp bt at11 b) (by intro _ _ _; eq_refl) ?_
    refine fe_s 1 (pc' := cond (fx_cb .ne 8 10) 103 66) (lc' := [(2, .int 8), (0, .ref 0), (1, .int (nI (3846 + (6 * n))))]) (stk' := []) (mem' := fm gk12 tp bt at11 b) (by intro _ _ _; eq_refl) ?_
    rw [show (fx_cb .ne 8 10) = true from by decide]
    dsimp only [cond]
    refine fe_s 4 (pc' := 107) (lc' := [(2, .int 8), (0, .ref 0), (1, .int (nI (3846 + (6 * n))))]) (stk' := [.int ((nI (3846 + (6 * n))) + 1), .ref 0]) (mem' := fm gk12 tp bt at11 b) (by intro _ _ _; eq_refl) ?_
    rw [show ((nI (3846 + (6 * n))) + 1 : Int32) = nI ((3846 + (6 * n)) + 1) from by simp only [show (1 : Int32) = nI 1 from rfl, nI_add, fm_mul]]
    obtain ⟨vo13, memo13, ⟨xo13, go13, Eo13, Fo13, ao13, hoo13, hvo13, hRo13⟩, hfro13⟩ := fr_cellTo (T := (3846 + (6 * n)) + 1) (g := gk12) (tp := tp) (bt := bt) (a := at11) (b := b) gok12.2.1 gok12.2.2.1 (by have := hCt11.2.2.2.2.2.2.2.1; omega) ((f0 hCt11).trans hH.1) hH.2.1
    cases hRo13
    have goo13 := fm_go_tr gok12 hoo13
    refine fe_ivV hfro13 (by omega) (by rfl) (by rfl) (by rfl) (by rfl) (by rfl) (by rfl) ?_
    rcases hvo13 with ⟨rfl, hzo13, hao13⟩ | ⟨rfl, heo13, hpo13, ko13, hko13, hao13⟩
    · obtain ⟨yo13, hCo13⟩ : ∃ y, fm_TC a0 ao13 n 1808 y := by
        rcases hao13 with e | e
        · exact ⟨_, by rw [e]; exact hCt11⟩
        · exact ⟨_, by rw [e, show (3846 + (6 * n)) + 1 = 3847 + 6 * n by omega]; exact fm_TC_1 hCt11 (by decide) (by decide)⟩
      have h8o13 : ao13 8 = a 8 := hao13.elim (fun e => (congrFun e 8).trans h8t11) (fun e => (congrFun e 8).trans ((fm_ut (by decide)).trans h8t11))
      refine fe_s 1 (pc' := cond (fx_cb .ne 0 0) 115 113) (lc' := [(2, .int 8), (0, .ref 0), (1, .int (nI (3846 + (6 * n))))]) (stk' := []) (mem' := fm go13 tp bt ao13 b) (by intro _ _ _; eq_refl) ?_
      rw [show (fx_cb .ne 0 0) = false from by decide]
      dsimp only [cond]
      refine fe_s 1 (pc' := 114) (lc' := [(2, .int 8), (0, .ref 0), (1, .int (nI (3846 + (6 * n))))]) (stk' := [.int 0]) (mem' := fm go13 tp bt ao13 b) (by intro _ _ _; eq_refl) ?_
      exact fe_ret ⟨_, _, _, _, _, _, _, goo13, hCo13, h8o13, Or.inl ⟨rfl, hzo13⟩, rfl⟩ (by rfl) (by rfl) (by rfl)
    · have e18o13 : go13 18 = g 18 := heo13.trans e18k12
      have pro13 : go13 12 = 0 ∨ E < Eo13 := hpo13.imp id (fun z => by have := gok12.2.2.2; omega)
      have hk9o13 : ko13 < 10 := by have := hH.2.1; omega
      have hCo13 : fm_TC a0 ao13 n 1808 (nI ko13) := by rw [hao13]; rw [show (3846 + (6 * n)) + 1 = 3847 + 6 * n by omega]; exact fm_TC_1 hCt11 (by rw [nI_i32 (by omega)]; omega) (by rw [nI_i32 (by omega)]; omega)
      have h8o13 : ao13 8 = a 8 := (congrFun hao13 8).trans ((fm_ut (by decide)).trans h8t11)
      refine fe_s 1 (pc' := cond (fx_cb .ne 1 0) 115 113) (lc' := [(2, .int 8), (0, .ref 0), (1, .int (nI (3846 + (6 * n))))]) (stk' := []) (mem' := fm go13 tp bt ao13 b) (by intro _ _ _; eq_refl) ?_
      rw [show (fx_cb .ne 1 0) = true from by decide]
      dsimp only [cond]
      refine fe_s 2 (pc' := 118) (lc' := [(2, .int 8), (0, .ref 0), (1, .int (nI (3846 + (6 * n))))]) (stk' := [.int 60, .ref 0]) (mem' := fm go13 tp bt ao13 b) (by intro _ _ _; eq_refl) ?_
      obtain ⟨vi14, memi14, ⟨xi14, hxi14, hRi14⟩, hfri14⟩ := fr_isSign (c := 60) (g := go13) (tp := tp) (bt := bt) (a := ao13) (b := b)
      cases hRi14
      refine fe_ivV hfri14 (by omega) (by rfl) (by rfl) (by rfl) (by rfl) (by rfl) (by rfl) ?_
      rcases hxi14 with rfl | ⟨rfl, hsi14⟩
      · refine fe_s 1 (pc' := cond (fx_cb .ne 0 0) 148 124) (lc' := [(2, .int 8), (0, .ref 0), (1, .int (nI (3846 + (6 * n))))]) (stk' := []) (mem' := fm go13 tp bt ao13 b) (by intro _ _ _; eq_refl) ?_
        rw [show (fx_cb .ne 0 0) = false from by decide]
        dsimp only [cond]
        refine fe_s 2 (pc' := 127) (lc' := [(2, .int 8), (0, .ref 0), (1, .int (nI (3846 + (6 * n))))]) (stk' := [.int 62, .ref 0]) (mem' := fm go13 tp bt ao13 b) (by intro _ _ _; eq_refl) ?_
        obtain ⟨vi15, memi15, ⟨xi15, hxi15, hRi15⟩, hfri15⟩ := fr_isSign (c := 62) (g := go13) (tp := tp) (bt := bt) (a := ao13) (b := b)
        cases hRi15
        refine fe_ivV hfri15 (by omega) (by rfl) (by rfl) (by rfl) (by rfl) (by rfl) (by rfl) ?_
        rcases hxi15 with rfl | ⟨rfl, hsi15⟩
        · refine fe_s 1 (pc' := cond (fx_cb .ne 0 0) 148 133) (lc' := [(2, .int 8), (0, .ref 0), (1, .int (nI (3846 + (6 * n))))]) (stk' := []) (mem' := fm go13 tp bt ao13 b) (by intro _ _ _; eq_refl) ?_
          rw [show (fx_cb .ne 0 0) = false from by decide]
          dsimp only [cond]
          refine fe_s 2 (pc' := 136) (lc' := [(2, .int 8), (0, .ref 0), (1, .int (nI (3846 + (6 * n))))]) (stk' := [.int 61, .ref 0]) (mem' := fm go13 tp bt ao13 b) (by intro _ _ _; eq_refl) ?_
          obtain ⟨vi16, memi16, ⟨xi16, hxi16, hRi16⟩, hfri16⟩ := fr_isSign (c := 61) (g := go13) (tp := tp) (bt := bt) (a := ao13) (b := b)
          cases hRi16
          refine fe_ivV hfri16 (by omega) (by rfl) (by rfl) (by rfl) (by rfl) (by rfl) (by rfl) ?_
          rcases hxi16 with rfl | ⟨rfl, hsi16⟩
          · refine fe_s 1 (pc' := cond (fx_cb .ne 0 0) 148 142) (lc' := [(2, .int 8), (0, .ref 0), (1, .int (nI (3846 + (6 * n))))]) (stk' := []) (mem' := fm go13 tp bt ao13 b) (by intro _ _ _; eq_refl) ?_
            rw [show (fx_cb .ne 0 0) = false from by decide]
            dsimp only [cond]
            refine fe_s 2 (pc' := 144) (lc' := [(2, .int 8), (0, .ref 0), (1, .int (nI (3846 + (6 * n))))]) (stk' := [.int 2, .ref 0]) (mem' := fm go13 tp bt ao13 b) (by intro _ _ _; eq_refl) ?_
            obtain ⟨gf17, hfrf17, hof17, hzf17⟩ := fr_failsq (x := 2) (g := go13) (tp := tp) (bt := bt) (a := ao13) (b := b) (by omega) (by omega) goo13.2.1 goo13.2.2.1
            have gof17 := fm_go_tr goo13 hof17
            refine fe_ivV hfrf17 (by omega) (by rfl) (by rfl) (by rfl) (by rfl) (by rfl) (by rfl) ?_
            exact fe_ret ⟨_, _, _, _, _, _, _, gof17, hCo13, h8o13, Or.inl ⟨rfl, hzf17⟩, rfl⟩ (by rfl) (by rfl) (by rfl)
          · refine fe_s 1 (pc' := cond (fx_cb .ne 1 0) 148 142) (lc' := [(2, .int 8), (0, .ref 0), (1, .int (nI (3846 + (6 * n))))]) (stk' := []) (mem' := fm go13 tp bt ao13 b) (by intro _ _ _; eq_refl) ?_
            rw [show (fx_cb .ne 1 0) = true from by decide]
            dsimp only [cond]
            refine fe_s 7 (pc' := 159) (lc' := [(2, .int 8), (0, .ref 0), (1, .int (nI (3846 + (6 * n))))]) (stk' := [.int (go13 15), .int ((nI (3846 + (6 * n))) + 5), .ref 1]) (mem' := fm go13 tp bt ao13 b) (by intro _ _ _; eq_refl) ?_
            rw [show ((nI (3846 + (6 * n))) + 5 : Int32) = nI ((3846 + (6 * n)) + 5) from by simp only [show (5 : Int32) = nI 5 from rfl, nI_add, fm_mul]]
            refine fe_stI (mem' := fm go13 tp bt (fm_u ao13 1 (nI ((3846 + (6 * n)) + 5) : Int32).toNatClampNeg (go13 15)) b) (by rfl) (by rfl) (fx_inN (i := (3846 + (6 * n)) + 5) (by have := hCo13.2.2.2.2.2.2.2.1; omega) (by omega)) fm_si1 ?_
            rw [show Int32.toNatClampNeg (nI ((3846 + (6 * n)) + 5)) = (3846 + (6 * n)) + 5 from nI_clamp (by have := hCo13.2.2.2.2.2.2.2.1; omega)]
            obtain ⟨at18, hat18⟩ : ∃ z, z = fm_u ao13 1 ((3846 + (6 * n)) + 5) (go13 15) := ⟨_, rfl⟩
            rw [← hat18]
            have hCt18 : fm_TC a0 at18 n 1808 (nI ko13) := by rw [hat18]; rw [show (3846 + (6 * n)) + 5 = 3851 + 6 * n by omega]; exact fm_TC_5 hCo13
            have h8t18 : at18 8 = a 8 := (congrFun hat18 8).trans ((fm_ut (by decide)).trans h8o13)
            refine fe_s 1 (pc' := 161) (lc' := [(2, .int 8), (0, .ref 0), (1, .int (nI (3846 + (6 * n))))]) (stk' := [.ref 0]) (mem' := fm go13 tp bt at18 b) (by intro _ _ _; eq_refl) ?_
            obtain ⟨gk19, Ek19, Fk19, hfrk19, hok19, hek19, hpk19⟩ := fr_aheadq (g := go13) (tp := tp) (bt := bt) (a := at18) (b := b) goo13.2.1 goo13.2.2.1
            have gok19 := fm_go_tr goo13 hok19
            have e18k19 : gk19 18 = g 18 := hek19.trans e18o13
            have prk19 : gk19 12 = 0 ∨ E < Ek19 := hpk19.imp id (fun z => by have := goo13.2.2.2; omega)
            refine fe_ivV hfrk19 (by omega) (by rfl) (by rfl) (by rfl) (by rfl) (by rfl) (by rfl) ?_
            refine fe_s 6 (pc' := 172) (lc' := [(2, .int 8), (0, .ref 0), (1, .int (nI (3846 + (6 * n))))]) (stk' := [.int 999, .int 0, .int ((nI (3846 + (6 * n))) + 2), .ref 0]) (mem' := fm gk19 tp bt at18 b) (by intro _ _ _; eq_refl) ?_
            rw [show ((nI (3846 + (6 * n))) + 2 : Int32) = nI ((3846 + (6 * n)) + 2) from by simp only [show (2 : Int32) = nI 2 from rfl, nI_add, fm_mul]]
            obtain ⟨xm20, gm20, Em20, Fm20, am20, hfrm20, hom20, hvm20⟩ := fr_numberq (T := (3846 + (6 * n)) + 2) (lo := 0) (hi := 999) (g := gk19) (tp := tp) (bt := bt) (a := at18) (b := b) (by have := hCt18.2.2.2.2.2.2.2.1; omega) gok19.2.1 gok19.2.2.1
            have gom20 := fm_go_tr gok19 hom20
            refine fe_ivV hfrm20 (by omega) (by rfl) (by rfl) (by rfl) (by rfl) (by rfl) (by rfl) ?_
            rcases hvm20 with ⟨rfl, hzm20, ham20⟩ | ⟨rfl, hem20, hpm20, ym20, hlm20, hum20, ham20⟩
            · have hCm20 : fm_TC a0 am20 n 1808 (nI ko13) := by rw [ham20]; exact hCt18
              have h8m20 : am20 8 = a 8 := (congrFun ham20 8).trans h8t18
              exact fe_ret ⟨_, _, _, _, _, _, _, gom20, hCm20, h8m20, Or.inl ⟨rfl, hzm20⟩, rfl⟩ (by rfl) (by rfl) (by rfl)
            · have e18m20 : gm20 18 = g 18 := hem20.trans e18k19
              have prm20 : gm20 12 = 0 ∨ E < Em20 := hpm20.imp id (fun z => by have := gok19.2.2.2; omega)
              have lm20 : 0 ≤ ym20.toInt := (by have z := Int32.le_iff_toInt_le.mp hlm20; rw [show ((0 : Int32).toInt) = 0 from rfl] at z; omega)
              have um20 : ym20.toInt ≤ 999 := (by have z := Int32.le_iff_toInt_le.mp hum20; rw [show ((999 : Int32).toInt) = 999 from rfl] at z; omega)
              have hCm20 : fm_TC a0 am20 n 1808 (nI ko13) := by rw [ham20]; rw [show (3846 + (6 * n)) + 2 = 3848 + 6 * n by omega]; exact fm_TC_2 hCt18 (by omega) (by omega)
              have h8m20 : am20 8 = a 8 := (congrFun ham20 8).trans ((fm_ut (by decide)).trans h8t18)
              exact fe_ret ⟨_, _, _, _, _, _, _, gom20, hCm20, h8m20, Or.inr ⟨rfl, e18m20, fm_ro_c (by rw [nI_i32 (by omega)]; omega) (by rw [nI_i32 (by omega)]; omega) (by decide)⟩, rfl⟩ (by rfl) (by rfl) (by rfl)
        · refine fe_s 1 (pc' := cond (fx_cb .ne 1 0) 148 133) (lc' := [(2, .int 8), (0, .ref 0), (1, .int (nI (3846 + (6 * n))))]) (stk' := []) (mem' := fm go13 tp bt ao13 b) (by intro _ _ _; eq_refl) ?_
          rw [show (fx_cb .ne 1 0) = true from by decide]
          dsimp only [cond]
          refine fe_s 7 (pc' := 159) (lc' := [(2, .int 8), (0, .ref 0), (1, .int (nI (3846 + (6 * n))))]) (stk' := [.int (go13 15), .int ((nI (3846 + (6 * n))) + 5), .ref 1]) (mem' := fm go13 tp bt ao13 b) (by intro _ _ _; eq_refl) ?_
          rw [show ((nI (3846 + (6 * n))) + 5 : Int32) = nI ((3846 + (6 * n)) + 5) from by simp only [show (5 : Int32) = nI 5 from rfl, nI_add, fm_mul]]
          refine fe_stI (mem' := fm go13 tp bt (fm_u ao13 1 (nI ((3846 + (6 * n)) + 5) : Int32).toNatClampNeg (go13 15)) b) (by rfl) (by rfl) (fx_inN (i := (3846 + (6 * n)) + 5) (by have := hCo13.2.2.2.2.2.2.2.1; omega) (by omega)) fm_si1 ?_
          rw [show Int32.toNatClampNeg (nI ((3846 + (6 * n)) + 5)) = (3846 + (6 * n)) + 5 from nI_clamp (by have := hCo13.2.2.2.2.2.2.2.1; omega)]
          obtain ⟨at21, hat21⟩ : ∃ z, z = fm_u ao13 1 ((3846 + (6 * n)) + 5) (go13 15) := ⟨_, rfl⟩
          rw [← hat21]
          have hCt21 : fm_TC a0 at21 n 1808 (nI ko13) := by rw [hat21]; rw [show (3846 + (6 * n)) + 5 = 3851 + 6 * n by omega]; exact fm_TC_5 hCo13
          have h8t21 : at21 8 = a 8 := (congrFun hat21 8).trans ((fm_ut (by decide)).trans h8o13)
          refine fe_s 1 (pc' := 161) (lc' := [(2, .int 8), (0, .ref 0), (1, .int (nI (3846 + (6 * n))))]) (stk' := [.ref 0]) (mem' := fm go13 tp bt at21 b) (by intro _ _ _; eq_refl) ?_
          obtain ⟨gk22, Ek22, Fk22, hfrk22, hok22, hek22, hpk22⟩ := fr_aheadq (g := go13) (tp := tp) (bt := bt) (a := at21) (b := b) goo13.2.1 goo13.2.2.1
          have gok22 := fm_go_tr goo13 hok22
          have e18k22 : gk22 18 = g 18 := hek22.trans e18o13
          have prk22 : gk22 12 = 0 ∨ E < Ek22 := hpk22.imp id (fun z => by have := goo13.2.2.2; omega)
          refine fe_ivV hfrk22 (by omega) (by rfl) (by rfl) (by rfl) (by rfl) (by rfl) (by rfl) ?_
          refine fe_s 6 (pc' := 172) (lc' := [(2, .int 8), (0, .ref 0), (1, .int (nI (3846 + (6 * n))))]) (stk' := [.int 999, .int 0, .int ((nI (3846 + (6 * n))) + 2), .ref 0]) (mem' := fm gk22 tp bt at21 b) (by intro _ _ _; eq_refl) ?_
          rw [show ((nI (3846 + (6 * n))) + 2 : Int32) = nI ((3846 + (6 * n)) + 2) from by simp only [show (2 : Int32) = nI 2 from rfl, nI_add, fm_mul]]
          obtain ⟨xm23, gm23, Em23, Fm23, am23, hfrm23, hom23, hvm23⟩ := fr_numberq (T := (3846 + (6 * n)) + 2) (lo := 0) (hi := 999) (g := gk22) (tp := tp) (bt := bt) (a := at21) (b := b) (by have := hCt21.2.2.2.2.2.2.2.1; omega) gok22.2.1 gok22.2.2.1
          have gom23 := fm_go_tr gok22 hom23
          refine fe_ivV hfrm23 (by omega) (by rfl) (by rfl) (by rfl) (by rfl) (by rfl) (by rfl) ?_
          rcases hvm23 with ⟨rfl, hzm23, ham23⟩ | ⟨rfl, hem23, hpm23, ym23, hlm23, hum23, ham23⟩
          · have hCm23 : fm_TC a0 am23 n 1808 (nI ko13) := by rw [ham23]; exact hCt21
            have h8m23 : am23 8 = a 8 := (congrFun ham23 8).trans h8t21
            exact fe_ret ⟨_, _, _, _, _, _, _, gom23, hCm23, h8m23, Or.inl ⟨rfl, hzm23⟩, rfl⟩ (by rfl) (by rfl) (by rfl)
          · have e18m23 : gm23 18 = g 18 := hem23.trans e18k22
            have prm23 : gm23 12 = 0 ∨ E < Em23 := hpm23.imp id (fun z => by have := gok22.2.2.2; omega)
            have lm23 : 0 ≤ ym23.toInt := (by have z := Int32.le_iff_toInt_le.mp hlm23; rw [show ((0 : Int32).toInt) = 0 from rfl] at z; omega)
            have um23 : ym23.toInt ≤ 999 := (by have z := Int32.le_iff_toInt_le.mp hum23; rw [show ((999 : Int32).toInt) = 999 from rfl] at z; omega)
            have hCm23 : fm_TC a0 am23 n 1808 (nI ko13) := by rw [ham23]; rw [show (3846 + (6 * n)) + 2 = 3848 + 6 * n by omega]; exact fm_TC_2 hCt21 (by omega) (by omega)
            have h8m23 : am23 8 = a 8 := (congrFun ham23 8).trans ((fm_ut (by decide)).trans h8t21)
            exact fe_ret ⟨_, _, _, _, _, _, _, gom23, hCm23, h8m23, Or.inr ⟨rfl, e18m23, fm_ro_c (by rw [nI_i32 (by omega)]; omega) (by rw [nI_i32 (by omega)]; omega) (by decide)⟩, rfl⟩ (by rfl) (by rfl) (by rfl)
      · refine fe_s 1 (pc' := cond (fx_cb .ne 1 0) 148 124) (lc' := [(2, .int 8), (0, .ref 0), (1, .int (nI (3846 + (6 * n))))]) (stk' := []) (mem' := fm go13 tp bt ao13 b) (by intro _ _ _; eq_refl) ?_
        rw [show (fx_cb .ne 1 0) = true from by decide]
        dsimp only [cond]
        refine fe_s 7 (pc' := 159) (lc' := [(2, .int 8), (0, .ref 0), (1, .int (nI (3846 + (6 * n))))]) (stk' := [.int (go13 15), .int ((nI (3846 + (6 * n))) + 5), .ref 1]) (mem' := fm go13 tp bt ao13 b) (by intro _ _ _; eq_refl) ?_
        rw [show ((nI (3846 + (6 * n))) + 5 : Int32) = nI ((3846 + (6 * n)) + 5) from by simp only [show (5 : Int32) = nI 5 from rfl, nI_add, fm_mul]]
        refine fe_stI (mem' := fm go13 tp bt (fm_u ao13 1 (nI ((3846 + (6 * n)) + 5) : Int32).toNatClampNeg (go13 15)) b) (by rfl) (by rfl) (fx_inN (i := (3846 + (6 * n)) + 5) (by have := hCo13.2.2.2.2.2.2.2.1; omega) (by omega)) fm_si1 ?_
        rw [show Int32.toNatClampNeg (nI ((3846 + (6 * n)) + 5)) = (3846 + (6 * n)) + 5 from nI_clamp (by have := hCo13.2.2.2.2.2.2.2.1; omega)]
        obtain ⟨at24, hat24⟩ : ∃ z, z = fm_u ao13 1 ((3846 + (6 * n)) + 5) (go13 15) := ⟨_, rfl⟩
        rw [← hat24]
        have hCt24 : fm_TC a0 at24 n 1808 (nI ko13) := by rw [hat24]; rw [show (3846 + (6 * n)) + 5 = 3851 + 6 * n by omega]; exact fm_TC_5 hCo13
        have h8t24 : at24 8 = a 8 := (congrFun hat24 8).trans ((fm_ut (by decide)).trans h8o13)
        refine fe_s 1 (pc' := 161) (lc' := [(2, .int 8), (0, .ref 0), (1, .int (nI (3846 + (6 * n))))]) (stk' := [.ref 0]) (mem' := fm go13 tp bt at24 b) (by intro _ _ _; eq_refl) ?_
        obtain ⟨gk25, Ek25, Fk25, hfrk25, hok25, hek25, hpk25⟩ := fr_aheadq (g := go13) (tp := tp) (bt := bt) (a := at24) (b := b) goo13.2.1 goo13.2.2.1
        have gok25 := fm_go_tr goo13 hok25
        have e18k25 : gk25 18 = g 18 := hek25.trans e18o13
        have prk25 : gk25 12 = 0 ∨ E < Ek25 := hpk25.imp id (fun z => by have := goo13.2.2.2; omega)
        refine fe_ivV hfrk25 (by omega) (by rfl) (by rfl) (by rfl) (by rfl) (by rfl) (by rfl) ?_
        refine fe_s 6 (pc' := 172) (lc' := [(2, .int 8), (0, .ref 0), (1, .int (nI (3846 + (6 * n))))]) (stk' := [.int 999, .int 0, .int ((nI (3846 + (6 * n))) + 2), .ref 0]) (mem' := fm gk25 tp bt at24 b) (by intro _ _ _; eq_refl) ?_
        rw [show ((nI (3846 + (6 * n))) + 2 : Int32) = nI ((3846 + (6 * n)) + 2) from by simp only [show (2 : Int32) = nI 2 from rfl, nI_add, fm_mul]]
        obtain ⟨xm26, gm26, Em26, Fm26, am26, hfrm26, hom26, hvm26⟩ := fr_numberq (T := (3846 + (6 * n)) + 2) (lo := 0) (hi := 999) (g := gk25) (tp := tp) (bt := bt) (a := at24) (b := b) (by have := hCt24.2.2.2.2.2.2.2.1; omega) gok25.2.1 gok25.2.2.1
        have gom26 := fm_go_tr gok25 hom26
        refine fe_ivV hfrm26 (by omega) (by rfl) (by rfl) (by rfl) (by rfl) (by rfl) (by rfl) ?_
        rcases hvm26 with ⟨rfl, hzm26, ham26⟩ | ⟨rfl, hem26, hpm26, ym26, hlm26, hum26, ham26⟩
        · have hCm26 : fm_TC a0 am26 n 1808 (nI ko13) := by rw [ham26]; exact hCt24
          have h8m26 : am26 8 = a 8 := (congrFun ham26 8).trans h8t24
          exact fe_ret ⟨_, _, _, _, _, _, _, gom26, hCm26, h8m26, Or.inl ⟨rfl, hzm26⟩, rfl⟩ (by rfl) (by rfl) (by rfl)
        · have e18m26 : gm26 18 = g 18 := hem26.trans e18k25
          have prm26 : gm26 12 = 0 ∨ E < Em26 := hpm26.imp id (fun z => by have := gok25.2.2.2; omega)
          have lm26 : 0 ≤ ym26.toInt := (by have z := Int32.le_iff_toInt_le.mp hlm26; rw [show ((0 : Int32).toInt) = 0 from rfl] at z; omega)
          have um26 : ym26.toInt ≤ 999 := (by have z := Int32.le_iff_toInt_le.mp hum26; rw [show ((999 : Int32).toInt) = 999 from rfl] at z; omega)
          have hCm26 : fm_TC a0 am26 n 1808 (nI ko13) := by rw [ham26]; rw [show (3846 + (6 * n)) + 2 = 3848 + 6 * n by omega]; exact fm_TC_2 hCt24 (by omega) (by omega)
          have h8m26 : am26 8 = a 8 := (congrFun ham26 8).trans ((fm_ut (by decide)).trans h8t24)
          exact fe_ret ⟨_, _, _, _, _, _, _, gom26, hCm26, h8m26, Or.inr ⟨rfl, e18m26, fm_ro_c (by rw [nI_i32 (by omega)]; omega) (by rw [nI_i32 (by omega)]; omega) (by decide)⟩, rfl⟩ (by rfl) (by rfl) (by rfl)
  · refine fe_s 3 (pc' := 10) (lc' := [(2, .int 9), (0, .ref 0), (1, .int (nI (3846 + (6 * n))))]) (stk' := [.int 8, .int 9]) (mem' := fm g tp bt a b) (by intro _ _ _; eq_refl) ?_
    refine fe_s 1 (pc' := cond (fx_cb .eq 9 8) 31 13) (lc' := [(2, .int 9), (0, .ref 0), (1, .int (nI (3846 + (6 * n))))]) (stk' := []) (mem' := fm g tp bt a b) (by intro _ _ _; eq_refl) ?_
    rw [show (fx_cb .eq 9 8) = false from by decide]
    dsimp only [cond]
    refine fe_s 2 (pc' := 16) (lc' := [(2, .int 9), (0, .ref 0), (1, .int (nI (3846 + (6 * n))))]) (stk' := [.int 10, .int 9]) (mem' := fm g tp bt a b) (by intro _ _ _; eq_refl) ?_
    refine fe_s 1 (pc' := cond (fx_cb .eq 9 10) 31 19) (lc' := [(2, .int 9), (0, .ref 0), (1, .int (nI (3846 + (6 * n))))]) (stk' := []) (mem' := fm g tp bt a b) (by intro _ _ _; eq_refl) ?_
    rw [show (fx_cb .eq 9 10) = false from by decide]
    dsimp only [cond]
    refine fe_s 2 (pc' := 22) (lc' := [(2, .int 9), (0, .ref 0), (1, .int (nI (3846 + (6 * n))))]) (stk' := [.int 22, .int 9]) (mem' := fm g tp bt a b) (by intro _ _ _; eq_refl) ?_
    refine fe_s 1 (pc' := cond (fx_cb .eq 9 22) 31 25) (lc' := [(2, .int 9), (0, .ref 0), (1, .int (nI (3846 + (6 * n))))]) (stk' := []) (mem' := fm g tp bt a b) (by intro _ _ _; eq_refl) ?_
    rw [show (fx_cb .eq 9 22) = false from by decide]
    dsimp only [cond]
    refine fe_s 2 (pc' := 27) (lc' := [(2, .int 9), (0, .ref 0), (1, .int (nI (3846 + (6 * n))))]) (stk' := [.int 2, .ref 0]) (mem' := fm g tp bt a b) (by intro _ _ _; eq_refl) ?_
    obtain ⟨gf27, hfrf27, hof27, hzf27⟩ := fr_failsq (x := 2) (g := g) (tp := tp) (bt := bt) (a := a) (b := b) (by omega) (by omega) (fm_go_rf hxp hfl).2.1 (fm_go_rf hxp hfl).2.2.1
    have gof27 := fm_go_tr (fm_go_rf hxp hfl) hof27
    refine fe_ivV hfrf27 (by omega) (by rfl) (by rfl) (by rfl) (by rfl) (by rfl) (by rfl) ?_
    exact fe_ret ⟨_, _, _, _, _, _, _, gof27, hC, rfl, Or.inl ⟨rfl, hzf27⟩, rfl⟩ (by rfl) (by rfl) (by rfl)
  · refine fe_s 3 (pc' := 10) (lc' := [(2, .int 10), (0, .ref 0), (1, .int (nI (3846 + (6 * n))))]) (stk' := [.int 8, .int 10]) (mem' := fm g tp bt a b) (by intro _ _ _; eq_refl) ?_
    refine fe_s 1 (pc' := cond (fx_cb .eq 10 8) 31 13) (lc' := [(2, .int 10), (0, .ref 0), (1, .int (nI (3846 + (6 * n))))]) (stk' := []) (mem' := fm g tp bt a b) (by intro _ _ _; eq_refl) ?_
    rw [show (fx_cb .eq 10 8) = false from by decide]
    dsimp only [cond]
    refine fe_s 2 (pc' := 16) (lc' := [(2, .int 10), (0, .ref 0), (1, .int (nI (3846 + (6 * n))))]) (stk' := [.int 10, .int 10]) (mem' := fm g tp bt a b) (by intro _ _ _; eq_refl) ?_
    refine fe_s 1 (pc' := cond (fx_cb .eq 10 10) 31 19) (lc' := [(2, .int 10), (0, .ref 0), (1, .int (nI (3846 + (6 * n))))]) (stk' := []) (mem' := fm g tp bt a b) (by intro _ _ _; eq_refl) ?_
    rw [show (fx_cb .eq 10 10) = true from by decide]
    dsimp only [cond]
    refine fe_s 6 (pc' := 41) (lc' := [(2, .int 10), (0, .ref 0), (1, .int (nI (3846 + (6 * n))))]) (stk' := [.int (1800 + 10), .int (nI (3846 + (6 * n))), .ref 1]) (mem' := fm g tp bt a b) (by intro _ _ _; eq_refl) ?_
    rw [show (1800 + 10 : Int32) = 1810 from rfl]
    refine fe_stI (mem' := fm g tp bt (fm_u a 1 (nI (3846 + (6 * n)) : Int32).toNatClampNeg 1810) b) (by rfl) (by rfl) (fx_inN (i := 3846 + (6 * n)) (by have := hC.2.2.2.2.2.2.2.1; omega) (by omega)) fm_si1 ?_
    rw [show Int32.toNatClampNeg (nI (3846 + (6 * n))) = 3846 + (6 * n) from nI_clamp (by have := hC.2.2.2.2.2.2.2.1; omega)]
    obtain ⟨at28, hat28⟩ : ∃ z, z = fm_u a 1 (3846 + (6 * n)) 1810 := ⟨_, rfl⟩
    rw [← hat28]
    have hCt28 : fm_TC a0 at28 n 1810 0 := by rw [hat28]; rw [show 3846 + (6 * n) = 3846 + 6 * n by omega]; exact fm_TC_0 hC (by decide) (by decide)
    have h8t28 : at28 8 = a 8 := (congrFun hat28 8).trans ((fm_ut (by decide)).trans rfl)
    refine fe_s 1 (pc' := 43) (lc' := [(2, .int 10), (0, .ref 0), (1, .int (nI (3846 + (6 * n))))]) (stk' := [.ref 0]) (mem' := fm g tp bt at28 b) (by intro _ _ _; eq_refl) ?_
    obtain ⟨gk29, Ek29, Fk29, hfrk29, hok29, hek29, hpk29⟩ := fr_aheadq (g := g) (tp := tp) (bt := bt) (a := at28) (b := b) (fm_go_rf hxp hfl).2.1 (fm_go_rf hxp hfl).2.2.1
    have gok29 := fm_go_tr (fm_go_rf hxp hfl) hok29
    have e18k29 : gk29 18 = g 18 := hek29.trans rfl
    have prk29 : gk29 12 = 0 ∨ E < Ek29 := hpk29.imp id (fun z => by have := (fm_go_rf hxp hfl).2.2.2; omega)
    refine fe_ivV hfrk29 (by omega) (by rfl) (by rfl) (by rfl) (by rfl) (by rfl) (by rfl) ?_
    refine fe_s 2 (pc' := 49) (lc' := [(2, .int 10), (0, .ref 0), (1, .int (nI (3846 + (6 * n))))]) (stk' := [.int 22, .int 10]) (mem' := fm gk29 tp bt at28 b) (by intro _ _ _; eq_refl) ?_
    refine fe_s 1 (pc' := cond (fx_cb .ne 10 22) 60 52) (lc' := [(2, .int 10), (0, .ref 0), (1, .int (nI (3846 + (6 * n))))]) (stk' := []) (mem' := fm gk29 tp bt at28 b) (by intro _ _ _; eq_refl) ?_
    rw [show (fx_cb .ne 10 22) = true from by decide]
    dsimp only [cond]
    refine fe_s 2 (pc' := 63) (lc' := [(2, .int 10), (0, .ref 0), (1, .int (nI (3846 + (6 * n))))]) (stk' := [.int 10, .int 10]) (mem' := fm gk29 tp bt at28 b) (by intro _ _ _; eq_refl) ?_
    refine fe_s 1 (pc' := cond (fx_cb .ne 10 10) 103 66) (lc' := [(2, .int 10), (0, .ref 0), (1, .int (nI (3846 + (6 * n))))]) (stk' := []) (mem' := fm gk29 tp bt at28 b) (by intro _ _ _; eq_refl) ?_
    rw [show (fx_cb .ne 10 10) = false from by decide]
    dsimp only [cond]
    refine fe_s 4 (pc' := 70) (lc' := [(2, .int 10), (0, .ref 0), (1, .int (nI (3846 + (6 * n))))]) (stk' := [.int ((nI (3846 + (6 * n))) + 1), .ref 0]) (mem' := fm gk29 tp bt at28 b) (by intro _ _ _; eq_refl) ?_
    rw [show ((nI (3846 + (6 * n))) + 1 : Int32) = nI ((3846 + (6 * n)) + 1) from by simp only [show (1 : Int32) = nI 1 from rfl, nI_add, fm_mul]]
    obtain ⟨vo30, memo30, ⟨xo30, go30, Eo30, Fo30, ao30, hoo30, hvo30, hRo30⟩, hfro30⟩ := fr_walkerTo (T := (3846 + (6 * n)) + 1) (g := gk29) (tp := tp) (bt := bt) (a := at28) (b := b) gok29.2.1 gok29.2.2.1 (by have := hCt28.2.2.2.2.2.2.2.1; omega) ((f1 hCt28).trans hH.2.2.1) hH.2.2.2
    cases hRo30
    have goo30 := fm_go_tr gok29 hoo30
    refine fe_ivV hfro30 (by omega) (by rfl) (by rfl) (by rfl) (by rfl) (by rfl) (by rfl) ?_
    rcases hvo30 with ⟨rfl, hzo30, hao30⟩ | ⟨rfl, heo30, hpo30, ko30, hko30, hao30⟩
    · obtain ⟨yo30, hCo30⟩ : ∃ y, fm_TC a0 ao30 n 1810 y := by
        rcases hao30 with e | e
        · exact ⟨_, by rw [e]; exact hCt28⟩
        · exact ⟨_, by rw [e, show (3846 + (6 * n)) + 1 = 3847 + 6 * n by omega]; exact fm_TC_1 hCt28 (by decide) (by decide)⟩
      have h8o30 : ao30 8 = a 8 := hao30.elim (fun e => (congrFun e 8).trans h8t28) (fun e => (congrFun e 8).trans ((fm_ut (by decide)).trans h8t28))
      refine fe_s 1 (pc' := cond (fx_cb .eq 0 0) 101 76) (lc' := [(2, .int 10), (0, .ref 0), (1, .int (nI (3846 + (6 * n))))]) (stk' := []) (mem' := fm go30 tp bt ao30 b) (by intro _ _ _; eq_refl) ?_
      rw [show (fx_cb .eq 0 0) = true from by decide]
      dsimp only [cond]
      refine fe_s 1 (pc' := 102) (lc' := [(2, .int 10), (0, .ref 0), (1, .int (nI (3846 + (6 * n))))]) (stk' := [.int 0]) (mem' := fm go30 tp bt ao30 b) (by intro _ _ _; eq_refl) ?_
      exact fe_ret ⟨_, _, _, _, _, _, _, goo30, hCo30, h8o30, Or.inl ⟨rfl, hzo30⟩, rfl⟩ (by rfl) (by rfl) (by rfl)
    · have e18o30 : go30 18 = g 18 := heo30.trans e18k29
      have pro30 : go30 12 = 0 ∨ E < Eo30 := hpo30.imp id (fun z => by have := gok29.2.2.2; omega)
      have hk9o30 : ko30 < 8 := by have := hH.2.2.2; omega
      have hCo30 : fm_TC a0 ao30 n 1810 (nI ko30) := by rw [hao30]; rw [show (3846 + (6 * n)) + 1 = 3847 + 6 * n by omega]; exact fm_TC_1 hCt28 (by rw [nI_i32 (by omega)]; omega) (by rw [nI_i32 (by omega)]; omega)
      have h8o30 : ao30 8 = a 8 := (congrFun hao30 8).trans ((fm_ut (by decide)).trans h8t28)
      refine fe_s 1 (pc' := cond (fx_cb .eq 1 0) 101 76) (lc' := [(2, .int 10), (0, .ref 0), (1, .int (nI (3846 + (6 * n))))]) (stk' := []) (mem' := fm go30 tp bt ao30 b) (by intro _ _ _; eq_refl) ?_
      rw [show (fx_cb .eq 1 0) = false from by decide]
      dsimp only [cond]
      refine fe_s 3 (pc' := 81) (lc' := [(2, .int 10), (0, .ref 0), (1, .int (nI (3846 + (6 * n))))]) (stk' := [.int 17, .ref 22, .ref 0]) (mem' := fm go30 tp bt ao30 b) (by intro _ _ _; eq_refl) ?_
      obtain ⟨xc31, gc31, Ec31, Fc31, hfrc31, hoc31, hvc31⟩ := fr_wantWordq (k := 17) (g := go30) (tp := tp) (bt := bt) (a := ao30) (b := b) goo30.2.1 goo30.2.2.1
      have goc31 := fm_go_tr goo30 hoc31
      refine fe_ivV hfrc31 (by omega) (by rfl) (by rfl) (by rfl) (by rfl) (by rfl) (by rfl) ?_
      rcases hvc31 with ⟨rfl, hzc31⟩ | ⟨rfl, hec31, hpc31⟩
      · refine fe_s 1 (pc' := cond (fx_cb .eq 0 0) 101 87) (lc' := [(2, .int 10), (0, .ref 0), (1, .int (nI (3846 + (6 * n))))]) (stk' := []) (mem' := fm gc31 tp bt ao30 b) (by intro _ _ _; eq_refl) ?_
        rw [show (fx_cb .eq 0 0) = true from by decide]
        dsimp only [cond]
        refine fe_s 1 (pc' := 102) (lc' := [(2, .int 10), (0, .ref 0), (1, .int (nI (3846 + (6 * n))))]) (stk' := [.int 0]) (mem' := fm gc31 tp bt ao30 b) (by intro _ _ _; eq_refl) ?_
        exact fe_ret ⟨_, _, _, _, _, _, _, goc31, hCo30, h8o30, Or.inl ⟨rfl, hzc31⟩, rfl⟩ (by rfl) (by rfl) (by rfl)
      · have e18c31 : gc31 18 = g 18 := hec31.trans e18o30
        have prc31 : gc31 12 = 0 ∨ E < Ec31 := hpc31.imp id (fun z => by have := goo30.2.2.2; omega)
        refine fe_s 1 (pc' := cond (fx_cb .eq 1 0) 101 87) (lc' := [(2, .int 10), (0, .ref 0), (1, .int (nI (3846 + (6 * n))))]) (stk' := []) (mem' := fm gc31 tp bt ao30 b) (by intro _ _ _; eq_refl) ?_
        rw [show (fx_cb .eq 1 0) = false from by decide]
        dsimp only [cond]
        refine fe_s 4 (pc' := 91) (lc' := [(2, .int 10), (0, .ref 0), (1, .int (nI (3846 + (6 * n))))]) (stk' := [.int ((nI (3846 + (6 * n))) + 2), .ref 0]) (mem' := fm gc31 tp bt ao30 b) (by intro _ _ _; eq_refl) ?_
        rw [show ((nI (3846 + (6 * n))) + 2 : Int32) = nI ((3846 + (6 * n)) + 2) from by simp only [show (2 : Int32) = nI 2 from rfl, nI_add, fm_mul]]
        obtain ⟨vo32, memo32, ⟨xo32, go32, Eo32, Fo32, ao32, hoo32, hvo32, hRo32⟩, hfro32⟩ := fr_cellTo (T := (3846 + (6 * n)) + 2) (g := gc31) (tp := tp) (bt := bt) (a := ao30) (b := b) goc31.2.1 goc31.2.2.1 (by have := hCo30.2.2.2.2.2.2.2.1; omega) ((f0 hCo30).trans hH.1) hH.2.1
        cases hRo32
        have goo32 := fm_go_tr goc31 hoo32
        refine fe_ivV hfro32 (by omega) (by rfl) (by rfl) (by rfl) (by rfl) (by rfl) (by rfl) ?_
        rcases hvo32 with ⟨rfl, hzo32, hao32⟩ | ⟨rfl, heo32, hpo32, ko32, hko32, hao32⟩
        · obtain ⟨yo32, hCo32⟩ : ∃ y, fm_TC a0 ao32 n 1810 y := by
            rcases hao32 with e | e
            · exact ⟨_, by rw [e]; exact hCo30⟩
            · exact ⟨_, by rw [e, show (3846 + (6 * n)) + 2 = 3848 + 6 * n by omega]; exact fm_TC_2 hCo30 (by decide) (by decide)⟩
          have h8o32 : ao32 8 = a 8 := hao32.elim (fun e => (congrFun e 8).trans h8o30) (fun e => (congrFun e 8).trans ((fm_ut (by decide)).trans h8o30))
          refine fe_s 1 (pc' := cond (fx_cb .eq 0 0) 101 97) (lc' := [(2, .int 10), (0, .ref 0), (1, .int (nI (3846 + (6 * n))))]) (stk' := []) (mem' := fm go32 tp bt ao32 b) (by intro _ _ _; eq_refl) ?_
          rw [show (fx_cb .eq 0 0) = true from by decide]
          dsimp only [cond]
          refine fe_s 1 (pc' := 102) (lc' := [(2, .int 10), (0, .ref 0), (1, .int (nI (3846 + (6 * n))))]) (stk' := [.int 0]) (mem' := fm go32 tp bt ao32 b) (by intro _ _ _; eq_refl) ?_
          exact fe_ret ⟨_, _, _, _, _, _, _, goo32, hCo32, h8o32, Or.inl ⟨rfl, hzo32⟩, rfl⟩ (by rfl) (by rfl) (by rfl)
        · have e18o32 : go32 18 = g 18 := heo32.trans e18c31
          have pro32 : go32 12 = 0 ∨ E < Eo32 := hpo32.imp id (fun z => by have := goc31.2.2.2; omega)
          have hk9o32 : ko32 < 10 := by have := hH.2.1; omega
          have hCo32 : fm_TC a0 ao32 n 1810 (nI ko30) := by rw [hao32]; rw [show (3846 + (6 * n)) + 2 = 3848 + 6 * n by omega]; exact fm_TC_2 hCo30 (by rw [nI_i32 (by omega)]; omega) (by rw [nI_i32 (by omega)]; omega)
          have h8o32 : ao32 8 = a 8 := (congrFun hao32 8).trans ((fm_ut (by decide)).trans h8o30)
          refine fe_s 1 (pc' := cond (fx_cb .eq 1 0) 101 97) (lc' := [(2, .int 10), (0, .ref 0), (1, .int (nI (3846 + (6 * n))))]) (stk' := []) (mem' := fm go32 tp bt ao32 b) (by intro _ _ _; eq_refl) ?_
          rw [show (fx_cb .eq 1 0) = false from by decide]
          dsimp only [cond]
          refine fe_s 2 (pc' := 102) (lc' := [(2, .int 10), (0, .ref 0), (1, .int (nI (3846 + (6 * n))))]) (stk' := [.int 1]) (mem' := fm go32 tp bt ao32 b) (by intro _ _ _; eq_refl) ?_
          exact fe_ret ⟨_, _, _, _, _, _, _, goo32, hCo32, h8o32, Or.inr ⟨rfl, e18o32, fm_ro_w (by rw [nI_i32 (by omega)]; omega) (by rw [nI_i32 (by omega)]; omega)⟩, rfl⟩ (by rfl) (by rfl) (by rfl)
  · refine fe_s 3 (pc' := 10) (lc' := [(2, .int 11), (0, .ref 0), (1, .int (nI (3846 + (6 * n))))]) (stk' := [.int 8, .int 11]) (mem' := fm g tp bt a b) (by intro _ _ _; eq_refl) ?_
    refine fe_s 1 (pc' := cond (fx_cb .eq 11 8) 31 13) (lc' := [(2, .int 11), (0, .ref 0), (1, .int (nI (3846 + (6 * n))))]) (stk' := []) (mem' := fm g tp bt a b) (by intro _ _ _; eq_refl) ?_
    rw [show (fx_cb .eq 11 8) = false from by decide]
    dsimp only [cond]
    refine fe_s 2 (pc' := 16) (lc' := [(2, .int 11), (0, .ref 0), (1, .int (nI (3846 + (6 * n))))]) (stk' := [.int 10, .int 11]) (mem' := fm g tp bt a b) (by intro _ _ _; eq_refl) ?_
    refine fe_s 1 (pc' := cond (fx_cb .eq 11 10) 31 19) (lc' := [(2, .int 11), (0, .ref 0), (1, .int (nI (3846 + (6 * n))))]) (stk' := []) (mem' := fm g tp bt a b) (by intro _ _ _; eq_refl) ?_
    rw [show (fx_cb .eq 11 10) = false from by decide]
    dsimp only [cond]
    refine fe_s 2 (pc' := 22) (lc' := [(2, .int 11), (0, .ref 0), (1, .int (nI (3846 + (6 * n))))]) (stk' := [.int 22, .int 11]) (mem' := fm g tp bt a b) (by intro _ _ _; eq_refl) ?_
    refine fe_s 1 (pc' := cond (fx_cb .eq 11 22) 31 25) (lc' := [(2, .int 11), (0, .ref 0), (1, .int (nI (3846 + (6 * n))))]) (stk' := []) (mem' := fm g tp bt a b) (by intro _ _ _; eq_refl) ?_
    rw [show (fx_cb .eq 11 22) = false from by decide]
    dsimp only [cond]
    refine fe_s 2 (pc' := 27) (lc' := [(2, .int 11), (0, .ref 0), (1, .int (nI (3846 + (6 * n))))]) (stk' := [.int 2, .ref 0]) (mem' := fm g tp bt a b) (by intro _ _ _; eq_refl) ?_
    obtain ⟨gf33, hfrf33, hof33, hzf33⟩ := fr_failsq (x := 2) (g := g) (tp := tp) (bt := bt) (a := a) (b := b) (by omega) (by omega) (fm_go_rf hxp hfl).2.1 (fm_go_rf hxp hfl).2.2.1
    have gof33 := fm_go_tr (fm_go_rf hxp hfl) hof33
    refine fe_ivV hfrf33 (by omega) (by rfl) (by rfl) (by rfl) (by rfl) (by rfl) (by rfl) ?_
    exact fe_ret ⟨_, _, _, _, _, _, _, gof33, hC, rfl, Or.inl ⟨rfl, hzf33⟩, rfl⟩ (by rfl) (by rfl) (by rfl)
  · refine fe_s 3 (pc' := 10) (lc' := [(2, .int 12), (0, .ref 0), (1, .int (nI (3846 + (6 * n))))]) (stk' := [.int 8, .int 12]) (mem' := fm g tp bt a b) (by intro _ _ _; eq_refl) ?_
    refine fe_s 1 (pc' := cond (fx_cb .eq 12 8) 31 13) (lc' := [(2, .int 12), (0, .ref 0), (1, .int (nI (3846 + (6 * n))))]) (stk' := []) (mem' := fm g tp bt a b) (by intro _ _ _; eq_refl) ?_
    rw [show (fx_cb .eq 12 8) = false from by decide]
    dsimp only [cond]
    refine fe_s 2 (pc' := 16) (lc' := [(2, .int 12), (0, .ref 0), (1, .int (nI (3846 + (6 * n))))]) (stk' := [.int 10, .int 12]) (mem' := fm g tp bt a b) (by intro _ _ _; eq_refl) ?_
    refine fe_s 1 (pc' := cond (fx_cb .eq 12 10) 31 19) (lc' := [(2, .int 12), (0, .ref 0), (1, .int (nI (3846 + (6 * n))))]) (stk' := []) (mem' := fm g tp bt a b) (by intro _ _ _; eq_refl) ?_
    rw [show (fx_cb .eq 12 10) = false from by decide]
    dsimp only [cond]
    refine fe_s 2 (pc' := 22) (lc' := [(2, .int 12), (0, .ref 0), (1, .int (nI (3846 + (6 * n))))]) (stk' := [.int 22, .int 12]) (mem' := fm g tp bt a b) (by intro _ _ _; eq_refl) ?_
    refine fe_s 1 (pc' := cond (fx_cb .eq 12 22) 31 25) (lc' := [(2, .int 12), (0, .ref 0), (1, .int (nI (3846 + (6 * n))))]) (stk' := []) (mem' := fm g tp bt a b) (by intro _ _ _; eq_refl) ?_
    rw [show (fx_cb .eq 12 22) = false from by decide]
    dsimp only [cond]
    refine fe_s 2 (pc' := 27) (lc' := [(2, .int 12), (0, .ref 0), (1, .int (nI (3846 + (6 * n))))]) (stk' := [.int 2, .ref 0]) (mem' := fm g tp bt a b) (by intro _ _ _; eq_refl) ?_
    obtain ⟨gf34, hfrf34, hof34, hzf34⟩ := fr_failsq (x := 2) (g := g) (tp := tp) (bt := bt) (a := a) (b := b) (by omega) (by omega) (fm_go_rf hxp hfl).2.1 (fm_go_rf hxp hfl).2.2.1
    have gof34 := fm_go_tr (fm_go_rf hxp hfl) hof34
    refine fe_ivV hfrf34 (by omega) (by rfl) (by rfl) (by rfl) (by rfl) (by rfl) (by rfl) ?_
    exact fe_ret ⟨_, _, _, _, _, _, _, gof34, hC, rfl, Or.inl ⟨rfl, hzf34⟩, rfl⟩ (by rfl) (by rfl) (by rfl)
  · refine fe_s 3 (pc' := 10) (lc' := [(2, .int 13), (0, .ref 0), (1, .int (nI (3846 + (6 * n))))]) (stk' := [.int 8, .int 13]) (mem' := fm g tp bt a b) (by intro _ _ _; eq_refl) ?_
    refine fe_s 1 (pc' := cond (fx_cb .eq 13 8) 31 13) (lc' := [(2, .int 13), (0, .ref 0), (1, .int (nI (3846 + (6 * n))))]) (stk' := []) (mem' := fm g tp bt a b) (by intro _ _ _; eq_refl) ?_
    rw [show (fx_cb .eq 13 8) = false from by decide]
    dsimp only [cond]
    refine fe_s 2 (pc' := 16) (lc' := [(2, .int 13), (0, .ref 0), (1, .int (nI (3846 + (6 * n))))]) (stk' := [.int 10, .int 13]) (mem' := fm g tp bt a b) (by intro _ _ _; eq_refl) ?_
    refine fe_s 1 (pc' := cond (fx_cb .eq 13 10) 31 19) (lc' := [(2, .int 13), (0, .ref 0), (1, .int (nI (3846 + (6 * n))))]) (stk' := []) (mem' := fm g tp bt a b) (by intro _ _ _; eq_refl) ?_
    rw [show (fx_cb .eq 13 10) = false from by decide]
    dsimp only [cond]
    refine fe_s 2 (pc' := 22) (lc' := [(2, .int 13), (0, .ref 0), (1, .int (nI (3846 + (6 * n))))]) (stk' := [.int 22, .int 13]) (mem' := fm g tp bt a b) (by intro _ _ _; eq_refl) ?_
    refine fe_s 1 (pc' := cond (fx_cb .eq 13 22) 31 25) (lc' := [(2, .int 13), (0, .ref 0), (1, .int (nI (3846 + (6 * n))))]) (stk' := []) (mem' := fm g tp bt a b) (by intro _ _ _; eq_refl) ?_
    rw [show (fx_cb .eq 13 22) = false from by decide]
    dsimp only [cond]
    refine fe_s 2 (pc' := 27) (lc' := [(2, .int 13), (0, .ref 0), (1, .int (nI (3846 + (6 * n))))]) (stk' := [.int 2, .ref 0]) (mem' := fm g tp bt a b) (by intro _ _ _; eq_refl) ?_
    obtain ⟨gf35, hfrf35, hof35, hzf35⟩ := fr_failsq (x := 2) (g := g) (tp := tp) (bt := bt) (a := a) (b := b) (by omega) (by omega) (fm_go_rf hxp hfl).2.1 (fm_go_rf hxp hfl).2.2.1
    have gof35 := fm_go_tr (fm_go_rf hxp hfl) hof35
    refine fe_ivV hfrf35 (by omega) (by rfl) (by rfl) (by rfl) (by rfl) (by rfl) (by rfl) ?_
    exact fe_ret ⟨_, _, _, _, _, _, _, gof35, hC, rfl, Or.inl ⟨rfl, hzf35⟩, rfl⟩ (by rfl) (by rfl) (by rfl)
  · refine fe_s 3 (pc' := 10) (lc' := [(2, .int 14), (0, .ref 0), (1, .int (nI (3846 + (6 * n))))]) (stk' := [.int 8, .int 14]) (mem' := fm g tp bt a b) (by intro _ _ _; eq_refl) ?_
    refine fe_s 1 (pc' := cond (fx_cb .eq 14 8) 31 13) (lc' := [(2, .int 14), (0, .ref 0), (1, .int (nI (3846 + (6 * n))))]) (stk' := []) (mem' := fm g tp bt a b) (by intro _ _ _; eq_refl) ?_
    rw [show (fx_cb .eq 14 8) = false from by decide]
    dsimp only [cond]
    refine fe_s 2 (pc' := 16) (lc' := [(2, .int 14), (0, .ref 0), (1, .int (nI (3846 + (6 * n))))]) (stk' := [.int 10, .int 14]) (mem' := fm g tp bt a b) (by intro _ _ _; eq_refl) ?_
    refine fe_s 1 (pc' := cond (fx_cb .eq 14 10) 31 19) (lc' := [(2, .int 14), (0, .ref 0), (1, .int (nI (3846 + (6 * n))))]) (stk' := []) (mem' := fm g tp bt a b) (by intro _ _ _; eq_refl) ?_
    rw [show (fx_cb .eq 14 10) = false from by decide]
    dsimp only [cond]
    refine fe_s 2 (pc' := 22) (lc' := [(2, .int 14), (0, .ref 0), (1, .int (nI (3846 + (6 * n))))]) (stk' := [.int 22, .int 14]) (mem' := fm g tp bt a b) (by intro _ _ _; eq_refl) ?_
    refine fe_s 1 (pc' := cond (fx_cb .eq 14 22) 31 25) (lc' := [(2, .int 14), (0, .ref 0), (1, .int (nI (3846 + (6 * n))))]) (stk' := []) (mem' := fm g tp bt a b) (by intro _ _ _; eq_refl) ?_
    rw [show (fx_cb .eq 14 22) = false from by decide]
    dsimp only [cond]
    refine fe_s 2 (pc' := 27) (lc' := [(2, .int 14), (0, .ref 0), (1, .int (nI (3846 + (6 * n))))]) (stk' := [.int 2, .ref 0]) (mem' := fm g tp bt a b) (by intro _ _ _; eq_refl) ?_
    obtain ⟨gf36, hfrf36, hof36, hzf36⟩ := fr_failsq (x := 2) (g := g) (tp := tp) (bt := bt) (a := a) (b := b) (by omega) (by omega) (fm_go_rf hxp hfl).2.1 (fm_go_rf hxp hfl).2.2.1
    have gof36 := fm_go_tr (fm_go_rf hxp hfl) hof36
    refine fe_ivV hfrf36 (by omega) (by rfl) (by rfl) (by rfl) (by rfl) (by rfl) (by rfl) ?_
    exact fe_ret ⟨_, _, _, _, _, _, _, gof36, hC, rfl, Or.inl ⟨rfl, hzf36⟩, rfl⟩ (by rfl) (by rfl) (by rfl)
  · refine fe_s 3 (pc' := 10) (lc' := [(2, .int 15), (0, .ref 0), (1, .int (nI (3846 + (6 * n))))]) (stk' := [.int 8, .int 15]) (mem' := fm g tp bt a b) (by intro _ _ _; eq_refl) ?_
    refine fe_s 1 (pc' := cond (fx_cb .eq 15 8) 31 13) (lc' := [(2, .int 15), (0, .ref 0), (1, .int (nI (3846 + (6 * n))))]) (stk' := []) (mem' := fm g tp bt a b) (by intro _ _ _; eq_refl) ?_
    rw [show (fx_cb .eq 15 8) = false from by decide]
    dsimp only [cond]
    refine fe_s 2 (pc' := 16) (lc' := [(2, .int 15), (0, .ref 0), (1, .int (nI (3846 + (6 * n))))]) (stk' := [.int 10, .int 15]) (mem' := fm g tp bt a b) (by intro _ _ _; eq_refl) ?_
    refine fe_s 1 (pc' := cond (fx_cb .eq 15 10) 31 19) (lc' := [(2, .int 15), (0, .ref 0), (1, .int (nI (3846 + (6 * n))))]) (stk' := []) (mem' := fm g tp bt a b) (by intro _ _ _; eq_refl) ?_
    rw [show (fx_cb .eq 15 10) = false from by decide]
    dsimp only [cond]
    refine fe_s 2 (pc' := 22) (lc' := [(2, .int 15), (0, .ref 0), (1, .int (nI (3846 + (6 * n))))]) (stk' := [.int 22, .int 15]) (mem' := fm g tp bt a b) (by intro _ _ _; eq_refl) ?_
    refine fe_s 1 (pc' := cond (fx_cb .eq 15 22) 31 25) (lc' := [(2, .int 15), (0, .ref 0), (1, .int (nI (3846 + (6 * n))))]) (stk' := []) (mem' := fm g tp bt a b) (by intro _ _ _; eq_refl) ?_
    rw [show (fx_cb .eq 15 22) = false from by decide]
    dsimp only [cond]
    refine fe_s 2 (pc' := 27) (lc' := [(2, .int 15), (0, .ref 0), (1, .int (nI (3846 + (6 * n))))]) (stk' := [.int 2, .ref 0]) (mem' := fm g tp bt a b) (by intro _ _ _; eq_refl) ?_
    obtain ⟨gf37, hfrf37, hof37, hzf37⟩ := fr_failsq (x := 2) (g := g) (tp := tp) (bt := bt) (a := a) (b := b) (by omega) (by omega) (fm_go_rf hxp hfl).2.1 (fm_go_rf hxp hfl).2.2.1
    have gof37 := fm_go_tr (fm_go_rf hxp hfl) hof37
    refine fe_ivV hfrf37 (by omega) (by rfl) (by rfl) (by rfl) (by rfl) (by rfl) (by rfl) ?_
    exact fe_ret ⟨_, _, _, _, _, _, _, gof37, hC, rfl, Or.inl ⟨rfl, hzf37⟩, rfl⟩ (by rfl) (by rfl) (by rfl)
  · refine fe_s 3 (pc' := 10) (lc' := [(2, .int 16), (0, .ref 0), (1, .int (nI (3846 + (6 * n))))]) (stk' := [.int 8, .int 16]) (mem' := fm g tp bt a b) (by intro _ _ _; eq_refl) ?_
    refine fe_s 1 (pc' := cond (fx_cb .eq 16 8) 31 13) (lc' := [(2, .int 16), (0, .ref 0), (1, .int (nI (3846 + (6 * n))))]) (stk' := []) (mem' := fm g tp bt a b) (by intro _ _ _; eq_refl) ?_
    rw [show (fx_cb .eq 16 8) = false from by decide]
    dsimp only [cond]
    refine fe_s 2 (pc' := 16) (lc' := [(2, .int 16), (0, .ref 0), (1, .int (nI (3846 + (6 * n))))]) (stk' := [.int 10, .int 16]) (mem' := fm g tp bt a b) (by intro _ _ _; eq_refl) ?_
    refine fe_s 1 (pc' := cond (fx_cb .eq 16 10) 31 19) (lc' := [(2, .int 16), (0, .ref 0), (1, .int (nI (3846 + (6 * n))))]) (stk' := []) (mem' := fm g tp bt a b) (by intro _ _ _; eq_refl) ?_
    rw [show (fx_cb .eq 16 10) = false from by decide]
    dsimp only [cond]
    refine fe_s 2 (pc' := 22) (lc' := [(2, .int 16), (0, .ref 0), (1, .int (nI (3846 + (6 * n))))]) (stk' := [.int 22, .int 16]) (mem' := fm g tp bt a b) (by intro _ _ _; eq_refl) ?_
    refine fe_s 1 (pc' := cond (fx_cb .eq 16 22) 31 25) (lc' := [(2, .int 16), (0, .ref 0), (1, .int (nI (3846 + (6 * n))))]) (stk' := []) (mem' := fm g tp bt a b) (by intro _ _ _; eq_refl) ?_
    rw [show (fx_cb .eq 16 22) = false from by decide]
    dsimp only [cond]
    refine fe_s 2 (pc' := 27) (lc' := [(2, .int 16), (0, .ref 0), (1, .int (nI (3846 + (6 * n))))]) (stk' := [.int 2, .ref 0]) (mem' := fm g tp bt a b) (by intro _ _ _; eq_refl) ?_
    obtain ⟨gf38, hfrf38, hof38, hzf38⟩ := fr_failsq (x := 2) (g := g) (tp := tp) (bt := bt) (a := a) (b := b) (by omega) (by omega) (fm_go_rf hxp hfl).2.1 (fm_go_rf hxp hfl).2.2.1
    have gof38 := fm_go_tr (fm_go_rf hxp hfl) hof38
    refine fe_ivV hfrf38 (by omega) (by rfl) (by rfl) (by rfl) (by rfl) (by rfl) (by rfl) ?_
    exact fe_ret ⟨_, _, _, _, _, _, _, gof38, hC, rfl, Or.inl ⟨rfl, hzf38⟩, rfl⟩ (by rfl) (by rfl) (by rfl)
  · refine fe_s 3 (pc' := 10) (lc' := [(2, .int 17), (0, .ref 0), (1, .int (nI (3846 + (6 * n))))]) (stk' := [.int 8, .int 17]) (mem' := fm g tp bt a b) (by intro _ _ _; eq_refl) ?_
    refine fe_s 1 (pc' := cond (fx_cb .eq 17 8) 31 13) (lc' := [(2, .int 17), (0, .ref 0), (1, .int (nI (3846 + (6 * n))))]) (stk' := []) (mem' := fm g tp bt a b) (by intro _ _ _; eq_refl) ?_
    rw [show (fx_cb .eq 17 8) = false from by decide]
    dsimp only [cond]
    refine fe_s 2 (pc' := 16) (lc' := [(2, .int 17), (0, .ref 0), (1, .int (nI (3846 + (6 * n))))]) (stk' := [.int 10, .int 17]) (mem' := fm g tp bt a b) (by intro _ _ _; eq_refl) ?_
    refine fe_s 1 (pc' := cond (fx_cb .eq 17 10) 31 19) (lc' := [(2, .int 17), (0, .ref 0), (1, .int (nI (3846 + (6 * n))))]) (stk' := []) (mem' := fm g tp bt a b) (by intro _ _ _; eq_refl) ?_
    rw [show (fx_cb .eq 17 10) = false from by decide]
    dsimp only [cond]
    refine fe_s 2 (pc' := 22) (lc' := [(2, .int 17), (0, .ref 0), (1, .int (nI (3846 + (6 * n))))]) (stk' := [.int 22, .int 17]) (mem' := fm g tp bt a b) (by intro _ _ _; eq_refl) ?_
    refine fe_s 1 (pc' := cond (fx_cb .eq 17 22) 31 25) (lc' := [(2, .int 17), (0, .ref 0), (1, .int (nI (3846 + (6 * n))))]) (stk' := []) (mem' := fm g tp bt a b) (by intro _ _ _; eq_refl) ?_
    rw [show (fx_cb .eq 17 22) = false from by decide]
    dsimp only [cond]
    refine fe_s 2 (pc' := 27) (lc' := [(2, .int 17), (0, .ref 0), (1, .int (nI (3846 + (6 * n))))]) (stk' := [.int 2, .ref 0]) (mem' := fm g tp bt a b) (by intro _ _ _; eq_refl) ?_
    obtain ⟨gf39, hfrf39, hof39, hzf39⟩ := fr_failsq (x := 2) (g := g) (tp := tp) (bt := bt) (a := a) (b := b) (by omega) (by omega) (fm_go_rf hxp hfl).2.1 (fm_go_rf hxp hfl).2.2.1
    have gof39 := fm_go_tr (fm_go_rf hxp hfl) hof39
    refine fe_ivV hfrf39 (by omega) (by rfl) (by rfl) (by rfl) (by rfl) (by rfl) (by rfl) ?_
    exact fe_ret ⟨_, _, _, _, _, _, _, gof39, hC, rfl, Or.inl ⟨rfl, hzf39⟩, rfl⟩ (by rfl) (by rfl) (by rfl)
  · refine fe_s 3 (pc' := 10) (lc' := [(2, .int 18), (0, .ref 0), (1, .int (nI (3846 + (6 * n))))]) (stk' := [.int 8, .int 18]) (mem' := fm g tp bt a b) (by intro _ _ _; eq_refl) ?_
    refine fe_s 1 (pc' := cond (fx_cb .eq 18 8) 31 13) (lc' := [(2, .int 18), (0, .ref 0), (1, .int (nI (3846 + (6 * n))))]) (stk' := []) (mem' := fm g tp bt a b) (by intro _ _ _; eq_refl) ?_
    rw [show (fx_cb .eq 18 8) = false from by decide]
    dsimp only [cond]
    refine fe_s 2 (pc' := 16) (lc' := [(2, .int 18), (0, .ref 0), (1, .int (nI (3846 + (6 * n))))]) (stk' := [.int 10, .int 18]) (mem' := fm g tp bt a b) (by intro _ _ _; eq_refl) ?_
    refine fe_s 1 (pc' := cond (fx_cb .eq 18 10) 31 19) (lc' := [(2, .int 18), (0, .ref 0), (1, .int (nI (3846 + (6 * n))))]) (stk' := []) (mem' := fm g tp bt a b) (by intro _ _ _; eq_refl) ?_
    rw [show (fx_cb .eq 18 10) = false from by decide]
    dsimp only [cond]
    refine fe_s 2 (pc' := 22) (lc' := [(2, .int 18), (0, .ref 0), (1, .int (nI (3846 + (6 * n))))]) (stk' := [.int 22, .int 18]) (mem' := fm g tp bt a b) (by intro _ _ _; eq_refl) ?_
    refine fe_s 1 (pc' := cond (fx_cb .eq 18 22) 31 25) (lc' := [(2, .int 18), (0, .ref 0), (1, .int (nI (3846 + (6 * n))))]) (stk' := []) (mem' := fm g tp bt a b) (by intro _ _ _; eq_refl) ?_
    rw [show (fx_cb .eq 18 22) = false from by decide]
    dsimp only [cond]
    refine fe_s 2 (pc' := 27) (lc' := [(2, .int 18), (0, .ref 0), (1, .int (nI (3846 + (6 * n))))]) (stk' := [.int 2, .ref 0]) (mem' := fm g tp bt a b) (by intro _ _ _; eq_refl) ?_
    obtain ⟨gf40, hfrf40, hof40, hzf40⟩ := fr_failsq (x := 2) (g := g) (tp := tp) (bt := bt) (a := a) (b := b) (by omega) (by omega) (fm_go_rf hxp hfl).2.1 (fm_go_rf hxp hfl).2.2.1
    have gof40 := fm_go_tr (fm_go_rf hxp hfl) hof40
    refine fe_ivV hfrf40 (by omega) (by rfl) (by rfl) (by rfl) (by rfl) (by rfl) (by rfl) ?_
    exact fe_ret ⟨_, _, _, _, _, _, _, gof40, hC, rfl, Or.inl ⟨rfl, hzf40⟩, rfl⟩ (by rfl) (by rfl) (by rfl)
  · refine fe_s 3 (pc' := 10) (lc' := [(2, .int 19), (0, .ref 0), (1, .int (nI (3846 + (6 * n))))]) (stk' := [.int 8, .int 19]) (mem' := fm g tp bt a b) (by intro _ _ _; eq_refl) ?_
    refine fe_s 1 (pc' := cond (fx_cb .eq 19 8) 31 13) (lc' := [(2, .int 19), (0, .ref 0), (1, .int (nI (3846 + (6 * n))))]) (stk' := []) (mem' := fm g tp bt a b) (by intro _ _ _; eq_refl) ?_
    rw [show (fx_cb .eq 19 8) = false from by decide]
    dsimp only [cond]
    refine fe_s 2 (pc' := 16) (lc' := [(2, .int 19), (0, .ref 0), (1, .int (nI (3846 + (6 * n))))]) (stk' := [.int 10, .int 19]) (mem' := fm g tp bt a b) (by intro _ _ _; eq_refl) ?_
    refine fe_s 1 (pc' := cond (fx_cb .eq 19 10) 31 19) (lc' := [(2, .int 19), (0, .ref 0), (1, .int (nI (3846 + (6 * n))))]) (stk' := []) (mem' := fm g tp bt a b) (by intro _ _ _; eq_refl) ?_
    rw [show (fx_cb .eq 19 10) = false from by decide]
    dsimp only [cond]
    refine fe_s 2 (pc' := 22) (lc' := [(2, .int 19), (0, .ref 0), (1, .int (nI (3846 + (6 * n))))]) (stk' := [.int 22, .int 19]) (mem' := fm g tp bt a b) (by intro _ _ _; eq_refl) ?_
    refine fe_s 1 (pc' := cond (fx_cb .eq 19 22) 31 25) (lc' := [(2, .int 19), (0, .ref 0), (1, .int (nI (3846 + (6 * n))))]) (stk' := []) (mem' := fm g tp bt a b) (by intro _ _ _; eq_refl) ?_
    rw [show (fx_cb .eq 19 22) = false from by decide]
    dsimp only [cond]
    refine fe_s 2 (pc' := 27) (lc' := [(2, .int 19), (0, .ref 0), (1, .int (nI (3846 + (6 * n))))]) (stk' := [.int 2, .ref 0]) (mem' := fm g tp bt a b) (by intro _ _ _; eq_refl) ?_
    obtain ⟨gf41, hfrf41, hof41, hzf41⟩ := fr_failsq (x := 2) (g := g) (tp := tp) (bt := bt) (a := a) (b := b) (by omega) (by omega) (fm_go_rf hxp hfl).2.1 (fm_go_rf hxp hfl).2.2.1
    have gof41 := fm_go_tr (fm_go_rf hxp hfl) hof41
    refine fe_ivV hfrf41 (by omega) (by rfl) (by rfl) (by rfl) (by rfl) (by rfl) (by rfl) ?_
    exact fe_ret ⟨_, _, _, _, _, _, _, gof41, hC, rfl, Or.inl ⟨rfl, hzf41⟩, rfl⟩ (by rfl) (by rfl) (by rfl)
  · refine fe_s 3 (pc' := 10) (lc' := [(2, .int 20), (0, .ref 0), (1, .int (nI (3846 + (6 * n))))]) (stk' := [.int 8, .int 20]) (mem' := fm g tp bt a b) (by intro _ _ _; eq_refl) ?_
    refine fe_s 1 (pc' := cond (fx_cb .eq 20 8) 31 13) (lc' := [(2, .int 20), (0, .ref 0), (1, .int (nI (3846 + (6 * n))))]) (stk' := []) (mem' := fm g tp bt a b) (by intro _ _ _; eq_refl) ?_
    rw [show (fx_cb .eq 20 8) = false from by decide]
    dsimp only [cond]
    refine fe_s 2 (pc' := 16) (lc' := [(2, .int 20), (0, .ref 0), (1, .int (nI (3846 + (6 * n))))]) (stk' := [.int 10, .int 20]) (mem' := fm g tp bt a b) (by intro _ _ _; eq_refl) ?_
    refine fe_s 1 (pc' := cond (fx_cb .eq 20 10) 31 19) (lc' := [(2, .int 20), (0, .ref 0), (1, .int (nI (3846 + (6 * n))))]) (stk' := []) (mem' := fm g tp bt a b) (by intro _ _ _; eq_refl) ?_
    rw [show (fx_cb .eq 20 10) = false from by decide]
    dsimp only [cond]
    refine fe_s 2 (pc' := 22) (lc' := [(2, .int 20), (0, .ref 0), (1, .int (nI (3846 + (6 * n))))]) (stk' := [.int 22, .int 20]) (mem' := fm g tp bt a b) (by intro _ _ _; eq_refl) ?_
    refine fe_s 1 (pc' := cond (fx_cb .eq 20 22) 31 25) (lc' := [(2, .int 20), (0, .ref 0), (1, .int (nI (3846 + (6 * n))))]) (stk' := []) (mem' := fm g tp bt a b) (by intro _ _ _; eq_refl) ?_
    rw [show (fx_cb .eq 20 22) = false from by decide]
    dsimp only [cond]
    refine fe_s 2 (pc' := 27) (lc' := [(2, .int 20), (0, .ref 0), (1, .int (nI (3846 + (6 * n))))]) (stk' := [.int 2, .ref 0]) (mem' := fm g tp bt a b) (by intro _ _ _; eq_refl) ?_
    obtain ⟨gf42, hfrf42, hof42, hzf42⟩ := fr_failsq (x := 2) (g := g) (tp := tp) (bt := bt) (a := a) (b := b) (by omega) (by omega) (fm_go_rf hxp hfl).2.1 (fm_go_rf hxp hfl).2.2.1
    have gof42 := fm_go_tr (fm_go_rf hxp hfl) hof42
    refine fe_ivV hfrf42 (by omega) (by rfl) (by rfl) (by rfl) (by rfl) (by rfl) (by rfl) ?_
    exact fe_ret ⟨_, _, _, _, _, _, _, gof42, hC, rfl, Or.inl ⟨rfl, hzf42⟩, rfl⟩ (by rfl) (by rfl) (by rfl)
  · refine fe_s 3 (pc' := 10) (lc' := [(2, .int 21), (0, .ref 0), (1, .int (nI (3846 + (6 * n))))]) (stk' := [.int 8, .int 21]) (mem' := fm g tp bt a b) (by intro _ _ _; eq_refl) ?_
    refine fe_s 1 (pc' := cond (fx_cb .eq 21 8) 31 13) (lc' := [(2, .int 21), (0, .ref 0), (1, .int (nI (3846 + (6 * n))))]) (stk' := []) (mem' := fm g tp bt a b) (by intro _ _ _; eq_refl) ?_
    rw [show (fx_cb .eq 21 8) = false from by decide]
    dsimp only [cond]
    refine fe_s 2 (pc' := 16) (lc' := [(2, .int 21), (0, .ref 0), (1, .int (nI (3846 + (6 * n))))]) (stk' := [.int 10, .int 21]) (mem' := fm g tp bt a b) (by intro _ _ _; eq_refl) ?_
    refine fe_s 1 (pc' := cond (fx_cb .eq 21 10) 31 19) (lc' := [(2, .int 21), (0, .ref 0), (1, .int (nI (3846 + (6 * n))))]) (stk' := []) (mem' := fm g tp bt a b) (by intro _ _ _; eq_refl) ?_
    rw [show (fx_cb .eq 21 10) = false from by decide]
    dsimp only [cond]
    refine fe_s 2 (pc' := 22) (lc' := [(2, .int 21), (0, .ref 0), (1, .int (nI (3846 + (6 * n))))]) (stk' := [.int 22, .int 21]) (mem' := fm g tp bt a b) (by intro _ _ _; eq_refl) ?_
    refine fe_s 1 (pc' := cond (fx_cb .eq 21 22) 31 25) (lc' := [(2, .int 21), (0, .ref 0), (1, .int (nI (3846 + (6 * n))))]) (stk' := []) (mem' := fm g tp bt a b) (by intro _ _ _; eq_refl) ?_
    rw [show (fx_cb .eq 21 22) = false from by decide]
    dsimp only [cond]
    refine fe_s 2 (pc' := 27) (lc' := [(2, .int 21), (0, .ref 0), (1, .int (nI (3846 + (6 * n))))]) (stk' := [.int 2, .ref 0]) (mem' := fm g tp bt a b) (by intro _ _ _; eq_refl) ?_
    obtain ⟨gf43, hfrf43, hof43, hzf43⟩ := fr_failsq (x := 2) (g := g) (tp := tp) (bt := bt) (a := a) (b := b) (by omega) (by omega) (fm_go_rf hxp hfl).2.1 (fm_go_rf hxp hfl).2.2.1
    have gof43 := fm_go_tr (fm_go_rf hxp hfl) hof43
    refine fe_ivV hfrf43 (by omega) (by rfl) (by rfl) (by rfl) (by rfl) (by rfl) (by rfl) ?_
    exact fe_ret ⟨_, _, _, _, _, _, _, gof43, hC, rfl, Or.inl ⟨rfl, hzf43⟩, rfl⟩ (by rfl) (by rfl) (by rfl)
  · refine fe_s 3 (pc' := 10) (lc' := [(2, .int 22), (0, .ref 0), (1, .int (nI (3846 + (6 * n))))]) (stk' := [.int 8, .int 22]) (mem' := fm g tp bt a b) (by intro _ _ _; eq_refl) ?_
    refine fe_s 1 (pc' := cond (fx_cb .eq 22 8) 31 13) (lc' := [(2, .int 22), (0, .ref 0), (1, .int (nI (3846 + (6 * n))))]) (stk' := []) (mem' := fm g tp bt a b) (by intro _ _ _; eq_refl) ?_
    rw [show (fx_cb .eq 22 8) = false from by decide]
    dsimp only [cond]
    refine fe_s 2 (pc' := 16) (lc' := [(2, .int 22), (0, .ref 0), (1, .int (nI (3846 + (6 * n))))]) (stk' := [.int 10, .int 22]) (mem' := fm g tp bt a b) (by intro _ _ _; eq_refl) ?_
    refine fe_s 1 (pc' := cond (fx_cb .eq 22 10) 31 19) (lc' := [(2, .int 22), (0, .ref 0), (1, .int (nI (3846 + (6 * n))))]) (stk' := []) (mem' := fm g tp bt a b) (by intro _ _ _; eq_refl) ?_
    rw [show (fx_cb .eq 22 10) = false from by decide]
    dsimp only [cond]
    refine fe_s 2 (pc' := 22) (lc' := [(2, .int 22), (0, .ref 0), (1, .int (nI (3846 + (6 * n))))]) (stk' := [.int 22, .int 22]) (mem' := fm g tp bt a b) (by intro _ _ _; eq_refl) ?_
    refine fe_s 1 (pc' := cond (fx_cb .eq 22 22) 31 25) (lc' := [(2, .int 22), (0, .ref 0), (1, .int (nI (3846 + (6 * n))))]) (stk' := []) (mem' := fm g tp bt a b) (by intro _ _ _; eq_refl) ?_
    rw [show (fx_cb .eq 22 22) = true from by decide]
    dsimp only [cond]
    refine fe_s 6 (pc' := 41) (lc' := [(2, .int 22), (0, .ref 0), (1, .int (nI (3846 + (6 * n))))]) (stk' := [.int (1800 + 22), .int (nI (3846 + (6 * n))), .ref 1]) (mem' := fm g tp bt a b) (by intro _ _ _; eq_refl) ?_
    rw [show (1800 + 22 : Int32) = 1822 from rfl]
    refine fe_stI (mem' := fm g tp bt (fm_u a 1 (nI (3846 + (6 * n)) : Int32).toNatClampNeg 1822) b) (by rfl) (by rfl) (fx_inN (i := 3846 + (6 * n)) (by have := hC.2.2.2.2.2.2.2.1; omega) (by omega)) fm_si1 ?_
    rw [show Int32.toNatClampNeg (nI (3846 + (6 * n))) = 3846 + (6 * n) from nI_clamp (by have := hC.2.2.2.2.2.2.2.1; omega)]
    obtain ⟨at44, hat44⟩ : ∃ z, z = fm_u a 1 (3846 + (6 * n)) 1822 := ⟨_, rfl⟩
    rw [← hat44]
    have hCt44 : fm_TC a0 at44 n 1822 0 := by rw [hat44]; rw [show 3846 + (6 * n) = 3846 + 6 * n by omega]; exact fm_TC_0 hC (by decide) (by decide)
    have h8t44 : at44 8 = a 8 := (congrFun hat44 8).trans ((fm_ut (by decide)).trans rfl)
    refine fe_s 1 (pc' := 43) (lc' := [(2, .int 22), (0, .ref 0), (1, .int (nI (3846 + (6 * n))))]) (stk' := [.ref 0]) (mem' := fm g tp bt at44 b) (by intro _ _ _; eq_refl) ?_
    obtain ⟨gk45, Ek45, Fk45, hfrk45, hok45, hek45, hpk45⟩ := fr_aheadq (g := g) (tp := tp) (bt := bt) (a := at44) (b := b) (fm_go_rf hxp hfl).2.1 (fm_go_rf hxp hfl).2.2.1
    have gok45 := fm_go_tr (fm_go_rf hxp hfl) hok45
    have e18k45 : gk45 18 = g 18 := hek45.trans rfl
    have prk45 : gk45 12 = 0 ∨ E < Ek45 := hpk45.imp id (fun z => by have := (fm_go_rf hxp hfl).2.2.2; omega)
    refine fe_ivV hfrk45 (by omega) (by rfl) (by rfl) (by rfl) (by rfl) (by rfl) (by rfl) ?_
    refine fe_s 2 (pc' := 49) (lc' := [(2, .int 22), (0, .ref 0), (1, .int (nI (3846 + (6 * n))))]) (stk' := [.int 22, .int 22]) (mem' := fm gk45 tp bt at44 b) (by intro _ _ _; eq_refl) ?_
    refine fe_s 1 (pc' := cond (fx_cb .ne 22 22) 60 52) (lc' := [(2, .int 22), (0, .ref 0), (1, .int (nI (3846 + (6 * n))))]) (stk' := []) (mem' := fm gk45 tp bt at44 b) (by intro _ _ _; eq_refl) ?_
    rw [show (fx_cb .ne 22 22) = false from by decide]
    dsimp only [cond]
    refine fe_s 4 (pc' := 56) (lc' := [(2, .int 22), (0, .ref 0), (1, .int (nI (3846 + (6 * n))))]) (stk' := [.int ((nI (3846 + (6 * n))) + 1), .ref 0]) (mem' := fm gk45 tp bt at44 b) (by intro _ _ _; eq_refl) ?_
    rw [show ((nI (3846 + (6 * n))) + 1 : Int32) = nI ((3846 + (6 * n)) + 1) from by simp only [show (1 : Int32) = nI 1 from rfl, nI_add, fm_mul]]
    obtain ⟨vo46, memo46, ⟨xo46, go46, Eo46, Fo46, ao46, hoo46, hvo46, hRo46⟩, hfro46⟩ := fr_walkerTo (T := (3846 + (6 * n)) + 1) (g := gk45) (tp := tp) (bt := bt) (a := at44) (b := b) gok45.2.1 gok45.2.2.1 (by have := hCt44.2.2.2.2.2.2.2.1; omega) ((f1 hCt44).trans hH.2.2.1) hH.2.2.2
    cases hRo46
    have goo46 := fm_go_tr gok45 hoo46
    refine fe_ivV hfro46 (by omega) (by rfl) (by rfl) (by rfl) (by rfl) (by rfl) (by rfl) ?_
    rcases hvo46 with ⟨rfl, hzo46, hao46⟩ | ⟨rfl, heo46, hpo46, ko46, hko46, hao46⟩
    · obtain ⟨yo46, hCo46⟩ : ∃ y, fm_TC a0 ao46 n 1822 y := by
        rcases hao46 with e | e
        · exact ⟨_, by rw [e]; exact hCt44⟩
        · exact ⟨_, by rw [e, show (3846 + (6 * n)) + 1 = 3847 + 6 * n by omega]; exact fm_TC_1 hCt44 (by decide) (by decide)⟩
      have h8o46 : ao46 8 = a 8 := hao46.elim (fun e => (congrFun e 8).trans h8t44) (fun e => (congrFun e 8).trans ((fm_ut (by decide)).trans h8t44))
      exact fe_ret ⟨_, _, _, _, _, _, _, goo46, hCo46, h8o46, Or.inl ⟨rfl, hzo46⟩, rfl⟩ (by rfl) (by rfl) (by rfl)
    · have e18o46 : go46 18 = g 18 := heo46.trans e18k45
      have pro46 : go46 12 = 0 ∨ E < Eo46 := hpo46.imp id (fun z => by have := gok45.2.2.2; omega)
      have hk9o46 : ko46 < 8 := by have := hH.2.2.2; omega
      have hCo46 : fm_TC a0 ao46 n 1822 (nI ko46) := by rw [hao46]; rw [show (3846 + (6 * n)) + 1 = 3847 + 6 * n by omega]; exact fm_TC_1 hCt44 (by rw [nI_i32 (by omega)]; omega) (by rw [nI_i32 (by omega)]; omega)
      have h8o46 : ao46 8 = a 8 := (congrFun hao46 8).trans ((fm_ut (by decide)).trans h8t44)
      exact fe_ret ⟨_, _, _, _, _, _, _, goo46, hCo46, h8o46, Or.inr ⟨rfl, e18o46, fm_ro_w (by rw [nI_i32 (by omega)]; omega) (by rw [nI_i32 (by omega)]; omega)⟩, rfl⟩ (by rfl) (by rfl) (by rfl)
  · refine fe_s 3 (pc' := 10) (lc' := [(2, .int 23), (0, .ref 0), (1, .int (nI (3846 + (6 * n))))]) (stk' := [.int 8, .int 23]) (mem' := fm g tp bt a b) (by intro _ _ _; eq_refl) ?_
    refine fe_s 1 (pc' := cond (fx_cb .eq 23 8) 31 13) (lc' := [(2, .int 23), (0, .ref 0), (1, .int (nI (3846 + (6 * n))))]) (stk' := []) (mem' := fm g tp bt a b) (by intro _ _ _; eq_refl) ?_
    rw [show (fx_cb .eq 23 8) = false from by decide]
    dsimp only [cond]
    refine fe_s 2 (pc' := 16) (lc' := [(2, .int 23), (0, .ref 0), (1, .int (nI (3846 + (6 * n))))]) (stk' := [.int 10, .int 23]) (mem' := fm g tp bt a b) (by intro _ _ _; eq_refl) ?_
    refine fe_s 1 (pc' := cond (fx_cb .eq 23 10) 31 19) (lc' := [(2, .int 23), (0, .ref 0), (1, .int (nI (3846 + (6 * n))))]) (stk' := []) (mem' := fm g tp bt a b) (by intro _ _ _; eq_refl) ?_
    rw [show (fx_cb .eq 23 10) = false from by decide]
    dsimp only [cond]
    refine fe_s 2 (pc' := 22) (lc' := [(2, .int 23), (0, .ref 0), (1, .int (nI (3846 + (6 * n))))]) (stk' := [.int 22, .int 23]) (mem' := fm g tp bt a b) (by intro _ _ _; eq_refl) ?_
    refine fe_s 1 (pc' := cond (fx_cb .eq 23 22) 31 25) (lc' := [(2, .int 23), (0, .ref 0), (1, .int (nI (3846 + (6 * n))))]) (stk' := []) (mem' := fm g tp bt a b) (by intro _ _ _; eq_refl) ?_
    rw [show (fx_cb .eq 23 22) = false from by decide]
    dsimp only [cond]
    refine fe_s 2 (pc' := 27) (lc' := [(2, .int 23), (0, .ref 0), (1, .int (nI (3846 + (6 * n))))]) (stk' := [.int 2, .ref 0]) (mem' := fm g tp bt a b) (by intro _ _ _; eq_refl) ?_
    obtain ⟨gf47, hfrf47, hof47, hzf47⟩ := fr_failsq (x := 2) (g := g) (tp := tp) (bt := bt) (a := a) (b := b) (by omega) (by omega) (fm_go_rf hxp hfl).2.1 (fm_go_rf hxp hfl).2.2.1
    have gof47 := fm_go_tr (fm_go_rf hxp hfl) hof47
    refine fe_ivV hfrf47 (by omega) (by rfl) (by rfl) (by rfl) (by rfl) (by rfl) (by rfl) ?_
    exact fe_ret ⟨_, _, _, _, _, _, _, gof47, hC, rfl, Or.inl ⟨rfl, hzf47⟩, rfl⟩ (by rfl) (by rfl) (by rfl)
end F486_test
end MH3_0
section MH3_1
/-! ===== fx: an order of the TALES ===== -/
section F4865_order
variable {g : Nat → Int32} {tp bt : Int64} {a0 a : Nat → Nat → Int32} {b : Nat → Nat → Int64}
set_option maxHeartbeats 8000000 in
theorem fr_taleOrder11 {S E F C W n : Nat} (hxp : fm_xp g S E F) (hfl : fm_flt g) (hH : fm_th a0 C W) (hC : fm_TC a0 a n 11 0) : ∃ (v : Option Value) (mem' : fx_M), (fm_FTO a0 a g tp bt b S E n) (v, mem') ∧ fr_T 10 250 [.ref 0, .int 11, .int (nI (3846 + (6 * n)))] (fm g tp bt a b) v mem' := by
  have f1 : ∀ {a' : Nat → Nat → Int32} {x y : Int32}, fm_TC a0 a' n x y → a' 1 1 = a0 1 1 := fun z => z.2.1 1 (by omega)
  have f0 : ∀ {a' : Nat → Nat → Int32} {x y : Int32}, fm_TC a0 a' n x y → a' 1 0 = a0 1 0 := fun z => z.2.1 0 (by omega)
  have hn60 := hC.2.2.2.2.2.2.2.1
  refine fe_meth (F := fm_FTO a0 a g tp bt b S E n) (M := gk_m250) (by rfl) (by rfl) ?_
  refine fe_s 1 (pc' := 1) (lc' := [(0, .ref 0), (1, .int 11), (2, .int (nI (3846 + (6 * n))))]) (stk' := [.int 11]) (mem' := fm g tp bt a b) (by intro _ _ _; eq_refl) ?_
  refine fe_s 1 (pc' := 52) (lc' := [(0, .ref 0), (1, .int 11), (2, .int (nI (3846 + (6 * n))))]) (stk' := []) (mem' := fm g tp bt a b) (by intro _ _ _; eq_refl) ?_
  refine fe_s 4 (pc' := 56) (lc' := [(0, .ref 0), (1, .int 11), (2, .int (nI (3846 + (6 * n))))]) (stk' := [.int ((nI (3846 + (6 * n))) + 1), .ref 0]) (mem' := fm g tp bt a b) (by intro _ _ _; eq_refl) ?_
  rw [show ((nI (3846 + (6 * n))) + 1 : Int32) = nI ((3846 + (6 * n)) + 1) from by simp only [show (1 : Int32) = nI 1 from rfl, nI_add, fm_mul]]
  obtain ⟨vo1, memo1, ⟨xo1, go1, Eo1, Fo1, ao1, hoo1, hvo1, hRo1⟩, hfro1⟩ := fr_walkerTo (T := (3846 + (6 * n)) + 1) (g := g) (tp := tp) (bt := bt) (a := a) (b := b) (fm_go_rf hxp hfl).2.1 (fm_go_rf hxp hfl).2.2.1 (by have := hC.2.2.2.2.2.2.2.1; omega) ((f1 hC).trans hH.2.2.1) hH.2.2.2
  cases hRo1
  have goo1 := fm_go_tr (fm_go_rf hxp hfl) hoo1
  refine fe_ivV hfro1 (by omega) (by rfl) (by rfl) (by rfl) (by rfl) (by rfl) (by rfl) ?_
  rcases hvo1 with ⟨rfl, hzo1, hao1⟩ | ⟨rfl, heo1, hpo1, ko1, hko1, hao1⟩
  · obtain ⟨yo1, hCo1⟩ : ∃ y, fm_TC a0 ao1 n 11 y := by
      rcases hao1 with e | e
      · exact ⟨_, by rw [e]; exact hC⟩
      · exact ⟨_, by rw [e, show (3846 + (6 * n)) + 1 = 3847 + 6 * n by omega]; exact fm_TC_1 hC (by decide) (by decide)⟩
    have h8o1 : ao1 8 = a 8 := hao1.elim (fun e => (congrFun e 8).trans rfl) (fun e => (congrFun e 8).trans ((fm_ut (by decide)).trans rfl))
    refine fe_s 1 (pc' := cond (fx_cb .eq 0 0) 87 62) (lc' := [(0, .ref 0), (1, .int 11), (2, .int (nI (3846 + (6 * n))))]) (stk' := []) (mem' := fm go1 tp bt ao1 b) (by intro _ _ _; eq_refl) ?_
    rw [show (fx_cb .eq 0 0) = true from by decide]
    dsimp only [cond]
    refine fe_s 1 (pc' := 88) (lc' := [(0, .ref 0), (1, .int 11), (2, .int (nI (3846 + (6 * n))))]) (stk' := [.int 0]) (mem' := fm go1 tp bt ao1 b) (by intro _ _ _; eq_refl) ?_
    exact fe_ret ⟨_, _, _, _, _, _, _, goo1, hCo1, h8o1, Or.inl ⟨rfl, hzo1⟩, rfl⟩ (by rfl) (by rfl) (by rfl)
  · have e18o1 : go1 18 = g 18 := heo1.trans rfl
    have pro1 : go1 12 = 0 ∨ E < Eo1 := hpo1.imp id (fun z => by have := (fm_go_rf hxp hfl).2.2.2; omega)
    have hk9o1 : ko1 < 8 := by have := hH.2.2.2; omega
    have hCo1 : fm_TC a0 ao1 n 11 (nI ko1) := by rw [hao1]; rw [show (3846 + (6 * n)) + 1 = 3847 + 6 * n by omega]; exact fm_TC_1 hC (by rw [nI_i32 (by omega)]; omega) (by rw [nI_i32 (by omega)]; omega)
    have h8o1 : ao1 8 = a 8 := (congrFun hao1 8).trans ((fm_ut (by decide)).trans rfl)
    refine fe_s 1 (pc' := cond (fx_cb .eq 1 0) 87 62) (lc' := [(0, .ref 0), (1, .int 11), (2, .int (nI (3846 + (6 * n))))]) (stk' := []) (mem' := fm go1 tp bt ao1 b) (by intro _ _ _; eq_refl) ?_
    rw [show (fx_cb .eq 1 0) = false from by decide]
    dsimp only [cond]
    refine fe_s 3 (pc' := 67) (lc' := [(0, .ref 0), (1, .int 11), (2, .int (nI (3846 + (6 * n))))]) (stk' := [.int 16, .ref 22, .ref 0]) (mem' := fm go1 tp bt ao1 b) (by intro _ _ _; eq_refl) ?_
    obtain ⟨xc2, gc2, Ec2, Fc2, hfrc2, hoc2, hvc2⟩ := fr_wantWordq (k := 16) (g := go1) (tp := tp) (bt := bt) (a := ao1) (b := b) goo1.2.1 goo1.2.2.1
    have goc2 := fm_go_tr goo1 hoc2
    refine fe_ivV hfrc2 (by omega) (by rfl) (by rfl) (by rfl) (by rfl) (by rfl) (by rfl) ?_
    rcases hvc2 with ⟨rfl, hzc2⟩ | ⟨rfl, hec2, hpc2⟩
    · refine fe_s 1 (pc' := cond (fx_cb .eq 0 0) 87 73) (lc' := [(0, .ref 0), (1, .int 11), (2, .int (nI (3846 + (6 * n))))]) (stk' := []) (mem' := fm gc2 tp bt ao1 b) (by intro _ _ _; eq_refl) ?_
      rw [show (fx_cb .eq 0 0) = true from by decide]
      dsimp only [cond]
      refine fe_s 1 (pc' := 88) (lc' := [(0, .ref 0), (1, .int 11), (2, .int (nI (3846 + (6 * n))))]) (stk' := [.int 0]) (mem' := fm gc2 tp bt ao1 b) (by intro _ _ _; eq_refl) ?_
      exact fe_ret ⟨_, _, _, _, _, _, _, goc2, hCo1, h8o1, Or.inl ⟨rfl, hzc2⟩, rfl⟩ (by rfl) (by rfl) (by rfl)
    · have e18c2 : gc2 18 = g 18 := hec2.trans e18o1
      have prc2 : gc2 12 = 0 ∨ E < Ec2 := hpc2.imp id (fun z => by have := goo1.2.2.2; omega)
      refine fe_s 1 (pc' := cond (fx_cb .eq 1 0) 87 73) (lc' := [(0, .ref 0), (1, .int 11), (2, .int (nI (3846 + (6 * n))))]) (stk' := []) (mem' := fm gc2 tp bt ao1 b) (by intro _ _ _; eq_refl) ?_
      rw [show (fx_cb .eq 1 0) = false from by decide]
      dsimp only [cond]
      refine fe_s 4 (pc' := 77) (lc' := [(0, .ref 0), (1, .int 11), (2, .int (nI (3846 + (6 * n))))]) (stk' := [.int ((nI (3846 + (6 * n))) + 2), .ref 0]) (mem' := fm gc2 tp bt ao1 b) (by intro _ _ _; eq_refl) ?_
      rw [show ((nI (3846 + (6 * n))) + 2 : Int32) = nI ((3846 + (6 * n)) + 2) from by simp only [show (2 : Int32) = nI 2 from rfl, nI_add, fm_mul]]
      obtain ⟨vo3, memo3, ⟨xo3, go3, Eo3, Fo3, ao3, hoo3, hvo3, hRo3⟩, hfro3⟩ := fr_cellTo (T := (3846 + (6 * n)) + 2) (g := gc2) (tp := tp) (bt := bt) (a := ao1) (b := b) goc2.2.1 goc2.2.2.1 (by have := hCo1.2.2.2.2.2.2.2.1; omega) ((f0 hCo1).trans hH.1) hH.2.1
      cases hRo3
      have goo3 := fm_go_tr goc2 hoo3
      refine fe_ivV hfro3 (by omega) (by rfl) (by rfl) (by rfl) (by rfl) (by rfl) (by rfl) ?_
      rcases hvo3 with ⟨rfl, hzo3, hao3⟩ | ⟨rfl, heo3, hpo3, ko3, hko3, hao3⟩
      · obtain ⟨yo3, hCo3⟩ : ∃ y, fm_TC a0 ao3 n 11 y := by
          rcases hao3 with e | e
          · exact ⟨_, by rw [e]; exact hCo1⟩
          · exact ⟨_, by rw [e, show (3846 + (6 * n)) + 2 = 3848 + 6 * n by omega]; exact fm_TC_2 hCo1 (by decide) (by decide)⟩
        have h8o3 : ao3 8 = a 8 := hao3.elim (fun e => (congrFun e 8).trans h8o1) (fun e => (congrFun e 8).trans ((fm_ut (by decide)).trans h8o1))
        refine fe_s 1 (pc' := cond (fx_cb .eq 0 0) 87 83) (lc' := [(0, .ref 0), (1, .int 11), (2, .int (nI (3846 + (6 * n))))]) (stk' := []) (mem' := fm go3 tp bt ao3 b) (by intro _ _ _; eq_refl) ?_
        rw [show (fx_cb .eq 0 0) = true from by decide]
        dsimp only [cond]
        refine fe_s 1 (pc' := 88) (lc' := [(0, .ref 0), (1, .int 11), (2, .int (nI (3846 + (6 * n))))]) (stk' := [.int 0]) (mem' := fm go3 tp bt ao3 b) (by intro _ _ _; eq_refl) ?_
        exact fe_ret ⟨_, _, _, _, _, _, _, goo3, hCo3, h8o3, Or.inl ⟨rfl, hzo3⟩, rfl⟩ (by rfl) (by rfl) (by rfl)
      · have e18o3 : go3 18 = g 18 := heo3.trans e18c2
        have pro3 : go3 12 = 0 ∨ E < Eo3 := hpo3.imp id (fun z => by have := goc2.2.2.2; omega)
        have hk9o3 : ko3 < 10 := by have := hH.2.1; omega
        have hCo3 : fm_TC a0 ao3 n 11 (nI ko1) := by rw [hao3]; rw [show (3846 + (6 * n)) + 2 = 3848 + 6 * n by omega]; exact fm_TC_2 hCo1 (by rw [nI_i32 (by omega)]; omega) (by rw [nI_i32 (by omega)]; omega)
        have h8o3 : ao3 8 = a 8 := (congrFun hao3 8).trans ((fm_ut (by decide)).trans h8o1)
        refine fe_s 1 (pc' := cond (fx_cb .eq 1 0) 87 83) (lc' := [(0, .ref 0), (1, .int 11), (2, .int (nI (3846 + (6 * n))))]) (stk' := []) (mem' := fm go3 tp bt ao3 b) (by intro _ _ _; eq_refl) ?_
        rw [show (fx_cb .eq 1 0) = false from by decide]
        dsimp only [cond]
        refine fe_s 2 (pc' := 88) (lc' := [(0, .ref 0), (1, .int 11), (2, .int (nI (3846 + (6 * n))))]) (stk' := [.int 1]) (mem' := fm go3 tp bt ao3 b) (by intro _ _ _; eq_refl) ?_
        exact fe_ret ⟨_, _, _, _, _, _, _, goo3, hCo3, h8o3, Or.inr ⟨rfl, e18o3, fm_ro_w (by rw [nI_i32 (by omega)]; omega) (by rw [nI_i32 (by omega)]; omega)⟩, rfl⟩ (by rfl) (by rfl) (by rfl)
set_option maxHeartbeats 8000000 in
theorem fr_taleOrder12 {S E F C W n : Nat} (hxp : fm_xp g S E F) (hfl : fm_flt g) (hH : fm_th a0 C W) (hC : fm_TC a0 a n 12 0) : ∃ (v : Option Value) (mem' : fx_M), (fm_FTO a0 a g tp bt b S E n) (v, mem') ∧ fr_T 10 250 [.ref 0, .int 12, .int (nI (3846 + (6 * n)))] (fm g tp bt a b) v mem' := by
  have f1 : ∀ {a' : Nat → Nat → Int32} {x y : Int32}, fm_TC a0 a' n x y → a' 1 1 = a0 1 1 := fun z => z.2.1 1 (by omega)
  have f0 : ∀ {a' : Nat → Nat → Int32} {x y : Int32}, fm_TC a0 a' n x y → a' 1 0 = a0 1 0 := fun z => z.2.1 0 (by omega)
  have hn60 := hC.2.2.2.2.2.2.2.1
  refine fe_meth (F := fm_FTO a0 a g tp bt b S E n) (M := gk_m250) (by rfl) (by rfl) ?_
  refine fe_s 1 (pc' := 1) (lc' := [(0, .ref 0), (1, .int 12), (2, .int (nI (3846 + (6 * n))))]) (stk' := [.int 12]) (mem' := fm g tp bt a b) (by intro _ _ _; eq_refl) ?_
  refine fe_s 1 (pc' := 89) (lc' := [(0, .ref 0), (1, .int 12), (2, .int (nI (3846 + (6 * n))))]) (stk' := []) (mem' := fm g tp bt a b) (by intro _ _ _; eq_refl) ?_
  refine fe_s 6 (pc' := 96) (lc' := [(0, .ref 0), (1, .int 12), (2, .int (nI (3846 + (6 * n))))]) (stk' := [.int 20, .int 1, .int ((nI (3846 + (6 * n))) + 1), .ref 0]) (mem' := fm g tp bt a b) (by intro _ _ _; eq_refl) ?_
  rw [show ((nI (3846 + (6 * n))) + 1 : Int32) = nI ((3846 + (6 * n)) + 1) from by simp only [show (1 : Int32) = nI 1 from rfl, nI_add, fm_mul]]
  obtain ⟨xm1, gm1, Em1, Fm1, am1, hfrm1, hom1, hvm1⟩ := fr_numberq (T := (3846 + (6 * n)) + 1) (lo := 1) (hi := 20) (g := g) (tp := tp) (bt := bt) (a := a) (b := b) (by have := hC.2.2.2.2.2.2.2.1; omega) (fm_go_rf hxp hfl).2.1 (fm_go_rf hxp hfl).2.2.1
  have gom1 := fm_go_tr (fm_go_rf hxp hfl) hom1
  refine fe_ivV hfrm1 (by omega) (by rfl) (by rfl) (by rfl) (by rfl) (by rfl) (by rfl) ?_
  rcases hvm1 with ⟨rfl, hzm1, ham1⟩ | ⟨rfl, hem1, hpm1, ym1, hlm1, hum1, ham1⟩
  · have hCm1 : fm_TC a0 am1 n 12 0 := by rw [ham1]; exact hC
    have h8m1 : am1 8 = a 8 := (congrFun ham1 8).trans rfl
    exact fe_ret ⟨_, _, _, _, _, _, _, gom1, hCm1, h8m1, Or.inl ⟨rfl, hzm1⟩, rfl⟩ (by rfl) (by rfl) (by rfl)
  · have e18m1 : gm1 18 = g 18 := hem1.trans rfl
    have prm1 : gm1 12 = 0 ∨ E < Em1 := hpm1.imp id (fun z => by have := (fm_go_rf hxp hfl).2.2.2; omega)
    have lm1 : 1 ≤ ym1.toInt := (by have z := Int32.le_iff_toInt_le.mp hlm1; rw [show ((1 : Int32).toInt) = 1 from rfl] at z; omega)
    have um1 : ym1.toInt ≤ 20 := (by have z := Int32.le_iff_toInt_le.mp hum1; rw [show ((20 : Int32).toInt) = 20 from rfl] at z; omega)
    have hCm1 : fm_TC a0 am1 n 12 ym1 := by rw [ham1]; rw [show (3846 + (6 * n)) + 1 = 3847 + 6 * n by omega]; exact fm_TC_1 hC (by omega) (by omega)
    have h8m1 : am1 8 = a 8 := (congrFun ham1 8).trans ((fm_ut (by decide)).trans rfl)
    exact fe_ret ⟨_, _, _, _, _, _, _, gom1, hCm1, h8m1, Or.inr ⟨rfl, e18m1, fm_ro_s (by omega) (by omega) (by decide) (by decide)⟩, rfl⟩ (by rfl) (by rfl) (by rfl)
set_option maxHeartbeats 8000000 in
theorem fr_taleOrder13 {S E F C W n : Nat} (hxp : fm_xp g S E F) (hfl : fm_flt g) (hH : fm_th a0 C W) (hC : fm_TC a0 a n 13 0) : ∃ (v : Option Value) (mem' : fx_M), (fm_FTO a0 a g tp bt b S E n) (v, mem') ∧ fr_T 10 250 [.ref 0, .int 13, .int (nI (3846 + (6 * n)))] (fm g tp bt a b) v mem' := by
  have f1 : ∀ {a' : Nat → Nat → Int32} {x y : Int32}, fm_TC a0 a' n x y → a' 1 1 = a0 1 1 := fun z => z.2.1 1 (by omega)
  have f0 : ∀ {a' : Nat → Nat → Int32} {x y : Int32}, fm_TC a0 a' n x y → a' 1 0 = a0 1 0 := fun z => z.2.1 0 (by omega)
  have hn60 := hC.2.2.2.2.2.2.2.1
  refine fe_meth (F := fm_FTO a0 a g tp bt b S E n) (M := gk_m250) (by rfl) (by rfl) ?_
  refine fe_s 1 (pc' := 1) (lc' := [(0, .ref 0), (1, .int 13), (2, .int (nI (3846 + (6 * n))))]) (stk' := [.int 13]) (mem' := fm g tp bt a b) (by intro _ _ _; eq_refl) ?_
  refine fe_s 1 (pc' := 89) (lc' := [(0, .ref 0), (1, .int 13), (2, .int (nI (3846 + (6 * n))))]) (stk' := []) (mem' := fm g tp bt a b) (by intro _ _ _; eq_refl) ?_
  refine fe_s 6 (pc' := 96) (lc' := [(0, .ref 0), (1, .int 13), (2, .int (nI (3846 + (6 * n))))]) (stk' := [.int 20, .int 1, .int ((nI (3846 + (6 * n))) + 1), .ref 0]) (mem' := fm g tp bt a b) (by intro _ _ _; eq_refl) ?_
  rw [show ((nI (3846 + (6 * n))) + 1 : Int32) = nI ((3846 + (6 * n)) + 1) from by simp only [show (1 : Int32) = nI 1 from rfl, nI_add, fm_mul]]
  obtain ⟨xm1, gm1, Em1, Fm1, am1, hfrm1, hom1, hvm1⟩ := fr_numberq (T := (3846 + (6 * n)) + 1) (lo := 1) (hi := 20) (g := g) (tp := tp) (bt := bt) (a := a) (b := b) (by have := hC.2.2.2.2.2.2.2.1; omega) (fm_go_rf hxp hfl).2.1 (fm_go_rf hxp hfl).2.2.1
  have gom1 := fm_go_tr (fm_go_rf hxp hfl) hom1
  refine fe_ivV hfrm1 (by omega) (by rfl) (by rfl) (by rfl) (by rfl) (by rfl) (by rfl) ?_
  rcases hvm1 with ⟨rfl, hzm1, ham1⟩ | ⟨rfl, hem1, hpm1, ym1, hlm1, hum1, ham1⟩
  · have hCm1 : fm_TC a0 am1 n 13 0 := by rw [ham1]; exact hC
    have h8m1 : am1 8 = a 8 := (congrFun ham1 8).trans rfl
    exact fe_ret ⟨_, _, _, _, _, _, _, gom1, hCm1, h8m1, Or.inl ⟨rfl, hzm1⟩, rfl⟩ (by rfl) (by rfl) (by rfl)
  · have e18m1 : gm1 18 = g 18 := hem1.trans rfl
    have prm1 : gm1 12 = 0 ∨ E < Em1 := hpm1.imp id (fun z => by have := (fm_go_rf hxp hfl).2.2.2; omega)
    have lm1 : 1 ≤ ym1.toInt := (by have z := Int32.le_iff_toInt_le.mp hlm1; rw [show ((1 : Int32).toInt) = 1 from rfl] at z; omega)
    have um1 : ym1.toInt ≤ 20 := (by have z := Int32.le_iff_toInt_le.mp hum1; rw [show ((20 : Int32).toInt) = 20 from rfl] at z; omega)
    have hCm1 : fm_TC a0 am1 n 13 ym1 := by rw [ham1]; rw [show (3846 + (6 * n)) + 1 = 3847 + 6 * n by omega]; exact fm_TC_1 hC (by omega) (by omega)
    have h8m1 : am1 8 = a 8 := (congrFun ham1 8).trans ((fm_ut (by decide)).trans rfl)
    exact fe_ret ⟨_, _, _, _, _, _, _, gom1, hCm1, h8m1, Or.inr ⟨rfl, e18m1, fm_ro_n (by decide) (by decide) (by decide) (by decide) (by decide)⟩, rfl⟩ (by rfl) (by rfl) (by rfl)
set_option maxHeartbeats 8000000 in
theorem fr_taleOrder14 {S E F C W n : Nat} (hxp : fm_xp g S E F) (hfl : fm_flt g) (hH : fm_th a0 C W) (hC : fm_TC a0 a n 14 0) : ∃ (v : Option Value) (mem' : fx_M), (fm_FTO a0 a g tp bt b S E n) (v, mem') ∧ fr_T 10 250 [.ref 0, .int 14, .int (nI (3846 + (6 * n)))] (fm g tp bt a b) v mem' := by
  have f1 : ∀ {a' : Nat → Nat → Int32} {x y : Int32}, fm_TC a0 a' n x y → a' 1 1 = a0 1 1 := fun z => z.2.1 1 (by omega)
  have f0 : ∀ {a' : Nat → Nat → Int32} {x y : Int32}, fm_TC a0 a' n x y → a' 1 0 = a0 1 0 := fun z => z.2.1 0 (by omega)
  have hn60 := hC.2.2.2.2.2.2.2.1
  refine fe_meth (F := fm_FTO a0 a g tp bt b S E n) (M := gk_m250) (by rfl) (by rfl) ?_
  refine fe_s 1 (pc' := 1) (lc' := [(0, .ref 0), (1, .int 14), (2, .int (nI (3846 + (6 * n))))]) (stk' := [.int 14]) (mem' := fm g tp bt a b) (by intro _ _ _; eq_refl) ?_
  refine fe_s 1 (pc' := 89) (lc' := [(0, .ref 0), (1, .int 14), (2, .int (nI (3846 + (6 * n))))]) (stk' := []) (mem' := fm g tp bt a b) (by intro _ _ _; eq_refl) ?_
  refine fe_s 6 (pc' := 96) (lc' := [(0, .ref 0), (1, .int 14), (2, .int (nI (3846 + (6 * n))))]) (stk' := [.int 20, .int 1, .int ((nI (3846 + (6 * n))) + 1), .ref 0]) (mem' := fm g tp bt a b) (by intro _ _ _; eq_refl) ?_
  rw [show ((nI (3846 + (6 * n))) + 1 : Int32) = nI ((3846 + (6 * n)) + 1) from by simp only [show (1 : Int32) = nI 1 from rfl, nI_add, fm_mul]]
  obtain ⟨xm1, gm1, Em1, Fm1, am1, hfrm1, hom1, hvm1⟩ := fr_numberq (T := (3846 + (6 * n)) + 1) (lo := 1) (hi := 20) (g := g) (tp := tp) (bt := bt) (a := a) (b := b) (by have := hC.2.2.2.2.2.2.2.1; omega) (fm_go_rf hxp hfl).2.1 (fm_go_rf hxp hfl).2.2.1
  have gom1 := fm_go_tr (fm_go_rf hxp hfl) hom1
  refine fe_ivV hfrm1 (by omega) (by rfl) (by rfl) (by rfl) (by rfl) (by rfl) (by rfl) ?_
  rcases hvm1 with ⟨rfl, hzm1, ham1⟩ | ⟨rfl, hem1, hpm1, ym1, hlm1, hum1, ham1⟩
  · have hCm1 : fm_TC a0 am1 n 14 0 := by rw [ham1]; exact hC
    have h8m1 : am1 8 = a 8 := (congrFun ham1 8).trans rfl
    exact fe_ret ⟨_, _, _, _, _, _, _, gom1, hCm1, h8m1, Or.inl ⟨rfl, hzm1⟩, rfl⟩ (by rfl) (by rfl) (by rfl)
  · have e18m1 : gm1 18 = g 18 := hem1.trans rfl
    have prm1 : gm1 12 = 0 ∨ E < Em1 := hpm1.imp id (fun z => by have := (fm_go_rf hxp hfl).2.2.2; omega)
    have lm1 : 1 ≤ ym1.toInt := (by have z := Int32.le_iff_toInt_le.mp hlm1; rw [show ((1 : Int32).toInt) = 1 from rfl] at z; omega)
    have um1 : ym1.toInt ≤ 20 := (by have z := Int32.le_iff_toInt_le.mp hum1; rw [show ((20 : Int32).toInt) = 20 from rfl] at z; omega)
    have hCm1 : fm_TC a0 am1 n 14 ym1 := by rw [ham1]; rw [show (3846 + (6 * n)) + 1 = 3847 + 6 * n by omega]; exact fm_TC_1 hC (by omega) (by omega)
    have h8m1 : am1 8 = a 8 := (congrFun ham1 8).trans ((fm_ut (by decide)).trans rfl)
    exact fe_ret ⟨_, _, _, _, _, _, _, gom1, hCm1, h8m1, Or.inr ⟨rfl, e18m1, fm_ro_n (by decide) (by decide) (by decide) (by decide) (by decide)⟩, rfl⟩ (by rfl) (by rfl) (by rfl)
set_option maxHeartbeats 8000000 in
theorem fr_taleOrder15 {S E F C W n : Nat} (hxp : fm_xp g S E F) (hfl : fm_flt g) (hH : fm_th a0 C W) (hC : fm_TC a0 a n 15 0) : ∃ (v : Option Value) (mem' : fx_M), (fm_FTO a0 a g tp bt b S E n) (v, mem') ∧ fr_T 10 250 [.ref 0, .int 15, .int (nI (3846 + (6 * n)))] (fm g tp bt a b) v mem' := by
  have f1 : ∀ {a' : Nat → Nat → Int32} {x y : Int32}, fm_TC a0 a' n x y → a' 1 1 = a0 1 1 := fun z => z.2.1 1 (by omega)
  have f0 : ∀ {a' : Nat → Nat → Int32} {x y : Int32}, fm_TC a0 a' n x y → a' 1 0 = a0 1 0 := fun z => z.2.1 0 (by omega)
  have hn60 := hC.2.2.2.2.2.2.2.1
  refine fe_meth (F := fm_FTO a0 a g tp bt b S E n) (M := gk_m250) (by rfl) (by rfl) ?_
  refine fe_s 1 (pc' := 1) (lc' := [(0, .ref 0), (1, .int 15), (2, .int (nI (3846 + (6 * n))))]) (stk' := [.int 15]) (mem' := fm g tp bt a b) (by intro _ _ _; eq_refl) ?_
  refine fe_s 1 (pc' := 117) (lc' := [(0, .ref 0), (1, .int 15), (2, .int (nI (3846 + (6 * n))))]) (stk' := []) (mem' := fm g tp bt a b) (by intro _ _ _; eq_refl) ?_
  refine fe_s 1 (pc' := 118) (lc' := [(0, .ref 0), (1, .int 15), (2, .int (nI (3846 + (6 * n))))]) (stk' := [.int 1]) (mem' := fm g tp bt a b) (by intro _ _ _; eq_refl) ?_
  exact fe_ret ⟨_, _, _, _, _, _, _, (fm_go_rf hxp hfl), hC, rfl, Or.inr ⟨rfl, rfl, fm_ro_n (by decide) (by decide) (by decide) (by decide) (by decide)⟩, rfl⟩ (by rfl) (by rfl) (by rfl)
set_option maxHeartbeats 8000000 in
theorem fr_taleOrder18 {S E F C W n : Nat} (hxp : fm_xp g S E F) (hfl : fm_flt g) (hH : fm_th a0 C W) (hC : fm_TC a0 a n 18 0) : ∃ (v : Option Value) (mem' : fx_M), (fm_FTO a0 a g tp bt b S E n) (v, mem') ∧ fr_T 10 250 [.ref 0, .int 18, .int (nI (3846 + (6 * n)))] (fm g tp bt a b) v mem' := by
  have f1 : ∀ {a' : Nat → Nat → Int32} {x y : Int32}, fm_TC a0 a' n x y → a' 1 1 = a0 1 1 := fun z => z.2.1 1 (by omega)
  have f0 : ∀ {a' : Nat → Nat → Int32} {x y : Int32}, fm_TC a0 a' n x y → a' 1 0 = a0 1 0 := fun z => z.2.1 0 (by omega)
  have hn60 := hC.2.2.2.2.2.2.2.1
  refine fe_meth (F := fm_FTO a0 a g tp bt b S E n) (M := gk_m250) (by rfl) (by rfl) ?_
  refine fe_s 1 (pc' := 1) (lc' := [(0, .ref 0), (1, .int 18), (2, .int (nI (3846 + (6 * n))))]) (stk' := [.int 18]) (mem' := fm g tp bt a b) (by intro _ _ _; eq_refl) ?_
  refine fe_s 1 (pc' := 100) (lc' := [(0, .ref 0), (1, .int 18), (2, .int (nI (3846 + (6 * n))))]) (stk' := []) (mem' := fm g tp bt a b) (by intro _ _ _; eq_refl) ?_
  refine fe_s 2 (pc' := 102) (lc' := [(0, .ref 0), (1, .int 18), (2, .int (nI (3846 + (6 * n))))]) (stk' := [.int (nI (3846 + (6 * n))), .ref 0]) (mem' := fm g tp bt a b) (by intro _ _ _; eq_refl) ?_
  obtain ⟨vp1, memp1, ⟨xp1, gp1, Ep1, Fp1, ap1, Xp1, Yp1, hop1, hCp1, h8p1, hvp1, hRp1⟩, hfrp1⟩ := fr_test (g := g) (tp := tp) (bt := bt) (a := a) (b := b) (a0 := a0) (fm_go_rf hxp hfl).2.1 (fm_go_rf hxp hfl).2.2.1 hH hC
  cases hRp1
  have gop1 := fm_go_tr (fm_go_rf hxp hfl) hop1
  refine fe_ivV hfrp1 (by omega) (by rfl) (by rfl) (by rfl) (by rfl) (by rfl) (by rfl) ?_
  rcases hvp1 with ⟨rfl, hzp1⟩ | ⟨rfl, hep1, hrop1⟩
  · exact fe_ret ⟨_, _, _, _, _, _, _, gop1, hCp1, h8p1, Or.inl ⟨rfl, hzp1⟩, rfl⟩ (by rfl) (by rfl) (by rfl)
  · have e18p1 : gp1 18 = g 18 := hep1.trans rfl
    exact fe_ret ⟨_, _, _, _, _, _, _, gop1, hCp1, h8p1, Or.inr ⟨rfl, e18p1, hrop1⟩, rfl⟩ (by rfl) (by rfl) (by rfl)
set_option maxHeartbeats 8000000 in
theorem fr_taleOrder19 {S E F C W n : Nat} (hxp : fm_xp g S E F) (hfl : fm_flt g) (hH : fm_th a0 C W) (hC : fm_TC a0 a n 19 0) : ∃ (v : Option Value) (mem' : fx_M), (fm_FTO a0 a g tp bt b S E n) (v, mem') ∧ fr_T 10 250 [.ref 0, .int 19, .int (nI (3846 + (6 * n)))] (fm g tp bt a b) v mem' := by
  have f1 : ∀ {a' : Nat → Nat → Int32} {x y : Int32}, fm_TC a0 a' n x y → a' 1 1 = a0 1 1 := fun z => z.2.1 1 (by omega)
  have f0 : ∀ {a' : Nat → Nat → Int32} {x y : Int32}, fm_TC a0 a' n x y → a' 1 0 = a0 1 0 := fun z => z.2.1 0 (by omega)
  have hn60 := hC.2.2.2.2.2.2.2.1
  refine fe_meth (F := fm_FTO a0 a g tp bt b S E n) (M := gk_m250) (by rfl) (by rfl) ?_
  refine fe_s 1 (pc' := 1) (lc' := [(0, .ref 0), (1, .int 19), (2, .int (nI (3846 + (6 * n))))]) (stk' := [.int 19]) (mem' := fm g tp bt a b) (by intro _ _ _; eq_refl) ?_
  refine fe_s 1 (pc' := 106) (lc' := [(0, .ref 0), (1, .int 19), (2, .int (nI (3846 + (6 * n))))]) (stk' := []) (mem' := fm g tp bt a b) (by intro _ _ _; eq_refl) ?_
  refine fe_s 6 (pc' := 113) (lc' := [(0, .ref 0), (1, .int 19), (2, .int (nI (3846 + (6 * n))))]) (stk' := [.int 99, .int 1, .int ((nI (3846 + (6 * n))) + 1), .ref 0]) (mem' := fm g tp bt a b) (by intro _ _ _; eq_refl) ?_
  rw [show ((nI (3846 + (6 * n))) + 1 : Int32) = nI ((3846 + (6 * n)) + 1) from by simp only [show (1 : Int32) = nI 1 from rfl, nI_add, fm_mul]]
  obtain ⟨xm1, gm1, Em1, Fm1, am1, hfrm1, hom1, hvm1⟩ := fr_numberq (T := (3846 + (6 * n)) + 1) (lo := 1) (hi := 99) (g := g) (tp := tp) (bt := bt) (a := a) (b := b) (by have := hC.2.2.2.2.2.2.2.1; omega) (fm_go_rf hxp hfl).2.1 (fm_go_rf hxp hfl).2.2.1
  have gom1 := fm_go_tr (fm_go_rf hxp hfl) hom1
  refine fe_ivV hfrm1 (by omega) (by rfl) (by rfl) (by rfl) (by rfl) (by rfl) (by rfl) ?_
  rcases hvm1 with ⟨rfl, hzm1, ham1⟩ | ⟨rfl, hem1, hpm1, ym1, hlm1, hum1, ham1⟩
  · have hCm1 : fm_TC a0 am1 n 19 0 := by rw [ham1]; exact hC
    have h8m1 : am1 8 = a 8 := (congrFun ham1 8).trans rfl
    exact fe_ret ⟨_, _, _, _, _, _, _, gom1, hCm1, h8m1, Or.inl ⟨rfl, hzm1⟩, rfl⟩ (by rfl) (by rfl) (by rfl)
  · have e18m1 : gm1 18 = g 18 := hem1.trans rfl
    have prm1 : gm1 12 = 0 ∨ E < Em1 := hpm1.imp id (fun z => by have := (fm_go_rf hxp hfl).2.2.2; omega)
    have lm1 : 1 ≤ ym1.toInt := (by have z := Int32.le_iff_toInt_le.mp hlm1; rw [show ((1 : Int32).toInt) = 1 from rfl] at z; omega)
    have um1 : ym1.toInt ≤ 99 := (by have z := Int32.le_iff_toInt_le.mp hum1; rw [show ((99 : Int32).toInt) = 99 from rfl] at z; omega)
    have hCm1 : fm_TC a0 am1 n 19 ym1 := by rw [ham1]; rw [show (3846 + (6 * n)) + 1 = 3847 + 6 * n by omega]; exact fm_TC_1 hC (by omega) (by omega)
    have h8m1 : am1 8 = a 8 := (congrFun ham1 8).trans ((fm_ut (by decide)).trans rfl)
    exact fe_ret ⟨_, _, _, _, _, _, _, gom1, hCm1, h8m1, Or.inr ⟨rfl, e18m1, fm_ro_n (by decide) (by decide) (by decide) (by decide) (by decide)⟩, rfl⟩ (by rfl) (by rfl) (by rfl)
set_option maxHeartbeats 8000000 in
theorem fr_taleOrder20 {S E F C W n : Nat} (hxp : fm_xp g S E F) (hfl : fm_flt g) (hH : fm_th a0 C W) (hC : fm_TC a0 a n 20 0) : ∃ (v : Option Value) (mem' : fx_M), (fm_FTO a0 a g tp bt b S E n) (v, mem') ∧ fr_T 10 250 [.ref 0, .int 20, .int (nI (3846 + (6 * n)))] (fm g tp bt a b) v mem' := by
  have f1 : ∀ {a' : Nat → Nat → Int32} {x y : Int32}, fm_TC a0 a' n x y → a' 1 1 = a0 1 1 := fun z => z.2.1 1 (by omega)
  have f0 : ∀ {a' : Nat → Nat → Int32} {x y : Int32}, fm_TC a0 a' n x y → a' 1 0 = a0 1 0 := fun z => z.2.1 0 (by omega)
  have hn60 := hC.2.2.2.2.2.2.2.1
  refine fe_meth (F := fm_FTO a0 a g tp bt b S E n) (M := gk_m250) (by rfl) (by rfl) ?_
  refine fe_s 1 (pc' := 1) (lc' := [(0, .ref 0), (1, .int 20), (2, .int (nI (3846 + (6 * n))))]) (stk' := [.int 20]) (mem' := fm g tp bt a b) (by intro _ _ _; eq_refl) ?_
  refine fe_s 1 (pc' := 117) (lc' := [(0, .ref 0), (1, .int 20), (2, .int (nI (3846 + (6 * n))))]) (stk' := []) (mem' := fm g tp bt a b) (by intro _ _ _; eq_refl) ?_
  refine fe_s 1 (pc' := 118) (lc' := [(0, .ref 0), (1, .int 20), (2, .int (nI (3846 + (6 * n))))]) (stk' := [.int 1]) (mem' := fm g tp bt a b) (by intro _ _ _; eq_refl) ?_
  exact fe_ret ⟨_, _, _, _, _, _, _, (fm_go_rf hxp hfl), hC, rfl, Or.inr ⟨rfl, rfl, fm_ro_n (by decide) (by decide) (by decide) (by decide) (by decide)⟩, rfl⟩ (by rfl) (by rfl) (by rfl)
set_option maxHeartbeats 8000000 in
theorem fr_taleOrder21 {S E F C W n : Nat} (hxp : fm_xp g S E F) (hfl : fm_flt g) (hH : fm_th a0 C W) (hC : fm_TC a0 a n 21 0) : ∃ (v : Option Value) (mem' : fx_M), (fm_FTO a0 a g tp bt b S E n) (v, mem') ∧ fr_T 10 250 [.ref 0, .int 21, .int (nI (3846 + (6 * n)))] (fm g tp bt a b) v mem' := by
  have f1 : ∀ {a' : Nat → Nat → Int32} {x y : Int32}, fm_TC a0 a' n x y → a' 1 1 = a0 1 1 := fun z => z.2.1 1 (by omega)
  have f0 : ∀ {a' : Nat → Nat → Int32} {x y : Int32}, fm_TC a0 a' n x y → a' 1 0 = a0 1 0 := fun z => z.2.1 0 (by omega)
  have hn60 := hC.2.2.2.2.2.2.2.1
  refine fe_meth (F := fm_FTO a0 a g tp bt b S E n) (M := gk_m250) (by rfl) (by rfl) ?_
  refine fe_s 1 (pc' := 1) (lc' := [(0, .ref 0), (1, .int 21), (2, .int (nI (3846 + (6 * n))))]) (stk' := [.int 21]) (mem' := fm g tp bt a b) (by intro _ _ _; eq_refl) ?_
  refine fe_s 1 (pc' := 117) (lc' := [(0, .ref 0), (1, .int 21), (2, .int (nI (3846 + (6 * n))))]) (stk' := []) (mem' := fm g tp bt a b) (by intro _ _ _; eq_refl) ?_
  refine fe_s 1 (pc' := 118) (lc' := [(0, .ref 0), (1, .int 21), (2, .int (nI (3846 + (6 * n))))]) (stk' := [.int 1]) (mem' := fm g tp bt a b) (by intro _ _ _; eq_refl) ?_
  exact fe_ret ⟨_, _, _, _, _, _, _, (fm_go_rf hxp hfl), hC, rfl, Or.inr ⟨rfl, rfl, fm_ro_n (by decide) (by decide) (by decide) (by decide) (by decide)⟩, rfl⟩ (by rfl) (by rfl) (by rfl)
theorem fr_taleOrder20x {r : Int32} {mem : fx_M} : fr_T 1 250 [.ref 0, .int 20, .int r] mem (some (.int 1)) mem := by
  refine fr_meth (by rfl) (by rfl) ?_
  refine fr_s 1 (pc' := 1) (lc' := [(0, .ref 0), (1, .int 20), (2, .int r)]) (stk' := [.int 20]) (mem' := mem) (by intro _ _ _; eq_refl) ?_
  refine fr_s 1 (pc' := 117) (lc' := [(0, .ref 0), (1, .int 20), (2, .int r)]) (stk' := []) (mem' := mem) (by intro _ _ _; eq_refl) ?_
  refine fr_s 1 (pc' := 118) (lc' := [(0, .ref 0), (1, .int 20), (2, .int r)]) (stk' := [.int 1]) (mem' := mem) (by intro _ _ _; eq_refl) ?_
  exact fr_ret (by rfl) (by rfl) (by rfl)
end F4865_order
end MH3_1
section MH3_2
/-! ===== fx: a STEP of the TALES ===== -/
section F4870_step
variable {g : Nat → Int32} {tp bt : Int64} {a0 a : Nat → Nat → Int32} {b : Nat → Nat → Int64}
set_option maxRecDepth 20000 in
set_option maxHeartbeats 8000000 in
theorem ts_m {S E F C W n D K : Nat} (hxp : fm_xp g S E F) (hfl : fm_flt g) (hH : fm_th a0 C W) (hT : fm_TS a0 g a n D K) (hR : fm_TR a n) : fe_R 10 gk_m251 7 [(1, .int (-1)), (0, .ref 0)] [] (fm g tp bt a b) (fm_FTS a0 g tp bt b S E) := by
  obtain ⟨⟨eD, hD3, eK, hK30, hnK⟩, h8, h9⟩ := hT.2.2.2.2.2
  refine fe_s 3 (pc' := 14) (lc' := [(1, .int (-1)), (0, .ref 0)]) (stk' := [.int 3374, .ref 1]) (mem' := fm g tp bt a b) (by intro _ _ _; eq_refl) ?_
  refine fe_ldI (by rfl) (by rfl) (fx_inN (i := 3374) (by omega) (by omega)) ?_
  rw [show Int32.toNatClampNeg (3374) = 3374 from rfl]
  rw [hT.2.2.2.2.1]
  refine fe_s 9 (pc' := 28) (lc' := [(3, .int (3846 + (6 * (nI n)))), (2, .int (nI n)), (1, .int (-1)), (0, .ref 0)]) (stk' := [.int 18, .int (-1)]) (mem' := fm g tp bt a b) (by intro _ _ _; eq_refl) ?_
  rw [show (3846 + (6 * (nI n)) : Int32) = nI (3846 + (6 * n)) from by simp only [show (3846 : Int32) = nI 3846 from rfl, show (6 : Int32) = nI 6 from rfl, nI_add, fm_mul]]
  refine fe_s 1 (pc' := cond (fx_cb .eq (-1) 18) 37 31) (lc' := [(3, .int (nI (3846 + (6 * n)))), (2, .int (nI n)), (1, .int (-1)), (0, .ref 0)]) (stk' := []) (mem' := fm g tp bt a b) (by intro _ _ _; eq_refl) ?_
  rw [show (fx_cb .eq (-1) 18) = false from by decide]
  dsimp only [cond]
  refine fe_s 2 (pc' := 34) (lc' := [(3, .int (nI (3846 + (6 * n)))), (2, .int (nI n)), (1, .int (-1)), (0, .ref 0)]) (stk' := [.int 19, .int (-1)]) (mem' := fm g tp bt a b) (by intro _ _ _; eq_refl) ?_
  refine fe_s 1 (pc' := cond (fx_cb .ne (-1) 19) 41 37) (lc' := [(3, .int (nI (3846 + (6 * n)))), (2, .int (nI n)), (1, .int (-1)), (0, .ref 0)]) (stk' := []) (mem' := fm g tp bt a b) (by intro _ _ _; eq_refl) ?_
  rw [show (fx_cb .ne (-1) 19) = true from by decide]
  dsimp only [cond]
  refine fe_s 4 (pc' := 47) (lc' := [(4, .int 0), (3, .int (nI (3846 + (6 * n)))), (2, .int (nI n)), (1, .int (-1)), (0, .ref 0)]) (stk' := [.int 11, .int (-1)]) (mem' := fm g tp bt a b) (by intro _ _ _; eq_refl) ?_
  refine fe_s 1 (pc' := cond (fx_cb .lt (-1) 11) 81 50) (lc' := [(4, .int 0), (3, .int (nI (3846 + (6 * n)))), (2, .int (nI n)), (1, .int (-1)), (0, .ref 0)]) (stk' := []) (mem' := fm g tp bt a b) (by intro _ _ _; eq_refl) ?_
  rw [show (fx_cb .lt (-1) 11) = true from by decide]
  dsimp only [cond]
  refine fe_s 2 (pc' := 83) (lc' := [(4, .int 0), (3, .int (nI (3846 + (6 * n)))), (2, .int (nI n)), (1, .int (-1)), (0, .ref 0)]) (stk' := [.int 2, .ref 0]) (mem' := fm g tp bt a b) (by intro _ _ _; eq_refl) ?_
  obtain ⟨gf1, hfrf1, hof1, hzf1⟩ := fr_failsq (x := 2) (g := g) (tp := tp) (bt := bt) (a := a) (b := b) (by omega) (by omega) (fm_gy_rf hxp hfl).2.1 (fm_gy_rf hxp hfl).2.2.1
  have gof1 := fm_gy_tr (fm_gy_rf hxp hfl) hof1
  have d22f1 : gf1 22 = nI D := by rw [hof1.1 22 (by decide) (by decide) (by decide) (by decide) (by decide) (by decide)]; first | exact eD | rfl
  have d23f1 : gf1 23 = nI K := by rw [hof1.1 23 (by decide) (by decide) (by decide) (by decide) (by decide) (by decide)]; first | exact eK | rfl
  refine fe_ivV hfrf1 (by omega) (by rfl) (by rfl) (by rfl) (by rfl) (by rfl) (by rfl) ?_
  exact fe_ret ⟨_, _, _, _, _, n, D, K, gof1, ⟨hT.1, hT.2.1, hT.2.2.1, hT.2.2.2.1, hT.2.2.2.2.1, ⟨d22f1, hD3, d23f1, hK30, hnK⟩, h8, h9⟩, Or.inl ⟨rfl, hzf1⟩, rfl⟩ (by rfl) (by rfl) (by rfl)
set_option maxRecDepth 20000 in
set_option maxHeartbeats 8000000 in
theorem ts_0 {S E F C W n D K : Nat} (hxp : fm_xp g S E F) (hfl : fm_flt g) (hH : fm_th a0 C W) (hT : fm_TS a0 g a n D K) (hR : fm_TR a n) : fe_R 10 gk_m251 7 [(1, .int 0), (0, .ref 0)] [] (fm g tp bt a b) (fm_FTS a0 g tp bt b S E) := by
  obtain ⟨⟨eD, hD3, eK, hK30, hnK⟩, h8, h9⟩ := hT.2.2.2.2.2
  refine fe_s 3 (pc' := 14) (lc' := [(1, .int 0), (0, .ref 0)]) (stk' := [.int 3374, .ref 1]) (mem' := fm g tp bt a b) (by intro _ _ _; eq_refl) ?_
  refine fe_ldI (by rfl) (by rfl) (fx_inN (i := 3374) (by omega) (by omega)) ?_
  rw [show Int32.toNatClampNeg (3374) = 3374 from rfl]
  rw [hT.2.2.2.2.1]
  refine fe_s 9 (pc' := 28) (lc' := [(3, .int (3846 + (6 * (nI n)))), (2, .int (nI n)), (1, .int 0), (0, .ref 0)]) (stk' := [.int 18, .int 0]) (mem' := fm g tp bt a b) (by intro _ _ _; eq_refl) ?_
  rw [show (3846 + (6 * (nI n)) : Int32) = nI (3846 + (6 * n)) from by simp only [show (3846 : Int32) = nI 3846 from rfl, show (6 : Int32) = nI 6 from rfl, nI_add, fm_mul]]
  refine fe_s 1 (pc' := cond (fx_cb .eq 0 18) 37 31) (lc' := [(3, .int (nI (3846 + (6 * n)))), (2, .int (nI n)), (1, .int 0), (0, .ref 0)]) (stk' := []) (mem' := fm g tp bt a b) (by intro _ _ _; eq_refl) ?_
  rw [show (fx_cb .eq 0 18) = false from by decide]
  dsimp only [cond]
  refine fe_s 2 (pc' := 34) (lc' := [(3, .int (nI (3846 + (6 * n)))), (2, .int (nI n)), (1, .int 0), (0, .ref 0)]) (stk' := [.int 19, .int 0]) (mem' := fm g tp bt a b) (by intro _ _ _; eq_refl) ?_
  refine fe_s 1 (pc' := cond (fx_cb .ne 0 19) 41 37) (lc' := [(3, .int (nI (3846 + (6 * n)))), (2, .int (nI n)), (1, .int 0), (0, .ref 0)]) (stk' := []) (mem' := fm g tp bt a b) (by intro _ _ _; eq_refl) ?_
  rw [show (fx_cb .ne 0 19) = true from by decide]
  dsimp only [cond]
  refine fe_s 4 (pc' := 47) (lc' := [(4, .int 0), (3, .int (nI (3846 + (6 * n)))), (2, .int (nI n)), (1, .int 0), (0, .ref 0)]) (stk' := [.int 11, .int 0]) (mem' := fm g tp bt a b) (by intro _ _ _; eq_refl) ?_
  refine fe_s 1 (pc' := cond (fx_cb .lt 0 11) 81 50) (lc' := [(4, .int 0), (3, .int (nI (3846 + (6 * n)))), (2, .int (nI n)), (1, .int 0), (0, .ref 0)]) (stk' := []) (mem' := fm g tp bt a b) (by intro _ _ _; eq_refl) ?_
  rw [show (fx_cb .lt 0 11) = true from by decide]
  dsimp only [cond]
  refine fe_s 2 (pc' := 83) (lc' := [(4, .int 0), (3, .int (nI (3846 + (6 * n)))), (2, .int (nI n)), (1, .int 0), (0, .ref 0)]) (stk' := [.int 2, .ref 0]) (mem' := fm g tp bt a b) (by intro _ _ _; eq_refl) ?_
  obtain ⟨gf1, hfrf1, hof1, hzf1⟩ := fr_failsq (x := 2) (g := g) (tp := tp) (bt := bt) (a := a) (b := b) (by omega) (by omega) (fm_gy_rf hxp hfl).2.1 (fm_gy_rf hxp hfl).2.2.1
  have gof1 := fm_gy_tr (fm_gy_rf hxp hfl) hof1
  have d22f1 : gf1 22 = nI D := by rw [hof1.1 22 (by decide) (by decide) (by decide) (by decide) (by decide) (by decide)]; first | exact eD | rfl
  have d23f1 : gf1 23 = nI K := by rw [hof1.1 23 (by decide) (by decide) (by decide) (by decide) (by decide) (by decide)]; first | exact eK | rfl
  refine fe_ivV hfrf1 (by omega) (by rfl) (by rfl) (by rfl) (by rfl) (by rfl) (by rfl) ?_
  exact fe_ret ⟨_, _, _, _, _, n, D, K, gof1, ⟨hT.1, hT.2.1, hT.2.2.1, hT.2.2.2.1, hT.2.2.2.2.1, ⟨d22f1, hD3, d23f1, hK30, hnK⟩, h8, h9⟩, Or.inl ⟨rfl, hzf1⟩, rfl⟩ (by rfl) (by rfl) (by rfl)
set_option maxRecDepth 20000 in
set_option maxHeartbeats 8000000 in
theorem ts_1 {S E F C W n D K : Nat} (hxp : fm_xp g S E F) (hfl : fm_flt g) (hH : fm_th a0 C W) (hT : fm_TS a0 g a n D K) (hR : fm_TR a n) : fe_R 10 gk_m251 7 [(1, .int 1), (0, .ref 0)] [] (fm g tp bt a b) (fm_FTS a0 g tp bt b S E) := by
  obtain ⟨⟨eD, hD3, eK, hK30, hnK⟩, h8, h9⟩ := hT.2.2.2.2.2
  refine fe_s 3 (pc' := 14) (lc' := [(1, .int 1), (0, .ref 0)]) (stk' := [.int 3374, .ref 1]) (mem' := fm g tp bt a b) (by intro _ _ _; eq_refl) ?_
  refine fe_ldI (by rfl) (by rfl) (fx_inN (i := 3374) (by omega) (by omega)) ?_
  rw [show Int32.toNatClampNeg (3374) = 3374 from rfl]
  rw [hT.2.2.2.2.1]
  refine fe_s 9 (pc' := 28) (lc' := [(3, .int (3846 + (6 * (nI n)))), (2, .int (nI n)), (1, .int 1), (0, .ref 0)]) (stk' := [.int 18, .int 1]) (mem' := fm g tp bt a b) (by intro _ _ _; eq_refl) ?_
  rw [show (3846 + (6 * (nI n)) : Int32) = nI (3846 + (6 * n)) from by simp only [show (3846 : Int32) = nI 3846 from rfl, show (6 : Int32) = nI 6 from rfl, nI_add, fm_mul]]
  refine fe_s 1 (pc' := cond (fx_cb .eq 1 18) 37 31) (lc' := [(3, .int (nI (3846 + (6 * n)))), (2, .int (nI n)), (1, .int 1), (0, .ref 0)]) (stk' := []) (mem' := fm g tp bt a b) (by intro _ _ _; eq_refl) ?_
  rw [show (fx_cb .eq 1 18) = false from by decide]
  dsimp only [cond]
  refine fe_s 2 (pc' := 34) (lc' := [(3, .int (nI (3846 + (6 * n)))), (2, .int (nI n)), (1, .int 1), (0, .ref 0)]) (stk' := [.int 19, .int 1]) (mem' := fm g tp bt a b) (by intro _ _ _; eq_refl) ?_
  refine fe_s 1 (pc' := cond (fx_cb .ne 1 19) 41 37) (lc' := [(3, .int (nI (3846 + (6 * n)))), (2, .int (nI n)), (1, .int 1), (0, .ref 0)]) (stk' := []) (mem' := fm g tp bt a b) (by intro _ _ _; eq_refl) ?_
  rw [show (fx_cb .ne 1 19) = true from by decide]
  dsimp only [cond]
  refine fe_s 4 (pc' := 47) (lc' := [(4, .int 0), (3, .int (nI (3846 + (6 * n)))), (2, .int (nI n)), (1, .int 1), (0, .ref 0)]) (stk' := [.int 11, .int 1]) (mem' := fm g tp bt a b) (by intro _ _ _; eq_refl) ?_
  refine fe_s 1 (pc' := cond (fx_cb .lt 1 11) 81 50) (lc' := [(4, .int 0), (3, .int (nI (3846 + (6 * n)))), (2, .int (nI n)), (1, .int 1), (0, .ref 0)]) (stk' := []) (mem' := fm g tp bt a b) (by intro _ _ _; eq_refl) ?_
  rw [show (fx_cb .lt 1 11) = true from by decide]
  dsimp only [cond]
  refine fe_s 2 (pc' := 83) (lc' := [(4, .int 0), (3, .int (nI (3846 + (6 * n)))), (2, .int (nI n)), (1, .int 1), (0, .ref 0)]) (stk' := [.int 2, .ref 0]) (mem' := fm g tp bt a b) (by intro _ _ _; eq_refl) ?_
  obtain ⟨gf1, hfrf1, hof1, hzf1⟩ := fr_failsq (x := 2) (g := g) (tp := tp) (bt := bt) (a := a) (b := b) (by omega) (by omega) (fm_gy_rf hxp hfl).2.1 (fm_gy_rf hxp hfl).2.2.1
  have gof1 := fm_gy_tr (fm_gy_rf hxp hfl) hof1
  have d22f1 : gf1 22 = nI D := by rw [hof1.1 22 (by decide) (by decide) (by decide) (by decide) (by decide) (by decide)]; first | exact eD | rfl
  have d23f1 : gf1 23 = nI K := by rw [hof1.1 23 (by decide) (by decide) (by decide) (by decide) (by decide) (by decide)]; first | exact eK | rfl
  refine fe_ivV hfrf1 (by omega) (by rfl) (by rfl) (by rfl) (by rfl) (by rfl) (by rfl) ?_
  exact fe_ret ⟨_, _, _, _, _, n, D, K, gof1, ⟨hT.1, hT.2.1, hT.2.2.1, hT.2.2.2.1, hT.2.2.2.2.1, ⟨d22f1, hD3, d23f1, hK30, hnK⟩, h8, h9⟩, Or.inl ⟨rfl, hzf1⟩, rfl⟩ (by rfl) (by rfl) (by rfl)
set_option maxRecDepth 20000 in
set_option maxHeartbeats 8000000 in
theorem ts_2 {S E F C W n D K : Nat} (hxp : fm_xp g S E F) (hfl : fm_flt g) (hH : fm_th a0 C W) (hT : fm_TS a0 g a n D K) (hR : fm_TR a n) : fe_R 10 gk_m251 7 [(1, .int 2), (0, .ref 0)] [] (fm g tp bt a b) (fm_FTS a0 g tp bt b S E) := by
  obtain ⟨⟨eD, hD3, eK, hK30, hnK⟩, h8, h9⟩ := hT.2.2.2.2.2
  refine fe_s 3 (pc' := 14) (lc' := [(1, .int 2), (0, .ref 0)]) (stk' := [.int 3374, .ref 1]) (mem' := fm g tp bt a b) (by intro _ _ _; eq_refl) ?_
  refine fe_ldI (by rfl) (by rfl) (fx_inN (i := 3374) (by omega) (by omega)) ?_
  rw [show Int32.toNatClampNeg (3374) = 3374 from rfl]
  rw [hT.2.2.2.2.1]
  refine fe_s 9 (pc' := 28) (lc' := [(3, .int (3846 + (6 * (nI n)))), (2, .int (nI n)), (1, .int 2), (0, .ref 0)]) (stk' := [.int 18, .int 2]) (mem' := fm g tp bt a b) (by intro _ _ _; eq_refl) ?_
  rw [show (3846 + (6 * (nI n)) : Int32) = nI (3846 + (6 * n)) from by simp only [show (3846 : Int32) = nI 3846 from rfl, show (6 : Int32) = nI 6 from rfl, nI_add, fm_mul]]
  refine fe_s 1 (pc' := cond (fx_cb .eq 2 18) 37 31) (lc' := [(3, .int (nI (3846 + (6 * n)))), (2, .int (nI n)), (1, .int 2), (0, .ref 0)]) (stk' := []) (mem' := fm g tp bt a b) (by intro _ _ _; eq_refl) ?_
  rw [show (fx_cb .eq 2 18) = false from by decide]
  dsimp only [cond]
  refine fe_s 2 (pc' := 34) (lc' := [(3, .int (nI (3846 + (6 * n)))), (2, .int (nI n)), (1, .int 2), (0, .ref 0)]) (stk' := [.int 19, .int 2]) (mem' := fm g tp bt a b) (by intro _ _ _; eq_refl) ?_
  refine fe_s 1 (pc' := cond (fx_cb .ne 2 19) 41 37) (lc' := [(3, .int (nI (3846 + (6 * n)))), (2, .int (nI n)), (1, .int 2), (0, .ref 0)]) (stk' := []) (mem' := fm g tp bt a b) (by intro _ _ _; eq_refl) ?_
  rw [show (fx_cb .ne 2 19) = true from by decide]
  dsimp only [cond]
  refine fe_s 4 (pc' := 47) (lc' := [(4, .int 0), (3, .int (nI (3846 + (6 * n)))), (2, .int (nI n)), (1, .int 2), (0, .ref 0)]) (stk' := [.int 11, .int 2]) (mem' := fm g tp bt a b) (by intro _ _ _; eq_refl) ?_
  refine fe_s 1 (pc' := cond (fx_cb .lt 2 11) 81 50) (lc' := [(4, .int 0), (3, .int (nI (3846 + (6 * n)))), (2, .int (nI n)), (1, .int 2), (0, .ref 0)]) (stk' := []) (mem' := fm g tp bt a b) (by intro _ _ _; eq_refl) ?_
  rw [show (fx_cb .lt 2 11) = true from by decide]
  dsimp only [cond]
  refine fe_s 2 (pc' := 83) (lc' := [(4, .int 0), (3, .int (nI (3846 + (6 * n)))), (2, .int (nI n)), (1, .int 2), (0, .ref 0)]) (stk' := [.int 2, .ref 0]) (mem' := fm g tp bt a b) (by intro _ _ _; eq_refl) ?_
  obtain ⟨gf1, hfrf1, hof1, hzf1⟩ := fr_failsq (x := 2) (g := g) (tp := tp) (bt := bt) (a := a) (b := b) (by omega) (by omega) (fm_gy_rf hxp hfl).2.1 (fm_gy_rf hxp hfl).2.2.1
  have gof1 := fm_gy_tr (fm_gy_rf hxp hfl) hof1
  have d22f1 : gf1 22 = nI D := by rw [hof1.1 22 (by decide) (by decide) (by decide) (by decide) (by decide) (by decide)]; first | exact eD | rfl
  have d23f1 : gf1 23 = nI K := by rw [hof1.1 23 (by decide) (by decide) (by decide) (by decide) (by decide) (by decide)]; first | exact eK | rfl
  refine fe_ivV hfrf1 (by omega) (by rfl) (by rfl) (by rfl) (by rfl) (by rfl) (by rfl) ?_
  exact fe_ret ⟨_, _, _, _, _, n, D, K, gof1, ⟨hT.1, hT.2.1, hT.2.2.1, hT.2.2.2.1, hT.2.2.2.2.1, ⟨d22f1, hD3, d23f1, hK30, hnK⟩, h8, h9⟩, Or.inl ⟨rfl, hzf1⟩, rfl⟩ (by rfl) (by rfl) (by rfl)
set_option maxRecDepth 20000 in
set_option maxHeartbeats 8000000 in
theorem ts_3 {S E F C W n D K : Nat} (hxp : fm_xp g S E F) (hfl : fm_flt g) (hH : fm_th a0 C W) (hT : fm_TS a0 g a n D K) (hR : fm_TR a n) : fe_R 10 gk_m251 7 [(1, .int 3), (0, .ref 0)] [] (fm g tp bt a b) (fm_FTS a0 g tp bt b S E) := by
  obtain ⟨⟨eD, hD3, eK, hK30, hnK⟩, h8, h9⟩ := hT.2.2.2.2.2
  refine fe_s 3 (pc' := 14) (lc' := [(1, .int 3), (0, .ref 0)]) (stk' := [.int 3374, .ref 1]) (mem' := fm g tp bt a b) (by intro _ _ _; eq_refl) ?_
  refine fe_ldI (by rfl) (by rfl) (fx_inN (i := 3374) (by omega) (by omega)) ?_
  rw [show Int32.toNatClampNeg (3374) = 3374 from rfl]
  rw [hT.2.2.2.2.1]
  refine fe_s 9 (pc' := 28) (lc' := [(3, .int (3846 + (6 * (nI n)))), (2, .int (nI n)), (1, .int 3), (0, .ref 0)]) (stk' := [.int 18, .int 3]) (mem' := fm g tp bt a b) (by intro _ _ _; eq_refl) ?_
  rw [show (3846 + (6 * (nI n)) : Int32) = nI (3846 + (6 * n)) from by simp only [show (3846 : Int32) = nI 3846 from rfl, show (6 : Int32) = nI 6 from rfl, nI_add, fm_mul]]
  refine fe_s 1 (pc' := cond (fx_cb .eq 3 18) 37 31) (lc' := [(3, .int (nI (3846 + (6 * n)))), (2, .int (nI n)), (1, .int 3), (0, .ref 0)]) (stk' := []) (mem' := fm g tp bt a b) (by intro _ _ _; eq_refl) ?_
  rw [show (fx_cb .eq 3 18) = false from by decide]
  dsimp only [cond]
  refine fe_s 2 (pc' := 34) (lc' := [(3, .int (nI (3846 + (6 * n)))), (2, .int (nI n)), (1, .int 3), (0, .ref 0)]) (stk' := [.int 19, .int 3]) (mem' := fm g tp bt a b) (by intro _ _ _; eq_refl) ?_
  refine fe_s 1 (pc' := cond (fx_cb .ne 3 19) 41 37) (lc' := [(3, .int (nI (3846 + (6 * n)))), (2, .int (nI n)), (1, .int 3), (0, .ref 0)]) (stk' := []) (mem' := fm g tp bt a b) (by intro _ _ _; eq_refl) ?_
  rw [show (fx_cb .ne 3 19) = true from by decide]
  dsimp only [cond]
  refine fe_s 4 (pc' := 47) (lc' := [(4, .int 0), (3, .int (nI (3846 + (6 * n)))), (2, .int (nI n)), (1, .int 3), (0, .ref 0)]) (stk' := [.int 11, .int 3]) (mem' := fm g tp bt a b) (by intro _ _ _; eq_refl) ?_
  refine fe_s 1 (pc' := cond (fx_cb .lt 3 11) 81 50) (lc' := [(4, .int 0), (3, .int (nI (3846 + (6 * n)))), (2, .int (nI n)), (1, .int 3), (0, .ref 0)]) (stk' := []) (mem' := fm g tp bt a b) (by intro _ _ _; eq_refl) ?_
  rw [show (fx_cb .lt 3 11) = true from by decide]
  dsimp only [cond]
  refine fe_s 2 (pc' := 83) (lc' := [(4, .int 0), (3, .int (nI (3846 + (6 * n)))), (2, .int (nI n)), (1, .int 3), (0, .ref 0)]) (stk' := [.int 2, .ref 0]) (mem' := fm g tp bt a b) (by intro _ _ _; eq_refl) ?_
  obtain ⟨gf1, hfrf1, hof1, hzf1⟩ := fr_failsq (x := 2) (g := g) (tp := tp) (bt := bt) (a := a) (b := b) (by omega) (by omega) (fm_gy_rf hxp hfl).2.1 (fm_gy_rf hxp hfl).2.2.1
  have gof1 := fm_gy_tr (fm_gy_rf hxp hfl) hof1
  have d22f1 : gf1 22 = nI D := by rw [hof1.1 22 (by decide) (by decide) (by decide) (by decide) (by decide) (by decide)]; first | exact eD | rfl
  have d23f1 : gf1 23 = nI K := by rw [hof1.1 23 (by decide) (by decide) (by decide) (by decide) (by decide) (by decide)]; first | exact eK | rfl
  refine fe_ivV hfrf1 (by omega) (by rfl) (by rfl) (by rfl) (by rfl) (by rfl) (by rfl) ?_
  exact fe_ret ⟨_, _, _, _, _, n, D, K, gof1, ⟨hT.1, hT.2.1, hT.2.2.1, hT.2.2.2.1, hT.2.2.2.2.1, ⟨d22f1, hD3, d23f1, hK30, hnK⟩, h8, h9⟩, Or.inl ⟨rfl, hzf1⟩, rfl⟩ (by rfl) (by rfl) (by rfl)
set_option maxRecDepth 20000 in
set_option maxHeartbeats 8000000 in
theorem ts_4 {S E F C W n D K : Nat} (hxp : fm_xp g S E F) (hfl : fm_flt g) (hH : fm_th a0 C W) (hT : fm_TS a0 g a n D K) (hR : fm_TR a n) : fe_R 10 gk_m251 7 [(1, .int 4), (0, .ref 0)] [] (fm g tp bt a b) (fm_FTS a0 g tp bt b S E) := by
  obtain ⟨⟨eD, hD3, eK, hK30, hnK⟩, h8, h9⟩ := hT.2.2.2.2.2
  refine fe_s 3 (pc' := 14) (lc' := [(1, .int 4), (0, .ref 0)]) (stk' := [.int 3374, .ref 1]) (mem' := fm g tp bt a b) (by intro _ _ _; eq_refl) ?_
  refine fe_ldI (by rfl) (by rfl) (fx_inN (i := 3374) (by omega) (by omega)) ?_
  rw [show Int32.toNatClampNeg (3374) = 3374 from rfl]
  rw [hT.2.2.2.2.1]
  refine fe_s 9 (pc' := 28) (lc' := [(3, .int (3846 + (6 * (nI n)))), (2, .int (nI n)), (1, .int 4), (0, .ref 0)]) (stk' := [.int 18, .int 4]) (mem' := fm g tp bt a b) (by intro _ _ _; eq_refl) ?_
  rw [show (3846 + (6 * (nI n)) : Int32) = nI (3846 + (6 * n)) from by simp only [show (3846 : Int32) = nI 3846 from rfl, show (6 : Int32) = nI 6 from rfl, nI_add, fm_mul]]
  refine fe_s 1 (pc' := cond (fx_cb .eq 4 18) 37 31) (lc' := [(3, .int (nI (3846 + (6 * n)))), (2, .int (nI n)), (1, .int 4), (0, .ref 0)]) (stk' := []) (mem' := fm g tp bt a b) (by intro _ _ _; eq_refl) ?_
  rw [show (fx_cb .eq 4 18) = false from by decide]
  dsimp only [cond]
  refine fe_s 2 (pc' := 34) (lc' := [(3, .int (nI (3846 + (6 * n)))), (2, .int (nI n)), (1, .int 4), (0, .ref 0)]) (stk' := [.int 19, .int 4]) (mem' := fm g tp bt a b) (by intro _ _ _; eq_refl) ?_
  refine fe_s 1 (pc' := cond (fx_cb .ne 4 19) 41 37) (lc' := [(3, .int (nI (3846 + (6 * n)))), (2, .int (nI n)), (1, .int 4), (0, .ref 0)]) (stk' := []) (mem' := fm g tp bt a b) (by intro _ _ _; eq_refl) ?_
  rw [show (fx_cb .ne 4 19) = true from by decide]
  dsimp only [cond]
  refine fe_s 4 (pc' := 47) (lc' := [(4, .int 0), (3, .int (nI (3846 + (6 * n)))), (2, .int (nI n)), (1, .int 4), (0, .ref 0)]) (stk' := [.int 11, .int 4]) (mem' := fm g tp bt a b) (by intro _ _ _; eq_refl) ?_
  refine fe_s 1 (pc' := cond (fx_cb .lt 4 11) 81 50) (lc' := [(4, .int 0), (3, .int (nI (3846 + (6 * n)))), (2, .int (nI n)), (1, .int 4), (0, .ref 0)]) (stk' := []) (mem' := fm g tp bt a b) (by intro _ _ _; eq_refl) ?_
  rw [show (fx_cb .lt 4 11) = true from by decide]
  dsimp only [cond]
  refine fe_s 2 (pc' := 83) (lc' := [(4, .int 0), (3, .int (nI (3846 + (6 * n)))), (2, .int (nI n)), (1, .int 4), (0, .ref 0)]) (stk' := [.int 2, .ref 0]) (mem' := fm g tp bt a b) (by intro _ _ _; eq_refl) ?_
  obtain ⟨gf1, hfrf1, hof1, hzf1⟩ := fr_failsq (x := 2) (g := g) (tp := tp) (bt := bt) (a := a) (b := b) (by omega) (by omega) (fm_gy_rf hxp hfl).2.1 (fm_gy_rf hxp hfl).2.2.1
  have gof1 := fm_gy_tr (fm_gy_rf hxp hfl) hof1
  have d22f1 : gf1 22 = nI D := by rw [hof1.1 22 (by decide) (by decide) (by decide) (by decide) (by decide) (by decide)]; first | exact eD | rfl
  have d23f1 : gf1 23 = nI K := by rw [hof1.1 23 (by decide) (by decide) (by decide) (by decide) (by decide) (by decide)]; first | exact eK | rfl
  refine fe_ivV hfrf1 (by omega) (by rfl) (by rfl) (by rfl) (by rfl) (by rfl) (by rfl) ?_
  exact fe_ret ⟨_, _, _, _, _, n, D, K, gof1, ⟨hT.1, hT.2.1, hT.2.2.1, hT.2.2.2.1, hT.2.2.2.2.1, ⟨d22f1, hD3, d23f1, hK30, hnK⟩, h8, h9⟩, Or.inl ⟨rfl, hzf1⟩, rfl⟩ (by rfl) (by rfl) (by rfl)
set_option maxRecDepth 20000 in
set_option maxHeartbeats 8000000 in
theorem ts_5 {S E F C W n D K : Nat} (hxp : fm_xp g S E F) (hfl : fm_flt g) (hH : fm_th a0 C W) (hT : fm_TS a0 g a n D K) (hR : fm_TR a n) : fe_R 10 gk_m251 7 [(1, .int 5), (0, .ref 0)] [] (fm g tp bt a b) (fm_FTS a0 g tp bt b S E) := by
  obtain ⟨⟨eD, hD3, eK, hK30, hnK⟩, h8, h9⟩ := hT.2.2.2.2.2
  refine fe_s 3 (pc' := 14) (lc' := [(1, .int 5), (0, .ref 0)]) (stk' := [.int 3374, .ref 1]) (mem' := fm g tp bt a b) (by intro _ _ _; eq_refl) ?_
  refine fe_ldI (by rfl) (by rfl) (fx_inN (i := 3374) (by omega) (by omega)) ?_
  rw [show Int32.toNatClampNeg (3374) = 3374 from rfl]
  rw [hT.2.2.2.2.1]
  refine fe_s 9 (pc' := 28) (lc' := [(3, .int (3846 + (6 * (nI n)))), (2, .int (nI n)), (1, .int 5), (0, .ref 0)]) (stk' := [.int 18, .int 5]) (mem' := fm g tp bt a b) (by intro _ _ _; eq_refl) ?_
  rw [show (3846 + (6 * (nI n)) : Int32) = nI (3846 + (6 * n)) from by simp only [show (3846 : Int32) = nI 3846 from rfl, show (6 : Int32) = nI 6 from rfl, nI_add, fm_mul]]
  refine fe_s 1 (pc' := cond (fx_cb .eq 5 18) 37 31) (lc' := [(3, .int (nI (3846 + (6 * n)))), (2, .int (nI n)), (1, .int 5), (0, .ref 0)]) (stk' := []) (mem' := fm g tp bt a b) (by intro _ _ _; eq_refl) ?_
  rw [show (fx_cb .eq 5 18) = false from by decide]
  dsimp only [cond]
  refine fe_s 2 (pc' := 34) (lc' := [(3, .int (nI (3846 + (6 * n)))), (2, .int (nI n)), (1, .int 5), (0, .ref 0)]) (stk' := [.int 19, .int 5]) (mem' := fm g tp bt a b) (by intro _ _ _; eq_refl) ?_
  refine fe_s 1 (pc' := cond (fx_cb .ne 5 19) 41 37) (lc' := [(3, .int (nI (3846 + (6 * n)))), (2, .int (nI n)), (1, .int 5), (0, .ref 0)]) (stk' := []) (mem' := fm g tp bt a b) (by intro _ _ _; eq_refl) ?_
  rw [show (fx_cb .ne 5 19) = true from by decide]
  dsimp only [cond]
  refine fe_s 4 (pc' := 47) (lc' := [(4, .int 0), (3, .int (nI (3846 + (6 * n)))), (2, .int (nI n)), (1, .int 5), (0, .ref 0)]) (stk' := [.int 11, .int 5]) (mem' := fm g tp bt a b) (by intro _ _ _; eq_refl) ?_
  refine fe_s 1 (pc' := cond (fx_cb .lt 5 11) 81 50) (lc' := [(4, .int 0), (3, .int (nI (3846 + (6 * n)))), (2, .int (nI n)), (1, .int 5), (0, .ref 0)]) (stk' := []) (mem' := fm g tp bt a b) (by intro _ _ _; eq_refl) ?_
  rw [show (fx_cb .lt 5 11) = true from by decide]
  dsimp only [cond]
  refine fe_s 2 (pc' := 83) (lc' := [(4, .int 0), (3, .int (nI (3846 + (6 * n)))), (2, .int (nI n)), (1, .int 5), (0, .ref 0)]) (stk' := [.int 2, .ref 0]) (mem' := fm g tp bt a b) (by intro _ _ _; eq_refl) ?_
  obtain ⟨gf1, hfrf1, hof1, hzf1⟩ := fr_failsq (x := 2) (g := g) (tp := tp) (bt := bt) (a := a) (b := b) (by omega) (by omega) (fm_gy_rf hxp hfl).2.1 (fm_gy_rf hxp hfl).2.2.1
  have gof1 := fm_gy_tr (fm_gy_rf hxp hfl) hof1
  have d22f1 : gf1 22 = nI D := by rw [hof1.1 22 (by decide) (by decide) (by decide) (by decide) (by decide) (by decide)]; first | exact eD | rfl
  have d23f1 : gf1 23 = nI K := by rw [hof1.1 23 (by decide) (by decide) (by decide) (by decide) (by decide) (by decide)]; first | exact eK | rfl
  refine fe_ivV hfrf1 (by omega) (by rfl) (by rfl) (by rfl) (by rfl) (by rfl) (by rfl) ?_
  exact fe_ret ⟨_, _, _, _, _, n, D, K, gof1, ⟨hT.1, hT.2.1, hT.2.2.1, hT.2.2.2.1, hT.2.2.2.2.1, ⟨d22f1, hD3, d23f1, hK30, hnK⟩, h8, h9⟩, Or.inl ⟨rfl, hzf1⟩, rfl⟩ (by rfl) (by rfl) (by rfl)
set_option maxRecDepth 20000 in
set_option maxHeartbeats 8000000 in
theorem ts_6 {S E F C W n D K : Nat} (hxp : fm_xp g S E F) (hfl : fm_flt g) (hH : fm_th a0 C W) (hT : fm_TS a0 g a n D K) (hR : fm_TR a n) : fe_R 10 gk_m251 7 [(1, .int 6), (0, .ref 0)] [] (fm g tp bt a b) (fm_FTS a0 g tp bt b S E) := by
  obtain ⟨⟨eD, hD3, eK, hK30, hnK⟩, h8, h9⟩ := hT.2.2.2.2.2
  refine fe_s 3 (pc' := 14) (lc' := [(1, .int 6), (0, .ref 0)]) (stk' := [.int 3374, .ref 1]) (mem' := fm g tp bt a b) (by intro _ _ _; eq_refl) ?_
  refine fe_ldI (by rfl) (by rfl) (fx_inN (i := 3374) (by omega) (by omega)) ?_
  rw [show Int32.toNatClampNeg (3374) = 3374 from rfl]
  rw [hT.2.2.2.2.1]
  refine fe_s 9 (pc' := 28) (lc' := [(3, .int (3846 + (6 * (nI n)))), (2, .int (nI n)), (1, .int 6), (0, .ref 0)]) (stk' := [.int 18, .int 6]) (mem' := fm g tp bt a b) (by intro _ _ _; eq_refl) ?_
  rw [show (3846 + (6 * (nI n)) : Int32) = nI (3846 + (6 * n)) from by simp only [show (3846 : Int32) = nI 3846 from rfl, show (6 : Int32) = nI 6 from rfl, nI_add, fm_mul]]
  refine fe_s 1 (pc' := cond (fx_cb .eq 6 18) 37 31) (lc' := [(3, .int (nI (3846 + (6 * n)))), (2, .int (nI n)), (1, .int 6), (0, .ref 0)]) (stk' := []) (mem' := fm g tp bt a b) (by intro _ _ _; eq_refl) ?_
  rw [show (fx_cb .eq 6 18) = false from by decide]
  dsimp only [cond]
  refine fe_s 2 (pc' := 34) (lc' := [(3, .int (nI (3846 + (6 * n)))), (2, .int (nI n)), (1, .int 6), (0, .ref 0)]) (stk' := [.int 19, .int 6]) (mem' := fm g tp bt a b) (by intro _ _ _; eq_refl) ?_
  refine fe_s 1 (pc' := cond (fx_cb .ne 6 19) 41 37) (lc' := [(3, .int (nI (3846 + (6 * n)))), (2, .int (nI n)), (1, .int 6), (0, .ref 0)]) (stk' := []) (mem' := fm g tp bt a b) (by intro _ _ _; eq_refl) ?_
  rw [show (fx_cb .ne 6 19) = true from by decide]
  dsimp only [cond]
  refine fe_s 4 (pc' := 47) (lc' := [(4, .int 0), (3, .int (nI (3846 + (6 * n)))), (2, .int (nI n)), (1, .int 6), (0, .ref 0)]) (stk' := [.int 11, .int 6]) (mem' := fm g tp bt a b) (by intro _ _ _; eq_refl) ?_
  refine fe_s 1 (pc' := cond (fx_cb .lt 6 11) 81 50) (lc' := [(4, .int 0), (3, .int (nI (3846 + (6 * n)))), (2, .int (nI n)), (1, .int 6), (0, .ref 0)]) (stk' := []) (mem' := fm g tp bt a b) (by intro _ _ _; eq_refl) ?_
  rw [show (fx_cb .lt 6 11) = true from by decide]
  dsimp only [cond]
  refine fe_s 2 (pc' := 83) (lc' := [(4, .int 0), (3, .int (nI (3846 + (6 * n)))), (2, .int (nI n)), (1, .int 6), (0, .ref 0)]) (stk' := [.int 2, .ref 0]) (mem' := fm g tp bt a b) (by intro _ _ _; eq_refl) ?_
  obtain ⟨gf1, hfrf1, hof1, hzf1⟩ := fr_failsq (x := 2) (g := g) (tp := tp) (bt := bt) (a := a) (b := b) (by omega) (by omega) (fm_gy_rf hxp hfl).2.1 (fm_gy_rf hxp hfl).2.2.1
  have gof1 := fm_gy_tr (fm_gy_rf hxp hfl) hof1
  have d22f1 : gf1 22 = nI D := by rw [hof1.1 22 (by decide) (by decide) (by decide) (by decide) (by decide) (by decide)]; first | exact eD | rfl
  have d23f1 : gf1 23 = nI K := by rw [hof1.1 23 (by decide) (by decide) (by decide) (by decide) (by decide) (by decide)]; first | exact eK | rfl
  refine fe_ivV hfrf1 (by omega) (by rfl) (by rfl) (by rfl) (by rfl) (by rfl) (by rfl) ?_
  exact fe_ret ⟨_, _, _, _, _, n, D, K, gof1, ⟨hT.1, hT.2.1, hT.2.2.1, hT.2.2.2.1, hT.2.2.2.2.1, ⟨d22f1, hD3, d23f1, hK30, hnK⟩, h8, h9⟩, Or.inl ⟨rfl, hzf1⟩, rfl⟩ (by rfl) (by rfl) (by rfl)
set_option maxRecDepth 20000 in
set_option maxHeartbeats 8000000 in
theorem ts_7 {S E F C W n D K : Nat} (hxp : fm_xp g S E F) (hfl : fm_flt g) (hH : fm_th a0 C W) (hT : fm_TS a0 g a n D K) (hR : fm_TR a n) : fe_R 10 gk_m251 7 [(1, .int 7), (0, .ref 0)] [] (fm g tp bt a b) (fm_FTS a0 g tp bt b S E) := by
  obtain ⟨⟨eD, hD3, eK, hK30, hnK⟩, h8, h9⟩ := hT.2.2.2.2.2
  refine fe_s 3 (pc' := 14) (lc' := [(1, .int 7), (0, .ref 0)]) (stk' := [.int 3374, .ref 1]) (mem' := fm g tp bt a b) (by intro _ _ _; eq_refl) ?_
  refine fe_ldI (by rfl) (by rfl) (fx_inN (i := 3374) (by omega) (by omega)) ?_
  rw [show Int32.toNatClampNeg (3374) = 3374 from rfl]
  rw [hT.2.2.2.2.1]
  refine fe_s 9 (pc' := 28) (lc' := [(3, .int (3846 + (6 * (nI n)))), (2, .int (nI n)), (1, .int 7), (0, .ref 0)]) (stk' := [.int 18, .int 7]) (mem' := fm g tp bt a b) (by intro _ _ _; eq_refl) ?_
  rw [show (3846 + (6 * (nI n)) : Int32) = nI (3846 + (6 * n)) from by simp only [show (3846 : Int32) = nI 3846 from rfl, show (6 : Int32) = nI 6 from rfl, nI_add, fm_mul]]
  refine fe_s 1 (pc' := cond (fx_cb .eq 7 18) 37 31) (lc' := [(3, .int (nI (3846 + (6 * n)))), (2, .int (nI n)), (1, .int 7), (0, .ref 0)]) (stk' := []) (mem' := fm g tp bt a b) (by intro _ _ _; eq_refl) ?_
  rw [show (fx_cb .eq 7 18) = false from by decide]
  dsimp only [cond]
  refine fe_s 2 (pc' := 34) (lc' := [(3, .int (nI (3846 + (6 * n)))), (2, .int (nI n)), (1, .int 7), (0, .ref 0)]) (stk' := [.int 19, .int 7]) (mem' := fm g tp bt a b) (by intro _ _ _; eq_refl) ?_
  refine fe_s 1 (pc' := cond (fx_cb .ne 7 19) 41 37) (lc' := [(3, .int (nI (3846 + (6 * n)))), (2, .int (nI n)), (1, .int 7), (0, .ref 0)]) (stk' := []) (mem' := fm g tp bt a b) (by intro _ _ _; eq_refl) ?_
  rw [show (fx_cb .ne 7 19) = true from by decide]
  dsimp only [cond]
  refine fe_s 4 (pc' := 47) (lc' := [(4, .int 0), (3, .int (nI (3846 + (6 * n)))), (2, .int (nI n)), (1, .int 7), (0, .ref 0)]) (stk' := [.int 11, .int 7]) (mem' := fm g tp bt a b) (by intro _ _ _; eq_refl) ?_
  refine fe_s 1 (pc' := cond (fx_cb .lt 7 11) 81 50) (lc' := [(4, .int 0), (3, .int (nI (3846 + (6 * n)))), (2, .int (nI n)), (1, .int 7), (0, .ref 0)]) (stk' := []) (mem' := fm g tp bt a b) (by intro _ _ _; eq_refl) ?_
  rw [show (fx_cb .lt 7 11) = true from by decide]
  dsimp only [cond]
  refine fe_s 2 (pc' := 83) (lc' := [(4, .int 0), (3, .int (nI (3846 + (6 * n)))), (2, .int (nI n)), (1, .int 7), (0, .ref 0)]) (stk' := [.int 2, .ref 0]) (mem' := fm g tp bt a b) (by intro _ _ _; eq_refl) ?_
  obtain ⟨gf1, hfrf1, hof1, hzf1⟩ := fr_failsq (x := 2) (g := g) (tp := tp) (bt := bt) (a := a) (b := b) (by omega) (by omega) (fm_gy_rf hxp hfl).2.1 (fm_gy_rf hxp hfl).2.2.1
  have gof1 := fm_gy_tr (fm_gy_rf hxp hfl) hof1
  have d22f1 : gf1 22 = nI D := by rw [hof1.1 22 (by decide) (by decide) (by decide) (by decide) (by decide) (by decide)]; first | exact eD | rfl
  have d23f1 : gf1 23 = nI K := by rw [hof1.1 23 (by decide) (by decide) (by decide) (by decide) (by decide) (by decide)]; first | exact eK | rfl
  refine fe_ivV hfrf1 (by omega) (by rfl) (by rfl) (by rfl) (by rfl) (by rfl) (by rfl) ?_
  exact fe_ret ⟨_, _, _, _, _, n, D, K, gof1, ⟨hT.1, hT.2.1, hT.2.2.1, hT.2.2.2.1, hT.2.2.2.2.1, ⟨d22f1, hD3, d23f1, hK30, hnK⟩, h8, h9⟩, Or.inl ⟨rfl, hzf1⟩, rfl⟩ (by rfl) (by rfl) (by rfl)
set_option maxRecDepth 20000 in
set_option maxHeartbeats 8000000 in
theorem ts_8 {S E F C W n D K : Nat} (hxp : fm_xp g S E F) (hfl : fm_flt g) (hH : fm_th a0 C W) (hT : fm_TS a0 g a n D K) (hR : fm_TR a n) : fe_R 10 gk_m251 7 [(1, .int 8), (0, .ref 0)] [] (fm g tp bt a b) (fm_FTS a0 g tp bt b S E) := by
  obtain ⟨⟨eD, hD3, eK, hK30, hnK⟩, h8, h9⟩ := hT.2.2.2.2.2
  refine fe_s 3 (pc' := 14) (lc' := [(1, .int 8), (0, .ref 0)]) (stk' := [.int 3374, .ref 1]) (mem' := fm g tp bt a b) (by intro _ _ _; eq_refl) ?_
  refine fe_ldI (by rfl) (by rfl) (fx_inN (i := 3374) (by omega) (by omega)) ?_
  rw [show Int32.toNatClampNeg (3374) = 3374 from rfl]
  rw [hT.2.2.2.2.1]
  refine fe_s 9 (pc' := 28) (lc' := [(3, .int (3846 + (6 * (nI n)))), (2, .int (nI n)), (1, .int 8), (0, .ref 0)]) (stk' := [.int 18, .int 8]) (mem' := fm g tp bt a b) (by intro _ _ _; eq_refl) ?_
  rw [show (3846 + (6 * (nI n)) : Int32) = nI (3846 + (6 * n)) from by simp only [show (3846 : Int32) = nI 3846 from rfl, show (6 : Int32) = nI 6 from rfl, nI_add, fm_mul]]
  refine fe_s 1 (pc' := cond (fx_cb .eq 8 18) 37 31) (lc' := [(3, .int (nI (3846 + (6 * n)))), (2, .int (nI n)), (1, .int 8), (0, .ref 0)]) (stk' := []) (mem' := fm g tp bt a b) (by intro _ _ _; eq_refl) ?_
  rw [show (fx_cb .eq 8 18) = false from by decide]
  dsimp only [cond]
  refine fe_s 2 (pc' := 34) (lc' := [(3, .int (nI (3846 + (6 * n)))), (2, .int (nI n)), (1, .int 8), (0, .ref 0)]) (stk' := [.int 19, .int 8]) (mem' := fm g tp bt a b) (by intro _ _ _; eq_refl) ?_
  refine fe_s 1 (pc' := cond (fx_cb .ne 8 19) 41 37) (lc' := [(3, .int (nI (3846 + (6 * n)))), (2, .int (nI n)), (1, .int 8), (0, .ref 0)]) (stk' := []) (mem' := fm g tp bt a b) (by intro _ _ _; eq_refl) ?_
  rw [show (fx_cb .ne 8 19) = true from by decide]
  dsimp only [cond]
  refine fe_s 4 (pc' := 47) (lc' := [(4, .int 0), (3, .int (nI (3846 + (6 * n)))), (2, .int (nI n)), (1, .int 8), (0, .ref 0)]) (stk' := [.int 11, .int 8]) (mem' := fm g tp bt a b) (by intro _ _ _; eq_refl) ?_
  refine fe_s 1 (pc' := cond (fx_cb .lt 8 11) 81 50) (lc' := [(4, .int 0), (3, .int (nI (3846 + (6 * n)))), (2, .int (nI n)), (1, .int 8), (0, .ref 0)]) (stk' := []) (mem' := fm g tp bt a b) (by intro _ _ _; eq_refl) ?_
  rw [show (fx_cb .lt 8 11) = true from by decide]
  dsimp only [cond]
  refine fe_s 2 (pc' := 83) (lc' := [(4, .int 0), (3, .int (nI (3846 + (6 * n)))), (2, .int (nI n)), (1, .int 8), (0, .ref 0)]) (stk' := [.int 2, .ref 0]) (mem' := fm g tp bt a b) (by intro _ _ _; eq_refl) ?_
  obtain ⟨gf1, hfrf1, hof1, hzf1⟩ := fr_failsq (x := 2) (g := g) (tp := tp) (bt := bt) (a := a) (b := b) (by omega) (by omega) (fm_gy_rf hxp hfl).2.1 (fm_gy_rf hxp hfl).2.2.1
  have gof1 := fm_gy_tr (fm_gy_rf hxp hfl) hof1
  have d22f1 : gf1 22 = nI D := by rw [hof1.1 22 (by decide) (by decide) (by decide) (by decide) (by decide) (by decide)]; first | exact eD | rfl
  have d23f1 : gf1 23 = nI K := by rw [hof1.1 23 (by decide) (by decide) (by decide) (by decide) (by decide) (by decide)]; first | exact eK | rfl
  refine fe_ivV hfrf1 (by omega) (by rfl) (by rfl) (by rfl) (by rfl) (by rfl) (by rfl) ?_
  exact fe_ret ⟨_, _, _, _, _, n, D, K, gof1, ⟨hT.1, hT.2.1, hT.2.2.1, hT.2.2.2.1, hT.2.2.2.2.1, ⟨d22f1, hD3, d23f1, hK30, hnK⟩, h8, h9⟩, Or.inl ⟨rfl, hzf1⟩, rfl⟩ (by rfl) (by rfl) (by rfl)
set_option maxRecDepth 20000 in
set_option maxHeartbeats 8000000 in
theorem ts_9 {S E F C W n D K : Nat} (hxp : fm_xp g S E F) (hfl : fm_flt g) (hH : fm_th a0 C W) (hT : fm_TS a0 g a n D K) (hR : fm_TR a n) : fe_R 10 gk_m251 7 [(1, .int 9), (0, .ref 0)] [] (fm g tp bt a b) (fm_FTS a0 g tp bt b S E) := by
  obtain ⟨⟨eD, hD3, eK, hK30, hnK⟩, h8, h9⟩ := hT.2.2.2.2.2
  refine fe_s 3 (pc' := 14) (lc' := [(1, .int 9), (0, .ref 0)]) (stk' := [.int 3374, .ref 1]) (mem' := fm g tp bt a b) (by intro _ _ _; eq_refl) ?_
  refine fe_ldI (by rfl) (by rfl) (fx_inN (i := 3374) (by omega) (by omega)) ?_
  rw [show Int32.toNatClampNeg (3374) = 3374 from rfl]
  rw [hT.2.2.2.2.1]
  refine fe_s 9 (pc' := 28) (lc' := [(3, .int (3846 + (6 * (nI n)))), (2, .int (nI n)), (1, .int 9), (0, .ref 0)]) (stk' := [.int 18, .int 9]) (mem' := fm g tp bt a b) (by intro _ _ _; eq_refl) ?_
  rw [show (3846 + (6 * (nI n)) : Int32) = nI (3846 + (6 * n)) from by simp only [show (3846 : Int32) = nI 3846 from rfl, show (6 : Int32) = nI 6 from rfl, nI_add, fm_mul]]
  refine fe_s 1 (pc' := cond (fx_cb .eq 9 18) 37 31) (lc' := [(3, .int (nI (3846 + (6 * n)))), (2, .int (nI n)), (1, .int 9), (0, .ref 0)]) (stk' := []) (mem' := fm g tp bt a b) (by intro _ _ _; eq_refl) ?_
  rw [show (fx_cb .eq 9 18) = false from by decide]
  dsimp only [cond]
  refine fe_s 2 (pc' := 34) (lc' := [(3, .int (nI (3846 + (6 * n)))), (2, .int (nI n)), (1, .int 9), (0, .ref 0)]) (stk' := [.int 19, .int 9]) (mem' := fm g tp bt a b) (by intro _ _ _; eq_refl) ?_
  refine fe_s 1 (pc' := cond (fx_cb .ne 9 19) 41 37) (lc' := [(3, .int (nI (3846 + (6 * n)))), (2, .int (nI n)), (1, .int 9), (0, .ref 0)]) (stk' := []) (mem' := fm g tp bt a b) (by intro _ _ _; eq_refl) ?_
  rw [show (fx_cb .ne 9 19) = true from by decide]
  dsimp only [cond]
  refine fe_s 4 (pc' := 47) (lc' := [(4, .int 0), (3, .int (nI (3846 + (6 * n)))), (2, .int (nI n)), (1, .int 9), (0, .ref 0)]) (stk' := [.int 11, .int 9]) (mem' := fm g tp bt a b) (by intro _ _ _; eq_refl) ?_
  refine fe_s 1 (pc' := cond (fx_cb .lt 9 11) 81 50) (lc' := [(4, .int 0), (3, .int (nI (3846 + (6 * n)))), (2, .int (nI n)), (1, .int 9), (0, .ref 0)]) (stk' := []) (mem' := fm g tp bt a b) (by intro _ _ _; eq_refl) ?_
  rw [show (fx_cb .lt 9 11) = true from by decide]
  dsimp only [cond]
  refine fe_s 2 (pc' := 83) (lc' := [(4, .int 0), (3, .int (nI (3846 + (6 * n)))), (2, .int (nI n)), (1, .int 9), (0, .ref 0)]) (stk' := [.int 2, .ref 0]) (mem' := fm g tp bt a b) (by intro _ _ _; eq_refl) ?_
  obtain ⟨gf1, hfrf1, hof1, hzf1⟩ := fr_failsq (x := 2) (g := g) (tp := tp) (bt := bt) (a := a) (b := b) (by omega) (by omega) (fm_gy_rf hxp hfl).2.1 (fm_gy_rf hxp hfl).2.2.1
  have gof1 := fm_gy_tr (fm_gy_rf hxp hfl) hof1
  have d22f1 : gf1 22 = nI D := by rw [hof1.1 22 (by decide) (by decide) (by decide) (by decide) (by decide) (by decide)]; first | exact eD | rfl
  have d23f1 : gf1 23 = nI K := by rw [hof1.1 23 (by decide) (by decide) (by decide) (by decide) (by decide) (by decide)]; first | exact eK | rfl
  refine fe_ivV hfrf1 (by omega) (by rfl) (by rfl) (by rfl) (by rfl) (by rfl) (by rfl) ?_
  exact fe_ret ⟨_, _, _, _, _, n, D, K, gof1, ⟨hT.1, hT.2.1, hT.2.2.1, hT.2.2.2.1, hT.2.2.2.2.1, ⟨d22f1, hD3, d23f1, hK30, hnK⟩, h8, h9⟩, Or.inl ⟨rfl, hzf1⟩, rfl⟩ (by rfl) (by rfl) (by rfl)
set_option maxRecDepth 20000 in
set_option maxHeartbeats 8000000 in
theorem ts_10 {S E F C W n D K : Nat} (hxp : fm_xp g S E F) (hfl : fm_flt g) (hH : fm_th a0 C W) (hT : fm_TS a0 g a n D K) (hR : fm_TR a n) : fe_R 10 gk_m251 7 [(1, .int 10), (0, .ref 0)] [] (fm g tp bt a b) (fm_FTS a0 g tp bt b S E) := by
  obtain ⟨⟨eD, hD3, eK, hK30, hnK⟩, h8, h9⟩ := hT.2.2.2.2.2
  refine fe_s 3 (pc' := 14) (lc' := [(1, .int 10), (0, .ref 0)]) (stk' := [.int 3374, .ref 1]) (mem' := fm g tp bt a b) (by intro _ _ _; eq_refl) ?_
  refine fe_ldI (by rfl) (by rfl) (fx_inN (i := 3374) (by omega) (by omega)) ?_
  rw [show Int32.toNatClampNeg (3374) = 3374 from rfl]
  rw [hT.2.2.2.2.1]
  refine fe_s 9 (pc' := 28) (lc' := [(3, .int (3846 + (6 * (nI n)))), (2, .int (nI n)), (1, .int 10), (0, .ref 0)]) (stk' := [.int 18, .int 10]) (mem' := fm g tp bt a b) (by intro _ _ _; eq_refl) ?_
  rw [show (3846 + (6 * (nI n)) : Int32) = nI (3846 + (6 * n)) from by simp only [show (3846 : Int32) = nI 3846 from rfl, show (6 : Int32) = nI 6 from rfl, nI_add, fm_mul]]
  refine fe_s 1 (pc' := cond (fx_cb .eq 10 18) 37 31) (lc' := [(3, .int (nI (3846 + (6 * n)))), (2, .int (nI n)), (1, .int 10), (0, .ref 0)]) (stk' := []) (mem' := fm g tp bt a b) (by intro _ _ _; eq_refl) ?_
  rw [show (fx_cb .eq 10 18) = false from by decide]
  dsimp only [cond]
  refine fe_s 2 (pc' := 34) (lc' := [(3, .int (nI (3846 + (6 * n)))), (2, .int (nI n)), (1, .int 10), (0, .ref 0)]) (stk' := [.int 19, .int 10]) (mem' := fm g tp bt a b) (by intro _ _ _; eq_refl) ?_
  refine fe_s 1 (pc' := cond (fx_cb .ne 10 19) 41 37) (lc' := [(3, .int (nI (3846 + (6 * n)))), (2, .int (nI n)), (1, .int 10), (0, .ref 0)]) (stk' := []) (mem' := fm g tp bt a b) (by intro _ _ _; eq_refl) ?_
  rw [show (fx_cb .ne 10 19) = true from by decide]
  dsimp only [cond]
  refine fe_s 4 (pc' := 47) (lc' := [(4, .int 0), (3, .int (nI (3846 + (6 * n)))), (2, .int (nI n)), (1, .int 10), (0, .ref 0)]) (stk' := [.int 11, .int 10]) (mem' := fm g tp bt a b) (by intro _ _ _; eq_refl) ?_
  refine fe_s 1 (pc' := cond (fx_cb .lt 10 11) 81 50) (lc' := [(4, .int 0), (3, .int (nI (3846 + (6 * n)))), (2, .int (nI n)), (1, .int 10), (0, .ref 0)]) (stk' := []) (mem' := fm g tp bt a b) (by intro _ _ _; eq_refl) ?_
  rw [show (fx_cb .lt 10 11) = true from by decide]
  dsimp only [cond]
  refine fe_s 2 (pc' := 83) (lc' := [(4, .int 0), (3, .int (nI (3846 + (6 * n)))), (2, .int (nI n)), (1, .int 10), (0, .ref 0)]) (stk' := [.int 2, .ref 0]) (mem' := fm g tp bt a b) (by intro _ _ _; eq_refl) ?_
  obtain ⟨gf1, hfrf1, hof1, hzf1⟩ := fr_failsq (x := 2) (g := g) (tp := tp) (bt := bt) (a := a) (b := b) (by omega) (by omega) (fm_gy_rf hxp hfl).2.1 (fm_gy_rf hxp hfl).2.2.1
  have gof1 := fm_gy_tr (fm_gy_rf hxp hfl) hof1
  have d22f1 : gf1 22 = nI D := by rw [hof1.1 22 (by decide) (by decide) (by decide) (by decide) (by decide) (by decide)]; first | exact eD | rfl
  have d23f1 : gf1 23 = nI K := by rw [hof1.1 23 (by decide) (by decide) (by decide) (by decide) (by decide) (by decide)]; first | exact eK | rfl
  refine fe_ivV hfrf1 (by omega) (by rfl) (by rfl) (by rfl) (by rfl) (by rfl) (by rfl) ?_
  exact fe_ret ⟨_, _, _, _, _, n, D, K, gof1, ⟨hT.1, hT.2.1, hT.2.2.1, hT.2.2.2.1, hT.2.2.2.2.1, ⟨d22f1, hD3, d23f1, hK30, hnK⟩, h8, h9⟩, Or.inl ⟨rfl, hzf1⟩, rfl⟩ (by rfl) (by rfl) (by rfl)
end F4870_step
end MH3_2
section MH3_3
/-! ===== fx: a STEP of the TALES ===== -/
section F4871_step
variable {g : Nat → Int32} {tp bt : Int64} {a0 a : Nat → Nat → Int32} {b : Nat → Nat → Int64}
set_option maxRecDepth 20000 in
set_option maxHeartbeats 8000000 in
theorem ts_11 {S E F C W n D K : Nat} (hxp : fm_xp g S E F) (hfl : fm_flt g) (hH : fm_th a0 C W) (hT : fm_TS a0 g a n D K) (hR : fm_TR a n) : fe_R 10 gk_m251 7 [(1, .int 11), (0, .ref 0)] [] (fm g tp bt a b) (fm_FTS a0 g tp bt b S E) := by
  obtain ⟨⟨eD, hD3, eK, hK30, hnK⟩, h8, h9⟩ := hT.2.2.2.2.2
  refine fe_s 3 (pc' := 14) (lc' := [(1, .int 11), (0, .ref 0)]) (stk' := [.int 3374, .ref 1]) (mem' := fm g tp bt a b) (by intro _ _ _; eq_refl) ?_
  refine fe_ldI (by rfl) (by rfl) (fx_inN (i := 3374) (by omega) (by omega)) ?_
  rw [show Int32.toNatClampNeg (3374) = 3374 from rfl]
  rw [hT.2.2.2.2.1]
  refine fe_s 9 (pc' := 28) (lc' := [(3, .int (3846 + (6 * (nI n)))), (2, .int (nI n)), (1, .int 11), (0, .ref 0)]) (stk' := [.int 18, .int 11]) (mem' := fm g tp bt a b) (by intro _ _ _; eq_refl) ?_
  rw [show (3846 + (6 * (nI n)) : Int32) = nI (3846 + (6 * n)) from by simp only [show (3846 : Int32) = nI 3846 from rfl, show (6 : Int32) = nI 6 from rfl, nI_add, fm_mul]]
  refine fe_s 1 (pc' := cond (fx_cb .eq 11 18) 37 31) (lc' := [(3, .int (nI (3846 + (6 * n)))), (2, .int (nI n)), (1, .int 11), (0, .ref 0)]) (stk' := []) (mem' := fm g tp bt a b) (by intro _ _ _; eq_refl) ?_
  rw [show (fx_cb .eq 11 18) = false from by decide]
  dsimp only [cond]
  refine fe_s 2 (pc' := 34) (lc' := [(3, .int (nI (3846 + (6 * n)))), (2, .int (nI n)), (1, .int 11), (0, .ref 0)]) (stk' := [.int 19, .int 11]) (mem' := fm g tp bt a b) (by intro _ _ _; eq_refl) ?_
  refine fe_s 1 (pc' := cond (fx_cb .ne 11 19) 41 37) (lc' := [(3, .int (nI (3846 + (6 * n)))), (2, .int (nI n)), (1, .int 11), (0, .ref 0)]) (stk' := []) (mem' := fm g tp bt a b) (by intro _ _ _; eq_refl) ?_
  rw [show (fx_cb .ne 11 19) = true from by decide]
  dsimp only [cond]
  refine fe_s 4 (pc' := 47) (lc' := [(4, .int 0), (3, .int (nI (3846 + (6 * n)))), (2, .int (nI n)), (1, .int 11), (0, .ref 0)]) (stk' := [.int 11, .int 11]) (mem' := fm g tp bt a b) (by intro _ _ _; eq_refl) ?_
  refine fe_s 1 (pc' := cond (fx_cb .lt 11 11) 81 50) (lc' := [(4, .int 0), (3, .int (nI (3846 + (6 * n)))), (2, .int (nI n)), (1, .int 11), (0, .ref 0)]) (stk' := []) (mem' := fm g tp bt a b) (by intro _ _ _; eq_refl) ?_
  rw [show (fx_cb .lt 11 11) = false from by decide]
  dsimp only [cond]
  refine fe_s 2 (pc' := 53) (lc' := [(4, .int 0), (3, .int (nI (3846 + (6 * n)))), (2, .int (nI n)), (1, .int 11), (0, .ref 0)]) (stk' := [.int 21, .int 11]) (mem' := fm g tp bt a b) (by intro _ _ _; eq_refl) ?_
  refine fe_s 1 (pc' := cond (fx_cb .gt 11 21) 81 56) (lc' := [(4, .int 0), (3, .int (nI (3846 + (6 * n)))), (2, .int (nI n)), (1, .int 11), (0, .ref 0)]) (stk' := []) (mem' := fm g tp bt a b) (by intro _ _ _; eq_refl) ?_
  rw [show (fx_cb .gt 11 21) = false from by decide]
  dsimp only [cond]
  refine fe_s 2 (pc' := 59) (lc' := [(4, .int 0), (3, .int (nI (3846 + (6 * n)))), (2, .int (nI n)), (1, .int 11), (0, .ref 0)]) (stk' := [.int 16, .int 11]) (mem' := fm g tp bt a b) (by intro _ _ _; eq_refl) ?_
  refine fe_s 1 (pc' := cond (fx_cb .eq 11 16) 81 62) (lc' := [(4, .int 0), (3, .int (nI (3846 + (6 * n)))), (2, .int (nI n)), (1, .int 11), (0, .ref 0)]) (stk' := []) (mem' := fm g tp bt a b) (by intro _ _ _; eq_refl) ?_
  rw [show (fx_cb .eq 11 16) = false from by decide]
  dsimp only [cond]
  refine fe_s 2 (pc' := 65) (lc' := [(4, .int 0), (3, .int (nI (3846 + (6 * n)))), (2, .int (nI n)), (1, .int 11), (0, .ref 0)]) (stk' := [.int 17, .int 11]) (mem' := fm g tp bt a b) (by intro _ _ _; eq_refl) ?_
  refine fe_s 1 (pc' := cond (fx_cb .eq 11 17) 81 68) (lc' := [(4, .int 0), (3, .int (nI (3846 + (6 * n)))), (2, .int (nI n)), (1, .int 11), (0, .ref 0)]) (stk' := []) (mem' := fm g tp bt a b) (by intro _ _ _; eq_refl) ?_
  rw [show (fx_cb .eq 11 17) = false from by decide]
  dsimp only [cond]
  refine fe_s 2 (pc' := 71) (lc' := [(4, .int 0), (3, .int (nI (3846 + (6 * n)))), (2, .int (nI n)), (1, .int 11), (0, .ref 0)]) (stk' := [.int 20, .int 11]) (mem' := fm g tp bt a b) (by intro _ _ _; eq_refl) ?_
  refine fe_s 1 (pc' := cond (fx_cb .ne 11 20) 87 74) (lc' := [(4, .int 0), (3, .int (nI (3846 + (6 * n)))), (2, .int (nI n)), (1, .int 11), (0, .ref 0)]) (stk' := []) (mem' := fm g tp bt a b) (by intro _ _ _; eq_refl) ?_
  rw [show (fx_cb .ne 11 20) = true from by decide]
  dsimp only [cond]
  refine fe_s 2 (pc' := 90) (lc' := [(4, .int 0), (3, .int (nI (3846 + (6 * n)))), (2, .int (nI n)), (1, .int 11), (0, .ref 0)]) (stk' := [.int 20, .int 11]) (mem' := fm g tp bt a b) (by intro _ _ _; eq_refl) ?_
  refine fe_s 1 (pc' := cond (fx_cb .eq 11 20) 109 93) (lc' := [(4, .int 0), (3, .int (nI (3846 + (6 * n)))), (2, .int (nI n)), (1, .int 11), (0, .ref 0)]) (stk' := []) (mem' := fm g tp bt a b) (by intro _ _ _; eq_refl) ?_
  rw [show (fx_cb .eq 11 20) = false from by decide]
  dsimp only [cond]
  refine fe_s 3 (pc' := 99) (lc' := [(4, .int 0), (3, .int (nI (3846 + (6 * n)))), (2, .int (nI n)), (1, .int 11), (0, .ref 0)]) (stk' := [.int 30, .int (g 23)]) (mem' := fm g tp bt a b) (by intro _ _ _; eq_refl) ?_
  try rw [eK]
  refine fe_s 1 (pc' := cond (fx_cb .ne (nI K) 30) 109 102) (lc' := [(4, .int 0), (3, .int (nI (3846 + (6 * n)))), (2, .int (nI n)), (1, .int 11), (0, .ref 0)]) (stk' := []) (mem' := fm g tp bt a b) (by intro _ _ _; eq_refl) ?_
  by_cases h1 : K = 30
  · rw [show (fx_cb .ne (nI K) 30) = false from cb_neF (a := K) (b := 30) (by omega) (by omega) (by omega)]
    dsimp only [cond]
    refine fe_s 2 (pc' := 105) (lc' := [(4, .int 0), (3, .int (nI (3846 + (6 * n)))), (2, .int (nI n)), (1, .int 11), (0, .ref 0)]) (stk' := [.int 6, .ref 0]) (mem' := fm g tp bt a b) (by intro _ _ _; eq_refl) ?_
    obtain ⟨gf2, hfrf2, hof2, hzf2⟩ := fr_failsq (x := 6) (g := g) (tp := tp) (bt := bt) (a := a) (b := b) (by omega) (by omega) (fm_gy_rf hxp hfl).2.1 (fm_gy_rf hxp hfl).2.2.1
    have gof2 := fm_gy_tr (fm_gy_rf hxp hfl) hof2
    have d22f2 : gf2 22 = nI D := by rw [hof2.1 22 (by decide) (by decide) (by decide) (by decide) (by decide) (by decide)]; first | exact eD | rfl
    have d23f2 : gf2 23 = nI K := by rw [hof2.1 23 (by decide) (by decide) (by decide) (by decide) (by decide) (by decide)]; first | exact eK | rfl
    refine fe_ivV hfrf2 (by omega) (by rfl) (by rfl) (by rfl) (by rfl) (by rfl) (by rfl) ?_
    exact fe_ret ⟨_, _, _, _, _, n, D, K, gof2, ⟨hT.1, hT.2.1, hT.2.2.1, hT.2.2.2.1, hT.2.2.2.2.1, ⟨d22f2, hD3, d23f2, hK30, hnK⟩, h8, h9⟩, Or.inl ⟨rfl, hzf2⟩, rfl⟩ (by rfl) (by rfl) (by rfl)
  · rw [show (fx_cb .ne (nI K) 30) = true from cb_neT (a := K) (b := 30) (by omega) (by omega) (by omega)]
    dsimp only [cond]
    refine fe_s 1 (pc' := 111) (lc' := [(4, .int 0), (3, .int (nI (3846 + (6 * n)))), (2, .int (nI n)), (1, .int 11), (0, .ref 0)]) (stk' := [.int 0]) (mem' := fm g tp bt a b) (by intro _ _ _; eq_refl) ?_
    refine fe_s 1 (pc' := cond (fx_cb .eq 0 0) 129 114) (lc' := [(4, .int 0), (3, .int (nI (3846 + (6 * n)))), (2, .int (nI n)), (1, .int 11), (0, .ref 0)]) (stk' := []) (mem' := fm g tp bt a b) (by intro _ _ _; eq_refl) ?_
    rw [show (fx_cb .eq 0 0) = true from by decide]
    dsimp only [cond]
    refine fe_s 5 (pc' := 137) (lc' := [(4, .int 0), (3, .int (nI (3846 + (6 * n)))), (2, .int (nI n)), (1, .int 11), (0, .ref 0)]) (stk' := [.int 20, .int 11, .int (g 23), .ref 0]) (mem' := fm g tp bt a b) (by intro _ _ _; eq_refl) ?_
    try rw [eK]
    refine fe_s 1 (pc' := cond (fx_cb .ne 11 20) 144 140) (lc' := [(4, .int 0), (3, .int (nI (3846 + (6 * n)))), (2, .int (nI n)), (1, .int 11), (0, .ref 0)]) (stk' := [.int (nI K), .ref 0]) (mem' := fm g tp bt a b) (by intro _ _ _; eq_refl) ?_
    rw [show (fx_cb .ne 11 20) = true from by decide]
    dsimp only [cond]
    refine fe_s 7 (pc' := 155) (lc' := [(4, .int 0), (3, .int (nI (3846 + (6 * n)))), (2, .int (nI n)), (1, .int 11), (0, .ref 0)]) (stk' := [.int 11, .int (nI (3846 + (6 * n))), .ref 1]) (mem' := fm (upd g 23 ((nI K) + 1)) tp bt a b) (by intro _ _ _; eq_refl) ?_
    rw [show ((nI K) + 1 : Int32) = nI (K + 1) from by simp only [show (1 : Int32) = nI 1 from rfl, nI_add, fm_mul]]
    have hn60 : n < 60 := by omega
    refine fe_stI (mem' := fm (upd g 23 (nI (K + 1))) tp bt (fm_u a 1 (nI (3846 + (6 * n)) : Int32).toNatClampNeg 11) b) (by rfl) (by rfl) (fx_inN (i := 3846 + (6 * n)) (by omega) (by omega)) fm_si1 ?_
    rw [show Int32.toNatClampNeg (nI (3846 + (6 * n))) = 3846 + (6 * n) from nI_clamp (by omega)]
    refine fe_s 4 (pc' := 163) (lc' := [(5, .int 1), (4, .int 0), (3, .int (nI (3846 + (6 * n)))), (2, .int (nI n)), (1, .int 11), (0, .ref 0)]) (stk' := [.int 6, .int 1]) (mem' := fm (upd g 23 (nI (K + 1))) tp bt (fm_u a 1 (3846 + (6 * n)) 11) b) (by intro _ _ _; eq_refl) ?_
    refine fe_s 1 (pc' := cond (fx_cb .ge 1 6) 182 166) (lc' := [(5, .int 1), (4, .int 0), (3, .int (nI (3846 + (6 * n)))), (2, .int (nI n)), (1, .int 11), (0, .ref 0)]) (stk' := []) (mem' := fm (upd g 23 (nI (K + 1))) tp bt (fm_u a 1 (3846 + (6 * n)) 11) b) (by intro _ _ _; eq_refl) ?_
    rw [show (fx_cb .ge 1 6) = false from by decide]
    dsimp only [cond]
    refine fe_s 6 (pc' := 175) (lc' := [(5, .int 1), (4, .int 0), (3, .int (nI (3846 + (6 * n)))), (2, .int (nI n)), (1, .int 11), (0, .ref 0)]) (stk' := [.int 0, .int ((nI (3846 + (6 * n))) + 1), .ref 1]) (mem' := fm (upd g 23 (nI (K + 1))) tp bt (fm_u a 1 (3846 + (6 * n)) 11) b) (by intro _ _ _; eq_refl) ?_
    rw [show ((nI (3846 + (6 * n))) + 1 : Int32) = nI ((3846 + (6 * n)) + 1) from by simp only [show (1 : Int32) = nI 1 from rfl, nI_add, fm_mul]]
    refine fe_stI (mem' := fm (upd g 23 (nI (K + 1))) tp bt (fm_u (fm_u a 1 (3846 + (6 * n)) 11) 1 (nI ((3846 + (6 * n)) + 1) : Int32).toNatClampNeg 0) b) (by rfl) (by rfl) (fx_inN (i := (3846 + (6 * n)) + 1) (by omega) (by omega)) fm_si1 ?_
    rw [show Int32.toNatClampNeg (nI ((3846 + (6 * n)) + 1)) = (3846 + (6 * n)) + 1 from nI_clamp (by omega)]
    refine fe_s 4 (pc' := 163) (lc' := [(5, .int (1 + 1)), (4, .int 0), (3, .int (nI (3846 + (6 * n)))), (2, .int (nI n)), (1, .int 11), (0, .ref 0)]) (stk' := [.int 6, .int (1 + 1)]) (mem' := fm (upd g 23 (nI (K + 1))) tp bt (fm_u (fm_u a 1 (3846 + (6 * n)) 11) 1 ((3846 + (6 * n)) + 1) 0) b) (by intro _ _ _; eq_refl) ?_
    rw [show (1 + 1 : Int32) = 2 from rfl]
    refine fe_s 1 (pc' := cond (fx_cb .ge 2 6) 182 166) (lc' := [(5, .int 2), (4, .int 0), (3, .int (nI (3846 + (6 * n)))), (2, .int (nI n)), (1, .int 11), (0, .ref 0)]) (stk' := []) (mem' := fm (upd g 23 (nI (K + 1))) tp bt (fm_u (fm_u a 1 (3846 + (6 * n)) 11) 1 ((3846 + (6 * n)) + 1) 0) b) (by intro _ _ _; eq_refl) ?_
    rw [show (fx_cb .ge 2 6) = false from by decide]
    dsimp only [cond]
    refine fe_s 6 (pc' := 175) (lc' := [(5, .int 2), (4, .int 0), (3, .int (nI (3846 + (6 * n)))), (2, .int (nI n)), (1, .int 11), (0, .ref 0)]) (stk' := [.int 0, .int ((nI (3846 + (6 * n))) + 2), .ref 1]) (mem' := fm (upd g 23 (nI (K + 1))) tp bt (fm_u (fm_u a 1 (3846 + (6 * n)) 11) 1 ((3846 + (6 * n)) + 1) 0) b) (by intro _ _ _; eq_refl) ?_
    rw [show ((nI (3846 + (6 * n))) + 2 : Int32) = nI ((3846 + (6 * n)) + 2) from by simp only [show (2 : Int32) = nI 2 from rfl, nI_add, fm_mul]]
    refine fe_stI (mem' := fm (upd g 23 (nI (K + 1))) tp bt (fm_u (fm_u (fm_u a 1 (3846 + (6 * n)) 11) 1 ((3846 + (6 * n)) + 1) 0) 1 (nI ((3846 + (6 * n)) + 2) : Int32).toNatClampNeg 0) b) (by rfl) (by rfl) (fx_inN (i := (3846 + (6 * n)) + 2) (by omega) (by omega)) fm_si1 ?_
    rw [show Int32.toNatClampNeg (nI ((3846 + (6 * n)) + 2)) = (3846 + (6 * n)) + 2 from nI_clamp (by omega)]
    refine fe_s 4 (pc' := 163) (lc' := [(5, .int (2 + 1)), (4, .int 0), (3, .int (nI (3846 + (6 * n)))), (2, .int (nI n)), (1, .int 11), (0, .ref 0)]) (stk' := [.int 6, .int (2 + 1)]) (mem' := fm (upd g 23 (nI (K + 1))) tp bt (fm_u (fm_u (fm_u a 1 (3846 + (6 * n)) 11) 1 ((3846 + (6 * n)) + 1) 0) 1 ((3846 + (6 * n)) + 2) 0) b) (by intro _ _ _; eq_refl) ?_
    rw [show (2 + 1 : Int32) = 3 from rfl]
    refine fe_s 1 (pc' := cond (fx_cb .ge 3 6) 182 166) (lc' := [(5, .int 3), (4, .int 0), (3, .int (nI (3846 + (6 * n)))), (2, .int (nI n)), (1, .int 11), (0, .ref 0)]) (stk' := []) (mem' := fm (upd g 23 (nI (K + 1))) tp bt (fm_u (fm_u (fm_u a 1 (3846 + (6 * n)) 11) 1 ((3846 + (6 * n)) + 1) 0) 1 ((3846 + (6 * n)) + 2) 0) b) (by intro _ _ _; eq_refl) ?_
    rw [show (fx_cb .ge 3 6) = false from by decide]
    dsimp only [cond]
    refine fe_s 6 (pc' := 175) (lc' := [(5, .int 3), (4, .int 0), (3, .int (nI (3846 + (6 * n)))), (2, .int (nI n)), (1, .int 11), (0, .ref 0)]) (stk' := [.int 0, .int ((nI (3846 + (6 * n))) + 3), .ref 1]) (mem' := fm (upd g 23 (nI (K + 1))) tp bt (fm_u (fm_u (fm_u a 1 (3846 + (6 * n)) 11) 1 ((3846 + (6 * n)) + 1) 0) 1 ((3846 + (6 * n)) + 2) 0) b) (by intro _ _ _; eq_refl) ?_
    rw [show ((nI (3846 + (6 * n))) + 3 : Int32) = nI ((3846 + (6 * n)) + 3) from by simp only [show (3 : Int32) = nI 3 from rfl, nI_add, fm_mul]]
    refine fe_stI (mem' := fm (upd g 23 (nI (K + 1))) tp bt (fm_u (fm_u (fm_u (fm_u a 1 (3846 + (6 * n)) 11) 1 ((3846 + (6 * n)) + 1) 0) 1 ((3846 + (6 * n)) + 2) 0) 1 (nI ((3846 + (6 * n)) + 3) : Int32).toNatClampNeg 0) b) (by rfl) (by rfl) (fx_inN (i := (3846 + (6 * n)) + 3) (by omega) (by omega)) fm_si1 ?_
    rw [show Int32.toNatClampNeg (nI ((3846 + (6 * n)) + 3)) = (3846 + (6 * n)) + 3 from nI_clamp (by omega)]
    refine fe_s 4 (pc' := 163) (lc' := [(5, .int (3 + 1)), (4, .int 0), (3, .int (nI (3846 + (6 * n)))), (2, .int (nI n)), (1, .int 11), (0, .ref 0)]) (stk' := [.int 6, .int (3 + 1)]) (mem' := fm (upd g 23 (nI (K + 1))) tp bt (fm_u (fm_u (fm_u (fm_u a 1 (3846 + (6 * n)) 11) 1 ((3846 + (6 * n)) + 1) 0) 1 ((3846 + (6 * n)) + 2) 0) 1 ((3846 + (6 * n)) + 3) 0) b) (by intro _ _ _; eq_refl) ?_
    rw [show (3 + 1 : Int32) = 4 from rfl]
    refine fe_s 1 (pc' := cond (fx_cb .ge 4 6) 182 166) (lc' := [(5, .int 4), (4, .int 0), (3, .int (nI (3846 + (6 * n)))), (2, .int (nI n)), (1, .int 11), (0, .ref 0)]) (stk' := []) (mem' := fm (upd g 23 (nI (K + 1))) tp bt (fm_u (fm_u (fm_u (fm_u a 1 (3846 + (6 * n)) 11) 1 ((3846 + (6 * n)) + 1) 0) 1 ((3846 + (6 * n)) + 2) 0) 1 ((3846 + (6 * n)) + 3) 0) b) (by intro _ _ _; eq_refl) ?_
    rw [show (fx_cb .ge 4 6) = false from by decide]
    dsimp only [cond]
    refine fe_s 6 (pc' := 175) (lc' := [(5, .int 4), (4, .int 0), (3, .int (nI (3846 + (6 * n)))), (2, .int (nI n)), (1, .int 11), (0, .ref 0)]) (stk' := [.int 0, .int ((nI (3846 + (6 * n))) + 4), .ref 1]) (mem' := fm (upd g 23 (nI (K + 1))) tp bt (fm_u (fm_u (fm_u (fm_u a 1 (3846 + (6 * n)) 11) 1 ((3846 + (6 * n)) + 1) 0) 1 ((3846 + (6 * n)) + 2) 0) 1 ((3846 + (6 * n)) + 3) 0) b) (by intro _ _ _; eq_refl) ?_
    rw [show ((nI (3846 + (6 * n))) + 4 : Int32) = nI ((3846 + (6 * n)) + 4) from by simp only [show (4 : Int32) = nI 4 from rfl, nI_add, fm_mul]]
    refine fe_stI (mem' := fm (upd g 23 (nI (K + 1))) tp bt (fm_u (fm_u (fm_u (fm_u (fm_u a 1 (3846 + (6 * n)) 11) 1 ((3846 + (6 * n)) + 1) 0) 1 ((3846 + (6 * n)) + 2) 0) 1 ((3846 + (6 * n)) + 3) 0) 1 (nI ((3846 + (6 * n)) + 4) : Int32).toNatClampNeg 0) b) (by rfl) (by rfl) (fx_inN (i := (3846 + (6 * n)) + 4) (by omega) (by omega)) fm_si1 ?_
    rw [show Int32.toNatClampNeg (nI ((3846 + (6 * n)) + 4)) = (3846 + (6 * n)) + 4 from nI_clamp (by omega)]
    refine fe_s 4 (pc' := 163) (lc' := [(5, .int (4 + 1)), (4, .int 0), (3, .int (nI (3846 + (6 * n)))), (2, .int (nI n)), (1, .int 11), (0, .ref 0)]) (stk' := [.int 6, .int (4 + 1)]) (mem' := fm (upd g 23 (nI (K + 1))) tp bt (fm_u (fm_u (fm_u (fm_u (fm_u a 1 (3846 + (6 * n)) 11) 1 ((3846 + (6 * n)) + 1) 0) 1 ((3846 + (6 * n)) + 2) 0) 1 ((3846 + (6 * n)) + 3) 0) 1 ((3846 + (6 * n)) + 4) 0) b) (by intro _ _ _; eq_refl) ?_
    rw [show (4 + 1 : Int32) = 5 from rfl]
    refine fe_s 1 (pc' := cond (fx_cb .ge 5 6) 182 166) (lc' := [(5, .int 5), (4, .int 0), (3, .int (nI (3846 + (6 * n)))), (2, .int (nI n)), (1, .int 11), (0, .ref 0)]) (stk' := []) (mem' := fm (upd g 23 (nI (K + 1))) tp bt (fm_u (fm_u (fm_u (fm_u (fm_u a 1 (3846 + (6 * n)) 11) 1 ((3846 + (6 * n)) + 1) 0) 1 ((3846 + (6 * n)) + 2) 0) 1 ((3846 + (6 * n)) + 3) 0) 1 ((3846 + (6 * n)) + 4) 0) b) (by intro _ _ _; eq_refl) ?_
    rw [show (fx_cb .ge 5 6) = false from by decide]
    dsimp only [cond]
    refine fe_s 6 (pc' := 175) (lc' := [(5, .int 5), (4, .int 0), (3, .int (nI (3846 + (6 * n)))), (2, .int (nI n)), (1, .int 11), (0, .ref 0)]) (stk' := [.int 0, .int ((nI (3846 + (6 * n))) + 5), .ref 1]) (mem' := fm (upd g 23 (nI (K + 1))) tp bt (fm_u (fm_u (fm_u (fm_u (fm_u a 1 (3846 + (6 * n)) 11) 1 ((3846 + (6 * n)) + 1) 0) 1 ((3846 + (6 * n)) + 2) 0) 1 ((3846 + (6 * n)) + 3) 0) 1 ((3846 + (6 * n)) + 4) 0) b) (by intro _ _ _; eq_refl) ?_
    rw [show ((nI (3846 + (6 * n))) + 5 : Int32) = nI ((3846 + (6 * n)) + 5) from by simp only [show (5 : Int32) = nI 5 from rfl, nI_add, fm_mul]]
    refine fe_stI (mem' := fm (upd g 23 (nI (K + 1))) tp bt (fm_u (fm_u (fm_u (fm_u (fm_u (fm_u a 1 (3846 + (6 * n)) 11) 1 ((3846 + (6 * n)) + 1) 0) 1 ((3846 + (6 * n)) + 2) 0) 1 ((3846 + (6 * n)) + 3) 0) 1 ((3846 + (6 * n)) + 4) 0) 1 (nI ((3846 + (6 * n)) + 5) : Int32).toNatClampNeg 0) b) (by rfl) (by rfl) (fx_inN (i := (3846 + (6 * n)) + 5) (by omega) (by omega)) fm_si1 ?_
    rw [show Int32.toNatClampNeg (nI ((3846 + (6 * n)) + 5)) = (3846 + (6 * n)) + 5 from nI_clamp (by omega)]
    refine fe_s 4 (pc' := 163) (lc' := [(5, .int (5 + 1)), (4, .int 0), (3, .int (nI (3846 + (6 * n)))), (2, .int (nI n)), (1, .int 11), (0, .ref 0)]) (stk' := [.int 6, .int (5 + 1)]) (mem' := fm (upd g 23 (nI (K + 1))) tp bt (fm_u (fm_u (fm_u (fm_u (fm_u (fm_u a 1 (3846 + (6 * n)) 11) 1 ((3846 + (6 * n)) + 1) 0) 1 ((3846 + (6 * n)) + 2) 0) 1 ((3846 + (6 * n)) + 3) 0) 1 ((3846 + (6 * n)) + 4) 0) 1 ((3846 + (6 * n)) + 5) 0) b) (by intro _ _ _; eq_refl) ?_
    rw [show (5 + 1 : Int32) = 6 from rfl]
    refine fe_s 1 (pc' := cond (fx_cb .ge 6 6) 182 166) (lc' := [(5, .int 6), (4, .int 0), (3, .int (nI (3846 + (6 * n)))), (2, .int (nI n)), (1, .int 11), (0, .ref 0)]) (stk' := []) (mem' := fm (upd g 23 (nI (K + 1))) tp bt (fm_u (fm_u (fm_u (fm_u (fm_u (fm_u a 1 (3846 + (6 * n)) 11) 1 ((3846 + (6 * n)) + 1) 0) 1 ((3846 + (6 * n)) + 2) 0) 1 ((3846 + (6 * n)) + 3) 0) 1 ((3846 + (6 * n)) + 4) 0) 1 ((3846 + (6 * n)) + 5) 0) b) (by intro _ _ _; eq_refl) ?_
    rw [show (fx_cb .ge 6 6) = true from by decide]
    dsimp only [cond]
    refine fe_s 4 (pc' := 190) (lc' := [(5, .int 6), (4, .int 0), (3, .int (nI (3846 + (6 * n)))), (2, .int (nI n)), (1, .int 11), (0, .ref 0)]) (stk' := [.int 3374, .ref 1, .int 3374, .ref 1]) (mem' := fm (upd g 23 (nI (K + 1))) tp bt (fm_u (fm_u (fm_u (fm_u (fm_u (fm_u a 1 (3846 + (6 * n)) 11) 1 ((3846 + (6 * n)) + 1) 0) 1 ((3846 + (6 * n)) + 2) 0) 1 ((3846 + (6 * n)) + 3) 0) 1 ((3846 + (6 * n)) + 4) 0) 1 ((3846 + (6 * n)) + 5) 0) b) (by intro _ _ _; eq_refl) ?_
    refine fe_ldI (by rfl) (by rfl) (fx_inN (i := 3374) (by omega) (by omega)) ?_
    rw [show Int32.toNatClampNeg (3374) = 3374 from rfl]
    rw [show (fm_u (fm_u (fm_u (fm_u (fm_u (fm_u a 1 (3846 + (6 * n)) 11) 1 ((3846 + (6 * n)) + 1) 0) 1 ((3846 + (6 * n)) + 2) 0) 1 ((3846 + (6 * n)) + 3) 0) 1 ((3846 + (6 * n)) + 4) 0) 1 ((3846 + (6 * n)) + 5) 0) 1 3374 = nI n from by rw [fm_u1, if_neg (by omega), fm_u1, if_neg (by omega), fm_u1, if_neg (by omega), fm_u1, if_neg (by omega), fm_u1, if_neg (by omega), fm_u1, if_neg (by omega)]; exact hT.2.2.2.2.1]
    refine fe_s 2 (pc' := 193) (lc' := [(5, .int 6), (4, .int 0), (3, .int (nI (3846 + (6 * n)))), (2, .int (nI n)), (1, .int 11), (0, .ref 0)]) (stk' := [.int ((nI n) + 1), .int 3374, .ref 1]) (mem' := fm (upd g 23 (nI (K + 1))) tp bt (fm_u (fm_u (fm_u (fm_u (fm_u (fm_u a 1 (3846 + (6 * n)) 11) 1 ((3846 + (6 * n)) + 1) 0) 1 ((3846 + (6 * n)) + 2) 0) 1 ((3846 + (6 * n)) + 3) 0) 1 ((3846 + (6 * n)) + 4) 0) 1 ((3846 + (6 * n)) + 5) 0) b) (by intro _ _ _; eq_refl) ?_
    rw [show ((nI n) + 1 : Int32) = nI (n + 1) from by simp only [show (1 : Int32) = nI 1 from rfl, nI_add, fm_mul]]
    refine fe_stI (mem' := fm (upd g 23 (nI (K + 1))) tp bt (fm_u (fm_u (fm_u (fm_u (fm_u (fm_u (fm_u a 1 (3846 + (6 * n)) 11) 1 ((3846 + (6 * n)) + 1) 0) 1 ((3846 + (6 * n)) + 2) 0) 1 ((3846 + (6 * n)) + 3) 0) 1 ((3846 + (6 * n)) + 4) 0) 1 ((3846 + (6 * n)) + 5) 0) 1 (3374 : Int32).toNatClampNeg (nI (n + 1))) b) (by rfl) (by rfl) (fx_inN (i := 3374) (by omega) (by omega)) fm_si1 ?_
    rw [show Int32.toNatClampNeg (3374) = 3374 from rfl]
    obtain ⟨at9, hat9⟩ : ∃ z, z = fm_row a n (3846 + 6 * n) 11 := ⟨_, rfl⟩
    rw [show (fm_u (fm_u (fm_u (fm_u (fm_u (fm_u (fm_u a 1 (3846 + (6 * n)) 11) 1 ((3846 + (6 * n)) + 1) 0) 1 ((3846 + (6 * n)) + 2) 0) 1 ((3846 + (6 * n)) + 3) 0) 1 ((3846 + (6 * n)) + 4) 0) 1 ((3846 + (6 * n)) + 5) 0) 1 (3374) (nI (n + 1))) = at9 from hat9.symm]
    have hCt9 : fm_TC a0 at9 n 11 0 := by rw [hat9]; exact fm_TC_new hT hR hn60 (by decide) (by decide)
    have h8t9 : at9 8 = a 8 := (congrFun hat9 8).trans (fm_row_t (by decide))
    refine fe_s 1 (pc' := 195) (lc' := [(5, .int 6), (4, .int 0), (3, .int (nI (3846 + (6 * n)))), (2, .int (nI n)), (1, .int 11), (0, .ref 0)]) (stk' := [.ref 0]) (mem' := fm (upd g 23 (nI (K + 1))) tp bt at9 b) (by intro _ _ _; eq_refl) ?_
    obtain ⟨gk10, Ek10, Fk10, hfrk10, hok10, hek10, hpk10⟩ := fr_aheadq (g := (upd g 23 (nI (K + 1)))) (tp := tp) (bt := bt) (a := at9) (b := b) (fm_gy_up (fm_gy_rf hxp hfl) (by decide)).2.1 (fm_gy_up (fm_gy_rf hxp hfl) (by decide)).2.2.1
    have gok10 := fm_gy_tr (fm_gy_up (fm_gy_rf hxp hfl) (by decide)) hok10
    have e18k10 : gk10 18 = g 18 := hek10.trans ((pk_un (by decide)).trans rfl)
    have prk10 : gk10 12 = 0 ∨ E < Ek10 := hpk10.imp id (fun z => by have := (fm_gy_rf hxp hfl).2.2.2; omega)
    have d22k10 : gk10 22 = nI D := by rw [hok10.1 22 (by decide) (by decide) (by decide) (by decide) (by decide) (by decide)]; first | exact eD | rfl
    have d23k10 : gk10 23 = nI (K + 1) := by rw [hok10.1 23 (by decide) (by decide) (by decide) (by decide) (by decide) (by decide)]; first | exact rfl | rfl
    refine fe_ivV hfrk10 (by omega) (by rfl) (by rfl) (by rfl) (by rfl) (by rfl) (by rfl) ?_
    refine fe_s 3 (pc' := 201) (lc' := [(5, .int 6), (4, .int 0), (3, .int (nI (3846 + (6 * n)))), (2, .int (nI n)), (1, .int 11), (0, .ref 0)]) (stk' := [.int (nI (3846 + (6 * n))), .int 11, .ref 0]) (mem' := fm gk10 tp bt at9 b) (by intro _ _ _; eq_refl) ?_
    obtain ⟨vp11, memp11, ⟨xp11, gp11, Ep11, Fp11, ap11, Xp11, Yp11, hop11, hCp11, h8p11, hvp11, hRp11⟩, hfrp11⟩ := fr_taleOrder11 (g := gk10) (tp := tp) (bt := bt) (a := at9) (b := b) (a0 := a0) gok10.2.1 gok10.2.2.1 hH hCt9
    cases hRp11
    have h9p11 : ap11 8 = a 8 := h8p11.trans h8t9
    have gop11 := fm_gy_tr gok10 hop11
    have d22p11 : gp11 22 = nI D := by rw [hop11.1 22 (by decide) (by decide) (by decide) (by decide) (by decide) (by decide)]; first | exact d22k10 | rfl
    have d23p11 : gp11 23 = nI (K + 1) := by rw [hop11.1 23 (by decide) (by decide) (by decide) (by decide) (by decide) (by decide)]; first | exact d23k10 | rfl
    refine fe_ivV hfrp11 (by omega) (by rfl) (by rfl) (by rfl) (by rfl) (by rfl) (by rfl) ?_
    rcases hvp11 with ⟨rfl, hzp11⟩ | ⟨rfl, hep11, hrop11⟩
    · refine fe_s 1 (pc' := cond (fx_cb .ne 0 0) 209 207) (lc' := [(5, .int 6), (4, .int 0), (3, .int (nI (3846 + (6 * n)))), (2, .int (nI n)), (1, .int 11), (0, .ref 0)]) (stk' := []) (mem' := fm gp11 tp bt ap11 b) (by intro _ _ _; eq_refl) ?_
      rw [show (fx_cb .ne 0 0) = false from by decide]
      dsimp only [cond]
      refine fe_s 1 (pc' := 208) (lc' := [(5, .int 6), (4, .int 0), (3, .int (nI (3846 + (6 * n)))), (2, .int (nI n)), (1, .int 11), (0, .ref 0)]) (stk' := [.int 0]) (mem' := fm gp11 tp bt ap11 b) (by intro _ _ _; eq_refl) ?_
      exact fe_ret ⟨_, _, _, _, _, n + 1, D, (K + 1), gop11, fm_TS_of hCp11 ⟨d22p11, by omega, d23p11, by omega, by omega⟩ (fun d hd => by rw [h9p11]; obtain ⟨q, q1, q2⟩ := h8 d (by omega); exact ⟨q, by omega, q2⟩) (fun d hd => by rw [h9p11]; exact h9 d hd), Or.inl ⟨rfl, hzp11⟩, rfl⟩ (by rfl) (by rfl) (by rfl)
    · have e18p11 : gp11 18 = g 18 := hep11.trans e18k10
      refine fe_s 1 (pc' := cond (fx_cb .ne 1 0) 209 207) (lc' := [(5, .int 6), (4, .int 0), (3, .int (nI (3846 + (6 * n)))), (2, .int (nI n)), (1, .int 11), (0, .ref 0)]) (stk' := []) (mem' := fm gp11 tp bt ap11 b) (by intro _ _ _; eq_refl) ?_
      rw [show (fx_cb .ne 1 0) = true from by decide]
      dsimp only [cond]
      refine fe_s 1 (pc' := 211) (lc' := [(5, .int 6), (4, .int 0), (3, .int (nI (3846 + (6 * n)))), (2, .int (nI n)), (1, .int 11), (0, .ref 0)]) (stk' := [.int 0]) (mem' := fm gp11 tp bt ap11 b) (by intro _ _ _; eq_refl) ?_
      refine fe_s 1 (pc' := cond (fx_cb .eq 0 0) 234 214) (lc' := [(5, .int 6), (4, .int 0), (3, .int (nI (3846 + (6 * n)))), (2, .int (nI n)), (1, .int 11), (0, .ref 0)]) (stk' := []) (mem' := fm gp11 tp bt ap11 b) (by intro _ _ _; eq_refl) ?_
      rw [show (fx_cb .eq 0 0) = true from by decide]
      dsimp only [cond]
      refine fe_s 2 (pc' := 237) (lc' := [(5, .int 6), (4, .int 0), (3, .int (nI (3846 + (6 * n)))), (2, .int (nI n)), (1, .int 11), (0, .ref 0)]) (stk' := [.int 20, .int 11]) (mem' := fm gp11 tp bt ap11 b) (by intro _ _ _; eq_refl) ?_
      refine fe_s 1 (pc' := cond (fx_cb .ne 11 20) 291 240) (lc' := [(5, .int 6), (4, .int 0), (3, .int (nI (3846 + (6 * n)))), (2, .int (nI n)), (1, .int 11), (0, .ref 0)]) (stk' := []) (mem' := fm gp11 tp bt ap11 b) (by intro _ _ _; eq_refl) ?_
      rw [show (fx_cb .ne 11 20) = true from by decide]
      dsimp only [cond]
      refine fe_s 2 (pc' := 294) (lc' := [(5, .int 6), (4, .int 0), (3, .int (nI (3846 + (6 * n)))), (2, .int (nI n)), (1, .int 11), (0, .ref 0)]) (stk' := [.int 59, .ref 0]) (mem' := fm gp11 tp bt ap11 b) (by intro _ _ _; eq_refl) ?_
      obtain ⟨xc12, gc12, Ec12, Fc12, hfrc12, hoc12, hvc12⟩ := fr_wantSignq (c := 59) (g := gp11) (tp := tp) (bt := bt) (a := ap11) (b := b) gop11.2.1 gop11.2.2.1
      have goc12 := fm_gy_tr gop11 hoc12
      have d22c12 : gc12 22 = nI D := by rw [hoc12.1 22 (by decide) (by decide) (by decide) (by decide) (by decide) (by decide)]; first | exact d22p11 | rfl
      have d23c12 : gc12 23 = nI (K + 1) := by rw [hoc12.1 23 (by decide) (by decide) (by decide) (by decide) (by decide) (by decide)]; first | exact d23p11 | rfl
      refine fe_ivV hfrc12 (by omega) (by rfl) (by rfl) (by rfl) (by rfl) (by rfl) (by rfl) ?_
      rcases hvc12 with ⟨rfl, hzc12⟩ | ⟨rfl, hec12, hpc12⟩
      · exact fe_ret ⟨_, _, _, _, _, n + 1, D, (K + 1), goc12, fm_TS_of hCp11 ⟨d22c12, by omega, d23c12, by omega, by omega⟩ (fun d hd => by rw [h9p11]; obtain ⟨q, q1, q2⟩ := h8 d (by omega); exact ⟨q, by omega, q2⟩) (fun d hd => by rw [h9p11]; exact h9 d hd), Or.inl ⟨rfl, hzc12⟩, rfl⟩ (by rfl) (by rfl) (by rfl)
      · have e18c12 : gc12 18 = g 18 := hec12.trans e18p11
        have prc12 : gc12 12 = 0 ∨ E < Ec12 := hpc12.imp id (fun z => by have := gop11.2.2.2; omega)
        exact fe_ret ⟨_, _, _, _, _, n + 1, D, (K + 1), goc12, fm_TS_of hCp11 ⟨d22c12, by omega, d23c12, by omega, by omega⟩ (fun d hd => by rw [h9p11]; obtain ⟨q, q1, q2⟩ := h8 d (by omega); exact ⟨q, by omega, q2⟩) (fun d hd => by rw [h9p11]; exact h9 d hd), Or.inr ⟨rfl, e18c12, prc12, fm_TR_of hCp11 hrop11⟩, rfl⟩ (by rfl) (by rfl) (by rfl)
set_option maxRecDepth 20000 in
set_option maxHeartbeats 8000000 in
theorem ts_12 {S E F C W n D K : Nat} (hxp : fm_xp g S E F) (hfl : fm_flt g) (hH : fm_th a0 C W) (hT : fm_TS a0 g a n D K) (hR : fm_TR a n) : fe_R 10 gk_m251 7 [(1, .int 12), (0, .ref 0)] [] (fm g tp bt a b) (fm_FTS a0 g tp bt b S E) := by
  obtain ⟨⟨eD, hD3, eK, hK30, hnK⟩, h8, h9⟩ := hT.2.2.2.2.2
  refine fe_s 3 (pc' := 14) (lc' := [(1, .int 12), (0, .ref 0)]) (stk' := [.int 3374, .ref 1]) (mem' := fm g tp bt a b) (by intro _ _ _; eq_refl) ?_
  refine fe_ldI (by rfl) (by rfl) (fx_inN (i := 3374) (by omega) (by omega)) ?_
  rw [show Int32.toNatClampNeg (3374) = 3374 from rfl]
  rw [hT.2.2.2.2.1]
  refine fe_s 9 (pc' := 28) (lc' := [(3, .int (3846 + (6 * (nI n)))), (2, .int (nI n)), (1, .int 12), (0, .ref 0)]) (stk' := [.int 18, .int 12]) (mem' := fm g tp bt a b) (by intro _ _ _; eq_refl) ?_
  rw [show (3846 + (6 * (nI n)) : Int32) = nI (3846 + (6 * n)) from by simp only [show (3846 : Int32) = nI 3846 from rfl, show (6 : Int32) = nI 6 from rfl, nI_add, fm_mul]]
  refine fe_s 1 (pc' := cond (fx_cb .eq 12 18) 37 31) (lc' := [(3, .int (nI (3846 + (6 * n)))), (2, .int (nI n)), (1, .int 12), (0, .ref 0)]) (stk' := []) (mem' := fm g tp bt a b) (by intro _ _ _; eq_refl) ?_
  rw [show (fx_cb .eq 12 18) = false from by decide]
  dsimp only [cond]
  refine fe_s 2 (pc' := 34) (lc' := [(3, .int (nI (3846 + (6 * n)))), (2, .int (nI n)), (1, .int 12), (0, .ref 0)]) (stk' := [.int 19, .int 12]) (mem' := fm g tp bt a b) (by intro _ _ _; eq_refl) ?_
  refine fe_s 1 (pc' := cond (fx_cb .ne 12 19) 41 37) (lc' := [(3, .int (nI (3846 + (6 * n)))), (2, .int (nI n)), (1, .int 12), (0, .ref 0)]) (stk' := []) (mem' := fm g tp bt a b) (by intro _ _ _; eq_refl) ?_
  rw [show (fx_cb .ne 12 19) = true from by decide]
  dsimp only [cond]
  refine fe_s 4 (pc' := 47) (lc' := [(4, .int 0), (3, .int (nI (3846 + (6 * n)))), (2, .int (nI n)), (1, .int 12), (0, .ref 0)]) (stk' := [.int 11, .int 12]) (mem' := fm g tp bt a b) (by intro _ _ _; eq_refl) ?_
  refine fe_s 1 (pc' := cond (fx_cb .lt 12 11) 81 50) (lc' := [(4, .int 0), (3, .int (nI (3846 + (6 * n)))), (2, .int (nI n)), (1, .int 12), (0, .ref 0)]) (stk' := []) (mem' := fm g tp bt a b) (by intro _ _ _; eq_refl) ?_
  rw [show (fx_cb .lt 12 11) = false from by decide]
  dsimp only [cond]
  refine fe_s 2 (pc' := 53) (lc' := [(4, .int 0), (3, .int (nI (3846 + (6 * n)))), (2, .int (nI n)), (1, .int 12), (0, .ref 0)]) (stk' := [.int 21, .int 12]) (mem' := fm g tp bt a b) (by intro _ _ _; eq_refl) ?_
  refine fe_s 1 (pc' := cond (fx_cb .gt 12 21) 81 56) (lc' := [(4, .int 0), (3, .int (nI (3846 + (6 * n)))), (2, .int (nI n)), (1, .int 12), (0, .ref 0)]) (stk' := []) (mem' := fm g tp bt a b) (by intro _ _ _; eq_refl) ?_
  rw [show (fx_cb .gt 12 21) = false from by decide]
  dsimp only [cond]
  refine fe_s 2 (pc' := 59) (lc' := [(4, .int 0), (3, .int (nI (3846 + (6 * n)))), (2, .int (nI n)), (1, .int 12), (0, .ref 0)]) (stk' := [.int 16, .int 12]) (mem' := fm g tp bt a b) (by intro _ _ _; eq_refl) ?_
  refine fe_s 1 (pc' := cond (fx_cb .eq 12 16) 81 62) (lc' := [(4, .int 0), (3, .int (nI (3846 + (6 * n)))), (2, .int (nI n)), (1, .int 12), (0, .ref 0)]) (stk' := []) (mem' := fm g tp bt a b) (by intro _ _ _; eq_refl) ?_
  rw [show (fx_cb .eq 12 16) = false from by decide]
  dsimp only [cond]
  refine fe_s 2 (pc' := 65) (lc' := [(4, .int 0), (3, .int (nI (3846 + (6 * n)))), (2, .int (nI n)), (1, .int 12), (0, .ref 0)]) (stk' := [.int 17, .int 12]) (mem' := fm g tp bt a b) (by intro _ _ _; eq_refl) ?_
  refine fe_s 1 (pc' := cond (fx_cb .eq 12 17) 81 68) (lc' := [(4, .int 0), (3, .int (nI (3846 + (6 * n)))), (2, .int (nI n)), (1, .int 12), (0, .ref 0)]) (stk' := []) (mem' := fm g tp bt a b) (by intro _ _ _; eq_refl) ?_
  rw [show (fx_cb .eq 12 17) = false from by decide]
  dsimp only [cond]
  refine fe_s 2 (pc' := 71) (lc' := [(4, .int 0), (3, .int (nI (3846 + (6 * n)))), (2, .int (nI n)), (1, .int 12), (0, .ref 0)]) (stk' := [.int 20, .int 12]) (mem' := fm g tp bt a b) (by intro _ _ _; eq_refl) ?_
  refine fe_s 1 (pc' := cond (fx_cb .ne 12 20) 87 74) (lc' := [(4, .int 0), (3, .int (nI (3846 + (6 * n)))), (2, .int (nI n)), (1, .int 12), (0, .ref 0)]) (stk' := []) (mem' := fm g tp bt a b) (by intro _ _ _; eq_refl) ?_
  rw [show (fx_cb .ne 12 20) = true from by decide]
  dsimp only [cond]
  refine fe_s 2 (pc' := 90) (lc' := [(4, .int 0), (3, .int (nI (3846 + (6 * n)))), (2, .int (nI n)), (1, .int 12), (0, .ref 0)]) (stk' := [.int 20, .int 12]) (mem' := fm g tp bt a b) (by intro _ _ _; eq_refl) ?_
  refine fe_s 1 (pc' := cond (fx_cb .eq 12 20) 109 93) (lc' := [(4, .int 0), (3, .int (nI (3846 + (6 * n)))), (2, .int (nI n)), (1, .int 12), (0, .ref 0)]) (stk' := []) (mem' := fm g tp bt a b) (by intro _ _ _; eq_refl) ?_
  rw [show (fx_cb .eq 12 20) = false from by decide]
  dsimp only [cond]
  refine fe_s 3 (pc' := 99) (lc' := [(4, .int 0), (3, .int (nI (3846 + (6 * n)))), (2, .int (nI n)), (1, .int 12), (0, .ref 0)]) (stk' := [.int 30, .int (g 23)]) (mem' := fm g tp bt a b) (by intro _ _ _; eq_refl) ?_
  try rw [eK]
  refine fe_s 1 (pc' := cond (fx_cb .ne (nI K) 30) 109 102) (lc' := [(4, .int 0), (3, .int (nI (3846 + (6 * n)))), (2, .int (nI n)), (1, .int 12), (0, .ref 0)]) (stk' := []) (mem' := fm g tp bt a b) (by intro _ _ _; eq_refl) ?_
  by_cases h1 : K = 30
  · rw [show (fx_cb .ne (nI K) 30) = false from cb_neF (a := K) (b := 30) (by omega) (by omega) (by omega)]
    dsimp only [cond]
    refine fe_s 2 (pc' := 105) (lc' := [(4, .int 0), (3, .int (nI (3846 + (6 * n)))), (2, .int (nI n)), (1, .int 12), (0, .ref 0)]) (stk' := [.int 6, .ref 0]) (mem' := fm g tp bt a b) (by intro _ _ _; eq_refl) ?_
    obtain ⟨gf2, hfrf2, hof2, hzf2⟩ := fr_failsq (x := 6) (g := g) (tp := tp) (bt := bt) (a := a) (b := b) (by omega) (by omega) (fm_gy_rf hxp hfl).2.1 (fm_gy_rf hxp hfl).2.2.1
    have gof2 := fm_gy_tr (fm_gy_rf hxp hfl) hof2
    have d22f2 : gf2 22 = nI D := by rw [hof2.1 22 (by decide) (by decide) (by decide) (by decide) (by decide) (by decide)]; first | exact eD | rfl
    have d23f2 : gf2 23 = nI K := by rw [hof2.1 23 (by decide) (by decide) (by decide) (by decide) (by decide) (by decide)]; first | exact eK | rfl
    refine fe_ivV hfrf2 (by omega) (by rfl) (by rfl) (by rfl) (by rfl) (by rfl) (by rfl) ?_
    exact fe_ret ⟨_, _, _, _, _, n, D, K, gof2, ⟨hT.1, hT.2.1, hT.2.2.1, hT.2.2.2.1, hT.2.2.2.2.1, ⟨d22f2, hD3, d23f2, hK30, hnK⟩, h8, h9⟩, Or.inl ⟨rfl, hzf2⟩, rfl⟩ (by rfl) (by rfl) (by rfl)
  · rw [show (fx_cb .ne (nI K) 30) = true from cb_neT (a := K) (b := 30) (by omega) (by omega) (by omega)]
    dsimp only [cond]
    refine fe_s 1 (pc' := 111) (lc' := [(4, .int 0), (3, .int (nI (3846 + (6 * n)))), (2, .int (nI n)), (1, .int 12), (0, .ref 0)]) (stk' := [.int 0]) (mem' := fm g tp bt a b) (by intro _ _ _; eq_refl) ?_
    refine fe_s 1 (pc' := cond (fx_cb .eq 0 0) 129 114) (lc' := [(4, .int 0), (3, .int (nI (3846 + (6 * n)))), (2, .int (nI n)), (1, .int 12), (0, .ref 0)]) (stk' := []) (mem' := fm g tp bt a b) (by intro _ _ _; eq_refl) ?_
    rw [show (fx_cb .eq 0 0) = true from by decide]
    dsimp only [cond]
    refine fe_s 5 (pc' := 137) (lc' := [(4, .int 0), (3, .int (nI (3846 + (6 * n)))), (2, .int (nI n)), (1, .int 12), (0, .ref 0)]) (stk' := [.int 20, .int 12, .int (g 23), .ref 0]) (mem' := fm g tp bt a b) (by intro _ _ _; eq_refl) ?_
    try rw [eK]
    refine fe_s 1 (pc' := cond (fx_cb .ne 12 20) 144 140) (lc' := [(4, .int 0), (3, .int (nI (3846 + (6 * n)))), (2, .int (nI n)), (1, .int 12), (0, .ref 0)]) (stk' := [.int (nI K), .ref 0]) (mem' := fm g tp bt a b) (by intro _ _ _; eq_refl) ?_
    rw [show (fx_cb .ne 12 20) = true from by decide]
    dsimp only [cond]
    refine fe_s 7 (pc' := 155) (lc' := [(4, .int 0), (3, .int (nI (3846 + (6 * n)))), (2, .int (nI n)), (1, .int 12), (0, .ref 0)]) (stk' := [.int 12, .int (nI (3846 + (6 * n))), .ref 1]) (mem' := fm (upd g 23 ((nI K) + 1)) tp bt a b) (by intro _ _ _; eq_refl) ?_
    rw [show ((nI K) + 1 : Int32) = nI (K + 1) from by simp only [show (1 : Int32) = nI 1 from rfl, nI_add, fm_mul]]
    have hn60 : n < 60 := by omega
    refine fe_stI (mem' := fm (upd g 23 (nI (K + 1))) tp bt (fm_u a 1 (nI (3846 + (6 * n)) : Int32).toNatClampNeg 12) b) (by rfl) (by rfl) (fx_inN (i := 3846 + (6 * n)) (by omega) (by omega)) fm_si1 ?_
    rw [show Int32.toNatClampNeg (nI (3846 + (6 * n))) = 3846 + (6 * n) from nI_clamp (by omega)]
    refine fe_s 4 (pc' := 163) (lc' := [(5, .int 1), (4, .int 0), (3, .int (nI (3846 + (6 * n)))), (2, .int (nI n)), (1, .int 12), (0, .ref 0)]) (stk' := [.int 6, .int 1]) (mem' := fm (upd g 23 (nI (K + 1))) tp bt (fm_u a 1 (3846 + (6 * n)) 12) b) (by intro _ _ _; eq_refl) ?_
    refine fe_s 1 (pc' := cond (fx_cb .ge 1 6) 182 166) (lc' := [(5, .int 1), (4, .int 0), (3, .int (nI (3846 + (6 * n)))), (2, .int (nI n)), (1, .int 12), (0, .ref 0)]) (stk' := []) (mem' := fm (upd g 23 (nI (K + 1))) tp bt (fm_u a 1 (3846 + (6 * n)) 12) b) (by intro _ _ _; eq_refl) ?_
    rw [show (fx_cb .ge 1 6) = false from by decide]
    dsimp only [cond]
    refine fe_s 6 (pc' := 175) (lc' := [(5, .int 1), (4, .int 0), (3, .int (nI (3846 + (6 * n)))), (2, .int (nI n)), (1, .int 12), (0, .ref 0)]) (stk' := [.int 0, .int ((nI (3846 + (6 * n))) + 1), .ref 1]) (mem' := fm (upd g 23 (nI (K + 1))) tp bt (fm_u a 1 (3846 + (6 * n)) 12) b) (by intro _ _ _; eq_refl) ?_
    rw [show ((nI (3846 + (6 * n))) + 1 : Int32) = nI ((3846 + (6 * n)) + 1) from by simp only [show (1 : Int32) = nI 1 from rfl, nI_add, fm_mul]]
    refine fe_stI (mem' := fm (upd g 23 (nI (K + 1))) tp bt (fm_u (fm_u a 1 (3846 + (6 * n)) 12) 1 (nI ((3846 + (6 * n)) + 1) : Int32).toNatClampNeg 0) b) (by rfl) (by rfl) (fx_inN (i := (3846 + (6 * n)) + 1) (by omega) (by omega)) fm_si1 ?_
    rw [show Int32.toNatClampNeg (nI ((3846 + (6 * n)) + 1)) = (3846 + (6 * n)) + 1 from nI_clamp (by omega)]
    refine fe_s 4 (pc' := 163) (lc' := [(5, .int (1 + 1)), (4, .int 0), (3, .int (nI (3846 + (6 * n)))), (2, .int (nI n)), (1, .int 12), (0, .ref 0)]) (stk' := [.int 6, .int (1 + 1)]) (mem' := fm (upd g 23 (nI (K + 1))) tp bt (fm_u (fm_u a 1 (3846 + (6 * n)) 12) 1 ((3846 + (6 * n)) + 1) 0) b) (by intro _ _ _; eq_refl) ?_
    rw [show (1 + 1 : Int32) = 2 from rfl]
    refine fe_s 1 (pc' := cond (fx_cb .ge 2 6) 182 166) (lc' := [(5, .int 2), (4, .int 0), (3, .int (nI (3846 + (6 * n)))), (2, .int (nI n)), (1, .int 12), (0, .ref 0)]) (stk' := []) (mem' := fm (upd g 23 (nI (K + 1))) tp bt (fm_u (fm_u a 1 (3846 + (6 * n)) 12) 1 ((3846 + (6 * n)) + 1) 0) b) (by intro _ _ _; eq_refl) ?_
    rw [show (fx_cb .ge 2 6) = false from by decide]
    dsimp only [cond]
    refine fe_s 6 (pc' := 175) (lc' := [(5, .int 2), (4, .int 0), (3, .int (nI (3846 + (6 * n)))), (2, .int (nI n)), (1, .int 12), (0, .ref 0)]) (stk' := [.int 0, .int ((nI (3846 + (6 * n))) + 2), .ref 1]) (mem' := fm (upd g 23 (nI (K + 1))) tp bt (fm_u (fm_u a 1 (3846 + (6 * n)) 12) 1 ((3846 + (6 * n)) + 1) 0) b) (by intro _ _ _; eq_refl) ?_
    rw [show ((nI (3846 + (6 * n))) + 2 : Int32) = nI ((3846 + (6 * n)) + 2) from by simp only [show (2 : Int32) = nI 2 from rfl, nI_add, fm_mul]]
    refine fe_stI (mem' := fm (upd g 23 (nI (K + 1))) tp bt (fm_u (fm_u (fm_u a 1 (3846 + (6 * n)) 12) 1 ((3846 + (6 * n)) + 1) 0) 1 (nI ((3846 + (6 * n)) + 2) : Int32).toNatClampNeg 0) b) (by rfl) (by rfl) (fx_inN (i := (3846 + (6 * n)) + 2) (by omega) (by omega)) fm_si1 ?_
    rw [show Int32.toNatClampNeg (nI ((3846 + (6 * n)) + 2)) = (3846 + (6 * n)) + 2 from nI_clamp (by omega)]
    refine fe_s 4 (pc' := 163) (lc' := [(5, .int (2 + 1)), (4, .int 0), (3, .int (nI (3846 + (6 * n)))), (2, .int (nI n)), (1, .int 12), (0, .ref 0)]) (stk' := [.int 6, .int (2 + 1)]) (mem' := fm (upd g 23 (nI (K + 1))) tp bt (fm_u (fm_u (fm_u a 1 (3846 + (6 * n)) 12) 1 ((3846 + (6 * n)) + 1) 0) 1 ((3846 + (6 * n)) + 2) 0) b) (by intro _ _ _; eq_refl) ?_
    rw [show (2 + 1 : Int32) = 3 from rfl]
    refine fe_s 1 (pc' := cond (fx_cb .ge 3 6) 182 166) (lc' := [(5, .int 3), (4, .int 0), (3, .int (nI (3846 + (6 * n)))), (2, .int (nI n)), (1, .int 12), (0, .ref 0)]) (stk' := []) (mem' := fm (upd g 23 (nI (K + 1))) tp bt (fm_u (fm_u (fm_u a 1 (3846 + (6 * n)) 12) 1 ((3846 + (6 * n)) + 1) 0) 1 ((3846 + (6 * n)) + 2) 0) b) (by intro _ _ _; eq_refl) ?_
    rw [show (fx_cb .ge 3 6) = false from by decide]
    dsimp only [cond]
    refine fe_s 6 (pc' := 175) (lc' := [(5, .int 3), (4, .int 0), (3, .int (nI (3846 + (6 * n)))), (2, .int (nI n)), (1, .int 12), (0, .ref 0)]) (stk' := [.int 0, .int ((nI (3846 + (6 * n))) + 3), .ref 1]) (mem' := fm (upd g 23 (nI (K + 1))) tp bt (fm_u (fm_u (fm_u a 1 (3846 + (6 * n)) 12) 1 ((3846 + (6 * n)) + 1) 0) 1 ((3846 + (6 * n)) + 2) 0) b) (by intro _ _ _; eq_refl) ?_
    rw [show ((nI (3846 + (6 * n))) + 3 : Int32) = nI ((3846 + (6 * n)) + 3) from by simp only [show (3 : Int32) = nI 3 from rfl, nI_add, fm_mul]]
    refine fe_stI (mem' := fm (upd g 23 (nI (K + 1))) tp bt (fm_u (fm_u (fm_u (fm_u a 1 (3846 + (6 * n)) 12) 1 ((3846 + (6 * n)) + 1) 0) 1 ((3846 + (6 * n)) + 2) 0) 1 (nI ((3846 + (6 * n)) + 3) : Int32).toNatClampNeg 0) b) (by rfl) (by rfl) (fx_inN (i := (3846 + (6 * n)) + 3) (by omega) (by omega)) fm_si1 ?_
    rw [show Int32.toNatClampNeg (nI ((3846 + (6 * n)) + 3)) = (3846 + (6 * n)) + 3 from nI_clamp (by omega)]
    refine fe_s 4 (pc' := 163) (lc' := [(5, .int (3 + 1)), (4, .int 0), (3, .int (nI (3846 + (6 * n)))), (2, .int (nI n)), (1, .int 12), (0, .ref 0)]) (stk' := [.int 6, .int (3 + 1)]) (mem' := fm (upd g 23 (nI (K + 1))) tp bt (fm_u (fm_u (fm_u (fm_u a 1 (3846 + (6 * n)) 12) 1 ((3846 + (6 * n)) + 1) 0) 1 ((3846 + (6 * n)) + 2) 0) 1 ((3846 + (6 * n)) + 3) 0) b) (by intro _ _ _; eq_refl) ?_
    rw [show (3 + 1 : Int32) = 4 from rfl]
    refine fe_s 1 (pc' := cond (fx_cb .ge 4 6) 182 166) (lc' := [(5, .int 4), (4, .int 0), (3, .int (nI (3846 + (6 * n)))), (2, .int (nI n)), (1, .int 12), (0, .ref 0)]) (stk' := []) (mem' := fm (upd g 23 (nI (K + 1))) tp bt (fm_u (fm_u (fm_u (fm_u a 1 (3846 + (6 * n)) 12) 1 ((3846 + (6 * n)) + 1) 0) 1 ((3846 + (6 * n)) + 2) 0) 1 ((3846 + (6 * n)) + 3) 0) b) (by intro _ _ _; eq_refl) ?_
    rw [show (fx_cb .ge 4 6) = false from by decide]
    dsimp only [cond]
    refine fe_s 6 (pc' := 175) (lc' := [(5, .int 4), (4, .int 0), (3, .int (nI (3846 + (6 * n)))), (2, .int (nI n)), (1, .int 12), (0, .ref 0)]) (stk' := [.int 0, .int ((nI (3846 + (6 * n))) + 4), .ref 1]) (mem' := fm (upd g 23 (nI (K + 1))) tp bt (fm_u (fm_u (fm_u (fm_u a 1 (3846 + (6 * n)) 12) 1 ((3846 + (6 * n)) + 1) 0) 1 ((3846 + (6 * n)) + 2) 0) 1 ((3846 + (6 * n)) + 3) 0) b) (by intro _ _ _; eq_refl) ?_
    rw [show ((nI (3846 + (6 * n))) + 4 : Int32) = nI ((3846 + (6 * n)) + 4) from by simp only [show (4 : Int32) = nI 4 from rfl, nI_add, fm_mul]]
    refine fe_stI (mem' := fm (upd g 23 (nI (K + 1))) tp bt (fm_u (fm_u (fm_u (fm_u (fm_u a 1 (3846 + (6 * n)) 12) 1 ((3846 + (6 * n)) + 1) 0) 1 ((3846 + (6 * n)) + 2) 0) 1 ((3846 + (6 * n)) + 3) 0) 1 (nI ((3846 + (6 * n)) + 4) : Int32).toNatClampNeg 0) b) (by rfl) (by rfl) (fx_inN (i := (3846 + (6 * n)) + 4) (by omega) (by omega)) fm_si1 ?_
    rw [show Int32.toNatClampNeg (nI ((3846 + (6 * n)) + 4)) = (3846 + (6 * n)) + 4 from nI_clamp (by omega)]
    refine fe_s 4 (pc' := 163) (lc' := [(5, .int (4 + 1)), (4, .int 0), (3, .int (nI (3846 + (6 * n)))), (2, .int (nI n)), (1, .int 12), (0, .ref 0)]) (stk' := [.int 6, .int (4 + 1)]) (mem' := fm (upd g 23 (nI (K + 1))) tp bt (fm_u (fm_u (fm_u (fm_u (fm_u a 1 (3846 + (6 * n)) 12) 1 ((3846 + (6 * n)) + 1) 0) 1 ((3846 + (6 * n)) + 2) 0) 1 ((3846 + (6 * n)) + 3) 0) 1 ((3846 + (6 * n)) + 4) 0) b) (by intro _ _ _; eq_refl) ?_
    rw [show (4 + 1 : Int32) = 5 from rfl]
    refine fe_s 1 (pc' := cond (fx_cb .ge 5 6) 182 166) (lc' := [(5, .int 5), (4, .int 0), (3, .int (nI (3846 + (6 * n)))), (2, .int (nI n)), (1, .int 12), (0, .ref 0)]) (stk' := []) (mem' := fm (upd g 23 (nI (K + 1))) tp bt (fm_u (fm_u (fm_u (fm_u (fm_u a 1 (3846 + (6 * n)) 12) 1 ((3846 + (6 * n)) + 1) 0) 1 ((3846 + (6 * n)) + 2) 0) 1 ((3846 + (6 * n)) + 3) 0) 1 ((3846 + (6 * n)) + 4) 0) b) (by intro _ _ _; eq_refl) ?_
    rw [show (fx_cb .ge 5 6) = false from by decide]
    dsimp only [cond]
    refine fe_s 6 (pc' := 175) (lc' := [(5, .int 5), (4, .int 0), (3, .int (nI (3846 + (6 * n)))), (2, .int (nI n)), (1, .int 12), (0, .ref 0)]) (stk' := [.int 0, .int ((nI (3846 + (6 * n))) + 5), .ref 1]) (mem' := fm (upd g 23 (nI (K + 1))) tp bt (fm_u (fm_u (fm_u (fm_u (fm_u a 1 (3846 + (6 * n)) 12) 1 ((3846 + (6 * n)) + 1) 0) 1 ((3846 + (6 * n)) + 2) 0) 1 ((3846 + (6 * n)) + 3) 0) 1 ((3846 + (6 * n)) + 4) 0) b) (by intro _ _ _; eq_refl) ?_
    rw [show ((nI (3846 + (6 * n))) + 5 : Int32) = nI ((3846 + (6 * n)) + 5) from by simp only [show (5 : Int32) = nI 5 from rfl, nI_add, fm_mul]]
    refine fe_stI (mem' := fm (upd g 23 (nI (K + 1))) tp bt (fm_u (fm_u (fm_u (fm_u (fm_u (fm_u a 1 (3846 + (6 * n)) 12) 1 ((3846 + (6 * n)) + 1) 0) 1 ((3846 + (6 * n)) + 2) 0) 1 ((3846 + (6 * n)) + 3) 0) 1 ((3846 + (6 * n)) + 4) 0) 1 (nI ((3846 + (6 * n)) + 5) : Int32).toNatClampNeg 0) b) (by rfl) (by rfl) (fx_inN (i := (3846 + (6 * n)) + 5) (by omega) (by omega)) fm_si1 ?_
    rw [show Int32.toNatClampNeg (nI ((3846 + (6 * n)) + 5)) = (3846 + (6 * n)) + 5 from nI_clamp (by omega)]
    refine fe_s 4 (pc' := 163) (lc' := [(5, .int (5 + 1)), (4, .int 0), (3, .int (nI (3846 + (6 * n)))), (2, .int (nI n)), (1, .int 12), (0, .ref 0)]) (stk' := [.int 6, .int (5 + 1)]) (mem' := fm (upd g 23 (nI (K + 1))) tp bt (fm_u (fm_u (fm_u (fm_u (fm_u (fm_u a 1 (3846 + (6 * n)) 12) 1 ((3846 + (6 * n)) + 1) 0) 1 ((3846 + (6 * n)) + 2) 0) 1 ((3846 + (6 * n)) + 3) 0) 1 ((3846 + (6 * n)) + 4) 0) 1 ((3846 + (6 * n)) + 5) 0) b) (by intro _ _ _; eq_refl) ?_
    rw [show (5 + 1 : Int32) = 6 from rfl]
    refine fe_s 1 (pc' := cond (fx_cb .ge 6 6) 182 166) (lc' := [(5, .int 6), (4, .int 0), (3, .int (nI (3846 + (6 * n)))), (2, .int (nI n)), (1, .int 12), (0, .ref 0)]) (stk' := []) (mem' := fm (upd g 23 (nI (K + 1))) tp bt (fm_u (fm_u (fm_u (fm_u (fm_u (fm_u a 1 (3846 + (6 * n)) 12) 1 ((3846 + (6 * n)) + 1) 0) 1 ((3846 + (6 * n)) + 2) 0) 1 ((3846 + (6 * n)) + 3) 0) 1 ((3846 + (6 * n)) + 4) 0) 1 ((3846 + (6 * n)) + 5) 0) b) (by intro _ _ _; eq_refl) ?_
    rw [show (fx_cb .ge 6 6) = true from by decide]
    dsimp only [cond]
    refine fe_s 4 (pc' := 190) (lc' := [(5, .int 6), (4, .int 0), (3, .int (nI (3846 + (6 * n)))), (2, .int (nI n)), (1, .int 12), (0, .ref 0)]) (stk' := [.int 3374, .ref 1, .int 3374, .ref 1]) (mem' := fm (upd g 23 (nI (K + 1))) tp bt (fm_u (fm_u (fm_u (fm_u (fm_u (fm_u a 1 (3846 + (6 * n)) 12) 1 ((3846 + (6 * n)) + 1) 0) 1 ((3846 + (6 * n)) + 2) 0) 1 ((3846 + (6 * n)) + 3) 0) 1 ((3846 + (6 * n)) + 4) 0) 1 ((3846 + (6 * n)) + 5) 0) b) (by intro _ _ _; eq_refl) ?_
    refine fe_ldI (by rfl) (by rfl) (fx_inN (i := 3374) (by omega) (by omega)) ?_
    rw [show Int32.toNatClampNeg (3374) = 3374 from rfl]
    rw [show (fm_u (fm_u (fm_u (fm_u (fm_u (fm_u a 1 (3846 + (6 * n)) 12) 1 ((3846 + (6 * n)) + 1) 0) 1 ((3846 + (6 * n)) + 2) 0) 1 ((3846 + (6 * n)) + 3) 0) 1 ((3846 + (6 * n)) + 4) 0) 1 ((3846 + (6 * n)) + 5) 0) 1 3374 = nI n from by rw [fm_u1, if_neg (by omega), fm_u1, if_neg (by omega), fm_u1, if_neg (by omega), fm_u1, if_neg (by omega), fm_u1, if_neg (by omega), fm_u1, if_neg (by omega)]; exact hT.2.2.2.2.1]
    refine fe_s 2 (pc' := 193) (lc' := [(5, .int 6), (4, .int 0), (3, .int (nI (3846 + (6 * n)))), (2, .int (nI n)), (1, .int 12), (0, .ref 0)]) (stk' := [.int ((nI n) + 1), .int 3374, .ref 1]) (mem' := fm (upd g 23 (nI (K + 1))) tp bt (fm_u (fm_u (fm_u (fm_u (fm_u (fm_u a 1 (3846 + (6 * n)) 12) 1 ((3846 + (6 * n)) + 1) 0) 1 ((3846 + (6 * n)) + 2) 0) 1 ((3846 + (6 * n)) + 3) 0) 1 ((3846 + (6 * n)) + 4) 0) 1 ((3846 + (6 * n)) + 5) 0) b) (by intro _ _ _; eq_refl) ?_
    rw [show ((nI n) + 1 : Int32) = nI (n + 1) from by simp only [show (1 : Int32) = nI 1 from rfl, nI_add, fm_mul]]
    refine fe_stI (mem' := fm (upd g 23 (nI (K + 1))) tp bt (fm_u (fm_u (fm_u (fm_u (fm_u (fm_u (fm_u a 1 (3846 + (6 * n)) 12) 1 ((3846 + (6 * n)) + 1) 0) 1 ((3846 + (6 * n)) + 2) 0) 1 ((3846 + (6 * n)) + 3) 0) 1 ((3846 + (6 * n)) + 4) 0) 1 ((3846 + (6 * n)) + 5) 0) 1 (3374 : Int32).toNatClampNeg (nI (n + 1))) b) (by rfl) (by rfl) (fx_inN (i := 3374) (by omega) (by omega)) fm_si1 ?_
    rw [show Int32.toNatClampNeg (3374) = 3374 from rfl]
    obtain ⟨at9, hat9⟩ : ∃ z, z = fm_row a n (3846 + 6 * n) 12 := ⟨_, rfl⟩
    rw [show (fm_u (fm_u (fm_u (fm_u (fm_u (fm_u (fm_u a 1 (3846 + (6 * n)) 12) 1 ((3846 + (6 * n)) + 1) 0) 1 ((3846 + (6 * n)) + 2) 0) 1 ((3846 + (6 * n)) + 3) 0) 1 ((3846 + (6 * n)) + 4) 0) 1 ((3846 + (6 * n)) + 5) 0) 1 (3374) (nI (n + 1))) = at9 from hat9.symm]
    have hCt9 : fm_TC a0 at9 n 12 0 := by rw [hat9]; exact fm_TC_new hT hR hn60 (by decide) (by decide)
    have h8t9 : at9 8 = a 8 := (congrFun hat9 8).trans (fm_row_t (by decide))
    refine fe_s 1 (pc' := 195) (lc' := [(5, .int 6), (4, .int 0), (3, .int (nI (3846 + (6 * n)))), (2, .int (nI n)), (1, .int 12), (0, .ref 0)]) (stk' := [.ref 0]) (mem' := fm (upd g 23 (nI (K + 1))) tp bt at9 b) (by intro _ _ _; eq_refl) ?_
    obtain ⟨gk10, Ek10, Fk10, hfrk10, hok10, hek10, hpk10⟩ := fr_aheadq (g := (upd g 23 (nI (K + 1)))) (tp := tp) (bt := bt) (a := at9) (b := b) (fm_gy_up (fm_gy_rf hxp hfl) (by decide)).2.1 (fm_gy_up (fm_gy_rf hxp hfl) (by decide)).2.2.1
    have gok10 := fm_gy_tr (fm_gy_up (fm_gy_rf hxp hfl) (by decide)) hok10
    have e18k10 : gk10 18 = g 18 := hek10.trans ((pk_un (by decide)).trans rfl)
    have prk10 : gk10 12 = 0 ∨ E < Ek10 := hpk10.imp id (fun z => by have := (fm_gy_rf hxp hfl).2.2.2; omega)
    have d22k10 : gk10 22 = nI D := by rw [hok10.1 22 (by decide) (by decide) (by decide) (by decide) (by decide) (by decide)]; first | exact eD | rfl
    have d23k10 : gk10 23 = nI (K + 1) := by rw [hok10.1 23 (by decide) (by decide) (by decide) (by decide) (by decide) (by decide)]; first | exact rfl | rfl
    refine fe_ivV hfrk10 (by omega) (by rfl) (by rfl) (by rfl) (by rfl) (by rfl) (by rfl) ?_
    refine fe_s 3 (pc' := 201) (lc' := [(5, .int 6), (4, .int 0), (3, .int (nI (3846 + (6 * n)))), (2, .int (nI n)), (1, .int 12), (0, .ref 0)]) (stk' := [.int (nI (3846 + (6 * n))), .int 12, .ref 0]) (mem' := fm gk10 tp bt at9 b) (by intro _ _ _; eq_refl) ?_
    obtain ⟨vp11, memp11, ⟨xp11, gp11, Ep11, Fp11, ap11, Xp11, Yp11, hop11, hCp11, h8p11, hvp11, hRp11⟩, hfrp11⟩ := fr_taleOrder12 (g := gk10) (tp := tp) (bt := bt) (a := at9) (b := b) (a0 := a0) gok10.2.1 gok10.2.2.1 hH hCt9
    cases hRp11
    have h9p11 : ap11 8 = a 8 := h8p11.trans h8t9
    have gop11 := fm_gy_tr gok10 hop11
    have d22p11 : gp11 22 = nI D := by rw [hop11.1 22 (by decide) (by decide) (by decide) (by decide) (by decide) (by decide)]; first | exact d22k10 | rfl
    have d23p11 : gp11 23 = nI (K + 1) := by rw [hop11.1 23 (by decide) (by decide) (by decide) (by decide) (by decide) (by decide)]; first | exact d23k10 | rfl
    refine fe_ivV hfrp11 (by omega) (by rfl) (by rfl) (by rfl) (by rfl) (by rfl) (by rfl) ?_
    rcases hvp11 with ⟨rfl, hzp11⟩ | ⟨rfl, hep11, hrop11⟩
    · refine fe_s 1 (pc' := cond (fx_cb .ne 0 0) 209 207) (lc' := [(5, .int 6), (4, .int 0), (3, .int (nI (3846 + (6 * n)))), (2, .int (nI n)), (1, .int 12), (0, .ref 0)]) (stk' := []) (mem' := fm gp11 tp bt ap11 b) (by intro _ _ _; eq_refl) ?_
      rw [show (fx_cb .ne 0 0) = false from by decide]
      dsimp only [cond]
      refine fe_s 1 (pc' := 208) (lc' := [(5, .int 6), (4, .int 0), (3, .int (nI (3846 + (6 * n)))), (2, .int (nI n)), (1, .int 12), (0, .ref 0)]) (stk' := [.int 0]) (mem' := fm gp11 tp bt ap11 b) (by intro _ _ _; eq_refl) ?_
      exact fe_ret ⟨_, _, _, _, _, n + 1, D, (K + 1), gop11, fm_TS_of hCp11 ⟨d22p11, by omega, d23p11, by omega, by omega⟩ (fun d hd => by rw [h9p11]; obtain ⟨q, q1, q2⟩ := h8 d (by omega); exact ⟨q, by omega, q2⟩) (fun d hd => by rw [h9p11]; exact h9 d hd), Or.inl ⟨rfl, hzp11⟩, rfl⟩ (by rfl) (by rfl) (by rfl)
    · have e18p11 : gp11 18 = g 18 := hep11.trans e18k10
      refine fe_s 1 (pc' := cond (fx_cb .ne 1 0) 209 207) (lc' := [(5, .int 6), (4, .int 0), (3, .int (nI (3846 + (6 * n)))), (2, .int (nI n)), (1, .int 12), (0, .ref 0)]) (stk' := []) (mem' := fm gp11 tp bt ap11 b) (by intro _ _ _; eq_refl) ?_
      rw [show (fx_cb .ne 1 0) = true from by decide]
      dsimp only [cond]
      refine fe_s 1 (pc' := 211) (lc' := [(5, .int 6), (4, .int 0), (3, .int (nI (3846 + (6 * n)))), (2, .int (nI n)), (1, .int 12), (0, .ref 0)]) (stk' := [.int 0]) (mem' := fm gp11 tp bt ap11 b) (by intro _ _ _; eq_refl) ?_
      refine fe_s 1 (pc' := cond (fx_cb .eq 0 0) 234 214) (lc' := [(5, .int 6), (4, .int 0), (3, .int (nI (3846 + (6 * n)))), (2, .int (nI n)), (1, .int 12), (0, .ref 0)]) (stk' := []) (mem' := fm gp11 tp bt ap11 b) (by intro _ _ _; eq_refl) ?_
      rw [show (fx_cb .eq 0 0) = true from by decide]
      dsimp only [cond]
      refine fe_s 2 (pc' := 237) (lc' := [(5, .int 6), (4, .int 0), (3, .int (nI (3846 + (6 * n)))), (2, .int (nI n)), (1, .int 12), (0, .ref 0)]) (stk' := [.int 20, .int 12]) (mem' := fm gp11 tp bt ap11 b) (by intro _ _ _; eq_refl) ?_
      refine fe_s 1 (pc' := cond (fx_cb .ne 12 20) 291 240) (lc' := [(5, .int 6), (4, .int 0), (3, .int (nI (3846 + (6 * n)))), (2, .int (nI n)), (1, .int 12), (0, .ref 0)]) (stk' := []) (mem' := fm gp11 tp bt ap11 b) (by intro _ _ _; eq_refl) ?_
      rw [show (fx_cb .ne 12 20) = true from by decide]
      dsimp only [cond]
      refine fe_s 2 (pc' := 294) (lc' := [(5, .int 6), (4, .int 0), (3, .int (nI (3846 + (6 * n)))), (2, .int (nI n)), (1, .int 12), (0, .ref 0)]) (stk' := [.int 59, .ref 0]) (mem' := fm gp11 tp bt ap11 b) (by intro _ _ _; eq_refl) ?_
      obtain ⟨xc12, gc12, Ec12, Fc12, hfrc12, hoc12, hvc12⟩ := fr_wantSignq (c := 59) (g := gp11) (tp := tp) (bt := bt) (a := ap11) (b := b) gop11.2.1 gop11.2.2.1
      have goc12 := fm_gy_tr gop11 hoc12
      have d22c12 : gc12 22 = nI D := by rw [hoc12.1 22 (by decide) (by decide) (by decide) (by decide) (by decide) (by decide)]; first | exact d22p11 | rfl
      have d23c12 : gc12 23 = nI (K + 1) := by rw [hoc12.1 23 (by decide) (by decide) (by decide) (by decide) (by decide) (by decide)]; first | exact d23p11 | rfl
      refine fe_ivV hfrc12 (by omega) (by rfl) (by rfl) (by rfl) (by rfl) (by rfl) (by rfl) ?_
      rcases hvc12 with ⟨rfl, hzc12⟩ | ⟨rfl, hec12, hpc12⟩
      · exact fe_ret ⟨_, _, _, _, _, n + 1, D, (K + 1), goc12, fm_TS_of hCp11 ⟨d22c12, by omega, d23c12, by omega, by omega⟩ (fun d hd => by rw [h9p11]; obtain ⟨q, q1, q2⟩ := h8 d (by omega); exact ⟨q, by omega, q2⟩) (fun d hd => by rw [h9p11]; exact h9 d hd), Or.inl ⟨rfl, hzc12⟩, rfl⟩ (by rfl) (by rfl) (by rfl)
      · have e18c12 : gc12 18 = g 18 := hec12.trans e18p11
        have prc12 : gc12 12 = 0 ∨ E < Ec12 := hpc12.imp id (fun z => by have := gop11.2.2.2; omega)
        exact fe_ret ⟨_, _, _, _, _, n + 1, D, (K + 1), goc12, fm_TS_of hCp11 ⟨d22c12, by omega, d23c12, by omega, by omega⟩ (fun d hd => by rw [h9p11]; obtain ⟨q, q1, q2⟩ := h8 d (by omega); exact ⟨q, by omega, q2⟩) (fun d hd => by rw [h9p11]; exact h9 d hd), Or.inr ⟨rfl, e18c12, prc12, fm_TR_of hCp11 hrop11⟩, rfl⟩ (by rfl) (by rfl) (by rfl)
end F4871_step
end MH3_3
