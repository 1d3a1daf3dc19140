/-! ===== fx: an order of the TALES ===== -/
section F486_test
variable {g : Nat → Int32} {tp bt : Int64} {a0 a : Nat → Nat → Int32} {b : Nat → Nat → Int64}
def fm_FWT (g : Nat → Int32) (tp bt : Int64) (a : Nat → Nat → Int32) (b : Nat → Nat → Int64) (S E T M : Nat) (R : Option Value × fx_M) : Prop := ∃ (v : Int32) (g' : Nat → Int32) (E' F' : Nat) (a' : Nat → Nat → Int32), fm_go g g' S E E' F' ∧ (v = 0 ∧ ¬ g' 18 = 0 ∧ (a' = a ∨ a' = fm_u a 1 T (-1)) ∨ v = 1 ∧ g' 18 = g 18 ∧ (g' 12 = 0 ∨ E < E') ∧ ∃ k, k < M ∧ a' = fm_u a 1 T (nI k)) ∧ R = (some (.int v), fm g' tp bt a' b)
theorem fr_walkerTo {S E F T M : Nat} (hxp : fm_xp g S E F) (hfl : fm_flt g) (hT : T < 5894) (hM : a 1 1 = nI M) (hM9 : M ≤ 8) : ∃ (v : Option Value) (mem' : fx_M), (fm_FWT g tp bt a b S E T M) (v, mem') ∧ fr_T 7 248 [.ref 0, .int (nI T)] (fm g tp bt a b) v mem' := by
  refine fe_meth (F := fm_FWT g tp bt a b S E T M) (M := gk_m248) (by rfl) (by rfl) ?_
  refine fe_s 5 (pc' := 8) (lc' := [(0, .ref 0), (1, .int (nI T))]) (stk' := [.int 1, .ref 1, .int 10, .ref 0]) (mem' := fm g tp bt a b) (fun _ _ _ => rfl) ?_
  refine fe_ldI (by rfl) (by rfl) (fx_inN (i := 1) (by omega) (by omega)) ?_
  rw [show Int32.toNatClampNeg (1) = 1 from rfl]
  rw [hM]
  refine fe_s 1 (pc' := 10) (lc' := [(0, .ref 0), (1, .int (nI T))]) (stk' := [.int (nI T), .int (nI M), .int 10, .ref 0]) (mem' := fm g tp bt a b) (fun _ _ _ => rfl) ?_
  obtain ⟨xo1, go1, Eo1, Fo1, ao1, hfro1, hoo1, hvo1⟩ := fr_oldOneq (T := T) (base := 10) (many := M) (g := g) (tp := tp) (bt := bt) (a := a) (b := b) (by omega) (by omega) hxp hfl
  refine fe_ivV hfro1 (by omega) (by rfl) (by rfl) (by rfl) (by rfl) (by rfl) (by rfl) ?_
  rcases hvo1 with ⟨rfl, hzo1, hao1⟩ | ⟨rfl, heo1, hpo1, hso1, ko1, hko1, hio1, hao1⟩
  · exact fe_ret ⟨_, _, _, _, _, hoo1, Or.inl ⟨rfl, hzo1, hao1.imp id (fun z => by obtain ⟨y, hy, e⟩ := z; rw [e, hy])⟩, rfl⟩ (by rfl) (by rfl) (by rfl)
  · exact fe_ret ⟨_, _, _, _, _, hoo1, Or.inr ⟨rfl, heo1, hpo1, ko1, hko1, hao1⟩, rfl⟩ (by rfl) (by rfl) (by rfl)
theorem fr_cellTo {S E F T M : Nat} (hxp : fm_xp g S E F) (hfl : fm_flt g) (hT : T < 5894) (hM : a 1 0 = nI M) (hM9 : M ≤ 10) : ∃ (v : Option Value) (mem' : fx_M), (fm_FWT g tp bt a b S E T M) (v, mem') ∧ fr_T 7 247 [.ref 0, .int (nI T)] (fm g tp bt a b) v mem' := by
  refine fe_meth (F := fm_FWT g tp bt a b S E T M) (M := gk_m247) (by rfl) (by rfl) ?_
  refine fe_s 5 (pc' := 7) (lc' := [(0, .ref 0), (1, .int (nI T))]) (stk' := [.int 0, .ref 1, .int 0, .ref 0]) (mem' := fm g tp bt a b) (fun _ _ _ => rfl) ?_
  refine fe_ldI (by rfl) (by rfl) (fx_inN (i := 0) (by omega) (by omega)) ?_
  rw [show Int32.toNatClampNeg (0) = 0 from rfl]
  rw [hM]
  refine fe_s 1 (pc' := 9) (lc' := [(0, .ref 0), (1, .int (nI T))]) (stk' := [.int (nI T), .int (nI M), .int 0, .ref 0]) (mem' := fm g tp bt a b) (fun _ _ _ => rfl) ?_
  obtain ⟨xo1, go1, Eo1, Fo1, ao1, hfro1, hoo1, hvo1⟩ := fr_oldOneq (T := T) (base := 0) (many := M) (g := g) (tp := tp) (bt := bt) (a := a) (b := b) (by omega) (by omega) hxp hfl
  refine fe_ivV hfro1 (by omega) (by rfl) (by rfl) (by rfl) (by rfl) (by rfl) (by rfl) ?_
  rcases hvo1 with ⟨rfl, hzo1, hao1⟩ | ⟨rfl, heo1, hpo1, hso1, ko1, hko1, hio1, hao1⟩
  · exact fe_ret ⟨_, _, _, _, _, hoo1, Or.inl ⟨rfl, hzo1, hao1.imp id (fun z => by obtain ⟨y, hy, e⟩ := z; rw [e, hy])⟩, rfl⟩ (by rfl) (by rfl) (by rfl)
  · exact fe_ret ⟨_, _, _, _, _, hoo1, Or.inr ⟨rfl, heo1, hpo1, ko1, hko1, hao1⟩, rfl⟩ (by rfl) (by rfl) (by rfl)
set_option maxHeartbeats 8000000 in
theorem fr_test {S E F C W n : Nat} (hxp : fm_xp g S E F) (hfl : fm_flt g) (hH : fm_th a0 C W) (hC : fm_TC a0 a n 18 0) : ∃ (v : Option Value) (mem' : fx_M), (fm_FTO a0 a g tp bt b S E n) (v, mem') ∧ fr_T 9 249 [.ref 0, .int (nI (3846 + (6 * n)))] (fm g tp bt a b) v mem' := by
  have f1 : ∀ {a' : Nat → Nat → Int32} {x y : Int32}, fm_TC a0 a' n x y → a' 1 1 = a0 1 1 := fun z => z.2.1 1 (by omega)
  have f0 : ∀ {a' : Nat → Nat → Int32} {x y : Int32}, fm_TC a0 a' n x y → a' 1 0 = a0 1 0 := fun z => z.2.1 0 (by omega)
  have hn60 := hC.2.2.2.2.2.2.2.1
  refine fe_meth (F := fm_FTO a0 a g tp bt b S E n) (M := gk_m249) (by rfl) (by rfl) ?_
  refine fe_s 2 (pc' := 3) (lc' := [(0, .ref 0), (1, .int (nI (3846 + (6 * n))))]) (stk' := [.ref 22, .ref 0]) (mem' := fm g tp bt a b) (fun _ _ _ => rfl) ?_
  obtain ⟨vw1, memw1, ⟨xw1, hxw1, hRw1⟩, hfrw1⟩ := fr_inWords (g := g) (tp := tp) (bt := bt) (a := a) (b := b) (fm_go_rf hxp hfl).2.1
  cases hRw1
  refine fe_ivV hfrw1 (by omega) (by rfl) (by rfl) (by rfl) (by rfl) (by rfl) (by rfl) ?_
  rcases fm_24 hxw1 with rfl | rfl | rfl | rfl | rfl | rfl | rfl | rfl | rfl | rfl | rfl | rfl | rfl | rfl | rfl | rfl | rfl | rfl | rfl | rfl | rfl | rfl | rfl | rfl | rfl
  · refine fe_s 3 (pc' := 10) (lc' := [(2, .int (-1)), (0, .ref 0), (1, .int (nI (3846 + (6 * n))))]) (stk' := [.int 8, .int (-1)]) (mem' := fm g tp bt a b) (fun _ _ _ => rfl) ?_
    refine fe_s 1 (pc' := cond (fx_cb .eq (-1) 8) 31 13) (lc' := [(2, .int (-1)), (0, .ref 0), (1, .int (nI (3846 + (6 * n))))]) (stk' := []) (mem' := fm g tp bt a b) (fun _ _ _ => rfl) ?_
    rw [show (fx_cb .eq (-1) 8) = false from by decide]
    dsimp only [cond]
    refine fe_s 2 (pc' := 16) (lc' := [(2, .int (-1)), (0, .ref 0), (1, .int (nI (3846 + (6 * n))))]) (stk' := [.int 10, .int (-1)]) (mem' := fm g tp bt a b) (fun _ _ _ => rfl) ?_
    refine fe_s 1 (pc' := cond (fx_cb .eq (-1) 10) 31 19) (lc' := [(2, .int (-1)), (0, .ref 0), (1, .int (nI (3846 + (6 * n))))]) (stk' := []) (mem' := fm g tp bt a b) (fun _ _ _ => rfl) ?_
    rw [show (fx_cb .eq (-1) 10) = false from by decide]
    dsimp only [cond]
    refine fe_s 2 (pc' := 22) (lc' := [(2, .int (-1)), (0, .ref 0), (1, .int (nI (3846 + (6 * n))))]) (stk' := [.int 22, .int (-1)]) (mem' := fm g tp bt a b) (fun _ _ _ => rfl) ?_
    refine fe_s 1 (pc' := cond (fx_cb .eq (-1) 22) 31 25) (lc' := [(2, .int (-1)), (0, .ref 0), (1, .int (nI (3846 + (6 * n))))]) (stk' := []) (mem' := fm g tp bt a b) (fun _ _ _ => rfl) ?_
    rw [show (fx_cb .eq (-1) 22) = false from by decide]
    dsimp only [cond]
    refine fe_s 2 (pc' := 27) (lc' := [(2, .int (-1)), (0, .ref 0), (1, .int (nI (3846 + (6 * n))))]) (stk' := [.int 2, .ref 0]) (mem' := fm g tp bt a b) (fun _ _ _ => rfl) ?_
    obtain ⟨gf2, hfrf2, hof2, hzf2⟩ := fr_failsq (x := 2) (g := g) (tp := tp) (bt := bt) (a := a) (b := b) (by omega) (by omega) (fm_go_rf hxp hfl).2.1 (fm_go_rf hxp hfl).2.2.1
    have gof2 := fm_go_tr (fm_go_rf hxp hfl) hof2
    refine fe_ivV hfrf2 (by omega) (by rfl) (by rfl) (by rfl) (by rfl) (by rfl) (by rfl) ?_
    exact fe_ret ⟨_, _, _, _, _, _, _, gof2, hC, rfl, Or.inl ⟨rfl, hzf2⟩, rfl⟩ (by rfl) (by rfl) (by rfl)
  · refine fe_s 3 (pc' := 10) (lc' := [(2, .int 0), (0, .ref 0), (1, .int (nI (3846 + (6 * n))))]) (stk' := [.int 8, .int 0]) (mem' := fm g tp bt a b) (fun _ _ _ => rfl) ?_
    refine fe_s 1 (pc' := cond (fx_cb .eq 0 8) 31 13) (lc' := [(2, .int 0), (0, .ref 0), (1, .int (nI (3846 + (6 * n))))]) (stk' := []) (mem' := fm g tp bt a b) (fun _ _ _ => rfl) ?_
    rw [show (fx_cb .eq 0 8) = false from by decide]
    dsimp only [cond]
    refine fe_s 2 (pc' := 16) (lc' := [(2, .int 0), (0, .ref 0), (1, .int (nI (3846 + (6 * n))))]) (stk' := [.int 10, .int 0]) (mem' := fm g tp bt a b) (fun _ _ _ => rfl) ?_
    refine fe_s 1 (pc' := cond (fx_cb .eq 0 10) 31 19) (lc' := [(2, .int 0), (0, .ref 0), (1, .int (nI (3846 + (6 * n))))]) (stk' := []) (mem' := fm g tp bt a b) (fun _ _ _ => rfl) ?_
    rw [show (fx_cb .eq 0 10) = false from by decide]
    dsimp only [cond]
    refine fe_s 2 (pc' := 22) (lc' := [(2, .int 0), (0, .ref 0), (1, .int (nI (3846 + (6 * n))))]) (stk' := [.int 22, .int 0]) (mem' := fm g tp bt a b) (fun _ _ _ => rfl) ?_
    refine fe_s 1 (pc' := cond (fx_cb .eq 0 22) 31 25) (lc' := [(2, .int 0), (0, .ref 0), (1, .int (nI (3846 + (6 * n))))]) (stk' := []) (mem' := fm g tp bt a b) (fun _ _ _ => rfl) ?_
    rw [show (fx_cb .eq 0 22) = false from by decide]
    dsimp only [cond]
    refine fe_s 2 (pc' := 27) (lc' := [(2, .int 0), (0, .ref 0), (1, .int (nI (3846 + (6 * n))))]) (stk' := [.int 2, .ref 0]) (mem' := fm g tp bt a b) (fun _ _ _ => rfl) ?_
    obtain ⟨gf3, hfrf3, hof3, hzf3⟩ := fr_failsq (x := 2) (g := g) (tp := tp) (bt := bt) (a := a) (b := b) (by omega) (by omega) (fm_go_rf hxp hfl).2.1 (fm_go_rf hxp hfl).2.2.1
    have gof3 := fm_go_tr (fm_go_rf hxp hfl) hof3
    refine fe_ivV hfrf3 (by omega) (by rfl) (by rfl) (by rfl) (by rfl) (by rfl) (by rfl) ?_
    exact fe_ret ⟨_, _, _, _, _, _, _, gof3, hC, rfl, Or.inl ⟨rfl, hzf3⟩, rfl⟩ (by rfl) (by rfl) (by rfl)
  · refine fe_s 3 (pc' := 10) (lc' := [(2, .int 1), (0, .ref 0), (1, .int (nI (3846 + (6 * n))))]) (stk' := [.int 8, .int 1]) (mem' := fm g tp bt a b) (fun _ _ _ => rfl) ?_
    refine fe_s 1 (pc' := cond (fx_cb .eq 1 8) 31 13) (lc' := [(2, .int 1), (0, .ref 0), (1, .int (nI (3846 + (6 * n))))]) (stk' := []) (mem' := fm g tp bt a b) (fun _ _ _ => rfl) ?_
    rw [show (fx_cb .eq 1 8) = false from by decide]
    dsimp only [cond]
    refine fe_s 2 (pc' := 16) (lc' := [(2, .int 1), (0, .ref 0), (1, .int (nI (3846 + (6 * n))))]) (stk' := [.int 10, .int 1]) (mem' := fm g tp bt a b) (fun _ _ _ => rfl) ?_
    refine fe_s 1 (pc' := cond (fx_cb .eq 1 10) 31 19) (lc' := [(2, .int 1), (0, .ref 0), (1, .int (nI (3846 + (6 * n))))]) (stk' := []) (mem' := fm g tp bt a b) (fun _ _ _ => rfl) ?_
    rw [show (fx_cb .eq 1 10) = false from by decide]
    dsimp only [cond]
    refine fe_s 2 (pc' := 22) (lc' := [(2, .int 1), (0, .ref 0), (1, .int (nI (3846 + (6 * n))))]) (stk' := [.int 22, .int 1]) (mem' := fm g tp bt a b) (fun _ _ _ => rfl) ?_
    refine fe_s 1 (pc' := cond (fx_cb .eq 1 22) 31 25) (lc' := [(2, .int 1), (0, .ref 0), (1, .int (nI (3846 + (6 * n))))]) (stk' := []) (mem' := fm g tp bt a b) (fun _ _ _ => rfl) ?_
    rw [show (fx_cb .eq 1 22) = false from by decide]
    dsimp only [cond]
    refine fe_s 2 (pc' := 27) (lc' := [(2, .int 1), (0, .ref 0), (1, .int (nI (3846 + (6 * n))))]) (stk' := [.int 2, .ref 0]) (mem' := fm g tp bt a b) (fun _ _ _ => rfl) ?_
    obtain ⟨gf4, hfrf4, hof4, hzf4⟩ := fr_failsq (x := 2) (g := g) (tp := tp) (bt := bt) (a := a) (b := b) (by omega) (by omega) (fm_go_rf hxp hfl).2.1 (fm_go_rf hxp hfl).2.2.1
    have gof4 := fm_go_tr (fm_go_rf hxp hfl) hof4
    refine fe_ivV hfrf4 (by omega) (by rfl) (by rfl) (by rfl) (by rfl) (by rfl) (by rfl) ?_
    exact fe_ret ⟨_, _, _, _, _, _, _, gof4, hC, rfl, Or.inl ⟨rfl, hzf4⟩, rfl⟩ (by rfl) (by rfl) (by rfl)
  · refine fe_s 3 (pc' := 10) (lc' := [(2, .int 2), (0, .ref 0), (1, .int (nI (3846 + (6 * n))))]) (stk' := [.int 8, .int 2]) (mem' := fm g tp bt a b) (fun _ _ _ => rfl) ?_
    refine fe_s 1 (pc' := cond (fx_cb .eq 2 8) 31 13) (lc' := [(2, .int 2), (0, .ref 0), (1, .int (nI (3846 + (6 * n))))]) (stk' := []) (mem' := fm g tp bt a b) (fun _ _ _ => rfl) ?_
    rw [show (fx_cb .eq 2 8) = false from by decide]
    dsimp only [cond]
    refine fe_s 2 (pc' := 16) (lc' := [(2, .int 2), (0, .ref 0), (1, .int (nI (3846 + (6 * n))))]) (stk' := [.int 10, .int 2]) (mem' := fm g tp bt a b) (fun _ _ _ => rfl) ?_
    refine fe_s 1 (pc' := cond (fx_cb .eq 2 10) 31 19) (lc' := [(2, .int 2), (0, .ref 0), (1, .int (nI (3846 + (6 * n))))]) (stk' := []) (mem' := fm g tp bt a b) (fun _ _ _ => rfl) ?_
    rw [show (fx_cb .eq 2 10) = false from by decide]
    dsimp only [cond]
    refine fe_s 2 (pc' := 22) (lc' := [(2, .int 2), (0, .ref 0), (1, .int (nI (3846 + (6 * n))))]) (stk' := [.int 22, .int 2]) (mem' := fm g tp bt a b) (fun _ _ _ => rfl) ?_
    refine fe_s 1 (pc' := cond (fx_cb .eq 2 22) 31 25) (lc' := [(2, .int 2), (0, .ref 0), (1, .int (nI (3846 + (6 * n))))]) (stk' := []) (mem' := fm g tp bt a b) (fun _ _ _ => rfl) ?_
    rw [show (fx_cb .eq 2 22) = false from by decide]
    dsimp only [cond]
    refine fe_s 2 (pc' := 27) (lc' := [(2, .int 2), (0, .ref 0), (1, .int (nI (3846 + (6 * n))))]) (stk' := [.int 2, .ref 0]) (mem' := fm g tp bt a b) (fun _ _ _ => rfl) ?_
    obtain ⟨gf5, hfrf5, hof5, hzf5⟩ := fr_failsq (x := 2) (g := g) (tp := tp) (bt := bt) (a := a) (b := b) (by omega) (by omega) (fm_go_rf hxp hfl).2.1 (fm_go_rf hxp hfl).2.2.1
    have gof5 := fm_go_tr (fm_go_rf hxp hfl) hof5
    refine fe_ivV hfrf5 (by omega) (by rfl) (by rfl) (by rfl) (by rfl) (by rfl) (by rfl) ?_
    exact fe_ret ⟨_, _, _, _, _, _, _, gof5, hC, rfl, Or.inl ⟨rfl, hzf5⟩, rfl⟩ (by rfl) (by rfl) (by rfl)
  · refine fe_s 3 (pc' := 10) (lc' := [(2, .int 3), (0, .ref 0), (1, .int (nI (3846 + (6 * n))))]) (stk' := [.int 8, .int 3]) (mem' := fm g tp bt a b) (fun _ _ _ => rfl) ?_
    refine fe_s 1 (pc' := cond (fx_cb .eq 3 8) 31 13) (lc' := [(2, .int 3), (0, .ref 0), (1, .int (nI (3846 + (6 * n))))]) (stk' := []) (mem' := fm g tp bt a b) (fun _ _ _ => rfl) ?_
    rw [show (fx_cb .eq 3 8) = false from by decide]
    dsimp only [cond]
    refine fe_s 2 (pc' := 16) (lc' := [(2, .int 3), (0, .ref 0), (1, .int (nI (3846 + (6 * n))))]) (stk' := [.int 10, .int 3]) (mem' := fm g tp bt a b) (fun _ _ _ => rfl) ?_
    refine fe_s 1 (pc' := cond (fx_cb .eq 3 10) 31 19) (lc' := [(2, .int 3), (0, .ref 0), (1, .int (nI (3846 + (6 * n))))]) (stk' := []) (mem' := fm g tp bt a b) (fun _ _ _ => rfl) ?_
    rw [show (fx_cb .eq 3 10) = false from by decide]
    dsimp only [cond]
    refine fe_s 2 (pc' := 22) (lc' := [(2, .int 3), (0, .ref 0), (1, .int (nI (3846 + (6 * n))))]) (stk' := [.int 22, .int 3]) (mem' := fm g tp bt a b) (fun _ _ _ => rfl) ?_
    refine fe_s 1 (pc' := cond (fx_cb .eq 3 22) 31 25) (lc' := [(2, .int 3), (0, .ref 0), (1, .int (nI (3846 + (6 * n))))]) (stk' := []) (mem' := fm g tp bt a b) (fun _ _ _ => rfl) ?_
    rw [show (fx_cb .eq 3 22) = false from by decide]
    dsimp only [cond]
    refine fe_s 2 (pc' := 27) (lc' := [(2, .int 3), (0, .ref 0), (1, .int (nI (3846 + (6 * n))))]) (stk' := [.int 2, .ref 0]) (mem' := fm g tp bt a b) (fun _ _ _ => rfl) ?_
    obtain ⟨gf6, hfrf6, hof6, hzf6⟩ := fr_failsq (x := 2) (g := g) (tp := tp) (bt := bt) (a := a) (b := b) (by omega) (by omega) (fm_go_rf hxp hfl).2.1 (fm_go_rf hxp hfl).2.2.1
    have gof6 := fm_go_tr (fm_go_rf hxp hfl) hof6
    refine fe_ivV hfrf6 (by omega) (by rfl) (by rfl) (by rfl) (by rfl) (by rfl) (by rfl) ?_
    exact fe_ret ⟨_, _, _, _, _, _, _, gof6, hC, rfl, Or.inl ⟨rfl, hzf6⟩, rfl⟩ (by rfl) (by rfl) (by rfl)
  · refine fe_s 3 (pc' := 10) (lc' := [(2, .int 4), (0, .ref 0), (1, .int (nI (3846 + (6 * n))))]) (stk' := [.int 8, .int 4]) (mem' := fm g tp bt a b) (fun _ _ _ => rfl) ?_
    refine fe_s 1 (pc' := cond (fx_cb .eq 4 8) 31 13) (lc' := [(2, .int 4), (0, .ref 0), (1, .int (nI (3846 + (6 * n))))]) (stk' := []) (mem' := fm g tp bt a b) (fun _ _ _ => rfl) ?_
    rw [show (fx_cb .eq 4 8) = false from by decide]
    dsimp only [cond]
    refine fe_s 2 (pc' := 16) (lc' := [(2, .int 4), (0, .ref 0), (1, .int (nI (3846 + (6 * n))))]) (stk' := [.int 10, .int 4]) (mem' := fm g tp bt a b) (fun _ _ _ => rfl) ?_
    refine fe_s 1 (pc' := cond (fx_cb .eq 4 10) 31 19) (lc' := [(2, .int 4), (0, .ref 0), (1, .int (nI (3846 + (6 * n))))]) (stk' := []) (mem' := fm g tp bt a b) (fun _ _ _ => rfl) ?_
    rw [show (fx_cb .eq 4 10) = false from by decide]
    dsimp only [cond]
    refine fe_s 2 (pc' := 22) (lc' := [(2, .int 4), (0, .ref 0), (1, .int (nI (3846 + (6 * n))))]) (stk' := [.int 22, .int 4]) (mem' := fm g tp bt a b) (fun _ _ _ => rfl) ?_
    refine fe_s 1 (pc' := cond (fx_cb .eq 4 22) 31 25) (lc' := [(2, .int 4), (0, .ref 0), (1, .int (nI (3846 + (6 * n))))]) (stk' := []) (mem' := fm g tp bt a b) (fun _ _ _ => rfl) ?_
    rw [show (fx_cb .eq 4 22) = false from by decide]
    dsimp only [cond]
    refine fe_s 2 (pc' := 27) (lc' := [(2, .int 4), (0, .ref 0), (1, .int (nI (3846 + (6 * n))))]) (stk' := [.int 2, .ref 0]) (mem' := fm g tp bt a b) (fun _ _ _ => rfl) ?_
    obtain ⟨gf7, hfrf7, hof7, hzf7⟩ := fr_failsq (x := 2) (g := g) (tp := tp) (bt := bt) (a := a) (b := b) (by omega) (by omega) (fm_go_rf hxp hfl).2.1 (fm_go_rf hxp hfl).2.2.1
    have gof7 := fm_go_tr (fm_go_rf hxp hfl) hof7
    refine fe_ivV hfrf7 (by omega) (by rfl) (by rfl) (by rfl) (by rfl) (by rfl) (by rfl) ?_
    exact fe_ret ⟨_, _, _, _, _, _, _, gof7, hC, rfl, Or.inl ⟨rfl, hzf7⟩, rfl⟩ (by rfl) (by rfl) (by rfl)
  · refine fe_s 3 (pc' := 10) (lc' := [(2, .int 5), (0, .ref 0), (1, .int (nI (3846 + (6 * n))))]) (stk' := [.int 8, .int 5]) (mem' := fm g tp bt a b) (fun _ _ _ => rfl) ?_
    refine fe_s 1 (pc' := cond (fx_cb .eq 5 8) 31 13) (lc' := [(2, .int 5), (0, .ref 0), (1, .int (nI (3846 + (6 * n))))]) (stk' := []) (mem' := fm g tp bt a b) (fun _ _ _ => rfl) ?_
    rw [show (fx_cb .eq 5 8) = false from by decide]
    dsimp only [cond]
    refine fe_s 2 (pc' := 16) (lc' := [(2, .int 5), (0, .ref 0), (1, .int (nI (3846 + (6 * n))))]) (stk' := [.int 10, .int 5]) (mem' := fm g tp bt a b) (fun _ _ _ => rfl) ?_
    refine fe_s 1 (pc' := cond (fx_cb .eq 5 10) 31 19) (lc' := [(2, .int 5), (0, .ref 0), (1, .int (nI (3846 + (6 * n))))]) (stk' := []) (mem' := fm g tp bt a b) (fun _ _ _ => rfl) ?_
    rw [show (fx_cb .eq 5 10) = false from by decide]
    dsimp only [cond]
    refine fe_s 2 (pc' := 22) (lc' := [(2, .int 5), (0, .ref 0), (1, .int (nI (3846 + (6 * n))))]) (stk' := [.int 22, .int 5]) (mem' := fm g tp bt a b) (fun _ _ _ => rfl) ?_
    refine fe_s 1 (pc' := cond (fx_cb .eq 5 22) 31 25) (lc' := [(2, .int 5), (0, .ref 0), (1, .int (nI (3846 + (6 * n))))]) (stk' := []) (mem' := fm g tp bt a b) (fun _ _ _ => rfl) ?_
    rw [show (fx_cb .eq 5 22) = false from by decide]
    dsimp only [cond]
    refine fe_s 2 (pc' := 27) (lc' := [(2, .int 5), (0, .ref 0), (1, .int (nI (3846 + (6 * n))))]) (stk' := [.int 2, .ref 0]) (mem' := fm g tp bt a b) (fun _ _ _ => rfl) ?_
    obtain ⟨gf8, hfrf8, hof8, hzf8⟩ := fr_failsq (x := 2) (g := g) (tp := tp) (bt := bt) (a := a) (b := b) (by omega) (by omega) (fm_go_rf hxp hfl).2.1 (fm_go_rf hxp hfl).2.2.1
    have gof8 := fm_go_tr (fm_go_rf hxp hfl) hof8
    refine fe_ivV hfrf8 (by omega) (by rfl) (by rfl) (by rfl) (by rfl) (by rfl) (by rfl) ?_
    exact fe_ret ⟨_, _, _, _, _, _, _, gof8, hC, rfl, Or.inl ⟨rfl, hzf8⟩, rfl⟩ (by rfl) (by rfl) (by rfl)
  · refine fe_s 3 (pc' := 10) (lc' := [(2, .int 6), (0, .ref 0), (1, .int (nI (3846 + (6 * n))))]) (stk' := [.int 8, .int 6]) (mem' := fm g tp bt a b) (fun _ _ _ => rfl) ?_
    refine fe_s 1 (pc' := cond (fx_cb .eq 6 8) 31 13) (lc' := [(2, .int 6), (0, .ref 0), (1, .int (nI (3846 + (6 * n))))]) (stk' := []) (mem' := fm g tp bt a b) (fun _ _ _ => rfl) ?_
    rw [show (fx_cb .eq 6 8) = false from by decide]
    dsimp only [cond]
    refine fe_s 2 (pc' := 16) (lc' := [(2, .int 6), (0, .ref 0), (1, .int (nI (3846 + (6 * n))))]) (stk' := [.int 10, .int 6]) (mem' := fm g tp bt a b) (fun _ _ _ => rfl) ?_
    refine fe_s 1 (pc' := cond (fx_cb .eq 6 10) 31 19) (lc' := [(2, .int 6), (0, .ref 0), (1, .int (nI (3846 + (6 * n))))]) (stk' := []) (mem' := fm g tp bt a b) (fun _ _ _ => rfl) ?_
    rw [show (fx_cb .eq 6 10) = false from by decide]
    dsimp only [cond]
    refine fe_s 2 (pc' := 22) (lc' := [(2, .int 6), (0, .ref 0), (1, .int (nI (3846 + (6 * n))))]) (stk' := [.int 22, .int 6]) (mem' := fm g tp bt a b) (fun _ _ _ => rfl) ?_
    refine fe_s 1 (pc' := cond (fx_cb .eq 6 22) 31 25) (lc' := [(2, .int 6), (0, .ref 0), (1, .int (nI (3846 + (6 * n))))]) (stk' := []) (mem' := fm g tp bt a b) (fun _ _ _ => rfl) ?_
    rw [show (fx_cb .eq 6 22) = false from by decide]
    dsimp only [cond]
    refine fe_s 2 (pc' := 27) (lc' := [(2, .int 6), (0, .ref 0), (1, .int (nI (3846 + (6 * n))))]) (stk' := [.int 2, .ref 0]) (mem' := fm g tp bt a b) (fun _ _ _ => rfl) ?_
    obtain ⟨gf9, hfrf9, hof9, hzf9⟩ := fr_failsq (x := 2) (g := g) (tp := tp) (bt := bt) (a := a) (b := b) (by omega) (by omega) (fm_go_rf hxp hfl).2.1 (fm_go_rf hxp hfl).2.2.1
    have gof9 := fm_go_tr (fm_go_rf hxp hfl) hof9
    refine fe_ivV hfrf9 (by omega) (by rfl) (by rfl) (by rfl) (by rfl) (by rfl) (by rfl) ?_
    exact fe_ret ⟨_, _, _, _, _, _, _, gof9, hC, rfl, Or.inl ⟨rfl, hzf9⟩, rfl⟩ (by rfl) (by rfl) (by rfl)
  · refine fe_s 3 (pc' := 10) (lc' := [(2, .int 7), (0, .ref 0), (1, .int (nI (3846 + (6 * n))))]) (stk' := [.int 8, .int 7]) (mem' := fm g tp bt a b) (fun _ _ _ => rfl) ?_
    refine fe_s 1 (pc' := cond (fx_cb .eq 7 8) 31 13) (lc' := [(2, .int 7), (0, .ref 0), (1, .int (nI (3846 + (6 * n))))]) (stk' := []) (mem' := fm g tp bt a b) (fun _ _ _ => rfl) ?_
    rw [show (fx_cb .eq 7 8) = false from by decide]
    dsimp only [cond]
    refine fe_s 2 (pc' := 16) (lc' := [(2, .int 7), (0, .ref 0), (1, .int (nI (3846 + (6 * n))))]) (stk' := [.int 10, .int 7]) (mem' := fm g tp bt a b) (fun _ _ _ => rfl) ?_
    refine fe_s 1 (pc' := cond (fx_cb .eq 7 10) 31 19) (lc' := [(2, .int 7), (0, .ref 0), (1, .int (nI (3846 + (6 * n))))]) (stk' := []) (mem' := fm g tp bt a b) (fun _ _ _ => rfl) ?_
    rw [show (fx_cb .eq 7 10) = false from by decide]
    dsimp only [cond]
    refine fe_s 2 (pc' := 22) (lc' := [(2, .int 7), (0, .ref 0), (1, .int (nI (3846 + (6 * n))))]) (stk' := [.int 22, .int 7]) (mem' := fm g tp bt a b) (fun _ _ _ => rfl) ?_
    refine fe_s 1 (pc' := cond (fx_cb .eq 7 22) 31 25) (lc' := [(2, .int 7), (0, .ref 0), (1, .int (nI (3846 + (6 * n))))]) (stk' := []) (mem' := fm g tp bt a b) (fun _ _ _ => rfl) ?_
    rw [show (fx_cb .eq 7 22) = false from by decide]
    dsimp only [cond]
    refine fe_s 2 (pc' := 27) (lc' := [(2, .int 7), (0, .ref 0), (1, .int (nI (3846 + (6 * n))))]) (stk' := [.int 2, .ref 0]) (mem' := fm g tp bt a b) (fun _ _ _ => rfl) ?_
    obtain ⟨gf10, hfrf10, hof10, hzf10⟩ := fr_failsq (x := 2) (g := g) (tp := tp) (bt := bt) (a := a) (b := b) (by omega) (by omega) (fm_go_rf hxp hfl).2.1 (fm_go_rf hxp hfl).2.2.1
    have gof10 := fm_go_tr (fm_go_rf hxp hfl) hof10
    refine fe_ivV hfrf10 (by omega) (by rfl) (by rfl) (by rfl) (by rfl) (by rfl) (by rfl) ?_
    exact fe_ret ⟨_, _, _, _, _, _, _, gof10, hC, rfl, Or.inl ⟨rfl, hzf10⟩, rfl⟩ (by rfl) (by rfl) (by rfl)
  · refine fe_s 3 (pc' := 10) (lc' := [(2, .int 8), (0, .ref 0), (1, .int (nI (3846 + (6 * n))))]) (stk' := [.int 8, .int 8]) (mem' := fm g tp bt a b) (fun _ _ _ => rfl) ?_
    refine fe_s 1 (pc' := cond (fx_cb .eq 8 8) 31 13) (lc' := [(2, .int 8), (0, .ref 0), (1, .int (nI (3846 + (6 * n))))]) (stk' := []) (mem' := fm g tp bt a b) (fun _ _ _ => rfl) ?_
    rw [show (fx_cb .eq 8 8) = true from by decide]
    dsimp only [cond]
    refine fe_s 6 (pc' := 41) (lc' := [(2, .int 8), (0, .ref 0), (1, .int (nI (3846 + (6 * n))))]) (stk' := [.int (1800 + 8), .int (nI (3846 + (6 * n))), .ref 1]) (mem' := fm g tp bt a b) (fun _ _ _ => rfl) ?_
    rw [show (1800 + 8 : Int32) = 1808 from rfl]
    refine fe_stI (mem' := fm g tp bt (fm_u a 1 (nI (3846 + (6 * n)) : Int32).toNatClampNeg 1808) b) (by rfl) (by rfl) (fx_inN (i := 3846 + (6 * n)) (by have := hC.2.2.2.2.2.2.2.1; omega) (by omega)) fm_si1 ?_
    rw [show Int32.toNatClampNeg (nI (3846 + (6 * n))) = 3846 + (6 * n) from nI_clamp (by have := hC.2.2.2.2.2.2.2.1; omega)]
    obtain ⟨at11, hat11⟩ : ∃ z, z = fm_u a 1 (3846 + (6 * n)) 1808 := ⟨_, rfl⟩
    rw [← hat11]
    have hCt11 : fm_TC a0 at11 n 1808 0 := by rw [hat11]; rw [show 3846 + (6 * n) = 3846 + 6 * n by omega]; exact fm_TC_0 hC (by decide) (by decide)
    have h8t11 : at11 8 = a 8 := (congrFun hat11 8).trans ((fm_ut (by decide)).trans rfl)
    refine fe_s 1 (pc' := 43) (lc' := [(2, .int 8), (0, .ref 0), (1, .int (nI (3846 + (6 * n))))]) (stk' := [.ref 0]) (mem' := fm g tp bt at11 b) (fun _ _ _ => rfl) ?_
    obtain ⟨gk12, Ek12, Fk12, hfrk12, hok12, hek12, hpk12⟩ := fr_aheadq (g := g) (tp := tp) (bt := bt) (a := at11) (b := b) (fm_go_rf hxp hfl).2.1 (fm_go_rf hxp hfl).2.2.1
    have gok12 := fm_go_tr (fm_go_rf hxp hfl) hok12
    have e18k12 : gk12 18 = g 18 := hek12.trans rfl
    have prk12 : gk12 12 = 0 ∨ E < Ek12 := hpk12.imp id (fun z => by have := (fm_go_rf hxp hfl).2.2.2; omega)
    refine fe_ivV hfrk12 (by omega) (by rfl) (by rfl) (by rfl) (by rfl) (by rfl) (by rfl) ?_
    refine fe_s 2 (pc' := 49) (lc' := [(2, .int 8), (0, .ref 0), (1, .int (nI (3846 + (6 * n))))]) (stk' := [.int 22, .int 8]) (mem' := fm gk12 tp bt at11 b) (fun _ _ _ => rfl) ?_
    refine fe_s 1 (pc' := cond (fx_cb .ne 8 22) 60 52) (lc' := [(2, .int 8), (0, .ref 0), (1, .int (nI (3846 + (6 * n))))]) (stk' := []) (mem' := fm gk12 tp bt at11 b) (fun _ _ _ => rfl) ?_
    rw [show (fx_cb .ne 8 22) = true from by decide]
    dsimp only [cond]
    refine fe_s 2 (pc' := 63) (lc' := [(2, .int 8), (0, .ref 0), (1, .int (nI (3846 + (6 * n))))]) (stk' := [.int 10, .int 8]) (mem' := fm gk12 tp bt at11 b) (fun _ _ _ => rfl) ?_
    refine fe_s 1 (pc' := cond (fx_cb .ne 8 10) 103 66) (lc' := [(2, .int 8), (0, .ref 0), (1, .int (nI (3846 + (6 * n))))]) (stk' := []) (mem' := fm gk12 tp bt at11 b) (fun _ _ _ => rfl) ?_
    rw [show (fx_cb .ne 8 10) = true from by decide]
    dsimp only [cond]
    refine fe_s 4 (pc' := 107) (lc' := [(2, .int 8), (0, .ref 0), (1, .int (nI (3846 + (6 * n))))]) (stk' := [.int ((nI (3846 + (6 * n))) + 1), .ref 0]) (mem' := fm gk12 tp bt at11 b) (fun _ _ _ => rfl) ?_
    rw [show ((nI (3846 + (6 * n))) + 1 : Int32) = nI ((3846 + (6 * n)) + 1) from by simp only [show (1 : Int32) = nI 1 from rfl, nI_add, fm_mul]]
    obtain ⟨vo13, memo13, ⟨xo13, go13, Eo13, Fo13, ao13, hoo13, hvo13, hRo13⟩, hfro13⟩ := fr_cellTo (T := (3846 + (6 * n)) + 1) (g := gk12) (tp := tp) (bt := bt) (a := at11) (b := b) gok12.2.1 gok12.2.2.1 (by have := hCt11.2.2.2.2.2.2.2.1; omega) ((f0 hCt11).trans hH.1) hH.2.1
    cases hRo13
    have goo13 := fm_go_tr gok12 hoo13
    refine fe_ivV hfro13 (by omega) (by rfl) (by rfl) (by rfl) (by rfl) (by rfl) (by rfl) ?_
    rcases hvo13 with ⟨rfl, hzo13, hao13⟩ | ⟨rfl, heo13, hpo13, ko13, hko13, hao13⟩
    · obtain ⟨yo13, hCo13⟩ : ∃ y, fm_TC a0 ao13 n 1808 y := by
        rcases hao13 with e | e
        · exact ⟨_, by rw [e]; exact hCt11⟩
        · exact ⟨_, by rw [e, show (3846 + (6 * n)) + 1 = 3847 + 6 * n by omega]; exact fm_TC_1 hCt11 (by decide) (by decide)⟩
      have h8o13 : ao13 8 = a 8 := hao13.elim (fun e => (congrFun e 8).trans h8t11) (fun e => (congrFun e 8).trans ((fm_ut (by decide)).trans h8t11))
      refine fe_s 1 (pc' := cond (fx_cb .ne 0 0) 115 113) (lc' := [(2, .int 8), (0, .ref 0), (1, .int (nI (3846 + (6 * n))))]) (stk' := []) (mem' := fm go13 tp bt ao13 b) (fun _ _ _ => rfl) ?_
      rw [show (fx_cb .ne 0 0) = false from by decide]
      dsimp only [cond]
      refine fe_s 1 (pc' := 114) (lc' := [(2, .int 8), (0, .ref 0), (1, .int (nI (3846 + (6 * n))))]) (stk' := [.int 0]) (mem' := fm go13 tp bt ao13 b) (fun _ _ _ => rfl) ?_
      exact fe_ret ⟨_, _, _, _, _, _, _, goo13, hCo13, h8o13, Or.inl ⟨rfl, hzo13⟩, rfl⟩ (by rfl) (by rfl) (by rfl)
    · have e18o13 : go13 18 = g 18 := heo13.trans e18k12
      have pro13 : go13 12 = 0 ∨ E < Eo13 := hpo13.imp id (fun z => by have := gok12.2.2.2; omega)
      have hk9o13 : ko13 < 10 := by have := hH.2.1; omega
      have hCo13 : fm_TC a0 ao13 n 1808 (nI ko13) := by rw [hao13]; rw [show (3846 + (6 * n)) + 1 = 3847 + 6 * n by omega]; exact fm_TC_1 hCt11 (by rw [nI_i32 (by omega)]; omega) (by rw [nI_i32 (by omega)]; omega)
      have h8o13 : ao13 8 = a 8 := (congrFun hao13 8).trans ((fm_ut (by decide)).trans h8t11)
      refine fe_s 1 (pc' := cond (fx_cb .ne 1 0) 115 113) (lc' := [(2, .int 8), (0, .ref 0), (1, .int (nI (3846 + (6 * n))))]) (stk' := []) (mem' := fm go13 tp bt ao13 b) (fun _ _ _ => rfl) ?_
      rw [show (fx_cb .ne 1 0) = true from by decide]
      dsimp only [cond]
      refine fe_s 2 (pc' := 118) (lc' := [(2, .int 8), (0, .ref 0), (1, .int (nI (3846 + (6 * n))))]) (stk' := [.int 60, .ref 0]) (mem' := fm go13 tp bt ao13 b) (fun _ _ _ => rfl) ?_
      obtain ⟨vi14, memi14, ⟨xi14, hxi14, hRi14⟩, hfri14⟩ := fr_isSign (c := 60) (g := go13) (tp := tp) (bt := bt) (a := ao13) (b := b)
      cases hRi14
      refine fe_ivV hfri14 (by omega) (by rfl) (by rfl) (by rfl) (by rfl) (by rfl) (by rfl) ?_
      rcases hxi14 with rfl | ⟨rfl, hsi14⟩
      · refine fe_s 1 (pc' := cond (fx_cb .ne 0 0) 148 124) (lc' := [(2, .int 8), (0, .ref 0), (1, .int (nI (3846 + (6 * n))))]) (stk' := []) (mem' := fm go13 tp bt ao13 b) (fun _ _ _ => rfl) ?_
        rw [show (fx_cb .ne 0 0) = false from by decide]
        dsimp only [cond]
        refine fe_s 2 (pc' := 127) (lc' := [(2, .int 8), (0, .ref 0), (1, .int (nI (3846 + (6 * n))))]) (stk' := [.int 62, .ref 0]) (mem' := fm go13 tp bt ao13 b) (fun _ _ _ => rfl) ?_
        obtain ⟨vi15, memi15, ⟨xi15, hxi15, hRi15⟩, hfri15⟩ := fr_isSign (c := 62) (g := go13) (tp := tp) (bt := bt) (a := ao13) (b := b)
        cases hRi15
        refine fe_ivV hfri15 (by omega) (by rfl) (by rfl) (by rfl) (by rfl) (by rfl) (by rfl) ?_
        rcases hxi15 with rfl | ⟨rfl, hsi15⟩
        · refine fe_s 1 (pc' := cond (fx_cb .ne 0 0) 148 133) (lc' := [(2, .int 8), (0, .ref 0), (1, .int (nI (3846 + (6 * n))))]) (stk' := []) (mem' := fm go13 tp bt ao13 b) (fun _ _ _ => rfl) ?_
          rw [show (fx_cb .ne 0 0) = false from by decide]
          dsimp only [cond]
          refine fe_s 2 (pc' := 136) (lc' := [(2, .int 8), (0, .ref 0), (1, .int (nI (3846 + (6 * n))))]) (stk' := [.int 61, .ref 0]) (mem' := fm go13 tp bt ao13 b) (fun _ _ _ => rfl) ?_
          obtain ⟨vi16, memi16, ⟨xi16, hxi16, hRi16⟩, hfri16⟩ := fr_isSign (c := 61) (g := go13) (tp := tp) (bt := bt) (a := ao13) (b := b)
          cases hRi16
          refine fe_ivV hfri16 (by omega) (by rfl) (by rfl) (by rfl) (by rfl) (by rfl) (by rfl) ?_
          rcases hxi16 with rfl | ⟨rfl, hsi16⟩
          · refine fe_s 1 (pc' := cond (fx_cb .ne 0 0) 148 142) (lc' := [(2, .int 8), (0, .ref 0), (1, .int (nI (3846 + (6 * n))))]) (stk' := []) (mem' := fm go13 tp bt ao13 b) (fun _ _ _ => rfl) ?_
            rw [show (fx_cb .ne 0 0) = false from by decide]
            dsimp only [cond]
            refine fe_s 2 (pc' := 144) (lc' := [(2, .int 8), (0, .ref 0), (1, .int (nI (3846 + (6 * n))))]) (stk' := [.int 2, .ref 0]) (mem' := fm go13 tp bt ao13 b) (fun _ _ _ => rfl) ?_
            obtain ⟨gf17, hfrf17, hof17, hzf17⟩ := fr_failsq (x := 2) (g := go13) (tp := tp) (bt := bt) (a := ao13) (b := b) (by omega) (by omega) goo13.2.1 goo13.2.2.1
            have gof17 := fm_go_tr goo13 hof17
            refine fe_ivV hfrf17 (by omega) (by rfl) (by rfl) (by rfl) (by rfl) (by rfl) (by rfl) ?_
            exact fe_ret ⟨_, _, _, _, _, _, _, gof17, hCo13, h8o13, Or.inl ⟨rfl, hzf17⟩, rfl⟩ (by rfl) (by rfl) (by rfl)
          · refine fe_s 1 (pc' := cond (fx_cb .ne 1 0) 148 142) (lc' := [(2, .int 8), (0, .ref 0), (1, .int (nI (3846 + (6 * n))))]) (stk' := []) (mem' := fm go13 tp bt ao13 b) (fun _ _ _ => rfl) ?_
            rw [show (fx_cb .ne 1 0) = true from by decide]
            dsimp only [cond]
            refine fe_s 7 (pc' := 159) (lc' := [(2, .int 8), (0, .ref 0), (1, .int (nI (3846 + (6 * n))))]) (stk' := [.int (go13 15), .int ((nI (3846 + (6 * n))) + 5), .ref 1]) (mem' := fm go13 tp bt ao13 b) (fun _ _ _ => rfl) ?_
            rw [show ((nI (3846 + (6 * n))) + 5 : Int32) = nI ((3846 + (6 * n)) + 5) from by simp only [show (5 : Int32) = nI 5 from rfl, nI_add, fm_mul]]
            refine fe_stI (mem' := fm go13 tp bt (fm_u ao13 1 (nI ((3846 + (6 * n)) + 5) : Int32).toNatClampNeg (go13 15)) b) (by rfl) (by rfl) (fx_inN (i := (3846 + (6 * n)) + 5) (by have := hCo13.2.2.2.2.2.2.2.1; omega) (by omega)) fm_si1 ?_
            rw [show Int32.toNatClampNeg (nI ((3846 + (6 * n)) + 5)) = (3846 + (6 * n)) + 5 from nI_clamp (by have := hCo13.2.2.2.2.2.2.2.1; omega)]
            obtain ⟨at18, hat18⟩ : ∃ z, z = fm_u ao13 1 ((3846 + (6 * n)) + 5) (go13 15) := ⟨_, rfl⟩
            rw [← hat18]
            have hCt18 : fm_TC a0 at18 n 1808 (nI ko13) := by rw [hat18]; rw [show (3846 + (6 * n)) + 5 = 3851 + 6 * n by omega]; exact fm_TC_5 hCo13
            have h8t18 : at18 8 = a 8 := (congrFun hat18 8).trans ((fm_ut (by decide)).trans h8o13)
            refine fe_s 1 (pc' := 161) (lc' := [(2, .int 8), (0, .ref 0), (1, .int (nI (3846 + (6 * n))))]) (stk' := [.ref 0]) (mem' := fm go13 tp bt at18 b) (fun _ _ _ => rfl) ?_
            obtain ⟨gk19, Ek19, Fk19, hfrk19, hok19, hek19, hpk19⟩ := fr_aheadq (g := go13) (tp := tp) (bt := bt) (a := at18) (b := b) goo13.2.1 goo13.2.2.1
            have gok19 := fm_go_tr goo13 hok19
            have e18k19 : gk19 18 = g 18 := hek19.trans e18o13
            have prk19 : gk19 12 = 0 ∨ E < Ek19 := hpk19.imp id (fun z => by have := goo13.2.2.2; omega)
            refine fe_ivV hfrk19 (by omega) (by rfl) (by rfl) (by rfl) (by rfl) (by rfl) (by rfl) ?_
            refine fe_s 6 (pc' := 172) (lc' := [(2, .int 8), (0, .ref 0), (1, .int (nI (3846 + (6 * n))))]) (stk' := [.int 999, .int 0, .int ((nI (3846 + (6 * n))) + 2), .ref 0]) (mem' := fm gk19 tp bt at18 b) (fun _ _ _ => rfl) ?_
            rw [show ((nI (3846 + (6 * n))) + 2 : Int32) = nI ((3846 + (6 * n)) + 2) from by simp only [show (2 : Int32) = nI 2 from rfl, nI_add, fm_mul]]
            obtain ⟨xm20, gm20, Em20, Fm20, am20, hfrm20, hom20, hvm20⟩ := fr_numberq (T := (3846 + (6 * n)) + 2) (lo := 0) (hi := 999) (g := gk19) (tp := tp) (bt := bt) (a := at18) (b := b) (by have := hCt18.2.2.2.2.2.2.2.1; omega) gok19.2.1 gok19.2.2.1
            have gom20 := fm_go_tr gok19 hom20
            refine fe_ivV hfrm20 (by omega) (by rfl) (by rfl) (by rfl) (by rfl) (by rfl) (by rfl) ?_
            rcases hvm20 with ⟨rfl, hzm20, ham20⟩ | ⟨rfl, hem20, hpm20, ym20, hlm20, hum20, ham20⟩
            · have hCm20 : fm_TC a0 am20 n 1808 (nI ko13) := by rw [ham20]; exact hCt18
              have h8m20 : am20 8 = a 8 := (congrFun ham20 8).trans h8t18
              exact fe_ret ⟨_, _, _, _, _, _, _, gom20, hCm20, h8m20, Or.inl ⟨rfl, hzm20⟩, rfl⟩ (by rfl) (by rfl) (by rfl)
            · have e18m20 : gm20 18 = g 18 := hem20.trans e18k19
              have prm20 : gm20 12 = 0 ∨ E < Em20 := hpm20.imp id (fun z => by have := gok19.2.2.2; omega)
              have lm20 : 0 ≤ ym20.toInt := (by have z := Int32.le_iff_toInt_le.mp hlm20; rw [show ((0 : Int32).toInt) = 0 from rfl] at z; omega)
              have um20 : ym20.toInt ≤ 999 := (by have z := Int32.le_iff_toInt_le.mp hum20; rw [show ((999 : Int32).toInt) = 999 from rfl] at z; omega)
              have hCm20 : fm_TC a0 am20 n 1808 (nI ko13) := by rw [ham20]; rw [show (3846 + (6 * n)) + 2 = 3848 + 6 * n by omega]; exact fm_TC_2 hCt18 (by omega) (by omega)
              have h8m20 : am20 8 = a 8 := (congrFun ham20 8).trans ((fm_ut (by decide)).trans h8t18)
              exact fe_ret ⟨_, _, _, _, _, _, _, gom20, hCm20, h8m20, Or.inr ⟨rfl, e18m20, fm_ro_c (by rw [nI_i32 (by omega)]; omega) (by rw [nI_i32 (by omega)]; omega) (by decide)⟩, rfl⟩ (by rfl) (by rfl) (by rfl)
        · refine fe_s 1 (pc' := cond (fx_cb .ne 1 0) 148 133) (lc' := [(2, .int 8), (0, .ref 0), (1, .int (nI (3846 + (6 * n))))]) (stk' := []) (mem' := fm go13 tp bt ao13 b) (fun _ _ _ => rfl) ?_
          rw [show (fx_cb .ne 1 0) = true from by decide]
          dsimp only [cond]
          refine fe_s 7 (pc' := 159) (lc' := [(2, .int 8), (0, .ref 0), (1, .int (nI (3846 + (6 * n))))]) (stk' := [.int (go13 15), .int ((nI (3846 + (6 * n))) + 5), .ref 1]) (mem' := fm go13 tp bt ao13 b) (fun _ _ _ => rfl) ?_
          rw [show ((nI (3846 + (6 * n))) + 5 : Int32) = nI ((3846 + (6 * n)) + 5) from by simp only [show (5 : Int32) = nI 5 from rfl, nI_add, fm_mul]]
          refine fe_stI (mem' := fm go13 tp bt (fm_u ao13 1 (nI ((3846 + (6 * n)) + 5) : Int32).toNatClampNeg (go13 15)) b) (by rfl) (by rfl) (fx_inN (i := (3846 + (6 * n)) + 5) (by have := hCo13.2.2.2.2.2.2.2.1; omega) (by omega)) fm_si1 ?_
          rw [show Int32.toNatClampNeg (nI ((3846 + (6 * n)) + 5)) = (3846 + (6 * n)) + 5 from nI_clamp (by have := hCo13.2.2.2.2.2.2.2.1; omega)]
          obtain ⟨at21, hat21⟩ : ∃ z, z = fm_u ao13 1 ((3846 + (6 * n)) + 5) (go13 15) := ⟨_, rfl⟩
          rw [← hat21]
          have hCt21 : fm_TC a0 at21 n 1808 (nI ko13) := by rw [hat21]; rw [show (3846 + (6 * n)) + 5 = 3851 + 6 * n by omega]; exact fm_TC_5 hCo13
          have h8t21 : at21 8 = a 8 := (congrFun hat21 8).trans ((fm_ut (by decide)).trans h8o13)
          refine fe_s 1 (pc' := 161) (lc' := [(2, .int 8), (0, .ref 0), (1, .int (nI (3846 + (6 * n))))]) (stk' := [.ref 0]) (mem' := fm go13 tp bt at21 b) (fun _ _ _ => rfl) ?_
          obtain ⟨gk22, Ek22, Fk22, hfrk22, hok22, hek22, hpk22⟩ := fr_aheadq (g := go13) (tp := tp) (bt := bt) (a := at21) (b := b) goo13.2.1 goo13.2.2.1
          have gok22 := fm_go_tr goo13 hok22
          have e18k22 : gk22 18 = g 18 := hek22.trans e18o13
          have prk22 : gk22 12 = 0 ∨ E < Ek22 := hpk22.imp id (fun z => by have := goo13.2.2.2; omega)
          refine fe_ivV hfrk22 (by omega) (by rfl) (by rfl) (by rfl) (by rfl) (by rfl) (by rfl) ?_
          refine fe_s 6 (pc' := 172) (lc' := [(2, .int 8), (0, .ref 0), (1, .int (nI (3846 + (6 * n))))]) (stk' := [.int 999, .int 0, .int ((nI (3846 + (6 * n))) + 2), .ref 0]) (mem' := fm gk22 tp bt at21 b) (fun _ _ _ => rfl) ?_
          rw [show ((nI (3846 + (6 * n))) + 2 : Int32) = nI ((3846 + (6 * n)) + 2) from by simp only [show (2 : Int32) = nI 2 from rfl, nI_add, fm_mul]]
          obtain ⟨xm23, gm23, Em23, Fm23, am23, hfrm23, hom23, hvm23⟩ := fr_numberq (T := (3846 + (6 * n)) + 2) (lo := 0) (hi := 999) (g := gk22) (tp := tp) (bt := bt) (a := at21) (b := b) (by have := hCt21.2.2.2.2.2.2.2.1; omega) gok22.2.1 gok22.2.2.1
          have gom23 := fm_go_tr gok22 hom23
          refine fe_ivV hfrm23 (by omega) (by rfl) (by rfl) (by rfl) (by rfl) (by rfl) (by rfl) ?_
          rcases hvm23 with ⟨rfl, hzm23, ham23⟩ | ⟨rfl, hem23, hpm23, ym23, hlm23, hum23, ham23⟩
          · have hCm23 : fm_TC a0 am23 n 1808 (nI ko13) := by rw [ham23]; exact hCt21
            have h8m23 : am23 8 = a 8 := (congrFun ham23 8).trans h8t21
            exact fe_ret ⟨_, _, _, _, _, _, _, gom23, hCm23, h8m23, Or.inl ⟨rfl, hzm23⟩, rfl⟩ (by rfl) (by rfl) (by rfl)
          · have e18m23 : gm23 18 = g 18 := hem23.trans e18k22
            have prm23 : gm23 12 = 0 ∨ E < Em23 := hpm23.imp id (fun z => by have := gok22.2.2.2; omega)
            have lm23 : 0 ≤ ym23.toInt := (by have z := Int32.le_iff_toInt_le.mp hlm23; rw [show ((0 : Int32).toInt) = 0 from rfl] at z; omega)
            have um23 : ym23.toInt ≤ 999 := (by have z := Int32.le_iff_toInt_le.mp hum23; rw [show ((999 : Int32).toInt) = 999 from rfl] at z; omega)
            have hCm23 : fm_TC a0 am23 n 1808 (nI ko13) := by rw [ham23]; rw [show (3846 + (6 * n)) + 2 = 3848 + 6 * n by omega]; exact fm_TC_2 hCt21 (by omega) (by omega)
            have h8m23 : am23 8 = a 8 := (congrFun ham23 8).trans ((fm_ut (by decide)).trans h8t21)
            exact fe_ret ⟨_, _, _, _, _, _, _, gom23, hCm23, h8m23, Or.inr ⟨rfl, e18m23, fm_ro_c (by rw [nI_i32 (by omega)]; omega) (by rw [nI_i32 (by omega)]; omega) (by decide)⟩, rfl⟩ (by rfl) (by rfl) (by rfl)
      · refine fe_s 1 (pc' := cond (fx_cb .ne 1 0) 148 124) (lc' := [(2, .int 8), (0, .ref 0), (1, .int (nI (3846 + (6 * n))))]) (stk' := []) (mem' := fm go13 tp bt ao13 b) (fun _ _ _ => rfl) ?_
        rw [show (fx_cb .ne 1 0) = true from by decide]
        dsimp only [cond]
        refine fe_s 7 (pc' := 159) (lc' := [(2, .int 8), (0, .ref 0), (1, .int (nI (3846 + (6 * n))))]) (stk' := [.int (go13 15), .int ((nI (3846 + (6 * n))) + 5), .ref 1]) (mem' := fm go13 tp bt ao13 b) (fun _ _ _ => rfl) ?_
        rw [show ((nI (3846 + (6 * n))) + 5 : Int32) = nI ((3846 + (6 * n)) + 5) from by simp only [show (5 : Int32) = nI 5 from rfl, nI_add, fm_mul]]
        refine fe_stI (mem' := fm go13 tp bt (fm_u ao13 1 (nI ((3846 + (6 * n)) + 5) : Int32).toNatClampNeg (go13 15)) b) (by rfl) (by rfl) (fx_inN (i := (3846 + (6 * n)) + 5) (by have := hCo13.2.2.2.2.2.2.2.1; omega) (by omega)) fm_si1 ?_
        rw [show Int32.toNatClampNeg (nI ((3846 + (6 * n)) + 5)) = (3846 + (6 * n)) + 5 from nI_clamp (by have := hCo13.2.2.2.2.2.2.2.1; omega)]
        obtain ⟨at24, hat24⟩ : ∃ z, z = fm_u ao13 1 ((3846 + (6 * n)) + 5) (go13 15) := ⟨_, rfl⟩
        rw [← hat24]
        have hCt24 : fm_TC a0 at24 n 1808 (nI ko13) := by rw [hat24]; rw [show (3846 + (6 * n)) + 5 = 3851 + 6 * n by omega]; exact fm_TC_5 hCo13
        have h8t24 : at24 8 = a 8 := (congrFun hat24 8).trans ((fm_ut (by decide)).trans h8o13)
        refine fe_s 1 (pc' := 161) (lc' := [(2, .int 8), (0, .ref 0), (1, .int (nI (3846 + (6 * n))))]) (stk' := [.ref 0]) (mem' := fm go13 tp bt at24 b) (fun _ _ _ => rfl) ?_
        obtain ⟨gk25, Ek25, Fk25, hfrk25, hok25, hek25, hpk25⟩ := fr_aheadq (g := go13) (tp := tp) (bt := bt) (a := at24) (b := b) goo13.2.1 goo13.2.2.1
        have gok25 := fm_go_tr goo13 hok25
        have e18k25 : gk25 18 = g 18 := hek25.trans e18o13
        have prk25 : gk25 12 = 0 ∨ E < Ek25 := hpk25.imp id (fun z => by have := goo13.2.2.2; omega)
        refine fe_ivV hfrk25 (by omega) (by rfl) (by rfl) (by rfl) (by rfl) (by rfl) (by rfl) ?_
        refine fe_s 6 (pc' := 172) (lc' := [(2, .int 8), (0, .ref 0), (1, .int (nI (3846 + (6 * n))))]) (stk' := [.int 999, .int 0, .int ((nI (3846 + (6 * n))) + 2), .ref 0]) (mem' := fm gk25 tp bt at24 b) (fun _ _ _ => rfl) ?_
        rw [show ((nI (3846 + (6 * n))) + 2 : Int32) = nI ((3846 + (6 * n)) + 2) from by simp only [show (2 : Int32) = nI 2 from rfl, nI_add, fm_mul]]
        obtain ⟨xm26, gm26, Em26, Fm26, am26, hfrm26, hom26, hvm26⟩ := fr_numberq (T := (3846 + (6 * n)) + 2) (lo := 0) (hi := 999) (g := gk25) (tp := tp) (bt := bt) (a := at24) (b := b) (by have := hCt24.2.2.2.2.2.2.2.1; omega) gok25.2.1 gok25.2.2.1
        have gom26 := fm_go_tr gok25 hom26
        refine fe_ivV hfrm26 (by omega) (by rfl) (by rfl) (by rfl) (by rfl) (by rfl) (by rfl) ?_
        rcases hvm26 with ⟨rfl, hzm26, ham26⟩ | ⟨rfl, hem26, hpm26, ym26, hlm26, hum26, ham26⟩
        · have hCm26 : fm_TC a0 am26 n 1808 (nI ko13) := by rw [ham26]; exact hCt24
          have h8m26 : am26 8 = a 8 := (congrFun ham26 8).trans h8t24
          exact fe_ret ⟨_, _, _, _, _, _, _, gom26, hCm26, h8m26, Or.inl ⟨rfl, hzm26⟩, rfl⟩ (by rfl) (by rfl) (by rfl)
        · have e18m26 : gm26 18 = g 18 := hem26.trans e18k25
          have prm26 : gm26 12 = 0 ∨ E < Em26 := hpm26.imp id (fun z => by have := gok25.2.2.2; omega)
          have lm26 : 0 ≤ ym26.toInt := (by have z := Int32.le_iff_toInt_le.mp hlm26; rw [show ((0 : Int32).toInt) = 0 from rfl] at z; omega)
          have um26 : ym26.toInt ≤ 999 := (by have z := Int32.le_iff_toInt_le.mp hum26; rw [show ((999 : Int32).toInt) = 999 from rfl] at z; omega)
          have hCm26 : fm_TC a0 am26 n 1808 (nI ko13) := by rw [ham26]; rw [show (3846 + (6 * n)) + 2 = 3848 + 6 * n by omega]; exact fm_TC_2 hCt24 (by omega) (by omega)
          have h8m26 : am26 8 = a 8 := (congrFun ham26 8).trans ((fm_ut (by decide)).trans h8t24)
          exact fe_ret ⟨_, _, _, _, _, _, _, gom26, hCm26, h8m26, Or.inr ⟨rfl, e18m26, fm_ro_c (by rw [nI_i32 (by omega)]; omega) (by rw [nI_i32 (by omega)]; omega) (by decide)⟩, rfl⟩ (by rfl) (by rfl) (by rfl)
  · refine fe_s 3 (pc' := 10) (lc' := [(2, .int 9), (0, .ref 0), (1, .int (nI (3846 + (6 * n))))]) (stk' := [.int 8, .int 9]) (mem' := fm g tp bt a b) (fun _ _ _ => rfl) ?_
    refine fe_s 1 (pc' := cond (fx_cb .eq 9 8) 31 13) (lc' := [(2, .int 9), (0, .ref 0), (1, .int (nI (3846 + (6 * n))))]) (stk' := []) (mem' := fm g tp bt a b) (fun _ _ _ => rfl) ?_
    rw [show (fx_cb .eq 9 8) = false from by decide]
    dsimp only [cond]
    refine fe_s 2 (pc' := 16) (lc' := [(2, .int 9), (0, .ref 0), (1, .int (nI (3846 + (6 * n))))]) (stk' := [.int 10, .int 9]) (mem' := fm g tp bt a b) (fun _ _ _ => rfl) ?_
    refine fe_s 1 (pc' := cond (fx_cb .eq 9 10) 31 19) (lc' := [(2, .int 9), (0, .ref 0), (1, .int (nI (3846 + (6 * n))))]) (stk' := []) (mem' := fm g tp bt a b) (fun _ _ _ => rfl) ?_
    rw [show (fx_cb .eq 9 10) = false from by decide]
    dsimp only [cond]
    refine fe_s 2 (pc' := 22) (lc' := [(2, .int 9), (0, .ref 0), (1, .int (nI (3846 + (6 * n))))]) (stk' := [.int 22, .int 9]) (mem' := fm g tp bt a b) (fun _ _ _ => rfl) ?_
    refine fe_s 1 (pc' := cond (fx_cb .eq 9 22) 31 25) (lc' := [(2, .int 9), (0, .ref 0), (1, .int (nI (3846 + (6 * n))))]) (stk' := []) (mem' := fm g tp bt a b) (fun _ _ _ => rfl) ?_
    rw [show (fx_cb .eq 9 22) = false from by decide]
    dsimp only [cond]
    refine fe_s 2 (pc' := 27) (lc' := [(2, .int 9), (0, .ref 0), (1, .int (nI (3846 + (6 * n))))]) (stk' := [.int 2, .ref 0]) (mem' := fm g tp bt a b) (fun _ _ _ => rfl) ?_
    obtain ⟨gf27, hfrf27, hof27, hzf27⟩ := fr_failsq (x := 2) (g := g) (tp := tp) (bt := bt) (a := a) (b := b) (by omega) (by omega) (fm_go_rf hxp hfl).2.1 (fm_go_rf hxp hfl).2.2.1
    have gof27 := fm_go_tr (fm_go_rf hxp hfl) hof27
    refine fe_ivV hfrf27 (by omega) (by rfl) (by rfl) (by rfl) (by rfl) (by rfl) (by rfl) ?_
    exact fe_ret ⟨_, _, _, _, _, _, _, gof27, hC, rfl, Or.inl ⟨rfl, hzf27⟩, rfl⟩ (by rfl) (by rfl) (by rfl)
  · refine fe_s 3 (pc' := 10) (lc' := [(2, .int 10), (0, .ref 0), (1, .int (nI (3846 + (6 * n))))]) (stk' := [.int 8, .int 10]) (mem' := fm g tp bt a b) (fun _ _ _ => rfl) ?_
    refine fe_s 1 (pc' := cond (fx_cb .eq 10 8) 31 13) (lc' := [(2, .int 10), (0, .ref 0), (1, .int (nI (3846 + (6 * n))))]) (stk' := []) (mem' := fm g tp bt a b) (fun _ _ _ => rfl) ?_
    rw [show (fx_cb .eq 10 8) = false from by decide]
    dsimp only [cond]
    refine fe_s 2 (pc' := 16) (lc' := [(2, .int 10), (0, .ref 0), (1, .int (nI (3846 + (6 * n))))]) (stk' := [.int 10, .int 10]) (mem' := fm g tp bt a b) (fun _ _ _ => rfl) ?_
    refine fe_s 1 (pc' := cond (fx_cb .eq 10 10) 31 19) (lc' := [(2, .int 10), (0, .ref 0), (1, .int (nI (3846 + (6 * n))))]) (stk' := []) (mem' := fm g tp bt a b) (fun _ _ _ => rfl) ?_
    rw [show (fx_cb .eq 10 10) = true from by decide]
    dsimp only [cond]
    refine fe_s 6 (pc' := 41) (lc' := [(2, .int 10), (0, .ref 0), (1, .int (nI (3846 + (6 * n))))]) (stk' := [.int (1800 + 10), .int (nI (3846 + (6 * n))), .ref 1]) (mem' := fm g tp bt a b) (fun _ _ _ => rfl) ?_
    rw [show (1800 + 10 : Int32) = 1810 from rfl]
    refine fe_stI (mem' := fm g tp bt (fm_u a 1 (nI (3846 + (6 * n)) : Int32).toNatClampNeg 1810) b) (by rfl) (by rfl) (fx_inN (i := 3846 + (6 * n)) (by have := hC.2.2.2.2.2.2.2.1; omega) (by omega)) fm_si1 ?_
    rw [show Int32.toNatClampNeg (nI (3846 + (6 * n))) = 3846 + (6 * n) from nI_clamp (by have := hC.2.2.2.2.2.2.2.1; omega)]
    obtain ⟨at28, hat28⟩ : ∃ z, z = fm_u a 1 (3846 + (6 * n)) 1810 := ⟨_, rfl⟩
    rw [← hat28]
    have hCt28 : fm_TC a0 at28 n 1810 0 := by rw [hat28]; rw [show 3846 + (6 * n) = 3846 + 6 * n by omega]; exact fm_TC_0 hC (by decide) (by decide)
    have h8t28 : at28 8 = a 8 := (congrFun hat28 8).trans ((fm_ut (by decide)).trans rfl)
    refine fe_s 1 (pc' := 43) (lc' := [(2, .int 10), (0, .ref 0), (1, .int (nI (3846 + (6 * n))))]) (stk' := [.ref 0]) (mem' := fm g tp bt at28 b) (fun _ _ _ => rfl) ?_
    obtain ⟨gk29, Ek29, Fk29, hfrk29, hok29, hek29, hpk29⟩ := fr_aheadq (g := g) (tp := tp) (bt := bt) (a := at28) (b := b) (fm_go_rf hxp hfl).2.1 (fm_go_rf hxp hfl).2.2.1
    have gok29 := fm_go_tr (fm_go_rf hxp hfl) hok29
    have e18k29 : gk29 18 = g 18 := hek29.trans rfl
    have prk29 : gk29 12 = 0 ∨ E < Ek29 := hpk29.imp id (fun z => by have := (fm_go_rf hxp hfl).2.2.2; omega)
    refine fe_ivV hfrk29 (by omega) (by rfl) (by rfl) (by rfl) (by rfl) (by rfl) (by rfl) ?_
    refine fe_s 2 (pc' := 49) (lc' := [(2, .int 10), (0, .ref 0), (1, .int (nI (3846 + (6 * n))))]) (stk' := [.int 22, .int 10]) (mem' := fm gk29 tp bt at28 b) (fun _ _ _ => rfl) ?_
    refine fe_s 1 (pc' := cond (fx_cb .ne 10 22) 60 52) (lc' := [(2, .int 10), (0, .ref 0), (1, .int (nI (3846 + (6 * n))))]) (stk' := []) (mem' := fm gk29 tp bt at28 b) (fun _ _ _ => rfl) ?_
    rw [show (fx_cb .ne 10 22) = true from by decide]
    dsimp only [cond]
    refine fe_s 2 (pc' := 63) (lc' := [(2, .int 10), (0, .ref 0), (1, .int (nI (3846 + (6 * n))))]) (stk' := [.int 10, .int 10]) (mem' := fm gk29 tp bt at28 b) (fun _ _ _ => rfl) ?_
    refine fe_s 1 (pc' := cond (fx_cb .ne 10 10) 103 66) (lc' := [(2, .int 10), (0, .ref 0), (1, .int (nI (3846 + (6 * n))))]) (stk' := []) (mem' := fm gk29 tp bt at28 b) (fun _ _ _ => rfl) ?_
    rw [show (fx_cb .ne 10 10) = false from by decide]
    dsimp only [cond]
    refine fe_s 4 (pc' := 70) (lc' := [(2, .int 10), (0, .ref 0), (1, .int (nI (3846 + (6 * n))))]) (stk' := [.int ((nI (3846 + (6 * n))) + 1), .ref 0]) (mem' := fm gk29 tp bt at28 b) (fun _ _ _ => rfl) ?_
    rw [show ((nI (3846 + (6 * n))) + 1 : Int32) = nI ((3846 + (6 * n)) + 1) from by simp only [show (1 : Int32) = nI 1 from rfl, nI_add, fm_mul]]
    obtain ⟨vo30, memo30, ⟨xo30, go30, Eo30, Fo30, ao30, hoo30, hvo30, hRo30⟩, hfro30⟩ := fr_walkerTo (T := (3846 + (6 * n)) + 1) (g := gk29) (tp := tp) (bt := bt) (a := at28) (b := b) gok29.2.1 gok29.2.2.1 (by have := hCt28.2.2.2.2.2.2.2.1; omega) ((f1 hCt28).trans hH.2.2.1) hH.2.2.2
    cases hRo30
    have goo30 := fm_go_tr gok29 hoo30
    refine fe_ivV hfro30 (by omega) (by rfl) (by rfl) (by rfl) (by rfl) (by rfl) (by rfl) ?_
    rcases hvo30 with ⟨rfl, hzo30, hao30⟩ | ⟨rfl, heo30, hpo30, ko30, hko30, hao30⟩
    · obtain ⟨yo30, hCo30⟩ : ∃ y, fm_TC a0 ao30 n 1810 y := by
        rcases hao30 with e | e
        · exact ⟨_, by rw [e]; exact hCt28⟩
        · exact ⟨_, by rw [e, show (3846 + (6 * n)) + 1 = 3847 + 6 * n by omega]; exact fm_TC_1 hCt28 (by decide) (by decide)⟩
      have h8o30 : ao30 8 = a 8 := hao30.elim (fun e => (congrFun e 8).trans h8t28) (fun e => (congrFun e 8).trans ((fm_ut (by decide)).trans h8t28))
      refine fe_s 1 (pc' := cond (fx_cb .eq 0 0) 101 76) (lc' := [(2, .int 10), (0, .ref 0), (1, .int (nI (3846 + (6 * n))))]) (stk' := []) (mem' := fm go30 tp bt ao30 b) (fun _ _ _ => rfl) ?_
      rw [show (fx_cb .eq 0 0) = true from by decide]
      dsimp only [cond]
      refine fe_s 1 (pc' := 102) (lc' := [(2, .int 10), (0, .ref 0), (1, .int (nI (3846 + (6 * n))))]) (stk' := [.int 0]) (mem' := fm go30 tp bt ao30 b) (fun _ _ _ => rfl) ?_
      exact fe_ret ⟨_, _, _, _, _, _, _, goo30, hCo30, h8o30, Or.inl ⟨rfl, hzo30⟩, rfl⟩ (by rfl) (by rfl) (by rfl)
    · have e18o30 : go30 18 = g 18 := heo30.trans e18k29
      have pro30 : go30 12 = 0 ∨ E < Eo30 := hpo30.imp id (fun z => by have := gok29.2.2.2; omega)
      have hk9o30 : ko30 < 8 := by have := hH.2.2.2; omega
      have hCo30 : fm_TC a0 ao30 n 1810 (nI ko30) := by rw [hao30]; rw [show (3846 + (6 * n)) + 1 = 3847 + 6 * n by omega]; exact fm_TC_1 hCt28 (by rw [nI_i32 (by omega)]; omega) (by rw [nI_i32 (by omega)]; omega)
      have h8o30 : ao30 8 = a 8 := (congrFun hao30 8).trans ((fm_ut (by decide)).trans h8t28)
      refine fe_s 1 (pc' := cond (fx_cb .eq 1 0) 101 76) (lc' := [(2, .int 10), (0, .ref 0), (1, .int (nI (3846 + (6 * n))))]) (stk' := []) (mem' := fm go30 tp bt ao30 b) (fun _ _ _ => rfl) ?_
      rw [show (fx_cb .eq 1 0) = false from by decide]
      dsimp only [cond]
      refine fe_s 3 (pc' := 81) (lc' := [(2, .int 10), (0, .ref 0), (1, .int (nI (3846 + (6 * n))))]) (stk' := [.int 17, .ref 22, .ref 0]) (mem' := fm go30 tp bt ao30 b) (fun _ _ _ => rfl) ?_
      obtain ⟨xc31, gc31, Ec31, Fc31, hfrc31, hoc31, hvc31⟩ := fr_wantWordq (k := 17) (g := go30) (tp := tp) (bt := bt) (a := ao30) (b := b) goo30.2.1 goo30.2.2.1
      have goc31 := fm_go_tr goo30 hoc31
      refine fe_ivV hfrc31 (by omega) (by rfl) (by rfl) (by rfl) (by rfl) (by rfl) (by rfl) ?_
      rcases hvc31 with ⟨rfl, hzc31⟩ | ⟨rfl, hec31, hpc31⟩
      · refine fe_s 1 (pc' := cond (fx_cb .eq 0 0) 101 87) (lc' := [(2, .int 10), (0, .ref 0), (1, .int (nI (3846 + (6 * n))))]) (stk' := []) (mem' := fm gc31 tp bt ao30 b) (fun _ _ _ => rfl) ?_
        rw [show (fx_cb .eq 0 0) = true from by decide]
        dsimp only [cond]
        refine fe_s 1 (pc' := 102) (lc' := [(2, .int 10), (0, .ref 0), (1, .int (nI (3846 + (6 * n))))]) (stk' := [.int 0]) (mem' := fm gc31 tp bt ao30 b) (fun _ _ _ => rfl) ?_
        exact fe_ret ⟨_, _, _, _, _, _, _, goc31, hCo30, h8o30, Or.inl ⟨rfl, hzc31⟩, rfl⟩ (by rfl) (by rfl) (by rfl)
      · have e18c31 : gc31 18 = g 18 := hec31.trans e18o30
        have prc31 : gc31 12 = 0 ∨ E < Ec31 := hpc31.imp id (fun z => by have := goo30.2.2.2; omega)
        refine fe_s 1 (pc' := cond (fx_cb .eq 1 0) 101 87) (lc' := [(2, .int 10), (0, .ref 0), (1, .int (nI (3846 + (6 * n))))]) (stk' := []) (mem' := fm gc31 tp bt ao30 b) (fun _ _ _ => rfl) ?_
        rw [show (fx_cb .eq 1 0) = false from by decide]
        dsimp only [cond]
        refine fe_s 4 (pc' := 91) (lc' := [(2, .int 10), (0, .ref 0), (1, .int (nI (3846 + (6 * n))))]) (stk' := [.int ((nI (3846 + (6 * n))) + 2), .ref 0]) (mem' := fm gc31 tp bt ao30 b) (fun _ _ _ => rfl) ?_
        rw [show ((nI (3846 + (6 * n))) + 2 : Int32) = nI ((3846 + (6 * n)) + 2) from by simp only [show (2 : Int32) = nI 2 from rfl, nI_add, fm_mul]]
        obtain ⟨vo32, memo32, ⟨xo32, go32, Eo32, Fo32, ao32, hoo32, hvo32, hRo32⟩, hfro32⟩ := fr_cellTo (T := (3846 + (6 * n)) + 2) (g := gc31) (tp := tp) (bt := bt) (a := ao30) (b := b) goc31.2.1 goc31.2.2.1 (by have := hCo30.2.2.2.2.2.2.2.1; omega) ((f0 hCo30).trans hH.1) hH.2.1
        cases hRo32
        have goo32 := fm_go_tr goc31 hoo32
        refine fe_ivV hfro32 (by omega) (by rfl) (by rfl) (by rfl) (by rfl) (by rfl) (by rfl) ?_
        rcases hvo32 with ⟨rfl, hzo32, hao32⟩ | ⟨rfl, heo32, hpo32, ko32, hko32, hao32⟩
        · obtain ⟨yo32, hCo32⟩ : ∃ y, fm_TC a0 ao32 n 1810 y := by
            rcases hao32 with e | e
            · exact ⟨_, by rw [e]; exact hCo30⟩
            · exact ⟨_, by rw [e, show (3846 + (6 * n)) + 2 = 3848 + 6 * n by omega]; exact fm_TC_2 hCo30 (by decide) (by decide)⟩
          have h8o32 : ao32 8 = a 8 := hao32.elim (fun e => (congrFun e 8).trans h8o30) (fun e => (congrFun e 8).trans ((fm_ut (by decide)).trans h8o30))
          refine fe_s 1 (pc' := cond (fx_cb .eq 0 0) 101 97) (lc' := [(2, .int 10), (0, .ref 0), (1, .int (nI (3846 + (6 * n))))]) (stk' := []) (mem' := fm go32 tp bt ao32 b) (fun _ _ _ => rfl) ?_
          rw [show (fx_cb .eq 0 0) = true from by decide]
          dsimp only [cond]
          refine fe_s 1 (pc' := 102) (lc' := [(2, .int 10), (0, .ref 0), (1, .int (nI (3846 + (6 * n))))]) (stk' := [.int 0]) (mem' := fm go32 tp bt ao32 b) (fun _ _ _ => rfl) ?_
          exact fe_ret ⟨_, _, _, _, _, _, _, goo32, hCo32, h8o32, Or.inl ⟨rfl, hzo32⟩, rfl⟩ (by rfl) (by rfl) (by rfl)
        · have e18o32 : go32 18 = g 18 := heo32.trans e18c31
          have pro32 : go32 12 = 0 ∨ E < Eo32 := hpo32.imp id (fun z => by have := goc31.2.2.2; omega)
          have hk9o32 : ko32 < 10 := by have := hH.2.1; omega
          have hCo32 : fm_TC a0 ao32 n 1810 (nI ko30) := by rw [hao32]; rw [show (3846 + (6 * n)) + 2 = 3848 + 6 * n by omega]; exact fm_TC_2 hCo30 (by rw [nI_i32 (by omega)]; omega) (by rw [nI_i32 (by omega)]; omega)
          have h8o32 : ao32 8 = a 8 := (congrFun hao32 8).trans ((fm_ut (by decide)).trans h8o30)
          refine fe_s 1 (pc' := cond (fx_cb .eq 1 0) 101 97) (lc' := [(2, .int 10), (0, .ref 0), (1, .int (nI (3846 + (6 * n))))]) (stk' := []) (mem' := fm go32 tp bt ao32 b) (fun _ _ _ => rfl) ?_
          rw [show (fx_cb .eq 1 0) = false from by decide]
          dsimp only [cond]
          refine fe_s 2 (pc' := 102) (lc' := [(2, .int 10), (0, .ref 0), (1, .int (nI (3846 + (6 * n))))]) (stk' := [.int 1]) (mem' := fm go32 tp bt ao32 b) (fun _ _ _ => rfl) ?_
          exact fe_ret ⟨_, _, _, _, _, _, _, goo32, hCo32, h8o32, Or.inr ⟨rfl, e18o32, fm_ro_w (by rw [nI_i32 (by omega)]; omega) (by rw [nI_i32 (by omega)]; omega)⟩, rfl⟩ (by rfl) (by rfl) (by rfl)
  · refine fe_s 3 (pc' := 10) (lc' := [(2, .int 11), (0, .ref 0), (1, .int (nI (3846 + (6 * n))))]) (stk' := [.int 8, .int 11]) (mem' := fm g tp bt a b) (fun _ _ _ => rfl) ?_
    refine fe_s 1 (pc' := cond (fx_cb .eq 11 8) 31 13) (lc' := [(2, .int 11), (0, .ref 0), (1, .int (nI (3846 + (6 * n))))]) (stk' := []) (mem' := fm g tp bt a b) (fun _ _ _ => rfl) ?_
    rw [show (fx_cb .eq 11 8) = false from by decide]
    dsimp only [cond]
    refine fe_s 2 (pc' := 16) (lc' := [(2, .int 11), (0, .ref 0), (1, .int (nI (3846 + (6 * n))))]) (stk' := [.int 10, .int 11]) (mem' := fm g tp bt a b) (fun _ _ _ => rfl) ?_
    refine fe_s 1 (pc' := cond (fx_cb .eq 11 10) 31 19) (lc' := [(2, .int 11), (0, .ref 0), (1, .int (nI (3846 + (6 * n))))]) (stk' := []) (mem' := fm g tp bt a b) (fun _ _ _ => rfl) ?_
    rw [show (fx_cb .eq 11 10) = false from by decide]
    dsimp only [cond]
    refine fe_s 2 (pc' := 22) (lc' := [(2, .int 11), (0, .ref 0), (1, .int (nI (3846 + (6 * n))))]) (stk' := [.int 22, .int 11]) (mem' := fm g tp bt a b) (fun _ _ _ => rfl) ?_
    refine fe_s 1 (pc' := cond (fx_cb .eq 11 22) 31 25) (lc' := [(2, .int 11), (0, .ref 0), (1, .int (nI (3846 + (6 * n))))]) (stk' := []) (mem' := fm g tp bt a b) (fun _ _ _ => rfl) ?_
    rw [show (fx_cb .eq 11 22) = false from by decide]
    dsimp only [cond]
    refine fe_s 2 (pc' := 27) (lc' := [(2, .int 11), (0, .ref 0), (1, .int (nI (3846 + (6 * n))))]) (stk' := [.int 2, .ref 0]) (mem' := fm g tp bt a b) (fun _ _ _ => rfl) ?_
    obtain ⟨gf33, hfrf33, hof33, hzf33⟩ := fr_failsq (x := 2) (g := g) (tp := tp) (bt := bt) (a := a) (b := b) (by omega) (by omega) (fm_go_rf hxp hfl).2.1 (fm_go_rf hxp hfl).2.2.1
    have gof33 := fm_go_tr (fm_go_rf hxp hfl) hof33
    refine fe_ivV hfrf33 (by omega) (by rfl) (by rfl) (by rfl) (by rfl) (by rfl) (by rfl) ?_
    exact fe_ret ⟨_, _, _, _, _, _, _, gof33, hC, rfl, Or.inl ⟨rfl, hzf33⟩, rfl⟩ (by rfl) (by rfl) (by rfl)
  · refine fe_s 3 (pc' := 10) (lc' := [(2, .int 12), (0, .ref 0), (1, .int (nI (3846 + (6 * n))))]) (stk' := [.int 8, .int 12]) (mem' := fm g tp bt a b) (fun _ _ _ => rfl) ?_
    refine fe_s 1 (pc' := cond (fx_cb .eq 12 8) 31 13) (lc' := [(2, .int 12), (0, .ref 0), (1, .int (nI (3846 + (6 * n))))]) (stk' := []) (mem' := fm g tp bt a b) (fun _ _ _ => rfl) ?_
    rw [show (fx_cb .eq 12 8) = false from by decide]
    dsimp only [cond]
    refine fe_s 2 (pc' := 16) (lc' := [(2, .int 12), (0, .ref 0), (1, .int (nI (3846 + (6 * n))))]) (stk' := [.int 10, .int 12]) (mem' := fm g tp bt a b) (fun _ _ _ => rfl) ?_
    refine fe_s 1 (pc' := cond (fx_cb .eq 12 10) 31 19) (lc' := [(2, .int 12), (0, .ref 0), (1, .int (nI (3846 + (6 * n))))]) (stk' := []) (mem' := fm g tp bt a b) (fun _ _ _ => rfl) ?_
    rw [show (fx_cb .eq 12 10) = false from by decide]
    dsimp only [cond]
    refine fe_s 2 (pc' := 22) (lc' := [(2, .int 12), (0, .ref 0), (1, .int (nI (3846 + (6 * n))))]) (stk' := [.int 22, .int 12]) (mem' := fm g tp bt a b) (fun _ _ _ => rfl) ?_
    refine fe_s 1 (pc' := cond (fx_cb .eq 12 22) 31 25) (lc' := [(2, .int 12), (0, .ref 0), (1, .int (nI (3846 + (6 * n))))]) (stk' := []) (mem' := fm g tp bt a b) (fun _ _ _ => rfl) ?_
    rw [show (fx_cb .eq 12 22) = false from by decide]
    dsimp only [cond]
    refine fe_s 2 (pc' := 27) (lc' := [(2, .int 12), (0, .ref 0), (1, .int (nI (3846 + (6 * n))))]) (stk' := [.int 2, .ref 0]) (mem' := fm g tp bt a b) (fun _ _ _ => rfl) ?_
    obtain ⟨gf34, hfrf34, hof34, hzf34⟩ := fr_failsq (x := 2) (g := g) (tp := tp) (bt := bt) (a := a) (b := b) (by omega) (by omega) (fm_go_rf hxp hfl).2.1 (fm_go_rf hxp hfl).2.2.1
    have gof34 := fm_go_tr (fm_go_rf hxp hfl) hof34
    refine fe_ivV hfrf34 (by omega) (by rfl) (by rfl) (by rfl) (by rfl) (by rfl) (by rfl) ?_
    exact fe_ret ⟨_, _, _, _, _, _, _, gof34, hC, rfl, Or.inl ⟨rfl, hzf34⟩, rfl⟩ (by rfl) (by rfl) (by rfl)
  · refine fe_s 3 (pc' := 10) (lc' := [(2, .int 13), (0, .ref 0), (1, .int (nI (3846 + (6 * n))))]) (stk' := [.int 8, .int 13]) (mem' := fm g tp bt a b) (fun _ _ _ => rfl) ?_
    refine fe_s 1 (pc' := cond (fx_cb .eq 13 8) 31 13) (lc' := [(2, .int 13), (0, .ref 0), (1, .int (nI (3846 + (6 * n))))]) (stk' := []) (mem' := fm g tp bt a b) (fun _ _ _ => rfl) ?_
    rw [show (fx_cb .eq 13 8) = false from by decide]
    dsimp only [cond]
    refine fe_s 2 (pc' := 16) (lc' := [(2, .int 13), (0, .ref 0), (1, .int (nI (3846 + (6 * n))))]) (stk' := [.int 10, .int 13]) (mem' := fm g tp bt a b) (fun _ _ _ => rfl) ?_
    refine fe_s 1 (pc' := cond (fx_cb .eq 13 10) 31 19) (lc' := [(2, .int 13), (0, .ref 0), (1, .int (nI (3846 + (6 * n))))]) (stk' := []) (mem' := fm g tp bt a b) (fun _ _ _ => rfl) ?_
    rw [show (fx_cb .eq 13 10) = false from by decide]
    dsimp only [cond]
    refine fe_s 2 (pc' := 22) (lc' := [(2, .int 13), (0, .ref 0), (1, .int (nI (3846 + (6 * n))))]) (stk' := [.int 22, .int 13]) (mem' := fm g tp bt a b) (fun _ _ _ => rfl) ?_
    refine fe_s 1 (pc' := cond (fx_cb .eq 13 22) 31 25) (lc' := [(2, .int 13), (0, .ref 0), (1, .int (nI (3846 + (6 * n))))]) (stk' := []) (mem' := fm g tp bt a b) (fun _ _ _ => rfl) ?_
    rw [show (fx_cb .eq 13 22) = false from by decide]
    dsimp only [cond]
    refine fe_s 2 (pc' := 27) (lc' := [(2, .int 13), (0, .ref 0), (1, .int (nI (3846 + (6 * n))))]) (stk' := [.int 2, .ref 0]) (mem' := fm g tp bt a b) (fun _ _ _ => rfl) ?_
    obtain ⟨gf35, hfrf35, hof35, hzf35⟩ := fr_failsq (x := 2) (g := g) (tp := tp) (bt := bt) (a := a) (b := b) (by omega) (by omega) (fm_go_rf hxp hfl).2.1 (fm_go_rf hxp hfl).2.2.1
    have gof35 := fm_go_tr (fm_go_rf hxp hfl) hof35
    refine fe_ivV hfrf35 (by omega) (by rfl) (by rfl) (by rfl) (by rfl) (by rfl) (by rfl) ?_
    exact fe_ret ⟨_, _, _, _, _, _, _, gof35, hC, rfl, Or.inl ⟨rfl, hzf35⟩, rfl⟩ (by rfl) (by rfl) (by rfl)
  · refine fe_s 3 (pc' := 10) (lc' := [(2, .int 14), (0, .ref 0), (1, .int (nI (3846 + (6 * n))))]) (stk' := [.int 8, .int 14]) (mem' := fm g tp bt a b) (fun _ _ _ => rfl) ?_
    refine fe_s 1 (pc' := cond (fx_cb .eq 14 8) 31 13) (lc' := [(2, .int 14), (0, .ref 0), (1, .int (nI (3846 + (6 * n))))]) (stk' := []) (mem' := fm g tp bt a b) (fun _ _ _ => rfl) ?_
    rw [show (fx_cb .eq 14 8) = false from by decide]
    dsimp only [cond]
    refine fe_s 2 (pc' := 16) (lc' := [(2, .int 14), (0, .ref 0), (1, .int (nI (3846 + (6 * n))))]) (stk' := [.int 10, .int 14]) (mem' := fm g tp bt a b) (fun _ _ _ => rfl) ?_
    refine fe_s 1 (pc' := cond (fx_cb .eq 14 10) 31 19) (lc' := [(2, .int 14), (0, .ref 0), (1, .int (nI (3846 + (6 * n))))]) (stk' := []) (mem' := fm g tp bt a b) (fun _ _ _ => rfl) ?_
    rw [show (fx_cb .eq 14 10) = false from by decide]
    dsimp only [cond]
    refine fe_s 2 (pc' := 22) (lc' := [(2, .int 14), (0, .ref 0), (1, .int (nI (3846 + (6 * n))))]) (stk' := [.int 22, .int 14]) (mem' := fm g tp bt a b) (fun _ _ _ => rfl) ?_
    refine fe_s 1 (pc' := cond (fx_cb .eq 14 22) 31 25) (lc' := [(2, .int 14), (0, .ref 0), (1, .int (nI (3846 + (6 * n))))]) (stk' := []) (mem' := fm g tp bt a b) (fun _ _ _ => rfl) ?_
    rw [show (fx_cb .eq 14 22) = false from by decide]
    dsimp only [cond]
    refine fe_s 2 (pc' := 27) (lc' := [(2, .int 14), (0, .ref 0), (1, .int (nI (3846 + (6 * n))))]) (stk' := [.int 2, .ref 0]) (mem' := fm g tp bt a b) (fun _ _ _ => rfl) ?_
    obtain ⟨gf36, hfrf36, hof36, hzf36⟩ := fr_failsq (x := 2) (g := g) (tp := tp) (bt := bt) (a := a) (b := b) (by omega) (by omega) (fm_go_rf hxp hfl).2.1 (fm_go_rf hxp hfl).2.2.1
    have gof36 := fm_go_tr (fm_go_rf hxp hfl) hof36
    refine fe_ivV hfrf36 (by omega) (by rfl) (by rfl) (by rfl) (by rfl) (by rfl) (by rfl) ?_
    exact fe_ret ⟨_, _, _, _, _, _, _, gof36, hC, rfl, Or.inl ⟨rfl, hzf36⟩, rfl⟩ (by rfl) (by rfl) (by rfl)
  · refine fe_s 3 (pc' := 10) (lc' := [(2, .int 15), (0, .ref 0), (1, .int (nI (3846 + (6 * n))))]) (stk' := [.int 8, .int 15]) (mem' := fm g tp bt a b) (fun _ _ _ => rfl) ?_
    refine fe_s 1 (pc' := cond (fx_cb .eq 15 8) 31 13) (lc' := [(2, .int 15), (0, .ref 0), (1, .int (nI (3846 + (6 * n))))]) (stk' := []) (mem' := fm g tp bt a b) (fun _ _ _ => rfl) ?_
    rw [show (fx_cb .eq 15 8) = false from by decide]
    dsimp only [cond]
    refine fe_s 2 (pc' := 16) (lc' := [(2, .int 15), (0, .ref 0), (1, .int (nI (3846 + (6 * n))))]) (stk' := [.int 10, .int 15]) (mem' := fm g tp bt a b) (fun _ _ _ => rfl) ?_
    refine fe_s 1 (pc' := cond (fx_cb .eq 15 10) 31 19) (lc' := [(2, .int 15), (0, .ref 0), (1, .int (nI (3846 + (6 * n))))]) (stk' := []) (mem' := fm g tp bt a b) (fun _ _ _ => rfl) ?_
    rw [show (fx_cb .eq 15 10) = false from by decide]
    dsimp only [cond]
    refine fe_s 2 (pc' := 22) (lc' := [(2, .int 15), (0, .ref 0), (1, .int (nI (3846 + (6 * n))))]) (stk' := [.int 22, .int 15]) (mem' := fm g tp bt a b) (fun _ _ _ => rfl) ?_
    refine fe_s 1 (pc' := cond (fx_cb .eq 15 22) 31 25) (lc' := [(2, .int 15), (0, .ref 0), (1, .int (nI (3846 + (6 * n))))]) (stk' := []) (mem' := fm g tp bt a b) (fun _ _ _ => rfl) ?_
    rw [show (fx_cb .eq 15 22) = false from by decide]
    dsimp only [cond]
    refine fe_s 2 (pc' := 27) (lc' := [(2, .int 15), (0, .ref 0), (1, .int (nI (3846 + (6 * n))))]) (stk' := [.int 2, .ref 0]) (mem' := fm g tp bt a b) (fun _ _ _ => rfl) ?_
    obtain ⟨gf37, hfrf37, hof37, hzf37⟩ := fr_failsq (x := 2) (g := g) (tp := tp) (bt := bt) (a := a) (b := b) (by omega) (by omega) (fm_go_rf hxp hfl).2.1 (fm_go_rf hxp hfl).2.2.1
    have gof37 := fm_go_tr (fm_go_rf hxp hfl) hof37
    refine fe_ivV hfrf37 (by omega) (by rfl) (by rfl) (by rfl) (by rfl) (by rfl) (by rfl) ?_
    exact fe_ret ⟨_, _, _, _, _, _, _, gof37, hC, rfl, Or.inl ⟨rfl, hzf37⟩, rfl⟩ (by rfl) (by rfl) (by rfl)
  · refine fe_s 3 (pc' := 10) (lc' := [(2, .int 16), (0, .ref 0), (1, .int (nI (3846 + (6 * n))))]) (stk' := [.int 8, .int 16]) (mem' := fm g tp bt a b) (fun _ _ _ => rfl) ?_
    refine fe_s 1 (pc' := cond (fx_cb .eq 16 8) 31 13) (lc' := [(2, .int 16), (0, .ref 0), (1, .int (nI (3846 + (6 * n))))]) (stk' := []) (mem' := fm g tp bt a b) (fun _ _ _ => rfl) ?_
    rw [show (fx_cb .eq 16 8) = false from by decide]
    dsimp only [cond]
    refine fe_s 2 (pc' := 16) (lc' := [(2, .int 16), (0, .ref 0), (1, .int (nI (3846 + (6 * n))))]) (stk' := [.int 10, .int 16]) (mem' := fm g tp bt a b) (fun _ _ _ => rfl) ?_
    refine fe_s 1 (pc' := cond (fx_cb .eq 16 10) 31 19) (lc' := [(2, .int 16), (0, .ref 0), (1, .int (nI (3846 + (6 * n))))]) (stk' := []) (mem' := fm g tp bt a b) (fun _ _ _ => rfl) ?_
    rw [show (fx_cb .eq 16 10) = false from by decide]
    dsimp only [cond]
    refine fe_s 2 (pc' := 22) (lc' := [(2, .int 16), (0, .ref 0), (1, .int (nI (3846 + (6 * n))))]) (stk' := [.int 22, .int 16]) (mem' := fm g tp bt a b) (fun _ _ _ => rfl) ?_
    refine fe_s 1 (pc' := cond (fx_cb .eq 16 22) 31 25) (lc' := [(2, .int 16), (0, .ref 0), (1, .int (nI (3846 + (6 * n))))]) (stk' := []) (mem' := fm g tp bt a b) (fun _ _ _ => rfl) ?_
    rw [show (fx_cb .eq 16 22) = false from by decide]
    dsimp only [cond]
    refine fe_s 2 (pc' := 27) (lc' := [(2, .int 16), (0, .ref 0), (1, .int (nI (3846 + (6 * n))))]) (stk' := [.int 2, .ref 0]) (mem' := fm g tp bt a b) (fun _ _ _ => rfl) ?_
    obtain ⟨gf38, hfrf38, hof38, hzf38⟩ := fr_failsq (x := 2) (g := g) (tp := tp) (bt := bt) (a := a) (b := b) (by omega) (by omega) (fm_go_rf hxp hfl).2.1 (fm_go_rf hxp hfl).2.2.1
    have gof38 := fm_go_tr (fm_go_rf hxp hfl) hof38
    refine fe_ivV hfrf38 (by omega) (by rfl) (by rfl) (by rfl) (by rfl) (by rfl) (by rfl) ?_
    exact fe_ret ⟨_, _, _, _, _, _, _, gof38, hC, rfl, Or.inl ⟨rfl, hzf38⟩, rfl⟩ (by rfl) (by rfl) (by rfl)
  · refine fe_s 3 (pc' := 10) (lc' := [(2, .int 17), (0, .ref 0), (1, .int (nI (3846 + (6 * n))))]) (stk' := [.int 8, .int 17]) (mem' := fm g tp bt a b) (fun _ _ _ => rfl) ?_
    refine fe_s 1 (pc' := cond (fx_cb .eq 17 8) 31 13) (lc' := [(2, .int 17), (0, .ref 0), (1, .int (nI (3846 + (6 * n))))]) (stk' := []) (mem' := fm g tp bt a b) (fun _ _ _ => rfl) ?_
    rw [show (fx_cb .eq 17 8) = false from by decide]
    dsimp only [cond]
    refine fe_s 2 (pc' := 16) (lc' := [(2, .int 17), (0, .ref 0), (1, .int (nI (3846 + (6 * n))))]) (stk' := [.int 10, .int 17]) (mem' := fm g tp bt a b) (fun _ _ _ => rfl) ?_
    refine fe_s 1 (pc' := cond (fx_cb .eq 17 10) 31 19) (lc' := [(2, .int 17), (0, .ref 0), (1, .int (nI (3846 + (6 * n))))]) (stk' := []) (mem' := fm g tp bt a b) (fun _ _ _ => rfl) ?_
    rw [show (fx_cb .eq 17 10) = false from by decide]
    dsimp only [cond]
    refine fe_s 2 (pc' := 22) (lc' := [(2, .int 17), (0, .ref 0), (1, .int (nI (3846 + (6 * n))))]) (stk' := [.int 22, .int 17]) (mem' := fm g tp bt a b) (fun _ _ _ => rfl) ?_
    refine fe_s 1 (pc' := cond (fx_cb .eq 17 22) 31 25) (lc' := [(2, .int 17), (0, .ref 0), (1, .int (nI (3846 + (6 * n))))]) (stk' := []) (mem' := fm g tp bt a b) (fun _ _ _ => rfl) ?_
    rw [show (fx_cb .eq 17 22) = false from by decide]
    dsimp only [cond]
    refine fe_s 2 (pc' := 27) (lc' := [(2, .int 17), (0, .ref 0), (1, .int (nI (3846 + (6 * n))))]) (stk' := [.int 2, .ref 0]) (mem' := fm g tp bt a b) (fun _ _ _ => rfl) ?_
    obtain ⟨gf39, hfrf39, hof39, hzf39⟩ := fr_failsq (x := 2) (g := g) (tp := tp) (bt := bt) (a := a) (b := b) (by omega) (by omega) (fm_go_rf hxp hfl).2.1 (fm_go_rf hxp hfl).2.2.1
    have gof39 := fm_go_tr (fm_go_rf hxp hfl) hof39
    refine fe_ivV hfrf39 (by omega) (by rfl) (by rfl) (by rfl) (by rfl) (by rfl) (by rfl) ?_
    exact fe_ret ⟨_, _, _, _, _, _, _, gof39, hC, rfl, Or.inl ⟨rfl, hzf39⟩, rfl⟩ (by rfl) (by rfl) (by rfl)
  · refine fe_s 3 (pc' := 10) (lc' := [(2, .int 18), (0, .ref 0), (1, .int (nI (3846 + (6 * n))))]) (stk' := [.int 8, .int 18]) (mem' := fm g tp bt a b) (fun _ _ _ => rfl) ?_
    refine fe_s 1 (pc' := cond (fx_cb .eq 18 8) 31 13) (lc' := [(2, .int 18), (0, .ref 0), (1, .int (nI (3846 + (6 * n))))]) (stk' := []) (mem' := fm g tp bt a b) (fun _ _ _ => rfl) ?_
    rw [show (fx_cb .eq 18 8) = false from by decide]
    dsimp only [cond]
    refine fe_s 2 (pc' := 16) (lc' := [(2, .int 18), (0, .ref 0), (1, .int (nI (3846 + (6 * n))))]) (stk' := [.int 10, .int 18]) (mem' := fm g tp bt a b) (fun _ _ _ => rfl) ?_
    refine fe_s 1 (pc' := cond (fx_cb .eq 18 10) 31 19) (lc' := [(2, .int 18), (0, .ref 0), (1, .int (nI (3846 + (6 * n))))]) (stk' := []) (mem' := fm g tp bt a b) (fun _ _ _ => rfl) ?_
    rw [show (fx_cb .eq 18 10) = false from by decide]
    dsimp only [cond]
    refine fe_s 2 (pc' := 22) (lc' := [(2, .int 18), (0, .ref 0), (1, .int (nI (3846 + (6 * n))))]) (stk' := [.int 22, .int 18]) (mem' := fm g tp bt a b) (fun _ _ _ => rfl) ?_
    refine fe_s 1 (pc' := cond (fx_cb .eq 18 22) 31 25) (lc' := [(2, .int 18), (0, .ref 0), (1, .int (nI (3846 + (6 * n))))]) (stk' := []) (mem' := fm g tp bt a b) (fun _ _ _ => rfl) ?_
    rw [show (fx_cb .eq 18 22) = false from by decide]
    dsimp only [cond]
    refine fe_s 2 (pc' := 27) (lc' := [(2, .int 18), (0, .ref 0), (1, .int (nI (3846 + (6 * n))))]) (stk' := [.int 2, .ref 0]) (mem' := fm g tp bt a b) (fun _ _ _ => rfl) ?_
    obtain ⟨gf40, hfrf40, hof40, hzf40⟩ := fr_failsq (x := 2) (g := g) (tp := tp) (bt := bt) (a := a) (b := b) (by omega) (by omega) (fm_go_rf hxp hfl).2.1 (fm_go_rf hxp hfl).2.2.1
    have gof40 := fm_go_tr (fm_go_rf hxp hfl) hof40
    refine fe_ivV hfrf40 (by omega) (by rfl) (by rfl) (by rfl) (by rfl) (by rfl) (by rfl) ?_
    exact fe_ret ⟨_, _, _, _, _, _, _, gof40, hC, rfl, Or.inl ⟨rfl, hzf40⟩, rfl⟩ (by rfl) (by rfl) (by rfl)
  · refine fe_s 3 (pc' := 10) (lc' := [(2, .int 19), (0, .ref 0), (1, .int (nI (3846 + (6 * n))))]) (stk' := [.int 8, .int 19]) (mem' := fm g tp bt a b) (fun _ _ _ => rfl) ?_
    refine fe_s 1 (pc' := cond (fx_cb .eq 19 8) 31 13) (lc' := [(2, .int 19), (0, .ref 0), (1, .int (nI (3846 + (6 * n))))]) (stk' := []) (mem' := fm g tp bt a b) (fun _ _ _ => rfl) ?_
    rw [show (fx_cb .eq 19 8) = false from by decide]
    dsimp only [cond]
    refine fe_s 2 (pc' := 16) (lc' := [(2, .int 19), (0, .ref 0), (1, .int (nI (3846 + (6 * n))))]) (stk' := [.int 10, .int 19]) (mem' := fm g tp bt a b) (fun _ _ _ => rfl) ?_
    refine fe_s 1 (pc' := cond (fx_cb .eq 19 10) 31 19) (lc' := [(2, .int 19), (0, .ref 0), (1, .int (nI (3846 + (6 * n))))]) (stk' := []) (mem' := fm g tp bt a b) (fun _ _ _ => rfl) ?_
    rw [show (fx_cb .eq 19 10) = false from by decide]
    dsimp only [cond]
    refine fe_s 2 (pc' := 22) (lc' := [(2, .int 19), (0, .ref 0), (1, .int (nI (3846 + (6 * n))))]) (stk' := [.int 22, .int 19]) (mem' := fm g tp bt a b) (fun _ _ _ => rfl) ?_
    refine fe_s 1 (pc' := cond (fx_cb .eq 19 22) 31 25) (lc' := [(2, .int 19), (0, .ref 0), (1, .int (nI (3846 + (6 * n))))]) (stk' := []) (mem' := fm g tp bt a b) (fun _ _ _ => rfl) ?_
    rw [show (fx_cb .eq 19 22) = false from by decide]
    dsimp only [cond]
    refine fe_s 2 (pc' := 27) (lc' := [(2, .int 19), (0, .ref 0), (1, .int (nI (3846 + (6 * n))))]) (stk' := [.int 2, .ref 0]) (mem' := fm g tp bt a b) (fun _ _ _ => rfl) ?_
    obtain ⟨gf41, hfrf41, hof41, hzf41⟩ := fr_failsq (x := 2) (g := g) (tp := tp) (bt := bt) (a := a) (b := b) (by omega) (by omega) (fm_go_rf hxp hfl).2.1 (fm_go_rf hxp hfl).2.2.1
    have gof41 := fm_go_tr (fm_go_rf hxp hfl) hof41
    refine fe_ivV hfrf41 (by omega) (by rfl) (by rfl) (by rfl) (by rfl) (by rfl) (by rfl) ?_
    exact fe_ret ⟨_, _, _, _, _, _, _, gof41, hC, rfl, Or.inl ⟨rfl, hzf41⟩, rfl⟩ (by rfl) (by rfl) (by rfl)
  · refine fe_s 3 (pc' := 10) (lc' := [(2, .int 20), (0, .ref 0), (1, .int (nI (3846 + (6 * n))))]) (stk' := [.int 8, .int 20]) (mem' := fm g tp bt a b) (fun _ _ _ => rfl) ?_
    refine fe_s 1 (pc' := cond (fx_cb .eq 20 8) 31 13) (lc' := [(2, .int 20), (0, .ref 0), (1, .int (nI (3846 + (6 * n))))]) (stk' := []) (mem' := fm g tp bt a b) (fun _ _ _ => rfl) ?_
    rw [show (fx_cb .eq 20 8) = false from by decide]
    dsimp only [cond]
    refine fe_s 2 (pc' := 16) (lc' := [(2, .int 20), (0, .ref 0), (1, .int (nI (3846 + (6 * n))))]) (stk' := [.int 10, .int 20]) (mem' := fm g tp bt a b) (fun _ _ _ => rfl) ?_
    refine fe_s 1 (pc' := cond (fx_cb .eq 20 10) 31 19) (lc' := [(2, .int 20), (0, .ref 0), (1, .int (nI (3846 + (6 * n))))]) (stk' := []) (mem' := fm g tp bt a b) (fun _ _ _ => rfl) ?_
    rw [show (fx_cb .eq 20 10) = false from by decide]
    dsimp only [cond]
    refine fe_s 2 (pc' := 22) (lc' := [(2, .int 20), (0, .ref 0), (1, .int (nI (3846 + (6 * n))))]) (stk' := [.int 22, .int 20]) (mem' := fm g tp bt a b) (fun _ _ _ => rfl) ?_
    refine fe_s 1 (pc' := cond (fx_cb .eq 20 22) 31 25) (lc' := [(2, .int 20), (0, .ref 0), (1, .int (nI (3846 + (6 * n))))]) (stk' := []) (mem' := fm g tp bt a b) (fun _ _ _ => rfl) ?_
    rw [show (fx_cb .eq 20 22) = false from by decide]
    dsimp only [cond]
    refine fe_s 2 (pc' := 27) (lc' := [(2, .int 20), (0, .ref 0), (1, .int (nI (3846 + (6 * n))))]) (stk' := [.int 2, .ref 0]) (mem' := fm g tp bt a b) (fun _ _ _ => rfl) ?_
    obtain ⟨gf42, hfrf42, hof42, hzf42⟩ := fr_failsq (x := 2) (g := g) (tp := tp) (bt := bt) (a := a) (b := b) (by omega) (by omega) (fm_go_rf hxp hfl).2.1 (fm_go_rf hxp hfl).2.2.1
    have gof42 := fm_go_tr (fm_go_rf hxp hfl) hof42
    refine fe_ivV hfrf42 (by omega) (by rfl) (by rfl) (by rfl) (by rfl) (by rfl) (by rfl) ?_
    exact fe_ret ⟨_, _, _, _, _, _, _, gof42, hC, rfl, Or.inl ⟨rfl, hzf42⟩, rfl⟩ (by rfl) (by rfl) (by rfl)
  · refine fe_s 3 (pc' := 10) (lc' := [(2, .int 21), (0, .ref 0), (1, .int (nI (3846 + (6 * n))))]) (stk' := [.int 8, .int 21]) (mem' := fm g tp bt a b) (fun _ _ _ => rfl) ?_
    refine fe_s 1 (pc' := cond (fx_cb .eq 21 8) 31 13) (lc' := [(2, .int 21), (0, .ref 0), (1, .int (nI (3846 + (6 * n))))]) (stk' := []) (mem' := fm g tp bt a b) (fun _ _ _ => rfl) ?_
    rw [show (fx_cb .eq 21 8) = false from by decide]
    dsimp only [cond]
    refine fe_s 2 (pc' := 16) (lc' := [(2, .int 21), (0, .ref 0), (1, .int (nI (3846 + (6 * n))))]) (stk' := [.int 10, .int 21]) (mem' := fm g tp bt a b) (fun _ _ _ => rfl) ?_
    refine fe_s 1 (pc' := cond (fx_cb .eq 21 10) 31 19) (lc' := [(2, .int 21), (0, .ref 0), (1, .int (nI (3846 + (6 * n))))]) (stk' := []) (mem' := fm g tp bt a b) (fun _ _ _ => rfl) ?_
    rw [show (fx_cb .eq 21 10) = false from by decide]
    dsimp only [cond]
    refine fe_s 2 (pc' := 22) (lc' := [(2, .int 21), (0, .ref 0), (1, .int (nI (3846 + (6 * n))))]) (stk' := [.int 22, .int 21]) (mem' := fm g tp bt a b) (fun _ _ _ => rfl) ?_
    refine fe_s 1 (pc' := cond (fx_cb .eq 21 22) 31 25) (lc' := [(2, .int 21), (0, .ref 0), (1, .int (nI (3846 + (6 * n))))]) (stk' := []) (mem' := fm g tp bt a b) (fun _ _ _ => rfl) ?_
    rw [show (fx_cb .eq 21 22) = false from by decide]
    dsimp only [cond]
    refine fe_s 2 (pc' := 27) (lc' := [(2, .int 21), (0, .ref 0), (1, .int (nI (3846 + (6 * n))))]) (stk' := [.int 2, .ref 0]) (mem' := fm g tp bt a b) (fun _ _ _ => rfl) ?_
    obtain ⟨gf43, hfrf43, hof43, hzf43⟩ := fr_failsq (x := 2) (g := g) (tp := tp) (bt := bt) (a := a) (b := b) (by omega) (by omega) (fm_go_rf hxp hfl).2.1 (fm_go_rf hxp hfl).2.2.1
    have gof43 := fm_go_tr (fm_go_rf hxp hfl) hof43
    refine fe_ivV hfrf43 (by omega) (by rfl) (by rfl) (by rfl) (by rfl) (by rfl) (by rfl) ?_
    exact fe_ret ⟨_, _, _, _, _, _, _, gof43, hC, rfl, Or.inl ⟨rfl, hzf43⟩, rfl⟩ (by rfl) (by rfl) (by rfl)
  · refine fe_s 3 (pc' := 10) (lc' := [(2, .int 22), (0, .ref 0), (1, .int (nI (3846 + (6 * n))))]) (stk' := [.int 8, .int 22]) (mem' := fm g tp bt a b) (fun _ _ _ => rfl) ?_
    refine fe_s 1 (pc' := cond (fx_cb .eq 22 8) 31 13) (lc' := [(2, .int 22), (0, .ref 0), (1, .int (nI (3846 + (6 * n))))]) (stk' := []) (mem' := fm g tp bt a b) (fun _ _ _ => rfl) ?_
    rw [show (fx_cb .eq 22 8) = false from by decide]
    dsimp only [cond]
    refine fe_s 2 (pc' := 16) (lc' := [(2, .int 22), (0, .ref 0), (1, .int (nI (3846 + (6 * n))))]) (stk' := [.int 10, .int 22]) (mem' := fm g tp bt a b) (fun _ _ _ => rfl) ?_
    refine fe_s 1 (pc' := cond (fx_cb .eq 22 10) 31 19) (lc' := [(2, .int 22), (0, .ref 0), (1, .int (nI (3846 + (6 * n))))]) (stk' := []) (mem' := fm g tp bt a b) (fun _ _ _ => rfl) ?_
    rw [show (fx_cb .eq 22 10) = false from by decide]
    dsimp only [cond]
    refine fe_s 2 (pc' := 22) (lc' := [(2, .int 22), (0, .ref 0), (1, .int (nI (3846 + (6 * n))))]) (stk' := [.int 22, .int 22]) (mem' := fm g tp bt a b) (fun _ _ _ => rfl) ?_
    refine fe_s 1 (pc' := cond (fx_cb .eq 22 22) 31 25) (lc' := [(2, .int 22), (0, .ref 0), (1, .int (nI (3846 + (6 * n))))]) (stk' := []) (mem' := fm g tp bt a b) (fun _ _ _ => rfl) ?_
    rw [show (fx_cb .eq 22 22) = true from by decide]
    dsimp only [cond]
    refine fe_s 6 (pc' := 41) (lc' := [(2, .int 22), (0, .ref 0), (1, .int (nI (3846 + (6 * n))))]) (stk' := [.int (1800 + 22), .int (nI (3846 + (6 * n))), .ref 1]) (mem' := fm g tp bt a b) (fun _ _ _ => rfl) ?_
    rw [show (1800 + 22 : Int32) = 1822 from rfl]
    refine fe_stI (mem' := fm g tp bt (fm_u a 1 (nI (3846 + (6 * n)) : Int32).toNatClampNeg 1822) b) (by rfl) (by rfl) (fx_inN (i := 3846 + (6 * n)) (by have := hC.2.2.2.2.2.2.2.1; omega) (by omega)) fm_si1 ?_
    rw [show Int32.toNatClampNeg (nI (3846 + (6 * n))) = 3846 + (6 * n) from nI_clamp (by have := hC.2.2.2.2.2.2.2.1; omega)]
    obtain ⟨at44, hat44⟩ : ∃ z, z = fm_u a 1 (3846 + (6 * n)) 1822 := ⟨_, rfl⟩
    rw [← hat44]
    have hCt44 : fm_TC a0 at44 n 1822 0 := by rw [hat44]; rw [show 3846 + (6 * n) = 3846 + 6 * n by omega]; exact fm_TC_0 hC (by decide) (by decide)
    have h8t44 : at44 8 = a 8 := (congrFun hat44 8).trans ((fm_ut (by decide)).trans rfl)
    refine fe_s 1 (pc' := 43) (lc' := [(2, .int 22), (0, .ref 0), (1, .int (nI (3846 + (6 * n))))]) (stk' := [.ref 0]) (mem' := fm g tp bt at44 b) (fun _ _ _ => rfl) ?_
    obtain ⟨gk45, Ek45, Fk45, hfrk45, hok45, hek45, hpk45⟩ := fr_aheadq (g := g) (tp := tp) (bt := bt) (a := at44) (b := b) (fm_go_rf hxp hfl).2.1 (fm_go_rf hxp hfl).2.2.1
    have gok45 := fm_go_tr (fm_go_rf hxp hfl) hok45
    have e18k45 : gk45 18 = g 18 := hek45.trans rfl
    have prk45 : gk45 12 = 0 ∨ E < Ek45 := hpk45.imp id (fun z => by have := (fm_go_rf hxp hfl).2.2.2; omega)
    refine fe_ivV hfrk45 (by omega) (by rfl) (by rfl) (by rfl) (by rfl) (by rfl) (by rfl) ?_
    refine fe_s 2 (pc' := 49) (lc' := [(2, .int 22), (0, .ref 0), (1, .int (nI (3846 + (6 * n))))]) (stk' := [.int 22, .int 22]) (mem' := fm gk45 tp bt at44 b) (fun _ _ _ => rfl) ?_
    refine fe_s 1 (pc' := cond (fx_cb .ne 22 22) 60 52) (lc' := [(2, .int 22), (0, .ref 0), (1, .int (nI (3846 + (6 * n))))]) (stk' := []) (mem' := fm gk45 tp bt at44 b) (fun _ _ _ => rfl) ?_
    rw [show (fx_cb .ne 22 22) = false from by decide]
    dsimp only [cond]
    refine fe_s 4 (pc' := 56) (lc' := [(2, .int 22), (0, .ref 0), (1, .int (nI (3846 + (6 * n))))]) (stk' := [.int ((nI (3846 + (6 * n))) + 1), .ref 0]) (mem' := fm gk45 tp bt at44 b) (fun _ _ _ => rfl) ?_
    rw [show ((nI (3846 + (6 * n))) + 1 : Int32) = nI ((3846 + (6 * n)) + 1) from by simp only [show (1 : Int32) = nI 1 from rfl, nI_add, fm_mul]]
    obtain ⟨vo46, memo46, ⟨xo46, go46, Eo46, Fo46, ao46, hoo46, hvo46, hRo46⟩, hfro46⟩ := fr_walkerTo (T := (3846 + (6 * n)) + 1) (g := gk45) (tp := tp) (bt := bt) (a := at44) (b := b) gok45.2.1 gok45.2.2.1 (by have := hCt44.2.2.2.2.2.2.2.1; omega) ((f1 hCt44).trans hH.2.2.1) hH.2.2.2
    cases hRo46
    have goo46 := fm_go_tr gok45 hoo46
    refine fe_ivV hfro46 (by omega) (by rfl) (by rfl) (by rfl) (by rfl) (by rfl) (by rfl) ?_
    rcases hvo46 with ⟨rfl, hzo46, hao46⟩ | ⟨rfl, heo46, hpo46, ko46, hko46, hao46⟩
    · obtain ⟨yo46, hCo46⟩ : ∃ y, fm_TC a0 ao46 n 1822 y := by
        rcases hao46 with e | e
        · exact ⟨_, by rw [e]; exact hCt44⟩
        · exact ⟨_, by rw [e, show (3846 + (6 * n)) + 1 = 3847 + 6 * n by omega]; exact fm_TC_1 hCt44 (by decide) (by decide)⟩
      have h8o46 : ao46 8 = a 8 := hao46.elim (fun e => (congrFun e 8).trans h8t44) (fun e => (congrFun e 8).trans ((fm_ut (by decide)).trans h8t44))
      exact fe_ret ⟨_, _, _, _, _, _, _, goo46, hCo46, h8o46, Or.inl ⟨rfl, hzo46⟩, rfl⟩ (by rfl) (by rfl) (by rfl)
    · have e18o46 : go46 18 = g 18 := heo46.trans e18k45
      have pro46 : go46 12 = 0 ∨ E < Eo46 := hpo46.imp id (fun z => by have := gok45.2.2.2; omega)
      have hk9o46 : ko46 < 8 := by have := hH.2.2.2; omega
      have hCo46 : fm_TC a0 ao46 n 1822 (nI ko46) := by rw [hao46]; rw [show (3846 + (6 * n)) + 1 = 3847 + 6 * n by omega]; exact fm_TC_1 hCt44 (by rw [nI_i32 (by omega)]; omega) (by rw [nI_i32 (by omega)]; omega)
      have h8o46 : ao46 8 = a 8 := (congrFun hao46 8).trans ((fm_ut (by decide)).trans h8t44)
      exact fe_ret ⟨_, _, _, _, _, _, _, goo46, hCo46, h8o46, Or.inr ⟨rfl, e18o46, fm_ro_w (by rw [nI_i32 (by omega)]; omega) (by rw [nI_i32 (by omega)]; omega)⟩, rfl⟩ (by rfl) (by rfl) (by rfl)
  · refine fe_s 3 (pc' := 10) (lc' := [(2, .int 23), (0, .ref 0), (1, .int (nI (3846 + (6 * n))))]) (stk' := [.int 8, .int 23]) (mem' := fm g tp bt a b) (fun _ _ _ => rfl) ?_
    refine fe_s 1 (pc' := cond (fx_cb .eq 23 8) 31 13) (lc' := [(2, .int 23), (0, .ref 0), (1, .int (nI (3846 + (6 * n))))]) (stk' := []) (mem' := fm g tp bt a b) (fun _ _ _ => rfl) ?_
    rw [show (fx_cb .eq 23 8) = false from by decide]
    dsimp only [cond]
    refine fe_s 2 (pc' := 16) (lc' := [(2, .int 23), (0, .ref 0), (1, .int (nI (3846 + (6 * n))))]) (stk' := [.int 10, .int 23]) (mem' := fm g tp bt a b) (fun _ _ _ => rfl) ?_
    refine fe_s 1 (pc' := cond (fx_cb .eq 23 10) 31 19) (lc' := [(2, .int 23), (0, .ref 0), (1, .int (nI (3846 + (6 * n))))]) (stk' := []) (mem' := fm g tp bt a b) (fun _ _ _ => rfl) ?_
    rw [show (fx_cb .eq 23 10) = false from by decide]
    dsimp only [cond]
    refine fe_s 2 (pc' := 22) (lc' := [(2, .int 23), (0, .ref 0), (1, .int (nI (3846 + (6 * n))))]) (stk' := [.int 22, .int 23]) (mem' := fm g tp bt a b) (fun _ _ _ => rfl) ?_
    refine fe_s 1 (pc' := cond (fx_cb .eq 23 22) 31 25) (lc' := [(2, .int 23), (0, .ref 0), (1, .int (nI (3846 + (6 * n))))]) (stk' := []) (mem' := fm g tp bt a b) (fun _ _ _ => rfl) ?_
    rw [show (fx_cb .eq 23 22) = false from by decide]
    dsimp only [cond]
    refine fe_s 2 (pc' := 27) (lc' := [(2, .int 23), (0, .ref 0), (1, .int (nI (3846 + (6 * n))))]) (stk' := [.int 2, .ref 0]) (mem' := fm g tp bt a b) (fun _ _ _ => rfl) ?_
    obtain ⟨gf47, hfrf47, hof47, hzf47⟩ := fr_failsq (x := 2) (g := g) (tp := tp) (bt := bt) (a := a) (b := b) (by omega) (by omega) (fm_go_rf hxp hfl).2.1 (fm_go_rf hxp hfl).2.2.1
    have gof47 := fm_go_tr (fm_go_rf hxp hfl) hof47
    refine fe_ivV hfrf47 (by omega) (by rfl) (by rfl) (by rfl) (by rfl) (by rfl) (by rfl) ?_
    exact fe_ret ⟨_, _, _, _, _, _, _, gof47, hC, rfl, Or.inl ⟨rfl, hzf47⟩, rfl⟩ (by rfl) (by rfl) (by rfl)
end F486_test
