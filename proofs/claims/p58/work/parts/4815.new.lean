/-! ===== fx: a new name ===== -/
section FNN
variable {g : Nat → Int32} {tp bt : Int64} {a : Nat → Nat → Int32} {b : Nat → Nat → Int64}
def fm_uL (b : Nat → Nat → Int64) (t i : Nat) (v : Int64) : Nat → Nat → Int64 := fun t2 => if t2 = t then vp_updL (b t) i v else b t2
def fm_FM (g : Nat → Int32) (tp bt : Int64) (a : Nat → Nat → Int32) (b : Nat → Nat → Int64) (S E i L : Nat) (R : Option Value × fx_M) : Prop := ∃ (v : Int32) (g' : Nat → Int32) (E' F' : Nat) (b' : Nat → Nat → Int64), fm_go g g' S E E' F' ∧ (v = 0 ∧ ¬ g' 18 = 0 ∧ b' = b ∨ v = 1 ∧ g' 18 = g 18 ∧ (g' 12 = 0 ∨ E < E') ∧ i ≠ L ∧ ∃ nm, b' = fm_uL b 2 i nm) ∧ R = (some (.int v), fm g' tp bt a b')
theorem fr_newOne0 {S E F NC NW : Nat} (hxp : fm_xp g S E F) (hfl : fm_flt g) (hn : fm_tn a NC NW) : ∃ (v : Option Value) (mem' : fx_M), (fm_FM g tp bt a b S E (72 + NC) 82) (v, mem') ∧ fr_T 6 237 [.ref 0, .int 0, .int 10, .int 0] (fm g tp bt a b) v mem' := by
  have hNC := hn.2.1
  have hNW := hn.2.2.2
  refine fe_meth (F := fm_FM g tp bt a b S E (72 + NC) 82) (M := gk_m237) (by rfl) (by rfl) ?_
  refine fe_s 5 (pc' := 9) (lc' := [(0, .ref 0), (1, .int 0), (2, .int 10), (3, .int 0)]) (stk' := [.int (3368 + 0), .ref 1]) (mem' := fm g tp bt a b) (by intro _ _ _; eq_refl) ?_
  rw [show (3368 + 0 : Int32) = 3368 from rfl]
  refine fe_ldI (by rfl) (by rfl) (fx_inN (i := 3368) (by omega) (by omega)) ?_
  rw [show Int32.toNatClampNeg (3368) = 3368 from rfl]
  rw [hn.1]
  refine fe_s 1 (pc' := 11) (lc' := [(0, .ref 0), (1, .int 0), (2, .int 10), (3, .int 0)]) (stk' := [.int 10, .int (nI NC)]) (mem' := fm g tp bt a b) (by intro _ _ _; eq_refl) ?_
  refine fe_s 1 (pc' := cond (fx_cb .ne (nI NC) 10) 21 14) (lc' := [(0, .ref 0), (1, .int 0), (2, .int 10), (3, .int 0)]) (stk' := []) (mem' := fm g tp bt a b) (by intro _ _ _; eq_refl) ?_
  by_cases h1 : NC = 10
  · rw [show (fx_cb .ne (nI NC) 10) = false from cb_neF (a := NC) (b := 10) (by omega) (by omega) (by omega)]
    dsimp only [cond]
    refine fe_s 2 (pc' := 17) (lc' := [(0, .ref 0), (1, .int 0), (2, .int 10), (3, .int 0)]) (stk' := [.int 6, .ref 0]) (mem' := fm g tp bt a b) (by intro _ _ _; eq_refl) ?_
    obtain ⟨gf2, hfrf2, hof2, hzf2⟩ := fr_failsq (x := 6) (g := g) (tp := tp) (bt := bt) (a := a) (b := b) (by omega) (by omega) (fm_go_rf hxp hfl).2.1 (fm_go_rf hxp hfl).2.2.1
    have gof2 := fm_go_tr (fm_go_rf hxp hfl) hof2
    refine fe_ivV hfrf2 (by omega) (by rfl) (by rfl) (by rfl) (by rfl) (by rfl) (by rfl) ?_
    exact fe_ret ⟨_, gf2, E, F, b, gof2, Or.inl ⟨rfl, hzf2, rfl⟩, rfl⟩ (by rfl) (by rfl) (by rfl)
  · rw [show (fx_cb .ne (nI NC) 10) = true from cb_neT (a := NC) (b := 10) (by omega) (by omega) (by omega)]
    dsimp only [cond]
    refine fe_s 1 (pc' := 22) (lc' := [(0, .ref 0), (1, .int 0), (2, .int 10), (3, .int 0)]) (stk' := [.ref 0]) (mem' := fm g tp bt a b) (by intro _ _ _; eq_refl) ?_
    obtain ⟨gk3, Ek3, Fk3, hfrk3, hok3, hek3, hpk3⟩ := fr_aheadq (g := g) (tp := tp) (bt := bt) (a := a) (b := b) (fm_go_rf hxp hfl).2.1 (fm_go_rf hxp hfl).2.2.1
    have gok3 := fm_go_tr (fm_go_rf hxp hfl) hok3
    have prk3 : gk3 12 = 0 ∨ E < Ek3 := hpk3.imp id (fun z => by have := (fm_go_rf hxp hfl).2.2.2; omega)
    have e18k3 : gk3 18 = g 18 := hek3.trans rfl
    refine fe_ivV hfrk3 (by omega) (by rfl) (by rfl) (by rfl) (by rfl) (by rfl) (by rfl) ?_
    refine fe_s 2 (pc' := 28) (lc' := [(0, .ref 0), (1, .int 0), (2, .int 10), (3, .int 0)]) (stk' := [.ref 22, .ref 0]) (mem' := fm gk3 tp bt a b) (by intro _ _ _; eq_refl) ?_
    obtain ⟨v6, mem6, ⟨x6, hx6, hR6⟩, hfr6⟩ := fr_isName (g := gk3) (tp := tp) (bt := bt) (a := a) (b := b) gok3.2.1
    cases hR6
    refine fe_ivV hfr6 (by omega) (by rfl) (by rfl) (by rfl) (by rfl) (by rfl) (by rfl) ?_
    rcases hx6 with rfl | ⟨rfl, hw6⟩
    · refine fe_s 1 (pc' := cond (fx_cb .ne 0 0) 40 34) (lc' := [(0, .ref 0), (1, .int 0), (2, .int 10), (3, .int 0)]) (stk' := []) (mem' := fm gk3 tp bt a b) (by intro _ _ _; eq_refl) ?_
      rw [show (fx_cb .ne 0 0) = false from by decide]
      dsimp only [cond]
      refine fe_s 2 (pc' := 36) (lc' := [(0, .ref 0), (1, .int 0), (2, .int 10), (3, .int 0)]) (stk' := [.int 2, .ref 0]) (mem' := fm gk3 tp bt a b) (by intro _ _ _; eq_refl) ?_
      obtain ⟨gf4, hfrf4, hof4, hzf4⟩ := fr_failsq (x := 2) (g := gk3) (tp := tp) (bt := bt) (a := a) (b := b) (by omega) (by omega) gok3.2.1 gok3.2.2.1
      have gof4 := fm_go_tr gok3 hof4
      refine fe_ivV hfrf4 (by omega) (by rfl) (by rfl) (by rfl) (by rfl) (by rfl) (by rfl) ?_
      exact fe_ret ⟨_, gf4, Ek3, Fk3, b, gof4, Or.inl ⟨rfl, hzf4, rfl⟩, rfl⟩ (by rfl) (by rfl) (by rfl)
    · refine fe_s 1 (pc' := cond (fx_cb .ne 1 0) 40 34) (lc' := [(0, .ref 0), (1, .int 0), (2, .int 10), (3, .int 0)]) (stk' := []) (mem' := fm gk3 tp bt a b) (by intro _ _ _; eq_refl) ?_
      rw [show (fx_cb .ne 1 0) = true from by decide]
      dsimp only [cond]
      refine fe_s 5 (pc' := 50) (lc' := [(0, .ref 0), (1, .int 0), (2, .int 10), (3, .int 0)]) (stk' := [.int 3368, .ref 1, .int 72, .ref 0]) (mem' := fm gk3 tp bt a b) (by intro _ _ _; eq_refl) ?_
      refine fe_ldI (by rfl) (by rfl) (fx_inN (i := 3368) (by omega) (by omega)) ?_
      rw [show Int32.toNatClampNeg (3368) = 3368 from rfl]
      rw [hn.1]
      obtain ⟨vw5, memw5, ⟨xw5, hxw5, hRw5⟩, hfrw5⟩ := fr_findHere (g := gk3) (tp := tp) (bt := bt) (a := a) (b := b) (base := 72) (many := NC) gok3.2.1 (by omega)
      cases hRw5
      refine fe_ivV hfrw5 (by omega) (by rfl) (by rfl) (by rfl) (by rfl) (by rfl) (by rfl) ?_
      refine fe_s 1 (pc' := 55) (lc' := [(0, .ref 0), (1, .int 0), (2, .int 10), (3, .int 0)]) (stk' := [.int (-1), .int xw5]) (mem' := fm gk3 tp bt a b) (by intro _ _ _; eq_refl) ?_
      refine fe_s 1 (pc' := cond (fx_cb .ne xw5 (-1)) 76 58) (lc' := [(0, .ref 0), (1, .int 0), (2, .int 10), (3, .int 0)]) (stk' := []) (mem' := fm gk3 tp bt a b) (by intro _ _ _; eq_refl) ?_
      cases h6 : fx_cb .ne xw5 (-1)
      · refine fe_s 5 (pc' := 68) (lc' := [(0, .ref 0), (1, .int 0), (2, .int 10), (3, .int 0)]) (stk' := [.int 3369, .ref 1, .int 82, .ref 0]) (mem' := fm gk3 tp bt a b) (by intro _ _ _; eq_refl) ?_
        refine fe_ldI (by rfl) (by rfl) (fx_inN (i := 3369) (by omega) (by omega)) ?_
        rw [show Int32.toNatClampNeg (3369) = 3369 from rfl]
        rw [hn.2.2.1]
        obtain ⟨vw7, memw7, ⟨xw7, hxw7, hRw7⟩, hfrw7⟩ := fr_findHere (g := gk3) (tp := tp) (bt := bt) (a := a) (b := b) (base := 82) (many := NW) gok3.2.1 (by omega)
        cases hRw7
        refine fe_ivV hfrw7 (by omega) (by rfl) (by rfl) (by rfl) (by rfl) (by rfl) (by rfl) ?_
        refine fe_s 1 (pc' := 73) (lc' := [(0, .ref 0), (1, .int 0), (2, .int 10), (3, .int 0)]) (stk' := [.int (-1), .int xw7]) (mem' := fm gk3 tp bt a b) (by intro _ _ _; eq_refl) ?_
        refine fe_s 1 (pc' := cond (fx_cb .eq xw7 (-1)) 82 76) (lc' := [(0, .ref 0), (1, .int 0), (2, .int 10), (3, .int 0)]) (stk' := []) (mem' := fm gk3 tp bt a b) (by intro _ _ _; eq_refl) ?_
        cases h8 : fx_cb .eq xw7 (-1)
        · refine fe_s 2 (pc' := 78) (lc' := [(0, .ref 0), (1, .int 0), (2, .int 10), (3, .int 0)]) (stk' := [.int 3, .ref 0]) (mem' := fm gk3 tp bt a b) (by intro _ _ _; eq_refl) ?_
          obtain ⟨gf9, hfrf9, hof9, hzf9⟩ := fr_failsq (x := 3) (g := gk3) (tp := tp) (bt := bt) (a := a) (b := b) (by omega) (by omega) gok3.2.1 gok3.2.2.1
          have gof9 := fm_go_tr gok3 hof9
          refine fe_ivV hfrf9 (by omega) (by rfl) (by rfl) (by rfl) (by rfl) (by rfl) (by rfl) ?_
          exact fe_ret ⟨_, gf9, Ek3, Fk3, b, gof9, Or.inl ⟨rfl, hzf9, rfl⟩, rfl⟩ (by rfl) (by rfl) (by rfl)
        · refine fe_s 10 (pc' := 99) (lc' := [(0, .ref 0), (1, .int 0), (2, .int 10), (3, .int 0)]) (stk' := [.int (3368 + 0), .ref 1, .int (72 + 0), .ref 2]) (mem' := fm gk3 tp bt a b) (by intro _ _ _; eq_refl) ?_
          rw [show (72 + 0 : Int32) = 72 from rfl]
          rw [show (3368 + 0 : Int32) = 3368 from rfl]
          refine fe_ldI (by rfl) (by rfl) (fx_inN (i := 3368) (by omega) (by omega)) ?_
          rw [show Int32.toNatClampNeg (3368) = 3368 from rfl]
          rw [hn.1]
          refine fe_s 2 (pc' := 102) (lc' := [(0, .ref 0), (1, .int 0), (2, .int 10), (3, .int 0)]) (stk' := [.ref 0, .int (72 + (nI NC)), .ref 2]) (mem' := fm gk3 tp bt a b) (by intro _ _ _; eq_refl) ?_
          rw [show (72 + (nI NC) : Int32) = nI (72 + NC) from by simp only [show (72 : Int32) = nI 72 from rfl, nI_add, fm_mul]]
          refine fe_ivV (fr_nameHere gok3.2.1) (by omega) (by rfl) (by rfl) (by rfl) (by rfl) (by rfl) (by rfl) ?_
          refine fe_stL (mem' := fm gk3 tp bt a (fm_uL b 2 (nI (72 + NC)).toNatClampNeg (fm_nm a S Fk3 Ek3))) (by rfl) (by rfl) (fx_inN (i := 72 + NC) (by omega) (by omega)) (by rfl) ?_
          rw [show Int32.toNatClampNeg (nI (72 + NC)) = 72 + NC from nI_clamp (by omega)]
          refine fe_s 1 (pc' := 107) (lc' := [(0, .ref 0), (1, .int 0), (2, .int 10), (3, .int 0)]) (stk' := [.ref 0]) (mem' := fm gk3 tp bt a (fm_uL b 2 (72 + NC) (fm_nm a S Fk3 Ek3))) (by intro _ _ _; eq_refl) ?_
          obtain ⟨gk10, Ek10, Fk10, hfrk10, hok10, hek10, hpk10⟩ := fr_aheadq (g := gk3) (tp := tp) (bt := bt) (a := a) (b := (fm_uL b 2 (72 + NC) (fm_nm a S Fk3 Ek3))) gok3.2.1 gok3.2.2.1
          have gok10 := fm_go_tr gok3 hok10
          have prk10 : gk10 12 = 0 ∨ E < Ek10 := hpk10.imp id (fun z => by have := gok3.2.2.2; omega)
          have e18k10 : gk10 18 = g 18 := hek10.trans e18k3
          refine fe_ivV hfrk10 (by omega) (by rfl) (by rfl) (by rfl) (by rfl) (by rfl) (by rfl) ?_
          refine fe_s 1 (pc' := 111) (lc' := [(0, .ref 0), (1, .int 0), (2, .int 10), (3, .int 0)]) (stk' := [.int 1]) (mem' := fm gk10 tp bt a (fm_uL b 2 (72 + NC) (fm_nm a S Fk3 Ek3))) (by intro _ _ _; eq_refl) ?_
          exact fe_ret ⟨_, gk10, Ek10, Fk10, _, gok10, Or.inr ⟨rfl, e18k10, prk10, by omega, _, rfl⟩, rfl⟩ (by rfl) (by rfl) (by rfl)
      · refine fe_s 2 (pc' := 78) (lc' := [(0, .ref 0), (1, .int 0), (2, .int 10), (3, .int 0)]) (stk' := [.int 3, .ref 0]) (mem' := fm gk3 tp bt a b) (by intro _ _ _; eq_refl) ?_
        obtain ⟨gf11, hfrf11, hof11, hzf11⟩ := fr_failsq (x := 3) (g := gk3) (tp := tp) (bt := bt) (a := a) (b := b) (by omega) (by omega) gok3.2.1 gok3.2.2.1
        have gof11 := fm_go_tr gok3 hof11
        refine fe_ivV hfrf11 (by omega) (by rfl) (by rfl) (by rfl) (by rfl) (by rfl) (by rfl) ?_
        exact fe_ret ⟨_, gf11, Ek3, Fk3, b, gof11, Or.inl ⟨rfl, hzf11, rfl⟩, rfl⟩ (by rfl) (by rfl) (by rfl)
theorem fr_newOne1 {S E F NC NW : Nat} (hxp : fm_xp g S E F) (hfl : fm_flt g) (hn : fm_tn a NC NW) : ∃ (v : Option Value) (mem' : fx_M), (fm_FM g tp bt a b S E (82 + NW) 90) (v, mem') ∧ fr_T 6 237 [.ref 0, .int 1, .int 8, .int 10] (fm g tp bt a b) v mem' := by
  have hNC := hn.2.1
  have hNW := hn.2.2.2
  refine fe_meth (F := fm_FM g tp bt a b S E (82 + NW) 90) (M := gk_m237) (by rfl) (by rfl) ?_
  refine fe_s 5 (pc' := 9) (lc' := [(0, .ref 0), (1, .int 1), (2, .int 8), (3, .int 10)]) (stk' := [.int (3368 + 1), .ref 1]) (mem' := fm g tp bt a b) (by intro _ _ _; eq_refl) ?_
  rw [show (3368 + 1 : Int32) = 3369 from rfl]
  refine fe_ldI (by rfl) (by rfl) (fx_inN (i := 3369) (by omega) (by omega)) ?_
  rw [show Int32.toNatClampNeg (3369) = 3369 from rfl]
  rw [hn.2.2.1]
  refine fe_s 1 (pc' := 11) (lc' := [(0, .ref 0), (1, .int 1), (2, .int 8), (3, .int 10)]) (stk' := [.int 8, .int (nI NW)]) (mem' := fm g tp bt a b) (by intro _ _ _; eq_refl) ?_
  refine fe_s 1 (pc' := cond (fx_cb .ne (nI NW) 8) 21 14) (lc' := [(0, .ref 0), (1, .int 1), (2, .int 8), (3, .int 10)]) (stk' := []) (mem' := fm g tp bt a b) (by intro _ _ _; eq_refl) ?_
  by_cases h1 : NW = 8
  · rw [show (fx_cb .ne (nI NW) 8) = false from cb_neF (a := NW) (b := 8) (by omega) (by omega) (by omega)]
    dsimp only [cond]
    refine fe_s 2 (pc' := 17) (lc' := [(0, .ref 0), (1, .int 1), (2, .int 8), (3, .int 10)]) (stk' := [.int 6, .ref 0]) (mem' := fm g tp bt a b) (by intro _ _ _; eq_refl) ?_
    obtain ⟨gf2, hfrf2, hof2, hzf2⟩ := fr_failsq (x := 6) (g := g) (tp := tp) (bt := bt) (a := a) (b := b) (by omega) (by omega) (fm_go_rf hxp hfl).2.1 (fm_go_rf hxp hfl).2.2.1
    have gof2 := fm_go_tr (fm_go_rf hxp hfl) hof2
    refine fe_ivV hfrf2 (by omega) (by rfl) (by rfl) (by rfl) (by rfl) (by rfl) (by rfl) ?_
    exact fe_ret ⟨_, gf2, E, F, b, gof2, Or.inl ⟨rfl, hzf2, rfl⟩, rfl⟩ (by rfl) (by rfl) (by rfl)
  · rw [show (fx_cb .ne (nI NW) 8) = true from cb_neT (a := NW) (b := 8) (by omega) (by omega) (by omega)]
    dsimp only [cond]
    refine fe_s 1 (pc' := 22) (lc' := [(0, .ref 0), (1, .int 1), (2, .int 8), (3, .int 10)]) (stk' := [.ref 0]) (mem' := fm g tp bt a b) (by intro _ _ _; eq_refl) ?_
    obtain ⟨gk3, Ek3, Fk3, hfrk3, hok3, hek3, hpk3⟩ := fr_aheadq (g := g) (tp := tp) (bt := bt) (a := a) (b := b) (fm_go_rf hxp hfl).2.1 (fm_go_rf hxp hfl).2.2.1
    have gok3 := fm_go_tr (fm_go_rf hxp hfl) hok3
    have prk3 : gk3 12 = 0 ∨ E < Ek3 := hpk3.imp id (fun z => by have := (fm_go_rf hxp hfl).2.2.2; omega)
    have e18k3 : gk3 18 = g 18 := hek3.trans rfl
    refine fe_ivV hfrk3 (by omega) (by rfl) (by rfl) (by rfl) (by rfl) (by rfl) (by rfl) ?_
    refine fe_s 2 (pc' := 28) (lc' := [(0, .ref 0), (1, .int 1), (2, .int 8), (3, .int 10)]) (stk' := [.ref 22, .ref 0]) (mem' := fm gk3 tp bt a b) (by intro _ _ _; eq_refl) ?_
    obtain ⟨v6, mem6, ⟨x6, hx6, hR6⟩, hfr6⟩ := fr_isName (g := gk3) (tp := tp) (bt := bt) (a := a) (b := b) gok3.2.1
    cases hR6
    refine fe_ivV hfr6 (by omega) (by rfl) (by rfl) (by rfl) (by rfl) (by rfl) (by rfl) ?_
    rcases hx6 with rfl | ⟨rfl, hw6⟩
    · refine fe_s 1 (pc' := cond (fx_cb .ne 0 0) 40 34) (lc' := [(0, .ref 0), (1, .int 1), (2, .int 8), (3, .int 10)]) (stk' := []) (mem' := fm gk3 tp bt a b) (by intro _ _ _; eq_refl) ?_
      rw [show (fx_cb .ne 0 0) = false from by decide]
      dsimp only [cond]
      refine fe_s 2 (pc' := 36) (lc' := [(0, .ref 0), (1, .int 1), (2, .int 8), (3, .int 10)]) (stk' := [.int 2, .ref 0]) (mem' := fm gk3 tp bt a b) (by intro _ _ _; eq_refl) ?_
      obtain ⟨gf4, hfrf4, hof4, hzf4⟩ := fr_failsq (x := 2) (g := gk3) (tp := tp) (bt := bt) (a := a) (b := b) (by omega) (by omega) gok3.2.1 gok3.2.2.1
      have gof4 := fm_go_tr gok3 hof4
      refine fe_ivV hfrf4 (by omega) (by rfl) (by rfl) (by rfl) (by rfl) (by rfl) (by rfl) ?_
      exact fe_ret ⟨_, gf4, Ek3, Fk3, b, gof4, Or.inl ⟨rfl, hzf4, rfl⟩, rfl⟩ (by rfl) (by rfl) (by rfl)
    · refine fe_s 1 (pc' := cond (fx_cb .ne 1 0) 40 34) (lc' := [(0, .ref 0), (1, .int 1), (2, .int 8), (3, .int 10)]) (stk' := []) (mem' := fm gk3 tp bt a b) (by intro _ _ _; eq_refl) ?_
      rw [show (fx_cb .ne 1 0) = true from by decide]
      dsimp only [cond]
      refine fe_s 5 (pc' := 50) (lc' := [(0, .ref 0), (1, .int 1), (2, .int 8), (3, .int 10)]) (stk' := [.int 3368, .ref 1, .int 72, .ref 0]) (mem' := fm gk3 tp bt a b) (by intro _ _ _; eq_refl) ?_
      refine fe_ldI (by rfl) (by rfl) (fx_inN (i := 3368) (by omega) (by omega)) ?_
      rw [show Int32.toNatClampNeg (3368) = 3368 from rfl]
      rw [hn.1]
      obtain ⟨vw5, memw5, ⟨xw5, hxw5, hRw5⟩, hfrw5⟩ := fr_findHere (g := gk3) (tp := tp) (bt := bt) (a := a) (b := b) (base := 72) (many := NC) gok3.2.1 (by omega)
      cases hRw5
      refine fe_ivV hfrw5 (by omega) (by rfl) (by rfl) (by rfl) (by rfl) (by rfl) (by rfl) ?_
      refine fe_s 1 (pc' := 55) (lc' := [(0, .ref 0), (1, .int 1), (2, .int 8), (3, .int 10)]) (stk' := [.int (-1), .int xw5]) (mem' := fm gk3 tp bt a b) (by intro _ _ _; eq_refl) ?_
      refine fe_s 1 (pc' := cond (fx_cb .ne xw5 (-1)) 76 58) (lc' := [(0, .ref 0), (1, .int 1), (2, .int 8), (3, .int 10)]) (stk' := []) (mem' := fm gk3 tp bt a b) (by intro _ _ _; eq_refl) ?_
      cases h6 : fx_cb .ne xw5 (-1)
      · refine fe_s 5 (pc' := 68) (lc' := [(0, .ref 0), (1, .int 1), (2, .int 8), (3, .int 10)]) (stk' := [.int 3369, .ref 1, .int 82, .ref 0]) (mem' := fm gk3 tp bt a b) (by intro _ _ _; eq_refl) ?_
        refine fe_ldI (by rfl) (by rfl) (fx_inN (i := 3369) (by omega) (by omega)) ?_
        rw [show Int32.toNatClampNeg (3369) = 3369 from rfl]
        rw [hn.2.2.1]
        obtain ⟨vw7, memw7, ⟨xw7, hxw7, hRw7⟩, hfrw7⟩ := fr_findHere (g := gk3) (tp := tp) (bt := bt) (a := a) (b := b) (base := 82) (many := NW) gok3.2.1 (by omega)
        cases hRw7
        refine fe_ivV hfrw7 (by omega) (by rfl) (by rfl) (by rfl) (by rfl) (by rfl) (by rfl) ?_
        refine fe_s 1 (pc' := 73) (lc' := [(0, .ref 0), (1, .int 1), (2, .int 8), (3, .int 10)]) (stk' := [.int (-1), .int xw7]) (mem' := fm gk3 tp bt a b) (by intro _ _ _; eq_refl) ?_
        refine fe_s 1 (pc' := cond (fx_cb .eq xw7 (-1)) 82 76) (lc' := [(0, .ref 0), (1, .int 1), (2, .int 8), (3, .int 10)]) (stk' := []) (mem' := fm gk3 tp bt a b) (by intro _ _ _; eq_refl) ?_
        cases h8 : fx_cb .eq xw7 (-1)
        · refine fe_s 2 (pc' := 78) (lc' := [(0, .ref 0), (1, .int 1), (2, .int 8), (3, .int 10)]) (stk' := [.int 3, .ref 0]) (mem' := fm gk3 tp bt a b) (by intro _ _ _; eq_refl) ?_
          obtain ⟨gf9, hfrf9, hof9, hzf9⟩ := fr_failsq (x := 3) (g := gk3) (tp := tp) (bt := bt) (a := a) (b := b) (by omega) (by omega) gok3.2.1 gok3.2.2.1
          have gof9 := fm_go_tr gok3 hof9
          refine fe_ivV hfrf9 (by omega) (by rfl) (by rfl) (by rfl) (by rfl) (by rfl) (by rfl) ?_
          exact fe_ret ⟨_, gf9, Ek3, Fk3, b, gof9, Or.inl ⟨rfl, hzf9, rfl⟩, rfl⟩ (by rfl) (by rfl) (by rfl)
        · refine fe_s 10 (pc' := 99) (lc' := [(0, .ref 0), (1, .int 1), (2, .int 8), (3, .int 10)]) (stk' := [.int (3368 + 1), .ref 1, .int (72 + 10), .ref 2]) (mem' := fm gk3 tp bt a b) (by intro _ _ _; eq_refl) ?_
          rw [show (72 + 10 : Int32) = 82 from rfl]
          rw [show (3368 + 1 : Int32) = 3369 from rfl]
          refine fe_ldI (by rfl) (by rfl) (fx_inN (i := 3369) (by omega) (by omega)) ?_
          rw [show Int32.toNatClampNeg (3369) = 3369 from rfl]
          rw [hn.2.2.1]
          refine fe_s 2 (pc' := 102) (lc' := [(0, .ref 0), (1, .int 1), (2, .int 8), (3, .int 10)]) (stk' := [.ref 0, .int (82 + (nI NW)), .ref 2]) (mem' := fm gk3 tp bt a b) (by intro _ _ _; eq_refl) ?_
          rw [show (82 + (nI NW) : Int32) = nI (82 + NW) from by simp only [show (82 : Int32) = nI 82 from rfl, nI_add, fm_mul]]
          refine fe_ivV (fr_nameHere gok3.2.1) (by omega) (by rfl) (by rfl) (by rfl) (by rfl) (by rfl) (by rfl) ?_
          refine fe_stL (mem' := fm gk3 tp bt a (fm_uL b 2 (nI (82 + NW)).toNatClampNeg (fm_nm a S Fk3 Ek3))) (by rfl) (by rfl) (fx_inN (i := 82 + NW) (by omega) (by omega)) (by rfl) ?_
          rw [show Int32.toNatClampNeg (nI (82 + NW)) = 82 + NW from nI_clamp (by omega)]
          refine fe_s 1 (pc' := 107) (lc' := [(0, .ref 0), (1, .int 1), (2, .int 8), (3, .int 10)]) (stk' := [.ref 0]) (mem' := fm gk3 tp bt a (fm_uL b 2 (82 + NW) (fm_nm a S Fk3 Ek3))) (by intro _ _ _; eq_refl) ?_
          obtain ⟨gk10, Ek10, Fk10, hfrk10, hok10, hek10, hpk10⟩ := fr_aheadq (g := gk3) (tp := tp) (bt := bt) (a := a) (b := (fm_uL b 2 (82 + NW) (fm_nm a S Fk3 Ek3))) gok3.2.1 gok3.2.2.1
          have gok10 := fm_go_tr gok3 hok10
          have prk10 : gk10 12 = 0 ∨ E < Ek10 := hpk10.imp id (fun z => by have := gok3.2.2.2; omega)
          have e18k10 : gk10 18 = g 18 := hek10.trans e18k3
          refine fe_ivV hfrk10 (by omega) (by rfl) (by rfl) (by rfl) (by rfl) (by rfl) (by rfl) ?_
          refine fe_s 1 (pc' := 111) (lc' := [(0, .ref 0), (1, .int 1), (2, .int 8), (3, .int 10)]) (stk' := [.int 1]) (mem' := fm gk10 tp bt a (fm_uL b 2 (82 + NW) (fm_nm a S Fk3 Ek3))) (by intro _ _ _; eq_refl) ?_
          exact fe_ret ⟨_, gk10, Ek10, Fk10, _, gok10, Or.inr ⟨rfl, e18k10, prk10, by omega, _, rfl⟩, rfl⟩ (by rfl) (by rfl) (by rfl)
      · refine fe_s 2 (pc' := 78) (lc' := [(0, .ref 0), (1, .int 1), (2, .int 8), (3, .int 10)]) (stk' := [.int 3, .ref 0]) (mem' := fm gk3 tp bt a b) (by intro _ _ _; eq_refl) ?_
        obtain ⟨gf11, hfrf11, hof11, hzf11⟩ := fr_failsq (x := 3) (g := gk3) (tp := tp) (bt := bt) (a := a) (b := b) (by omega) (by omega) gok3.2.1 gok3.2.2.1
        have gof11 := fm_go_tr gok3 hof11
        refine fe_ivV hfrf11 (by omega) (by rfl) (by rfl) (by rfl) (by rfl) (by rfl) (by rfl) ?_
        exact fe_ret ⟨_, gf11, Ek3, Fk3, b, gof11, Or.inl ⟨rfl, hzf11, rfl⟩, rfl⟩ (by rfl) (by rfl) (by rfl)
end FNN
/-! ===== what a store leaves ===== -/
theorem fm_sl2 {g : Nat → Int32} {tp bt : Int64} {a : Nat → Nat → Int32} {b : Nat → Nat → Int64} {i : Nat} {v : Int64} : (fm g tp bt a b).set 2 (.inr (.long, 108, .inr (.inl (vp_updL (b 2) i v)))) = fm g tp bt a (fm_uL b 2 i v) := rfl
theorem fm_sl5 {g : Nat → Int32} {tp bt : Int64} {a : Nat → Nat → Int32} {b : Nat → Nat → Int64} {i : Nat} {v : Int64} : (fm g tp bt a b).set 5 (.inr (.long, 240, .inr (.inl (vp_updL (b 5) i v)))) = fm g tp bt a (fm_uL b 5 i v) := rfl
theorem fm_sl17 {g : Nat → Int32} {tp bt : Int64} {a : Nat → Nat → Int32} {b : Nat → Nat → Int64} {i : Nat} {v : Int64} : (fm g tp bt a b).set 17 (.inr (.long, 21, .inr (.inl (vp_updL (b 17) i v)))) = fm g tp bt a (fm_uL b 17 i v) := rfl
theorem fm_sl18 {g : Nat → Int32} {tp bt : Int64} {a : Nat → Nat → Int32} {b : Nat → Nat → Int64} {i : Nat} {v : Int64} : (fm g tp bt a b).set 18 (.inr (.long, 21, .inr (.inl (vp_updL (b 18) i v)))) = fm g tp bt a (fm_uL b 18 i v) := rfl
