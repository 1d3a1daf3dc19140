/-! ===== fx: the parts of a LAKE ===== -/
section FLK
variable {g : Nat → Int32} {tp bt : Int64} {a : Nat → Nat → Int32} {b : Nat → Nat → Int64}
/-- the parser has come from one state to another -/
def fm_go (g g' : Nat → Int32) (S E E' F' : Nat) : Prop := fm_tx8 g g' ∧ fm_xp g' S E' F' ∧ fm_flt g' ∧ E ≤ E'
theorem fm_go_tr {g g1 g2 : Nat → Int32} {S E E1 F1 E2 F2 : Nat} (h : fm_go g g1 S E E1 F1) (h2 : fm_go g1 g2 S E1 E2 F2) : fm_go g g2 S E E2 F2 := ⟨fm_tx8_tr h.1 h2.1, h2.2.1, h2.2.2.1, Nat.le_trans h.2.2.2 h2.2.2.2⟩
theorem fm_go_rf {S E F : Nat} (hxp : fm_xp g S E F) (hfl : fm_flt g) : fm_go g g S E E F := ⟨fm_tx8_rf, hxp, hfl, Nat.le_refl _⟩
theorem fm_go_ah {g1 : Nat → Int32} {S E F1 E1 : Nat} (hfl : fm_flt g) (ht : fm_txt g g1) (hx : fm_xp g1 S E1 F1) (hE : E ≤ F1) : fm_go g g1 S E E1 F1 := ⟨fm_tx8_of ht, hx, fm_flt_tx hfl ht, Nat.le_trans hE hx.2.2.2.2.2.1⟩
theorem fm_go_ff {g1 : Nat → Int32} {S E F : Nat} (hxp : fm_xp g S E F) (hg : ∀ j, j ≠ 17 → j ≠ 18 → g1 j = g j) (hl : fm_flt g1) : fm_go g g1 S E E F := ⟨fm_tx8_ff hg, fm_xp_ff hxp hg, hl, Nat.le_refl _⟩
/-- a part is good, or has failed: faults say which -/
def fm_gd (g g' : Nat → Int32) (E E' : Nat) (v : Int32) : Prop := v = 0 ∧ ¬ g' 18 = 0 ∨ v = 1 ∧ g' 18 = g 18 ∧ (g' 12 = 0 ∨ E < E')
theorem fr_aheadq {S E F : Nat} (hxp : fm_xp g S E F) (hfl : fm_flt g) : ∃ (g' : Nat → Int32) (E' F' : Nat), fr_T 2 224 [.ref 0] (fm g tp bt a b) none (fm g' tp bt a b) ∧ fm_go g g' S E E' F' ∧ g' 18 = g 18 ∧ (g' 12 = 0 ∨ E < E') := by
  obtain ⟨v, mem', ⟨g1, E1, F1, h1, h2, h3, h4, hR⟩, hfr⟩ := fr_ahead (S := S) (E := E) (g := g) (tp := tp) (bt := bt) (a := a) (b := b) hxp.1 hxp.2.1 hxp.2.2.1 hxp.2.2.2.1
  cases hR
  exact ⟨g1, E1, F1, hfr, fm_go_ah hfl h1 h2 h3, h1 18 (by decide) (by decide) (by decide) (by decide), h4⟩
theorem fr_failsq {x S E F : Nat} (hx : x ≤ 7) (hx0 : 0 < x) (hxp : fm_xp g S E F) (hfl : fm_flt g) : ∃ g' : Nat → Int32, fr_T 2 227 [.ref 0, .int (nI x)] (fm g tp bt a b) (some (.int 0)) (fm g' tp bt a b) ∧ fm_go g g' S E E F ∧ ¬ g' 18 = 0 := by
  obtain ⟨v, mem', ⟨g1, h1, h2, h3, hR⟩, hfr⟩ := fr_fails (x := x) (F := F) (g := g) (tp := tp) (bt := bt) (a := a) (b := b) hx hx0 hxp.2.2.2.2.1 (by have := hxp.2.2.2.2.2.1; have := hxp.2.2.2.1; have := hxp.2.1; omega) hfl
  cases hR
  exact ⟨g1, hfr, fm_go_ff hxp h1 h2, h3⟩
def fm_FG2 (g : Nat → Int32) (tp bt : Int64) (a : Nat → Nat → Int32) (b : Nat → Nat → Int64) (S E : Nat) (R : Option Value × fx_M) : Prop := ∃ (v : Int32) (g' : Nat → Int32) (E' F' : Nat), fm_go g g' S E E' F' ∧ (v = 0 ∧ ¬ g' 18 = 0 ∨ v = 1 ∧ g' 18 = g 18 ∧ (g' 12 = 0 ∨ E < E')) ∧ R = (some (.int v), fm g' tp bt a b)
theorem fr_wantSign0 {c : Int32} {S E F : Nat} (hxp : fm_xp g S E F) (hfl : fm_flt g) : ∃ (v : Option Value) (mem' : fx_M), (fm_FG2 g tp bt a b S E) (v, mem') ∧ fr_T 3 229 [.ref 0, .int c] (fm g tp bt a b) v mem' := by
  refine fe_meth (F := fm_FG2 g tp bt a b S E) (M := gk_m229) (by rfl) (by rfl) ?_
  refine fe_s 2 (pc' := 2) (lc' := [(0, .ref 0), (1, .int c)]) (stk' := [.int c, .ref 0]) (mem' := fm g tp bt a b) (fun _ _ _ => rfl) ?_
  obtain ⟨v9, mem9, ⟨x9, hx9, hR9⟩, hfr9⟩ := fr_isSign (c := c) (g := g) (tp := tp) (bt := bt) (a := a) (b := b)
  cases hR9
  refine fe_ivV hfr9 (by omega) (by rfl) (by rfl) (by rfl) (by rfl) (by rfl) (by rfl) ?_
  rcases hx9 with rfl | ⟨rfl, hs9⟩
  · refine fe_s 1 (pc' := cond (fx_cb .ne 0 0) 14 8) (lc' := [(0, .ref 0), (1, .int c)]) (stk' := []) (mem' := fm g tp bt a b) (fun _ _ _ => rfl) ?_
    rw [show (fx_cb .ne 0 0) = false from by decide]
    dsimp only [cond]
    refine fe_s 2 (pc' := 10) (lc' := [(0, .ref 0), (1, .int c)]) (stk' := [.int 2, .ref 0]) (mem' := fm g tp bt a b) (fun _ _ _ => rfl) ?_
    obtain ⟨gf1, hfrf1, hof1, hzf1⟩ := fr_failsq (x := 2) (g := g) (tp := tp) (bt := bt) (a := a) (b := b) (by omega) (by omega) (fm_go_rf hxp hfl).2.1 (fm_go_rf hxp hfl).2.2.1
    have gof1 := fm_go_tr (fm_go_rf hxp hfl) hof1
    refine fe_ivV hfrf1 (by omega) (by rfl) (by rfl) (by rfl) (by rfl) (by rfl) (by rfl) ?_
    exact fe_ret ⟨_, gf1, E, F, gof1, Or.inl ⟨rfl, hzf1⟩, rfl⟩ (by rfl) (by rfl) (by rfl)
  · refine fe_s 1 (pc' := cond (fx_cb .ne 1 0) 14 8) (lc' := [(0, .ref 0), (1, .int c)]) (stk' := []) (mem' := fm g tp bt a b) (fun _ _ _ => rfl) ?_
    rw [show (fx_cb .ne 1 0) = true from by decide]
    dsimp only [cond]
    refine fe_s 1 (pc' := 15) (lc' := [(0, .ref 0), (1, .int c)]) (stk' := [.ref 0]) (mem' := fm g tp bt a b) (fun _ _ _ => rfl) ?_
    obtain ⟨gk2, Ek2, Fk2, hfrk2, hok2, hek2, hpk2⟩ := fr_aheadq (g := g) (tp := tp) (bt := bt) (a := a) (b := b) (fm_go_rf hxp hfl).2.1 (fm_go_rf hxp hfl).2.2.1
    have gok2 := fm_go_tr (fm_go_rf hxp hfl) hok2
    have prk2 : gk2 12 = 0 ∨ E < Ek2 := hpk2.imp id (fun z => by have := (fm_go_rf hxp hfl).2.2.2; omega)
    have e18k2 : gk2 18 = g 18 := hek2.trans rfl
    refine fe_ivV hfrk2 (by omega) (by rfl) (by rfl) (by rfl) (by rfl) (by rfl) (by rfl) ?_
    refine fe_s 1 (pc' := 19) (lc' := [(0, .ref 0), (1, .int c)]) (stk' := [.int 1]) (mem' := fm gk2 tp bt a b) (fun _ _ _ => rfl) ?_
    exact fe_ret ⟨_, gk2, Ek2, Fk2, gok2, Or.inr ⟨rfl, e18k2, prk2⟩, rfl⟩ (by rfl) (by rfl) (by rfl)
theorem fr_wantSignq {c : Int32} {S E F : Nat} (hxp : fm_xp g S E F) (hfl : fm_flt g) : ∃ (v : Int32) (g' : Nat → Int32) (E' F' : Nat), fr_T 3 229 [.ref 0, .int c] (fm g tp bt a b) (some (.int v)) (fm g' tp bt a b) ∧ fm_go g g' S E E' F' ∧ (v = 0 ∧ ¬ g' 18 = 0 ∨ v = 1 ∧ g' 18 = g 18 ∧ (g' 12 = 0 ∨ E < E')) := by
  obtain ⟨v, mem', ⟨x, g1, E1, F1, h1, h2, hR⟩, hfr⟩ := fr_wantSign0 (g := g) (tp := tp) (bt := bt) (a := a) (b := b) (c := c) hxp hfl
  cases hR
  exact ⟨x, g1, E1, F1, hfr, h1, h2⟩
theorem fr_wantWord0 {k : Int32} {S E F : Nat} (hxp : fm_xp g S E F) (hfl : fm_flt g) : ∃ (v : Option Value) (mem' : fx_M), (fm_FG2 g tp bt a b S E) (v, mem') ∧ fr_T 3 230 [.ref 0, .ref 22, .int k] (fm g tp bt a b) v mem' := by
  refine fe_meth (F := fm_FG2 g tp bt a b S E) (M := gk_m230) (by rfl) (by rfl) ?_
  refine fe_s 2 (pc' := 2) (lc' := [(0, .ref 0), (1, .ref 22), (2, .int k)]) (stk' := [.ref 22, .ref 0]) (mem' := fm g tp bt a b) (fun _ _ _ => rfl) ?_
  obtain ⟨v5, mem5, ⟨x5, hx5, hR5⟩, hfr5⟩ := fr_inWords (g := g) (tp := tp) (bt := bt) (a := a) (b := b) hxp
  cases hR5
  refine fe_ivV hfr5 (by omega) (by rfl) (by rfl) (by rfl) (by rfl) (by rfl) (by rfl) ?_
  rcases hx5 with rfl | ⟨n5, hn5, rfl⟩
  · refine fe_s 1 (pc' := 6) (lc' := [(0, .ref 0), (1, .ref 22), (2, .int k)]) (stk' := [.int k, .int (-1)]) (mem' := fm g tp bt a b) (fun _ _ _ => rfl) ?_
    refine fe_s 1 (pc' := cond (fx_cb .eq (-1) k) 15 9) (lc' := [(0, .ref 0), (1, .ref 22), (2, .int k)]) (stk' := []) (mem' := fm g tp bt a b) (fun _ _ _ => rfl) ?_
    cases h1 : fx_cb .eq (-1) k
    · refine fe_s 2 (pc' := 11) (lc' := [(0, .ref 0), (1, .ref 22), (2, .int k)]) (stk' := [.int 2, .ref 0]) (mem' := fm g tp bt a b) (fun _ _ _ => rfl) ?_
      obtain ⟨gf2, hfrf2, hof2, hzf2⟩ := fr_failsq (x := 2) (g := g) (tp := tp) (bt := bt) (a := a) (b := b) (by omega) (by omega) (fm_go_rf hxp hfl).2.1 (fm_go_rf hxp hfl).2.2.1
      have gof2 := fm_go_tr (fm_go_rf hxp hfl) hof2
      refine fe_ivV hfrf2 (by omega) (by rfl) (by rfl) (by rfl) (by rfl) (by rfl) (by rfl) ?_
      exact fe_ret ⟨_, gf2, E, F, gof2, Or.inl ⟨rfl, hzf2⟩, rfl⟩ (by rfl) (by rfl) (by rfl)
    · refine fe_s 1 (pc' := 16) (lc' := [(0, .ref 0), (1, .ref 22), (2, .int k)]) (stk' := [.ref 0]) (mem' := fm g tp bt a b) (fun _ _ _ => rfl) ?_
      obtain ⟨gk3, Ek3, Fk3, hfrk3, hok3, hek3, hpk3⟩ := fr_aheadq (g := g) (tp := tp) (bt := bt) (a := a) (b := b) (fm_go_rf hxp hfl).2.1 (fm_go_rf hxp hfl).2.2.1
      have gok3 := fm_go_tr (fm_go_rf hxp hfl) hok3
      have prk3 : gk3 12 = 0 ∨ E < Ek3 := hpk3.imp id (fun z => by have := (fm_go_rf hxp hfl).2.2.2; omega)
      have e18k3 : gk3 18 = g 18 := hek3.trans rfl
      refine fe_ivV hfrk3 (by omega) (by rfl) (by rfl) (by rfl) (by rfl) (by rfl) (by rfl) ?_
      refine fe_s 1 (pc' := 20) (lc' := [(0, .ref 0), (1, .ref 22), (2, .int k)]) (stk' := [.int 1]) (mem' := fm gk3 tp bt a b) (fun _ _ _ => rfl) ?_
      exact fe_ret ⟨_, gk3, Ek3, Fk3, gok3, Or.inr ⟨rfl, e18k3, prk3⟩, rfl⟩ (by rfl) (by rfl) (by rfl)
  · refine fe_s 1 (pc' := 6) (lc' := [(0, .ref 0), (1, .ref 22), (2, .int k)]) (stk' := [.int k, .int (nI n5)]) (mem' := fm g tp bt a b) (fun _ _ _ => rfl) ?_
    refine fe_s 1 (pc' := cond (fx_cb .eq (nI n5) k) 15 9) (lc' := [(0, .ref 0), (1, .ref 22), (2, .int k)]) (stk' := []) (mem' := fm g tp bt a b) (fun _ _ _ => rfl) ?_
    cases h4 : fx_cb .eq (nI n5) k
    · refine fe_s 2 (pc' := 11) (lc' := [(0, .ref 0), (1, .ref 22), (2, .int k)]) (stk' := [.int 2, .ref 0]) (mem' := fm g tp bt a b) (fun _ _ _ => rfl) ?_
      obtain ⟨gf5, hfrf5, hof5, hzf5⟩ := fr_failsq (x := 2) (g := g) (tp := tp) (bt := bt) (a := a) (b := b) (by omega) (by omega) (fm_go_rf hxp hfl).2.1 (fm_go_rf hxp hfl).2.2.1
      have gof5 := fm_go_tr (fm_go_rf hxp hfl) hof5
      refine fe_ivV hfrf5 (by omega) (by rfl) (by rfl) (by rfl) (by rfl) (by rfl) (by rfl) ?_
      exact fe_ret ⟨_, gf5, E, F, gof5, Or.inl ⟨rfl, hzf5⟩, rfl⟩ (by rfl) (by rfl) (by rfl)
    · refine fe_s 1 (pc' := 16) (lc' := [(0, .ref 0), (1, .ref 22), (2, .int k)]) (stk' := [.ref 0]) (mem' := fm g tp bt a b) (fun _ _ _ => rfl) ?_
      obtain ⟨gk6, Ek6, Fk6, hfrk6, hok6, hek6, hpk6⟩ := fr_aheadq (g := g) (tp := tp) (bt := bt) (a := a) (b := b) (fm_go_rf hxp hfl).2.1 (fm_go_rf hxp hfl).2.2.1
      have gok6 := fm_go_tr (fm_go_rf hxp hfl) hok6
      have prk6 : gk6 12 = 0 ∨ E < Ek6 := hpk6.imp id (fun z => by have := (fm_go_rf hxp hfl).2.2.2; omega)
      have e18k6 : gk6 18 = g 18 := hek6.trans rfl
      refine fe_ivV hfrk6 (by omega) (by rfl) (by rfl) (by rfl) (by rfl) (by rfl) (by rfl) ?_
      refine fe_s 1 (pc' := 20) (lc' := [(0, .ref 0), (1, .ref 22), (2, .int k)]) (stk' := [.int 1]) (mem' := fm gk6 tp bt a b) (fun _ _ _ => rfl) ?_
      exact fe_ret ⟨_, gk6, Ek6, Fk6, gok6, Or.inr ⟨rfl, e18k6, prk6⟩, rfl⟩ (by rfl) (by rfl) (by rfl)
theorem fr_wantWordq {k : Int32} {S E F : Nat} (hxp : fm_xp g S E F) (hfl : fm_flt g) : ∃ (v : Int32) (g' : Nat → Int32) (E' F' : Nat), fr_T 3 230 [.ref 0, .ref 22, .int k] (fm g tp bt a b) (some (.int v)) (fm g' tp bt a b) ∧ fm_go g g' S E E' F' ∧ (v = 0 ∧ ¬ g' 18 = 0 ∨ v = 1 ∧ g' 18 = g 18 ∧ (g' 12 = 0 ∨ E < E')) := by
  obtain ⟨v, mem', ⟨x, g1, E1, F1, h1, h2, hR⟩, hfr⟩ := fr_wantWord0 (g := g) (tp := tp) (bt := bt) (a := a) (b := b) (k := k) hxp hfl
  cases hR
  exact ⟨x, g1, E1, F1, hfr, h1, h2⟩
theorem fr_numberq {lo hi : Int32} {S E F T : Nat} (hT : T < 5894) (hxp : fm_xp g S E F) (hfl : fm_flt g) : ∃ (v : Int32) (g' : Nat → Int32) (E' F' : Nat) (a' : Nat → Nat → Int32), fr_T 4 231 [.ref 0, .int (nI T), .int lo, .int hi] (fm g tp bt a b) (some (.int v)) (fm g' tp bt a' b) ∧ fm_go g g' S E E' F' ∧ (v = 0 ∧ ¬ g' 18 = 0 ∧ a' = a ∨ v = 1 ∧ g' 18 = g 18 ∧ (g' 12 = 0 ∨ E < E') ∧ ∃ x : Int32, lo ≤ x ∧ x ≤ hi ∧ a' = fm_u a 1 T x) := by
  obtain ⟨v, mem', ⟨x, g1, a1, E1, F1, h1, h2, h3, h4, h5, hR⟩, hfr⟩ := fr_number (g := g) (tp := tp) (bt := bt) (a := a) (b := b) (lo := lo) (hi := hi) hxp hfl hT
  cases hR
  exact ⟨x, g1, E1, F1, a1, hfr, ⟨h2, h3, h4, h5⟩, h1⟩
theorem fr_oldOneq {S E F T base many : Nat} (hT : T < 5894) (hbm : base + many ≤ 108) (hxp : fm_xp g S E F) (hfl : fm_flt g) : ∃ (v : Int32) (g' : Nat → Int32) (E' F' : Nat) (a' : Nat → Nat → Int32), fr_T 6 238 [.ref 0, .int (nI base), .int (nI many), .int (nI T)] (fm g tp bt a b) (some (.int v)) (fm g' tp bt a' b) ∧ fm_go g g' S E E' F' ∧ (v = 0 ∧ ¬ g' 18 = 0 ∧ (a' = a ∨ ∃ x : Int32, x = -1 ∧ a' = fm_u a 1 T x) ∨ v = 1 ∧ g' 18 = g 18 ∧ (g' 12 = 0 ∨ E < E') ∧ fr_T 3 232 [.ref 0, .ref 22] (fm g tp bt a b) (some (.int 1)) (fm g tp bt a b) ∧ ∃ k, k < many ∧ fm_is b base many (fm_nm a S F E) (nI k) ∧ a' = fm_u a 1 T (nI k)) := by
  obtain ⟨v, mem', ⟨x, g1, a1, E1, F1, h1, h2, h3, h4, h5, hR⟩, hfr⟩ := fr_oldOne (g := g) (tp := tp) (bt := bt) (a := a) (b := b) hxp hfl hT hbm
  cases hR
  refine ⟨x, g1, E1, F1, a1, hfr, ⟨h2, h3, h4, h5⟩, ?_⟩
  rcases h1 with ⟨q1, q2, q3⟩ | q
  · exact Or.inl ⟨q1, q3, q2⟩
  · exact Or.inr q
end FLK
