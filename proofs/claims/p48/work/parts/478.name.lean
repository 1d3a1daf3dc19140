/-! ===== fx: a name, a word that is wanted ===== -/
section FNW
variable {g : Nat → Int32} {tp bt : Int64} {a : Nat → Nat → Int32} {b : Nat → Nat → Int64}
theorem fr_isName {S E F : Nat} (hxp : fm_xp g S E F) : ∃ (v : Option Value) (mem' : fx_M), (fun R => ∃ v : Int32, (v = 0 ∨ v = 1 ∧ g 12 = 2) ∧ R = (some (.int v), fm g tp bt a b)) (v, mem') ∧ fr_T 3 232 [.ref 0, .ref 22] (fm g tp bt a b) v mem' := by
  refine fe_meth (F := fun R => ∃ v : Int32, (v = 0 ∨ v = 1 ∧ g 12 = 2) ∧ R = (some (.int v), fm g tp bt a b)) (M := gk_m232) (by rfl) (by rfl) ?_
  refine fe_s 3 (pc' := 5) (lc' := [(0, .ref 0), (1, .ref 22)]) (stk' := [.int 2, .int (g 12)]) (mem' := fm g tp bt a b) (fun _ _ _ => rfl) ?_
  refine fe_s 1 (pc' := cond (fx_cb .ne (g 12) 2) 35 8) (lc' := [(0, .ref 0), (1, .ref 22)]) (stk' := []) (mem' := fm g tp bt a b) (fun _ _ _ => rfl) ?_
  cases h1 : fx_cb .ne (g 12) 2
  · refine fe_s 6 (pc' := 19) (lc' := [(0, .ref 0), (1, .ref 22)]) (stk' := [.int 8, .int ((g 14) - (g 13))]) (mem' := fm g tp bt a b) (fun _ _ _ => rfl) ?_
    refine fe_s 1 (pc' := cond (fx_cb .gt ((g 14) - (g 13)) 8) 35 22) (lc' := [(0, .ref 0), (1, .ref 22)]) (stk' := []) (mem' := fm g tp bt a b) (fun _ _ _ => rfl) ?_
    cases h2 : fx_cb .gt ((g 14) - (g 13)) 8
    · refine fe_s 2 (pc' := 24) (lc' := [(0, .ref 0), (1, .ref 22)]) (stk' := [.ref 22, .ref 0]) (mem' := fm g tp bt a b) (fun _ _ _ => rfl) ?_
      obtain ⟨v5, mem5, ⟨x5, hx5, hR5⟩, hfr5⟩ := fr_inWords (g := g) (tp := tp) (bt := bt) (a := a) (b := b) hxp
      cases hR5
      refine fe_ivV hfr5 (by omega) (by rfl) (by rfl) (by rfl) (by rfl) (by rfl) (by rfl) ?_
      rcases hx5 with rfl | ⟨n5, hn5, rfl⟩
      · refine fe_s 1 (pc' := 28) (lc' := [(0, .ref 0), (1, .ref 22)]) (stk' := [.int (-1), .int (-1)]) (mem' := fm g tp bt a b) (fun _ _ _ => rfl) ?_
        refine fe_s 1 (pc' := cond (fx_cb .ne (-1) (-1)) 35 31) (lc' := [(0, .ref 0), (1, .ref 22)]) (stk' := []) (mem' := fm g tp bt a b) (fun _ _ _ => rfl) ?_
        rw [show (fx_cb .ne (-1) (-1)) = false from by decide]
        dsimp only [cond]
        refine fe_s 2 (pc' := 36) (lc' := [(0, .ref 0), (1, .ref 22)]) (stk' := [.int 1]) (mem' := fm g tp bt a b) (fun _ _ _ => rfl) ?_
        exact fe_ret ⟨_, Or.inr ⟨rfl, fm_ne h1⟩, rfl⟩ (by rfl) (by rfl) (by rfl)
      · refine fe_s 1 (pc' := 28) (lc' := [(0, .ref 0), (1, .ref 22)]) (stk' := [.int (-1), .int (nI n5)]) (mem' := fm g tp bt a b) (fun _ _ _ => rfl) ?_
        refine fe_s 1 (pc' := cond (fx_cb .ne (nI n5) (-1)) 35 31) (lc' := [(0, .ref 0), (1, .ref 22)]) (stk' := []) (mem' := fm g tp bt a b) (fun _ _ _ => rfl) ?_
        rw [show (fx_cb .ne (nI n5) (-1)) = true from cb_n_ne (by omega) (by decide)]
        dsimp only [cond]
        refine fe_s 1 (pc' := 36) (lc' := [(0, .ref 0), (1, .ref 22)]) (stk' := [.int 0]) (mem' := fm g tp bt a b) (fun _ _ _ => rfl) ?_
        exact fe_ret ⟨_, Or.inl rfl, rfl⟩ (by rfl) (by rfl) (by rfl)
    · refine fe_s 1 (pc' := 36) (lc' := [(0, .ref 0), (1, .ref 22)]) (stk' := [.int 0]) (mem' := fm g tp bt a b) (fun _ _ _ => rfl) ?_
      exact fe_ret ⟨_, Or.inl rfl, rfl⟩ (by rfl) (by rfl) (by rfl)
  · refine fe_s 1 (pc' := 36) (lc' := [(0, .ref 0), (1, .ref 22)]) (stk' := [.int 0]) (mem' := fm g tp bt a b) (fun _ _ _ => rfl) ?_
    exact fe_ret ⟨_, Or.inl rfl, rfl⟩ (by rfl) (by rfl) (by rfl)
theorem fr_wantWord {k : Int32} {S E F : Nat} (hxp : fm_xp g S E F) (hfl : fm_flt g) : ∃ (v : Option Value) (mem' : fx_M), (fm_FT g tp bt a b S E) (v, mem') ∧ fr_T 3 230 [.ref 0, .ref 22, .int k] (fm g tp bt a b) v mem' := by
  refine fe_meth (F := fm_FT g tp bt a b S E) (M := gk_m230) (by rfl) (by rfl) ?_
  refine fe_s 2 (pc' := 2) (lc' := [(0, .ref 0), (1, .ref 22), (2, .int k)]) (stk' := [.ref 22, .ref 0]) (mem' := fm g tp bt a b) (fun _ _ _ => rfl) ?_
  obtain ⟨v5, mem5, ⟨x5, hx5, hR5⟩, hfr5⟩ := fr_inWords (g := g) (tp := tp) (bt := bt) (a := a) (b := b) hxp
  cases hR5
  refine fe_ivV hfr5 (by omega) (by rfl) (by rfl) (by rfl) (by rfl) (by rfl) (by rfl) ?_
  rcases hx5 with rfl | ⟨n5, hn5, rfl⟩
  · refine fe_s 1 (pc' := 6) (lc' := [(0, .ref 0), (1, .ref 22), (2, .int k)]) (stk' := [.int k, .int (-1)]) (mem' := fm g tp bt a b) (fun _ _ _ => rfl) ?_
    refine fe_s 1 (pc' := cond (fx_cb .eq (-1) k) 15 9) (lc' := [(0, .ref 0), (1, .ref 22), (2, .int k)]) (stk' := []) (mem' := fm g tp bt a b) (fun _ _ _ => rfl) ?_
    cases h1 : fx_cb .eq (-1) k
    · refine fe_s 2 (pc' := 11) (lc' := [(0, .ref 0), (1, .ref 22), (2, .int k)]) (stk' := [.int 2, .ref 0]) (mem' := fm g tp bt a b) (fun _ _ _ => rfl) ?_
      obtain ⟨vf2, memf2, ⟨gf2, hgf2, hlf2, hzf2, hRf2⟩, hfrf2⟩ := fr_fails (x := 2) (F := F) (g := g) (tp := tp) (bt := bt) (a := a) (b := b) (by omega) (by omega) hxp.2.2.2.2.1 (by have := hxp.2.2.2.2.2.1; have := hxp.2.2.2.1; have := hxp.2.1; omega) hfl
      cases hRf2
      refine fe_ivV hfrf2 (by omega) (by rfl) (by rfl) (by rfl) (by rfl) (by rfl) (by rfl) ?_
      exact fe_ret ⟨_, gf2, E, F, Or.inl rfl, fm_tx8_ff hgf2, fm_xp_ff hxp hgf2, hlf2, Nat.le_refl _, rfl⟩ (by rfl) (by rfl) (by rfl)
    · refine fe_s 1 (pc' := 16) (lc' := [(0, .ref 0), (1, .ref 22), (2, .int k)]) (stk' := [.ref 0]) (mem' := fm g tp bt a b) (fun _ _ _ => rfl) ?_
      obtain ⟨vk3, memk3, ⟨gk3, Ek3, Fk3, htk3, hxk3, hEk3, hpk3, hRk3⟩, hfrk3⟩ := fr_ahead (S := S) (E := E) (g := g) (tp := tp) (bt := bt) (a := a) (b := b) hxp.1 hxp.2.1 hxp.2.2.1 hxp.2.2.2.1
      cases hRk3
      refine fe_ivV hfrk3 (by omega) (by rfl) (by rfl) (by rfl) (by rfl) (by rfl) (by rfl) ?_
      refine fe_s 1 (pc' := 20) (lc' := [(0, .ref 0), (1, .ref 22), (2, .int k)]) (stk' := [.int 1]) (mem' := fm gk3 tp bt a b) (fun _ _ _ => rfl) ?_
      exact fe_ret ⟨_, gk3, Ek3, Fk3, Or.inr ⟨rfl, htk3 18 (by decide) (by decide) (by decide) (by decide), hpk3⟩, fm_tx8_of htk3, hxk3, fm_flt_tx hfl htk3, by have := hxk3.2.2.2.2.2.1; omega, rfl⟩ (by rfl) (by rfl) (by rfl)
  · refine fe_s 1 (pc' := 6) (lc' := [(0, .ref 0), (1, .ref 22), (2, .int k)]) (stk' := [.int k, .int (nI n5)]) (mem' := fm g tp bt a b) (fun _ _ _ => rfl) ?_
    refine fe_s 1 (pc' := cond (fx_cb .eq (nI n5) k) 15 9) (lc' := [(0, .ref 0), (1, .ref 22), (2, .int k)]) (stk' := []) (mem' := fm g tp bt a b) (fun _ _ _ => rfl) ?_
    cases h4 : fx_cb .eq (nI n5) k
    · refine fe_s 2 (pc' := 11) (lc' := [(0, .ref 0), (1, .ref 22), (2, .int k)]) (stk' := [.int 2, .ref 0]) (mem' := fm g tp bt a b) (fun _ _ _ => rfl) ?_
      obtain ⟨vf5, memf5, ⟨gf5, hgf5, hlf5, hzf5, hRf5⟩, hfrf5⟩ := fr_fails (x := 2) (F := F) (g := g) (tp := tp) (bt := bt) (a := a) (b := b) (by omega) (by omega) hxp.2.2.2.2.1 (by have := hxp.2.2.2.2.2.1; have := hxp.2.2.2.1; have := hxp.2.1; omega) hfl
      cases hRf5
      refine fe_ivV hfrf5 (by omega) (by rfl) (by rfl) (by rfl) (by rfl) (by rfl) (by rfl) ?_
      exact fe_ret ⟨_, gf5, E, F, Or.inl rfl, fm_tx8_ff hgf5, fm_xp_ff hxp hgf5, hlf5, Nat.le_refl _, rfl⟩ (by rfl) (by rfl) (by rfl)
    · refine fe_s 1 (pc' := 16) (lc' := [(0, .ref 0), (1, .ref 22), (2, .int k)]) (stk' := [.ref 0]) (mem' := fm g tp bt a b) (fun _ _ _ => rfl) ?_
      obtain ⟨vk6, memk6, ⟨gk6, Ek6, Fk6, htk6, hxk6, hEk6, hpk6, hRk6⟩, hfrk6⟩ := fr_ahead (S := S) (E := E) (g := g) (tp := tp) (bt := bt) (a := a) (b := b) hxp.1 hxp.2.1 hxp.2.2.1 hxp.2.2.2.1
      cases hRk6
      refine fe_ivV hfrk6 (by omega) (by rfl) (by rfl) (by rfl) (by rfl) (by rfl) (by rfl) ?_
      refine fe_s 1 (pc' := 20) (lc' := [(0, .ref 0), (1, .ref 22), (2, .int k)]) (stk' := [.int 1]) (mem' := fm gk6 tp bt a b) (fun _ _ _ => rfl) ?_
      exact fe_ret ⟨_, gk6, Ek6, Fk6, Or.inr ⟨rfl, htk6 18 (by decide) (by decide) (by decide) (by decide), hpk6⟩, fm_tx8_of htk6, hxk6, fm_flt_tx hfl htk6, by have := hxk6.2.2.2.2.2.1; omega, rfl⟩ (by rfl) (by rfl) (by rfl)
end FNW
