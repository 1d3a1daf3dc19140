/-! ===== fx: a new name, an old one ===== -/
section FNO
variable {g : Nat → Int32} {tp bt : Int64} {a : Nat → Nat → Int32} {b : Nat → Nat → Int64}
/-- the heads of NEW are within their bounds -/
def fm_tn (a : Nat → Nat → Int32) (NC NW : Nat) : Prop := a 1 3368 = nI NC ∧ NC ≤ 10 ∧ a 1 3369 = nI NW ∧ NW ≤ 8
theorem fr_cellHere {S E F NC NW : Nat} (hxp : fm_xp g S E F) (hn : fm_tn a NC NW) : ∃ (v : Option Value) (mem' : fx_M), (fun R => ∃ q v : Int32, fr_T 3 232 [.ref 0, .ref 22] (fm g tp bt a b) (some (.int q)) (fm g tp bt a b) ∧ (q = 0 ∧ v = -1 ∨ q = 1 ∧ g 12 = 2 ∧ fm_is b 72 NC (fm_nm a S F E) v) ∧ R = (some (.int v), fm g tp bt a b)) (v, mem') ∧ fr_T 5 240 [.ref 0] (fm g tp bt a b) v mem' := by
  have hNC := hn.2.1
  have hNW := hn.2.2.2
  refine fe_meth (F := fun R => ∃ q v : Int32, fr_T 3 232 [.ref 0, .ref 22] (fm g tp bt a b) (some (.int q)) (fm g tp bt a b) ∧ (q = 0 ∧ v = -1 ∨ q = 1 ∧ g 12 = 2 ∧ fm_is b 72 NC (fm_nm a S F E) v) ∧ R = (some (.int v), fm g tp bt a b)) (M := gk_m240) (by rfl) (by rfl) ?_
  refine fe_s 2 (pc' := 3) (lc' := [(0, .ref 0)]) (stk' := [.ref 22, .ref 0]) (mem' := fm g tp bt a b) (fun _ _ _ => rfl) ?_
  obtain ⟨v6, mem6, ⟨x6, hx6, hR6⟩, hfr6⟩ := fr_isName (g := g) (tp := tp) (bt := bt) (a := a) (b := b) hxp
  cases hR6
  refine fe_ivV hfr6 (by omega) (by rfl) (by rfl) (by rfl) (by rfl) (by rfl) (by rfl) ?_
  rcases hx6 with rfl | ⟨rfl, hw6⟩
  · refine fe_s 1 (pc' := cond (fx_cb .eq 0 0) 26 9) (lc' := [(0, .ref 0)]) (stk' := []) (mem' := fm g tp bt a b) (fun _ _ _ => rfl) ?_
    rw [show (fx_cb .eq 0 0) = true from by decide]
    dsimp only [cond]
    refine fe_s 1 (pc' := 27) (lc' := [(0, .ref 0)]) (stk' := [.int (-1)]) (mem' := fm g tp bt a b) (fun _ _ _ => rfl) ?_
    exact fe_ret ⟨_, _, hfr6, Or.inl ⟨rfl, rfl⟩, rfl⟩ (by rfl) (by rfl) (by rfl)
  · refine fe_s 1 (pc' := cond (fx_cb .eq 1 0) 26 9) (lc' := [(0, .ref 0)]) (stk' := []) (mem' := fm g tp bt a b) (fun _ _ _ => rfl) ?_
    rw [show (fx_cb .eq 1 0) = false from by decide]
    dsimp only [cond]
    refine fe_s 5 (pc' := 19) (lc' := [(0, .ref 0)]) (stk' := [.int 3368, .ref 1, .int 72, .ref 0]) (mem' := fm g tp bt a b) (fun _ _ _ => rfl) ?_
    refine fe_ldI (by rfl) (by rfl) (fx_inN (i := 3368) (by omega) (by omega)) ?_
    rw [show Int32.toNatClampNeg (3368) = 3368 from rfl]
    rw [hn.1]
    obtain ⟨vw1, memw1, ⟨xw1, hxw1, hRw1⟩, hfrw1⟩ := fr_findHere (g := g) (tp := tp) (bt := bt) (a := a) (b := b) (base := 72) (many := NC) hxp (by omega)
    cases hRw1
    refine fe_ivV hfrw1 (by omega) (by rfl) (by rfl) (by rfl) (by rfl) (by rfl) (by rfl) ?_
    refine fe_s 1 (pc' := 27) (lc' := [(0, .ref 0)]) (stk' := [.int xw1]) (mem' := fm g tp bt a b) (fun _ _ _ => rfl) ?_
    exact fe_ret ⟨_, _, hfr6, Or.inr ⟨rfl, hw6, hxw1⟩, rfl⟩ (by rfl) (by rfl) (by rfl)
/-- an old name is read: where it stands is written -/
def fm_FO (g : Nat → Int32) (tp bt : Int64) (a : Nat → Nat → Int32) (b : Nat → Nat → Int64) (S E F T base many : Nat) (R : Option Value × fx_M) : Prop := ∃ (v : Int32) (g' : Nat → Int32) (a' : Nat → Nat → Int32) (E' F' : Nat), (v = 0 ∧ (a' = a ∨ ∃ x : Int32, x = -1 ∧ a' = fm_u a 1 T x) ∧ ¬ g' 18 = 0 ∨ v = 1 ∧ g' 18 = g 18 ∧ (g' 12 = 0 ∨ E < E') ∧ fr_T 3 232 [.ref 0, .ref 22] (fm g tp bt a b) (some (.int 1)) (fm g tp bt a b) ∧ ∃ k, k < many ∧ fm_is b base many (fm_nm a S F E) (nI k) ∧ a' = fm_u a 1 T (nI k)) ∧ fm_tx8 g g' ∧ fm_xp g' S E' F' ∧ fm_flt g' ∧ E ≤ E' ∧ R = (some (.int v), fm g' tp bt a' b)
theorem fm_nm_u {a : Nat → Nat → Int32} {T S : Nat} {x : Int32} {F E : Nat} : fm_nm (fm_u a 1 T x) S F E = fm_nm a S F E := by
  have h : ∀ (r k : Nat) (v : Int64), fm_nmf (fm_u a 1 T x) S r k v = fm_nmf a S r k v := by
    intro r
    induction r with
    | zero => intro k v; rfl
    | succ r ih =>
      intro k v
      show fm_nmf (fm_u a 1 T x) S r (k + 1) _ = fm_nmf a S r (k + 1) _
      rw [ih]
      rfl
  exact h _ _ _
theorem fr_oldOne {S E F T base many : Nat} (hxp : fm_xp g S E F) (hfl : fm_flt g) (hT : T < 5894) (hbm : base + many ≤ 108) : ∃ (v : Option Value) (mem' : fx_M), (fm_FO g tp bt a b S E F T base many) (v, mem') ∧ fr_T 6 238 [.ref 0, .int (nI base), .int (nI many), .int (nI T)] (fm g tp bt a b) v mem' := by
  refine fe_meth (F := fm_FO g tp bt a b S E F T base many) (M := gk_m238) (by rfl) (by rfl) ?_
  refine fe_s 2 (pc' := 3) (lc' := [(0, .ref 0), (1, .int (nI base)), (2, .int (nI many)), (3, .int (nI T))]) (stk' := [.ref 22, .ref 0]) (mem' := fm g tp bt a b) (fun _ _ _ => rfl) ?_
  obtain ⟨v6, mem6, ⟨x6, hx6, hR6⟩, hfr6⟩ := fr_isName (g := g) (tp := tp) (bt := bt) (a := a) (b := b) hxp
  cases hR6
  refine fe_ivV hfr6 (by omega) (by rfl) (by rfl) (by rfl) (by rfl) (by rfl) (by rfl) ?_
  rcases hx6 with rfl | ⟨rfl, hw6⟩
  · refine fe_s 1 (pc' := cond (fx_cb .ne 0 0) 15 9) (lc' := [(0, .ref 0), (1, .int (nI base)), (2, .int (nI many)), (3, .int (nI T))]) (stk' := []) (mem' := fm g tp bt a b) (fun _ _ _ => rfl) ?_
    rw [show (fx_cb .ne 0 0) = false from by decide]
    dsimp only [cond]
    refine fe_s 2 (pc' := 11) (lc' := [(0, .ref 0), (1, .int (nI base)), (2, .int (nI many)), (3, .int (nI T))]) (stk' := [.int 2, .ref 0]) (mem' := fm g tp bt a b) (fun _ _ _ => rfl) ?_
    obtain ⟨vf1, memf1, ⟨gf1, hgf1, hlf1, hzf1, hRf1⟩, hfrf1⟩ := fr_fails (x := 2) (F := F) (g := g) (tp := tp) (bt := bt) (a := a) (b := b) (by omega) (by omega) hxp.2.2.2.2.1 (by have := hxp.2.2.2.2.2.1; have := hxp.2.2.2.1; have := hxp.2.1; omega) hfl
    cases hRf1
    refine fe_ivV hfrf1 (by omega) (by rfl) (by rfl) (by rfl) (by rfl) (by rfl) (by rfl) ?_
    exact fe_ret ⟨_, gf1, _, E, F, Or.inl ⟨rfl, Or.inl rfl, hzf1⟩, fm_tx8_ff hgf1, fm_xp_ff hxp hgf1, hlf1, Nat.le_refl _, rfl⟩ (by rfl) (by rfl) (by rfl)
  · refine fe_s 1 (pc' := cond (fx_cb .ne 1 0) 15 9) (lc' := [(0, .ref 0), (1, .int (nI base)), (2, .int (nI many)), (3, .int (nI T))]) (stk' := []) (mem' := fm g tp bt a b) (fun _ _ _ => rfl) ?_
    rw [show (fx_cb .ne 1 0) = true from by decide]
    dsimp only [cond]
    refine fe_s 6 (pc' := 23) (lc' := [(0, .ref 0), (1, .int (nI base)), (2, .int (nI many)), (3, .int (nI T))]) (stk' := [.int (nI many), .int (nI base), .ref 0, .int (nI T), .ref 1]) (mem' := fm g tp bt a b) (fun _ _ _ => rfl) ?_
    obtain ⟨vw2, memw2, ⟨xw2, hxw2, hRw2⟩, hfrw2⟩ := fr_findHere (g := g) (tp := tp) (bt := bt) (a := a) (b := b) (base := base) (many := many) hxp (by omega)
    cases hRw2
    refine fe_ivV hfrw2 (by omega) (by rfl) (by rfl) (by rfl) (by rfl) (by rfl) (by rfl) ?_
    rcases hxw2 with ⟨rfl, hno⟩ | ⟨k, hk, rfl, hkb, hkm⟩
    · refine fe_stI (mem' := fm g tp bt (fm_u a 1 (nI T).toNatClampNeg (-1)) b) (by rfl) (by rfl) (fx_inN (i := T) hT (by omega)) (by rfl) ?_
      rw [show Int32.toNatClampNeg (nI T) = T from nI_clamp (by omega)]
      refine fe_s 3 (pc' := 32) (lc' := [(0, .ref 0), (1, .int (nI base)), (2, .int (nI many)), (3, .int (nI T))]) (stk' := [.int (nI T), .ref 1]) (mem' := fm g tp bt (fm_u a 1 T (-1)) b) (fun _ _ _ => rfl) ?_
      refine fe_ldI (by rfl) (by rfl) (fx_inN (i := T) (by omega) (by omega)) ?_
      rw [show Int32.toNatClampNeg (nI T) = T from nI_clamp (by omega)]
      rw [show fm_u a 1 T (-1) 1 T = (-1) from by unfold fm_u; rw [if_pos rfl, pk_us]]
      refine fe_s 1 (pc' := 34) (lc' := [(0, .ref 0), (1, .int (nI base)), (2, .int (nI many)), (3, .int (nI T))]) (stk' := [.int (-1), .int (-1)]) (mem' := fm g tp bt (fm_u a 1 T (-1)) b) (fun _ _ _ => rfl) ?_
      refine fe_s 1 (pc' := cond (fx_cb .ne (-1) (-1)) 43 37) (lc' := [(0, .ref 0), (1, .int (nI base)), (2, .int (nI many)), (3, .int (nI T))]) (stk' := []) (mem' := fm g tp bt (fm_u a 1 T (-1)) b) (fun _ _ _ => rfl) ?_
      rw [show (fx_cb .ne (-1) (-1)) = false from by decide]
      dsimp only [cond]
      refine fe_s 2 (pc' := 39) (lc' := [(0, .ref 0), (1, .int (nI base)), (2, .int (nI many)), (3, .int (nI T))]) (stk' := [.int 3, .ref 0]) (mem' := fm g tp bt (fm_u a 1 T (-1)) b) (fun _ _ _ => rfl) ?_
      obtain ⟨vf3, memf3, ⟨gf3, hgf3, hlf3, hzf3, hRf3⟩, hfrf3⟩ := fr_fails (x := 3) (F := F) (g := g) (tp := tp) (bt := bt) (a := (fm_u a 1 T (-1))) (b := b) (by omega) (by omega) hxp.2.2.2.2.1 (by have := hxp.2.2.2.2.2.1; have := hxp.2.2.2.1; have := hxp.2.1; omega) hfl
      cases hRf3
      refine fe_ivV hfrf3 (by omega) (by rfl) (by rfl) (by rfl) (by rfl) (by rfl) (by rfl) ?_
      exact fe_ret ⟨_, gf3, _, E, F, Or.inl ⟨rfl, Or.inr ⟨_, rfl, rfl⟩, hzf3⟩, fm_tx8_ff hgf3, fm_xp_ff hxp hgf3, hlf3, Nat.le_refl _, rfl⟩ (by rfl) (by rfl) (by rfl)
    · refine fe_stI (mem' := fm g tp bt (fm_u a 1 (nI T).toNatClampNeg (nI k)) b) (by rfl) (by rfl) (fx_inN (i := T) hT (by omega)) (by rfl) ?_
      rw [show Int32.toNatClampNeg (nI T) = T from nI_clamp (by omega)]
      refine fe_s 3 (pc' := 32) (lc' := [(0, .ref 0), (1, .int (nI base)), (2, .int (nI many)), (3, .int (nI T))]) (stk' := [.int (nI T), .ref 1]) (mem' := fm g tp bt (fm_u a 1 T (nI k)) b) (fun _ _ _ => rfl) ?_
      refine fe_ldI (by rfl) (by rfl) (fx_inN (i := T) (by omega) (by omega)) ?_
      rw [show Int32.toNatClampNeg (nI T) = T from nI_clamp (by omega)]
      rw [show fm_u a 1 T (nI k) 1 T = nI k from by unfold fm_u; rw [if_pos rfl, pk_us]]
      refine fe_s 1 (pc' := 34) (lc' := [(0, .ref 0), (1, .int (nI base)), (2, .int (nI many)), (3, .int (nI T))]) (stk' := [.int (-1), .int (nI k)]) (mem' := fm g tp bt (fm_u a 1 T (nI k)) b) (fun _ _ _ => rfl) ?_
      refine fe_s 1 (pc' := cond (fx_cb .ne (nI k) (-1)) 43 37) (lc' := [(0, .ref 0), (1, .int (nI base)), (2, .int (nI many)), (3, .int (nI T))]) (stk' := []) (mem' := fm g tp bt (fm_u a 1 T (nI k)) b) (fun _ _ _ => rfl) ?_
      rw [show (fx_cb .ne (nI k) (-1)) = true from cb_n_ne (by omega) (by decide)]
      dsimp only [cond]
      refine fe_s 1 (pc' := 44) (lc' := [(0, .ref 0), (1, .int (nI base)), (2, .int (nI many)), (3, .int (nI T))]) (stk' := [.ref 0]) (mem' := fm g tp bt (fm_u a 1 T (nI k)) b) (fun _ _ _ => rfl) ?_
      obtain ⟨vk4, memk4, ⟨gk4, Ek4, Fk4, htk4, hxk4, hEk4, hpk4, hRk4⟩, hfrk4⟩ := fr_ahead (S := S) (E := E) (g := g) (tp := tp) (bt := bt) (a := (fm_u a 1 T (nI k))) (b := b) hxp.1 hxp.2.1 hxp.2.2.1 hxp.2.2.2.1
      cases hRk4
      refine fe_ivV hfrk4 (by omega) (by rfl) (by rfl) (by rfl) (by rfl) (by rfl) (by rfl) ?_
      refine fe_s 1 (pc' := 48) (lc' := [(0, .ref 0), (1, .int (nI base)), (2, .int (nI many)), (3, .int (nI T))]) (stk' := [.int 1]) (mem' := fm gk4 tp bt (fm_u a 1 T (nI k)) b) (fun _ _ _ => rfl) ?_
      exact fe_ret ⟨_, gk4, _, Ek4, Fk4, Or.inr ⟨rfl, htk4 18 (by decide) (by decide) (by decide) (by decide), hpk4, hfr6, k, hk, Or.inr ⟨k, hk, rfl, hkb, hkm⟩, rfl⟩, fm_tx8_of htk4, hxk4, fm_flt_tx hfl htk4, by have := hxk4.2.2.2.2.2.1; omega, rfl⟩ (by rfl) (by rfl) (by rfl)
end FNO
