/-! ===== fx: the name that stands here, a number ===== -/
section FNH
variable {g : Nat → Int32} {tp bt : Int64} {a : Nat → Nat → Int32} {b : Nat → Nat → Int64}
/-- the name of the bytes from k on -/
def fm_nmf (a : Nat → Nat → Int32) (S : Nat) : Nat → Nat → Int64 → Int64
  | 0, _, v => v
  | r + 1, k, v => fm_nmf a S r (k + 1) (v <<< ((8 : Int32).toInt64 &&& 63) ||| (fm_byte a S k).toInt64)
def fm_nm (a : Nat → Nat → Int32) (S F E : Nat) : Int64 := fm_nmf a S (E - F) F 0
theorem fr_nameHere {S E F : Nat} (hxp : fm_xp g S E F) : fr_T 2 233 [.ref 0] (fm g tp bt a b) (some (.long (fm_nm a S F E))) (fm g tp bt a b) := by
  obtain ⟨h11, hS9, h14, hES, h13, hFE, -, -, -⟩ := id hxp
  refine fr_meth (by rfl) (by rfl) ?_
  have loop : ∀ (r k : Nat) (v : Int64), k + r = E → fr_R 1 gk_m233 7 [(3, .int (nI k)), (1, .long v), (0, .ref 0)] [] (fm g tp bt a b) (some (.long (fm_nmf a S r k v)), fm g tp bt a b) := by
    intro r
    induction r with
    | zero =>
      intro k v hk
      obtain rfl : E = k := by omega
      refine fr_s 3 (pc' := 12) (lc' := [(3, .int (nI E)), (1, .long v), (0, .ref 0)]) (stk' := [.int (g 14), .int (nI E)]) (mem' := fm g tp bt a b) (fun _ _ _ => rfl) ?_
      try rw [h14]
      refine fr_s 1 (pc' := cond (fx_cb .ge (nI E) (nI E)) 33 15) (lc' := [(3, .int (nI E)), (1, .long v), (0, .ref 0)]) (stk' := []) (mem' := fm g tp bt a b) (fun _ _ _ => rfl) ?_
      rw [show (fx_cb .ge (nI E) (nI E)) = true from cb_geT (a := E) (b := E) (by omega) (by omega) (by omega)]
      dsimp only [cond]
      refine fr_s 1 (pc' := 34) (lc' := [(3, .int (nI E)), (1, .long v), (0, .ref 0)]) (stk' := [.long v]) (mem' := fm g tp bt a b) (fun _ _ _ => rfl) ?_
      exact fr_ret (by rfl) (by rfl) (by rfl)
    | succ r ih =>
      intro k v hk
      refine fr_s 3 (pc' := 12) (lc' := [(3, .int (nI k)), (1, .long v), (0, .ref 0)]) (stk' := [.int (g 14), .int (nI k)]) (mem' := fm g tp bt a b) (fun _ _ _ => rfl) ?_
      try rw [h14]
      refine fr_s 1 (pc' := cond (fx_cb .ge (nI k) (nI E)) 33 15) (lc' := [(3, .int (nI k)), (1, .long v), (0, .ref 0)]) (stk' := []) (mem' := fm g tp bt a b) (fun _ _ _ => rfl) ?_
      rw [show (fx_cb .ge (nI k) (nI E)) = false from cb_geF (a := k) (b := E) (by omega) (by omega) (by omega)]
      dsimp only [cond]
      refine fr_s 5 (pc' := 21) (lc' := [(3, .int (nI k)), (1, .long v), (0, .ref 0)]) (stk' := [.int (nI k), .ref 0, .long (v <<< ((8 : Int32).toInt64 &&& 63))]) (mem' := fm g tp bt a b) (fun _ _ _ => rfl) ?_
      refine fr_ivV (fr_byteAt (S := S) (k := k) (g := g) (tp := tp) (bt := bt) (a := a) (b := b) h11 (by omega) (by omega)) (by omega) (by rfl) (by rfl) (by rfl) (by rfl) (by rfl) (by rfl) ?_
      refine fr_s 5 (pc' := 7) (lc' := [(3, .int ((nI k) + 1)), (1, .long ((v <<< ((8 : Int32).toInt64 &&& 63)) ||| ((fm_byte a S k).toInt64))), (0, .ref 0)]) (stk' := []) (mem' := fm g tp bt a b) (fun _ _ _ => rfl) ?_
      rw [show ((nI k) + 1 : Int32) = nI (k + 1) from by simp only [show (1 : Int32) = nI 1 from rfl, nI_add, fm_mul]]
      refine fr_w (lc' := [(3, .int (nI (k + 1))), (1, .long (v <<< ((8 : Int32).toInt64 &&& 63) ||| (fm_byte a S k).toInt64)), (0, .ref 0)]) ⟨rfl, rfl, rfl, trivial⟩ (by show List.Nodup [3, 1, 0]; decide) (by show List.Nodup [3, 1, 0]; decide) ?_
      exact ih (k + 1) _ (by omega)
  refine fr_s 5 (pc' := 7) (lc' := [(3, .int (g 13)), (1, .long 0), (0, .ref 0)]) (stk' := []) (mem' := fm g tp bt a b) (fun _ _ _ => rfl) ?_
  try rw [h13]
  exact loop (E - F) F 0 (by omega)
/-- a number is read to a place -/
def fm_FN (g : Nat → Int32) (tp bt : Int64) (a : Nat → Nat → Int32) (b : Nat → Nat → Int64) (S E T : Nat) (lo hi : Int32) (R : Option Value × fx_M) : Prop := ∃ (v : Int32) (g' : Nat → Int32) (a' : Nat → Nat → Int32) (E' F' : Nat), (v = 0 ∧ ¬ g' 18 = 0 ∧ a' = a ∨ v = 1 ∧ g' 18 = g 18 ∧ (g' 12 = 0 ∨ E < E') ∧ ∃ x : Int32, lo ≤ x ∧ x ≤ hi ∧ a' = fm_u a 1 T x) ∧ fm_tx8 g g' ∧ fm_xp g' S E' F' ∧ fm_flt g' ∧ E ≤ E' ∧ R = (some (.int v), fm g' tp bt a' b)
theorem cb_ltF' {x y : Int32} (h : fx_cb .lt x y = false) : y ≤ x := Int32.not_lt.mp (of_decide_eq_false h)
theorem cb_gtF' {x y : Int32} (h : fx_cb .gt x y = false) : x ≤ y := Int32.not_lt.mp (of_decide_eq_false h)
theorem fr_number {lo hi : Int32} {S E F T : Nat} (hxp : fm_xp g S E F) (hfl : fm_flt g) (hT : T < 5894) : ∃ (v : Option Value) (mem' : fx_M), (fm_FN g tp bt a b S E T lo hi) (v, mem') ∧ fr_T 4 231 [.ref 0, .int (nI T), .int lo, .int hi] (fm g tp bt a b) v mem' := by
  refine fe_meth (F := fm_FN g tp bt a b S E T lo hi) (M := gk_m231) (by rfl) (by rfl) ?_
  refine fe_s 3 (pc' := 5) (lc' := [(0, .ref 0), (1, .int (nI T)), (2, .int lo), (3, .int hi)]) (stk' := [.int 3, .int (g 12)]) (mem' := fm g tp bt a b) (fun _ _ _ => rfl) ?_
  refine fe_s 1 (pc' := cond (fx_cb .eq (g 12) 3) 14 8) (lc' := [(0, .ref 0), (1, .int (nI T)), (2, .int lo), (3, .int hi)]) (stk' := []) (mem' := fm g tp bt a b) (fun _ _ _ => rfl) ?_
  cases h1 : fx_cb .eq (g 12) 3
  · refine fe_s 2 (pc' := 10) (lc' := [(0, .ref 0), (1, .int (nI T)), (2, .int lo), (3, .int hi)]) (stk' := [.int 2, .ref 0]) (mem' := fm g tp bt a b) (fun _ _ _ => rfl) ?_
    obtain ⟨vf2, memf2, ⟨gf2, hgf2, hlf2, hzf2, hRf2⟩, hfrf2⟩ := fr_fails (x := 2) (F := F) (g := g) (tp := tp) (bt := bt) (a := a) (b := b) (by omega) (by omega) hxp.2.2.2.2.1 (by have := hxp.2.2.2.2.2.1; have := hxp.2.2.2.1; have := hxp.2.1; omega) hfl
    cases hRf2
    refine fe_ivV hfrf2 (by omega) (by rfl) (by rfl) (by rfl) (by rfl) (by rfl) (by rfl) ?_
    exact fe_ret ⟨_, gf2, a, E, F, Or.inl ⟨rfl, hzf2, rfl⟩, fm_tx8_ff hgf2, fm_xp_ff hxp hgf2, hlf2, Nat.le_refl _, rfl⟩ (by rfl) (by rfl) (by rfl)
  · refine fe_s 3 (pc' := 19) (lc' := [(0, .ref 0), (1, .int (nI T)), (2, .int lo), (3, .int hi)]) (stk' := [.int lo, .int (g 15)]) (mem' := fm g tp bt a b) (fun _ _ _ => rfl) ?_
    refine fe_s 1 (pc' := cond (fx_cb .lt (g 15) lo) 30 22) (lc' := [(0, .ref 0), (1, .int (nI T)), (2, .int lo), (3, .int hi)]) (stk' := []) (mem' := fm g tp bt a b) (fun _ _ _ => rfl) ?_
    cases h3 : fx_cb .lt (g 15) lo
    · refine fe_s 3 (pc' := 27) (lc' := [(0, .ref 0), (1, .int (nI T)), (2, .int lo), (3, .int hi)]) (stk' := [.int hi, .int (g 15)]) (mem' := fm g tp bt a b) (fun _ _ _ => rfl) ?_
      refine fe_s 1 (pc' := cond (fx_cb .le (g 15) hi) 36 30) (lc' := [(0, .ref 0), (1, .int (nI T)), (2, .int lo), (3, .int hi)]) (stk' := []) (mem' := fm g tp bt a b) (fun _ _ _ => rfl) ?_
      cases h4 : fx_cb .le (g 15) hi
      · refine fe_s 2 (pc' := 32) (lc' := [(0, .ref 0), (1, .int (nI T)), (2, .int lo), (3, .int hi)]) (stk' := [.int 4, .ref 0]) (mem' := fm g tp bt a b) (fun _ _ _ => rfl) ?_
        obtain ⟨vf5, memf5, ⟨gf5, hgf5, hlf5, hzf5, hRf5⟩, hfrf5⟩ := fr_fails (x := 4) (F := F) (g := g) (tp := tp) (bt := bt) (a := a) (b := b) (by omega) (by omega) hxp.2.2.2.2.1 (by have := hxp.2.2.2.2.2.1; have := hxp.2.2.2.1; have := hxp.2.1; omega) hfl
        cases hRf5
        refine fe_ivV hfrf5 (by omega) (by rfl) (by rfl) (by rfl) (by rfl) (by rfl) (by rfl) ?_
        exact fe_ret ⟨_, gf5, a, E, F, Or.inl ⟨rfl, hzf5, rfl⟩, fm_tx8_ff hgf5, fm_xp_ff hxp hgf5, hlf5, Nat.le_refl _, rfl⟩ (by rfl) (by rfl) (by rfl)
      · refine fe_s 5 (pc' := 45) (lc' := [(0, .ref 0), (1, .int (nI T)), (2, .int lo), (3, .int hi)]) (stk' := [.int (g 15), .int (nI T), .ref 1]) (mem' := fm g tp bt a b) (fun _ _ _ => rfl) ?_
        refine fe_stI (mem' := fm g tp bt (fm_u a 1 (nI T).toNatClampNeg (g 15)) b) (by rfl) (by rfl) (fx_inN (i := T) hT (by omega)) (by rfl) ?_
        rw [show Int32.toNatClampNeg (nI T) = T from nI_clamp (by omega)]
        refine fe_s 1 (pc' := 47) (lc' := [(0, .ref 0), (1, .int (nI T)), (2, .int lo), (3, .int hi)]) (stk' := [.ref 0]) (mem' := fm g tp bt (fm_u a 1 T (g 15)) b) (fun _ _ _ => rfl) ?_
        obtain ⟨vk6, memk6, ⟨gk6, Ek6, Fk6, htk6, hxk6, hEk6, hpk6, hRk6⟩, hfrk6⟩ := fr_ahead (S := S) (E := E) (g := g) (tp := tp) (bt := bt) (a := (fm_u a 1 T (g 15))) (b := b) hxp.1 hxp.2.1 hxp.2.2.1 hxp.2.2.2.1
        cases hRk6
        refine fe_ivV hfrk6 (by omega) (by rfl) (by rfl) (by rfl) (by rfl) (by rfl) (by rfl) ?_
        refine fe_s 1 (pc' := 51) (lc' := [(0, .ref 0), (1, .int (nI T)), (2, .int lo), (3, .int hi)]) (stk' := [.int 1]) (mem' := fm gk6 tp bt (fm_u a 1 T (g 15)) b) (fun _ _ _ => rfl) ?_
        exact fe_ret ⟨_, gk6, _, Ek6, Fk6, Or.inr ⟨rfl, htk6 18 (by decide) (by decide) (by decide) (by decide), hpk6, g 15, cb_ltF' h3, of_decide_eq_true h4, rfl⟩, fm_tx8_of htk6, hxk6, fm_flt_tx hfl htk6, by have := hxk6.2.2.2.2.2.1; omega, rfl⟩ (by rfl) (by rfl) (by rfl)
    · refine fe_s 2 (pc' := 32) (lc' := [(0, .ref 0), (1, .int (nI T)), (2, .int lo), (3, .int hi)]) (stk' := [.int 4, .ref 0]) (mem' := fm g tp bt a b) (fun _ _ _ => rfl) ?_
      obtain ⟨vf7, memf7, ⟨gf7, hgf7, hlf7, hzf7, hRf7⟩, hfrf7⟩ := fr_fails (x := 4) (F := F) (g := g) (tp := tp) (bt := bt) (a := a) (b := b) (by omega) (by omega) hxp.2.2.2.2.1 (by have := hxp.2.2.2.2.2.1; have := hxp.2.2.2.1; have := hxp.2.1; omega) hfl
      cases hRf7
      refine fe_ivV hfrf7 (by omega) (by rfl) (by rfl) (by rfl) (by rfl) (by rfl) (by rfl) ?_
      exact fe_ret ⟨_, gf7, a, E, F, Or.inl ⟨rfl, hzf7, rfl⟩, fm_tx8_ff hgf7, fm_xp_ff hxp hgf7, hlf7, Nat.le_refl _, rfl⟩ (by rfl) (by rfl) (by rfl)
/-- where a name stands among those of base -/
def fm_is (b : Nat → Nat → Int64) (base many : Nat) (nm : Int64) (v : Int32) : Prop := (v = -1 ∧ ∀ k, k < many → ¬ b 2 (base + k) = nm) ∨ ∃ k, k < many ∧ v = nI k ∧ b 2 (base + k) = nm ∧ ∀ j, j < k → ¬ b 2 (base + j) = nm
theorem fm_is_eq {base many : Nat} {nm : Int64} {v w : Int32} (h : fm_is b base many nm v) (h2 : fm_is b base many nm w) : v = w := by
  rcases h with ⟨rfl, h⟩ | ⟨k, hk, rfl, e, h⟩ <;> rcases h2 with ⟨rfl, q⟩ | ⟨j, hj, rfl, e2, q⟩
  · rfl
  · exact absurd e2 (h j hj)
  · exact absurd e (q k hk)
  · rcases Nat.lt_trichotomy k j with z | rfl | z
    · exact absurd e (q k z)
    · rfl
    · exact absurd e2 (h j z)
theorem lg_cmp0 {x y : Int64} (h : fx_cb .ne (lg_cmp x y) 0 = false) : x = y := by
  have e := fm_ne h
  rcases rk_lgc x y with ⟨z, -⟩ | ⟨-, z⟩ | ⟨z, -⟩
  · rw [z] at e; exact absurd e (by decide)
  · exact Int64.toInt_inj.mp z
  · rw [z] at e; exact absurd e (by decide)
theorem lg_cmp1 {x y : Int64} (h : fx_cb .ne (lg_cmp x y) 0 = true) : ¬ x = y := by
  rintro rfl
  have e := cb_ne0 h
  rcases rk_lgc x x with ⟨-, z⟩ | ⟨z, -⟩ | ⟨-, z⟩
  · omega
  · exact e z
  · omega
theorem fr_findHere {base many S E F : Nat} (hxp : fm_xp g S E F) (hbm : base + many ≤ 108) : ∃ (v : Option Value) (mem' : fx_M), (fun R => ∃ v : Int32, fm_is b base many (fm_nm a S F E) v ∧ R = (some (.int v), fm g tp bt a b)) (v, mem') ∧ fr_T 4 234 [.ref 0, .int (nI base), .int (nI many)] (fm g tp bt a b) v mem' := by
  refine fe_meth (F := fun R => ∃ v : Int32, fm_is b base many (fm_nm a S F E) v ∧ R = (some (.int v), fm g tp bt a b)) (M := gk_m234) (by rfl) (by rfl) ?_
  have loop : ∀ (r k : Nat), k + r = many → (∀ j, j < k → ¬ b 2 (base + j) = fm_nm a S F E) → fe_R 3 gk_m234 2 [(3, .int (nI k)), (0, .ref 0), (1, .int (nI base)), (2, .int (nI many))] [] (fm g tp bt a b) (fun R => ∃ v : Int32, fm_is b base many (fm_nm a S F E) v ∧ R = (some (.int v), fm g tp bt a b)) := by
    intro r
    induction r with
    | zero =>
      intro k hk hn
      obtain rfl : many = k := by omega
      refine fe_s 2 (pc' := 4) (lc' := [(3, .int (nI many)), (0, .ref 0), (1, .int (nI base)), (2, .int (nI many))]) (stk' := [.int (nI many), .int (nI many)]) (mem' := fm g tp bt a b) (fun _ _ _ => rfl) ?_
      refine fe_s 1 (pc' := cond (fx_cb .ge (nI many) (nI many)) 31 7) (lc' := [(3, .int (nI many)), (0, .ref 0), (1, .int (nI base)), (2, .int (nI many))]) (stk' := []) (mem' := fm g tp bt a b) (fun _ _ _ => rfl) ?_
      rw [show (fx_cb .ge (nI many) (nI many)) = true from cb_geT (a := many) (b := many) (by omega) (by omega) (by omega)]
      dsimp only [cond]
      refine fe_s 1 (pc' := 32) (lc' := [(3, .int (nI many)), (0, .ref 0), (1, .int (nI base)), (2, .int (nI many))]) (stk' := [.int (-1)]) (mem' := fm g tp bt a b) (fun _ _ _ => rfl) ?_
      exact fe_ret ⟨_, Or.inl ⟨rfl, hn⟩, rfl⟩ (by rfl) (by rfl) (by rfl)
    | succ r ih =>
      intro k hk hn
      refine fe_s 2 (pc' := 4) (lc' := [(3, .int (nI k)), (0, .ref 0), (1, .int (nI base)), (2, .int (nI many))]) (stk' := [.int (nI many), .int (nI k)]) (mem' := fm g tp bt a b) (fun _ _ _ => rfl) ?_
      refine fe_s 1 (pc' := cond (fx_cb .ge (nI k) (nI many)) 31 7) (lc' := [(3, .int (nI k)), (0, .ref 0), (1, .int (nI base)), (2, .int (nI many))]) (stk' := []) (mem' := fm g tp bt a b) (fun _ _ _ => rfl) ?_
      rw [show (fx_cb .ge (nI k) (nI many)) = false from cb_geF (a := k) (b := many) (by omega) (by omega) (by omega)]
      dsimp only [cond]
      refine fe_s 5 (pc' := 14) (lc' := [(3, .int (nI k)), (0, .ref 0), (1, .int (nI base)), (2, .int (nI many))]) (stk' := [.int ((nI base) + (nI k)), .ref 2]) (mem' := fm g tp bt a b) (fun _ _ _ => rfl) ?_
      rw [show ((nI base) + (nI k) : Int32) = nI (base + k) from by simp only [nI_add, fm_mul]]
      refine fe_ldL (by rfl) (by rfl) (fx_inN (i := base + k) (by omega) (by omega)) ?_
      rw [show Int32.toNatClampNeg (nI (base + k)) = base + k from nI_clamp (by omega)]
      refine fe_s 1 (pc' := 16) (lc' := [(3, .int (nI k)), (0, .ref 0), (1, .int (nI base)), (2, .int (nI many))]) (stk' := [.ref 0, .long (b 2 (base + k))]) (mem' := fm g tp bt a b) (fun _ _ _ => rfl) ?_
      refine fe_ivV (fr_nameHere hxp) (by omega) (by rfl) (by rfl) (by rfl) (by rfl) (by rfl) (by rfl) ?_
      refine fe_s 1 (pc' := 20) (lc' := [(3, .int (nI k)), (0, .ref 0), (1, .int (nI base)), (2, .int (nI many))]) (stk' := [.int (lg_cmp (b 2 (base + k)) (fm_nm a S F E))]) (mem' := fm g tp bt a b) (fun _ _ _ => rfl) ?_
      refine fe_s 1 (pc' := cond (fx_cb .ne (lg_cmp (b 2 (base + k)) (fm_nm a S F E)) 0) 25 23) (lc' := [(3, .int (nI k)), (0, .ref 0), (1, .int (nI base)), (2, .int (nI many))]) (stk' := []) (mem' := fm g tp bt a b) (fun _ _ _ => rfl) ?_
      cases h1 : fx_cb .ne (lg_cmp (b 2 (base + k)) (fm_nm a S F E)) 0
      · refine fe_s 1 (pc' := 24) (lc' := [(3, .int (nI k)), (0, .ref 0), (1, .int (nI base)), (2, .int (nI many))]) (stk' := [.int (nI k)]) (mem' := fm g tp bt a b) (fun _ _ _ => rfl) ?_
        exact fe_ret ⟨_, Or.inr ⟨k, by omega, rfl, lg_cmp0 h1, hn⟩, rfl⟩ (by rfl) (by rfl) (by rfl)
      · refine fe_s 2 (pc' := 2) (lc' := [(3, .int ((nI k) + 1)), (0, .ref 0), (1, .int (nI base)), (2, .int (nI many))]) (stk' := []) (mem' := fm g tp bt a b) (fun _ _ _ => rfl) ?_
        rw [show ((nI k) + 1 : Int32) = nI (k + 1) from by simp only [show (1 : Int32) = nI 1 from rfl, nI_add, fm_mul]]
        refine ih (k + 1) (by omega) (fun j hj => ?_)
        by_cases e : j = k
        · subst e; exact lg_cmp1 h1
        · exact hn j (by omega)
  refine fe_s 2 (pc' := 2) (lc' := [(3, .int 0), (0, .ref 0), (1, .int (nI base)), (2, .int (nI many))]) (stk' := []) (mem' := fm g tp bt a b) (fun _ _ _ => rfl) ?_
  exact loop many 0 (by omega) (fun j hj => absurd hj (Nat.not_lt_zero j))
end FNH
