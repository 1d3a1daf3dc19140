/-! ===== fx: wayAt, surestAt ===== -/
section FWA
variable {g : Nat → Int32} {tp bt : Int64} {a : Nat → Nat → Int32} {b : Nat → Nat → Int64}
theorem fm_t_eq {p q : Nat → Nat → Int32} (h : q 1 = p 1) (ht : fm_t p) : fm_t q := by
  unfold fm_t at ht ⊢
  rw [h]
  exact ht
theorem fm_sym_eq {p q : Nat → Nat → Int32} (h : q 1 = p 1) (hs : fm_sym p) : fm_sym q := by
  unfold fm_sym at hs ⊢
  rw [h]
  exact hs
theorem fm_upd2 {g : Nat → Int32} {k : Nat} {x y : Int32} : upd (upd g k x) k y = upd g k y := funext (fun i => by
  by_cases e : i = k
  · subst e; rw [pk_us, pk_us]
  · rw [pk_un e, pk_un e, pk_un e])
theorem fm_ne {x y : Int32} (h : fx_cb .ne x y = false) : x = y := by
  have h2 : (!decide (x = y)) = false := h
  rw [Bool.not_eq_false'] at h2
  exact of_decide_eq_true h2
/-- far0 alone is changed, and is within -/
def fm_f9 (a p : Nat → Nat → Int32) : Prop := (∀ t, t ≠ 9 → p t = a t) ∧ ∀ i, i < 10 → 0 ≤ (p 9 i).toInt ∧ (p 9 i).toInt ≤ 1000000
def fm_FW (g : Nat → Int32) (tp bt : Int64) (a : Nat → Nat → Int32) (b : Nat → Nat → Int64) (R : Option Value × fx_M) : Prop := ∃ (v s : Int32) (p : Nat → Nat → Int32), (v = -1 ∨ ∃ c, c < 10 ∧ v = nI c) ∧ 0 ≤ s.toInt ∧ s.toInt ≤ 9 ∧ fm_f9 a p ∧ R = (some (.int v), fm (upd g 2 s) tp bt p b)
def fm_FS9 (g : Nat → Int32) (tp bt : Int64) (a : Nat → Nat → Int32) (b : Nat → Nat → Int64) (R : Option Value × fx_M) : Prop := ∃ (v x : Int32) (p : Nat → Nat → Int32), (v = 0 ∨ v = 1) ∧ fm_ok9 a p ∧ R = (some (.int v), fm (upd g 25 x) tp bt p b)
def fm_FQ (g : Nat → Int32) (tp bt : Int64) (a : Nat → Nat → Int32) (b : Nat → Nat → Int64) (R : Option Value × fx_M) : Prop := ∃ (v s x : Int32) (p : Nat → Nat → Int32) (g' : Nat → Int32), (v = -1 ∨ ∃ c, c < 10 ∧ v = nI c) ∧ 0 ≤ s.toInt ∧ s.toInt ≤ 9 ∧ fm_f9 a p ∧ (g' = g ∨ g' = upd g 25 x) ∧ R = (some (.int v), fm (upd g' 2 s) tp bt p b)
theorem fr_orNone {x : Int32}  : ∃ (v : Option Value) (mem' : fx_M), (fun R => ∃ s : Int32, 0 ≤ s.toInt ∧ s.toInt ≤ 9 ∧ R = (some (.int x), fm (upd g 2 s) tp bt a b)) (v, mem') ∧ fr_T 3 209 [.ref 0, .int x] (fm g tp bt a b) v mem' := by
  refine fe_meth (F := fun R => ∃ s : Int32, 0 ≤ s.toInt ∧ s.toInt ≤ 9 ∧ R = (some (.int x), fm (upd g 2 s) tp bt a b)) (M := gk_m209) (by rfl) (by rfl) ?_
  refine fe_s 2 (pc' := 2) (lc' := [(0, .ref 0), (1, .int x)]) (stk' := [.int (-1), .int x]) (mem' := fm g tp bt a b) (fun _ _ _ => rfl) ?_
  refine fe_s 1 (pc' := cond (fx_cb .ne x (-1)) 14 5) (lc' := [(0, .ref 0), (1, .int x)]) (stk' := []) (mem' := fm g tp bt a b) (fun _ _ _ => rfl) ?_
  cases h1 : fx_cb .ne x (-1)
  · refine fe_s 2 (pc' := 8) (lc' := [(0, .ref 0), (1, .int x)]) (stk' := [.int 6, .ref 0]) (mem' := fm g tp bt a b) (fun _ _ _ => rfl) ?_
    refine fe_ivV (fr_refuse (x := 6)) (by omega) (by rfl) (by rfl) (by rfl) (by rfl) (by rfl) (by rfl) ?_
    refine fe_s 1 (pc' := 19) (lc' := [(0, .ref 0), (1, .int x)]) (stk' := [.int (-1)]) (mem' := fm (upd g 2 6) tp bt a b) (fun _ _ _ => rfl) ?_
    exact fe_ret ⟨6, by decide, by decide, by rw [fm_ne h1]⟩ (by rfl) (by rfl) (by rfl)
  · refine fe_s 2 (pc' := 16) (lc' := [(0, .ref 0), (1, .int x)]) (stk' := [.int x, .ref 0]) (mem' := fm g tp bt a b) (fun _ _ _ => rfl) ?_
    refine fe_ivV (fr_gives (x := x)) (by omega) (by rfl) (by rfl) (by rfl) (by rfl) (by rfl) (by rfl) ?_
    exact fe_ret ⟨0, by decide, by decide, rfl⟩ (by rfl) (by rfl) (by rfl)
theorem fr_wayAt {w c k : Int32} (ht : fm_t a) (hs : fm_sym a) (hb9 : ∀ i, i < 10 → 0 ≤ (a 9 i).toInt ∧ (a 9 i).toInt ≤ 1000000) : ∃ (v : Option Value) (mem' : fx_M), (fm_FW g tp bt a b) (v, mem') ∧ fr_T 8 311 [.ref 0, .int w, .int c, .int k] (fm g tp bt a b) v mem' := by
  refine fe_meth (F := fm_FW g tp bt a b) (M := gk_m311) (by rfl) (by rfl) ?_
  refine fe_s 3 (pc' := 3) (lc' := [(0, .ref 0), (1, .int w), (2, .int c), (3, .int k)]) (stk' := [.int c, .int w, .ref 0]) (mem' := fm g tp bt a b) (fun _ _ _ => rfl) ?_
  obtain ⟨v7, mem7, ⟨x7, hx7, hR7⟩, hfr7⟩ := fr_areBoth (w := w) (c := c) (g := g) (tp := tp) (bt := bt) (b := b) ht
  cases hR7
  refine fe_ivV hfr7 (by omega) (by rfl) (by rfl) (by rfl) (by rfl) (by rfl) (by rfl) ?_
  rcases hx7 with rfl | ⟨rfl, W, hW, rfl⟩
  · refine fe_s 1 (pc' := cond (fx_cb .ne 0 0) 15 9) (lc' := [(0, .ref 0), (1, .int w), (2, .int c), (3, .int k)]) (stk' := []) (mem' := fm g tp bt a b) (fun _ _ _ => rfl) ?_
    rw [show (fx_cb .ne 0 0) = false from by decide]
    dsimp only [cond]
    refine fe_s 2 (pc' := 11) (lc' := [(0, .ref 0), (1, .int w), (2, .int c), (3, .int k)]) (stk' := [.int 1, .ref 0]) (mem' := fm g tp bt a b) (fun _ _ _ => rfl) ?_
    refine fe_ivV (fr_refuse (x := 1)) (by omega) (by rfl) (by rfl) (by rfl) (by rfl) (by rfl) (by rfl) ?_
    exact fe_ret ⟨_, _, a, Or.inl rfl, by decide, by decide, ⟨fun _ _ => rfl, hb9⟩, rfl⟩ (by rfl) (by rfl) (by rfl)
  · obtain ⟨⟨NC, hNC, eNC⟩, -, -, -, hw⟩ := id ht
    obtain ⟨X, hX, eX⟩ := hw W hW
    refine fe_s 1 (pc' := cond (fx_cb .ne 1 0) 15 9) (lc' := [(0, .ref 0), (1, .int (nI W)), (2, .int c), (3, .int k)]) (stk' := []) (mem' := fm g tp bt a b) (fun _ _ _ => rfl) ?_
    rw [show (fx_cb .ne 1 0) = true from by decide]
    dsimp only [cond]
    refine fe_s 5 (pc' := 20) (lc' := [(0, .ref 0), (1, .int (nI W)), (2, .int c), (3, .int k)]) (stk' := [.int (nI W), .ref 0, .int c, .int (nI W), .ref 0]) (mem' := fm g tp bt a b) (fun _ _ _ => rfl) ?_
    obtain ⟨v1, hv1⟩ := fq_bearers (W := W) (g := g) (tp := tp) (bt := bt) (a := a) (b := b) ht (by omega)
    refine fe_ivV hv1 (by omega) (by rfl) (by rfl) (by rfl) (by rfl) (by rfl) (by rfl) ?_
    obtain ⟨vp, memp, ⟨p, hp, hRp⟩, hfrp⟩ := fr_laysFar (g := g) (tp := tp) (bt := bt) (a := a) (b := b) (to := c) (bby := v1) (W := W) (by omega) eX hX eNC hNC
    cases hRp
    refine fe_ivV hfrp (by omega) (by rfl) (by rfl) (by rfl) (by rfl) (by rfl) (by rfl) ?_
    have ep : p 1 = a 1 := hp.1 1 (by decide)
    have ap : ∀ t, t ≠ 9 → p t = a t := hp.1
    have htp : fm_t p := fm_t_eq ep ht
    have eXp : p 1 (279 + 5 * W) = nI X := by rw [ep]; exact eX
    have eNp : p 1 0 = nI NC := by rw [ep]; exact eNC
    refine fe_s 5 (pc' := 31) (lc' := [(0, .ref 0), (1, .int (nI W)), (2, .int c), (3, .int k)]) (stk' := [.int k, .int (nI W), .ref 0, .ref 0]) (mem' := fm g tp bt p b) (fun _ _ _ => rfl) ?_
    obtain ⟨vw, memw, ⟨xw, hxw, hRw⟩, hfrw⟩ := fr_onWay (W := W) (k := k) (g := g) (tp := tp) (bt := bt) (a := p) (b := b) htp hp.2 (fm_sym_eq (ap 1 (by decide)) hs) hW
    cases hRw
    refine fe_ivV hfrw (by omega) (by rfl) (by rfl) (by rfl) (by rfl) (by rfl) (by rfl) ?_
    obtain ⟨vo, memo, ⟨so, ho1, ho2, hRo⟩, hfro⟩ := fr_orNone (x := xw) (g := g) (tp := tp) (bt := bt) (a := p) (b := b)
    cases hRo
    refine fe_ivV hfro (by omega) (by rfl) (by rfl) (by rfl) (by rfl) (by rfl) (by rfl) ?_
    exact fe_ret ⟨_, _, p, hxw, ho1, ho2, ⟨ap, fm_bfs_bd hp.2⟩, rfl⟩ (by rfl) (by rfl) (by rfl)
theorem fr_laysSurest {W : Nat} {to : Int32} (ht : fm_t a) (hW : W < 8) : ∃ (v : Option Value) (mem' : fx_M), (fm_FS9 g tp bt a b) (v, mem') ∧ fr_T 8 312 [.ref 0, .int (nI W), .int to] (fm g tp bt a b) v mem' := by
  obtain ⟨⟨NC, hNC, eNC⟩, -, -, -, hw⟩ := id ht
  obtain ⟨X, hX, eX⟩ := hw W hW
  refine fe_meth (F := fm_FS9 g tp bt a b) (M := gk_m312) (by rfl) (by rfl) ?_
  refine fe_s 7 (pc' := 12) (lc' := [(4, .int 0), (3, .int 0), (0, .ref 0), (1, .int (nI W)), (2, .int to)]) (stk' := []) (mem' := fm (upd g 25 (-1000000)) tp bt a b) (fun _ _ _ => rfl) ?_
  refine fe_w (lc' := [(4, .int (0)), (3, .int 0), (0, .ref 0), (1, .int (nI W)), (2, .int to)]) ⟨rfl, rfl, rfl, rfl, rfl, trivial⟩ (by show List.Nodup [4, 3, 0, 1, 2]; decide) (by show List.Nodup [4, 3, 0, 1, 2]; decide) ?_
  have loop : ∀ (r i : Nat), i + r = NC → ∀ (z x : Int32) (p : Nat → Nat → Int32), (z = 0 ∨ z = 1) → (∀ t, t ≠ 9 → p t = a t) → fe_R 7 gk_m312 12 [(4, .int (nI i)), (3, .int z), (0, .ref 0), (1, .int (nI W)), (2, .int to)] [] (fm (upd g 25 x) tp bt p b) (fm_FS9 g tp bt a b) := by
    intro r
    induction r with
    | zero =>
      intro i hir z x p hz ap
      have htp : fm_t p := fm_t_eq (ap 1 (by decide)) ht
      have eXp : p 1 (279 + 5 * W) = nI X := by rw [ap 1 (by decide)]; exact eX
      have eNp : p 1 0 = nI NC := by rw [ap 1 (by decide)]; exact eNC
      obtain rfl : NC = i := by omega
      refine fe_s 4 (pc' := 19) (lc' := [(4, .int (nI NC)), (3, .int z), (0, .ref 0), (1, .int (nI W)), (2, .int to)]) (stk' := [.int 0, .ref 1, .int (nI NC)]) (mem' := fm (upd g 25 x) tp bt p b) (fun _ _ _ => rfl) ?_
      refine fe_ldI (by rfl) (by rfl) (fx_inN (i := 0) (by omega) (by omega)) ?_
      rw [show Int32.toNatClampNeg (0) = 0 from rfl]
      rw [eNp]
      refine fe_s 1 (pc' := cond (fx_cb .ge (nI NC) (nI NC)) 77 23) (lc' := [(4, .int (nI NC)), (3, .int z), (0, .ref 0), (1, .int (nI W)), (2, .int to)]) (stk' := []) (mem' := fm (upd g 25 x) tp bt p b) (fun _ _ _ => rfl) ?_
      rw [show (fx_cb .ge (nI NC) (nI NC)) = true from cb_geT (a := NC) (b := NC) (by omega) (by omega) (by omega)]
      dsimp only [cond]
      refine fe_s 7 (pc' := 86) (lc' := [(4, .int (nI NC)), (3, .int z), (0, .ref 0), (1, .int (nI W)), (2, .int to)]) (stk' := [.int x, .int (nI W), .ref 0, .int to, .int (nI W), .ref 0]) (mem' := fm (upd g 25 x) tp bt p b) (fun _ _ _ => rfl) ?_
      obtain ⟨v1, hv1⟩ := fq_above (W := W) (m := x) (g := (upd g 25 x)) (tp := tp) (bt := bt) (a := p) (b := b) htp (by omega)
      refine fe_ivV hv1 (by omega) (by rfl) (by rfl) (by rfl) (by rfl) (by rfl) (by rfl) ?_
      obtain ⟨vp2, memp2, ⟨p2, hp2, hRp2⟩, hfrp2⟩ := fr_laysFar (g := (upd g 25 x)) (tp := tp) (bt := bt) (a := p) (b := b) (to := to) (bby := v1) (W := W) (by omega) eXp hX eNp hNC
      cases hRp2
      refine fe_ivV hfrp2 (by omega) (by rfl) (by rfl) (by rfl) (by rfl) (by rfl) (by rfl) ?_
      have ep2 : p2 1 = p 1 := hp2.1 1 (by decide)
      have ap2 : ∀ t, t ≠ 9 → p2 t = a t := fun t h9 => (hp2.1 t h9).trans (ap t h9)
      have htp2 : fm_t p2 := fm_t_eq ep2 htp
      have eXp2 : p2 1 (279 + 5 * W) = nI X := by rw [ep2]; exact eXp
      have eNp2 : p2 1 0 = nI NC := by rw [ep2]; exact eNp
      refine fe_s 2 (pc' := 94) (lc' := [(4, .int (nI NC)), (3, .int z), (0, .ref 0), (1, .int (nI W)), (2, .int to)]) (stk' := [.int z]) (mem' := fm (upd g 25 x) tp bt p2 b) (fun _ _ _ => rfl) ?_
      exact fe_retz ⟨_, x, p2, hz, ⟨ap2, hp2.2⟩, rfl⟩ hz (by rfl) (by rfl)
    | succ r ih =>
      intro i hir z x p hz ap
      have htp : fm_t p := fm_t_eq (ap 1 (by decide)) ht
      have eXp : p 1 (279 + 5 * W) = nI X := by rw [ap 1 (by decide)]; exact eX
      have eNp : p 1 0 = nI NC := by rw [ap 1 (by decide)]; exact eNC
      refine fe_s 4 (pc' := 19) (lc' := [(4, .int (nI i)), (3, .int z), (0, .ref 0), (1, .int (nI W)), (2, .int to)]) (stk' := [.int 0, .ref 1, .int (nI i)]) (mem' := fm (upd g 25 x) tp bt p b) (fun _ _ _ => rfl) ?_
      refine fe_ldI (by rfl) (by rfl) (fx_inN (i := 0) (by omega) (by omega)) ?_
      rw [show Int32.toNatClampNeg (0) = 0 from rfl]
      rw [eNp]
      refine fe_s 1 (pc' := cond (fx_cb .ge (nI i) (nI NC)) 77 23) (lc' := [(4, .int (nI i)), (3, .int z), (0, .ref 0), (1, .int (nI W)), (2, .int to)]) (stk' := []) (mem' := fm (upd g 25 x) tp bt p b) (fun _ _ _ => rfl) ?_
      rw [show (fx_cb .ge (nI i) (nI NC)) = false from cb_geF (a := i) (b := NC) (by omega) (by omega) (by omega)]
      dsimp only [cond]
      refine fe_s 3 (pc' := 27) (lc' := [(4, .int (nI i)), (3, .int z), (0, .ref 0), (1, .int (nI W)), (2, .int to)]) (stk' := [.int (nI i), .int (nI W), .ref 0]) (mem' := fm (upd g 25 x) tp bt p b) (fun _ _ _ => rfl) ?_
      obtain ⟨v2, hv2⟩ := fq_marginOf (W := W) (C := i) (g := (upd g 25 x)) (tp := tp) (bt := bt) (a := p) (b := b) htp (by omega) (by omega)
      refine fe_ivV hv2 (by omega) (by rfl) (by rfl) (by rfl) (by rfl) (by rfl) (by rfl) ?_
      refine fe_s 4 (pc' := 38) (lc' := [(5, .int v2), (4, .int (nI i)), (3, .int z), (0, .ref 0), (1, .int (nI W)), (2, .int to)]) (stk' := [.int x, .int v2]) (mem' := fm (upd g 25 x) tp bt p b) (fun _ _ _ => rfl) ?_
      refine fe_s 1 (pc' := cond (fx_cb .le v2 x) 71 41) (lc' := [(5, .int v2), (4, .int (nI i)), (3, .int z), (0, .ref 0), (1, .int (nI W)), (2, .int to)]) (stk' := []) (mem' := fm (upd g 25 x) tp bt p b) (fun _ _ _ => rfl) ?_
      cases h3 : fx_cb .le v2 x
      · refine fe_s 6 (pc' := 48) (lc' := [(5, .int v2), (4, .int (nI i)), (3, .int z), (0, .ref 0), (1, .int (nI W)), (2, .int to)]) (stk' := [.int v2, .int (nI W), .ref 0, .int to, .int (nI W), .ref 0]) (mem' := fm (upd g 25 x) tp bt p b) (fun _ _ _ => rfl) ?_
        obtain ⟨v4, hv4⟩ := fq_above (W := W) (m := v2) (g := (upd g 25 x)) (tp := tp) (bt := bt) (a := p) (b := b) htp (by omega)
        refine fe_ivV hv4 (by omega) (by rfl) (by rfl) (by rfl) (by rfl) (by rfl) (by rfl) ?_
        obtain ⟨vp2, memp2, ⟨p2, hp2, hRp2⟩, hfrp2⟩ := fr_laysFar (g := (upd g 25 x)) (tp := tp) (bt := bt) (a := p) (b := b) (to := to) (bby := v4) (W := W) (by omega) eXp hX eNp hNC
        cases hRp2
        refine fe_ivV hfrp2 (by omega) (by rfl) (by rfl) (by rfl) (by rfl) (by rfl) (by rfl) ?_
        have ep2 : p2 1 = p 1 := hp2.1 1 (by decide)
        have ap2 : ∀ t, t ≠ 9 → p2 t = a t := fun t h9 => (hp2.1 t h9).trans (ap t h9)
        have htp2 : fm_t p2 := fm_t_eq ep2 htp
        have eXp2 : p2 1 (279 + 5 * W) = nI X := by rw [ep2]; exact eXp
        have eNp2 : p2 1 0 = nI NC := by rw [ep2]; exact eNp
        refine fe_s 1 (pc' := 57) (lc' := [(5, .int v2), (4, .int (nI i)), (3, .int z), (0, .ref 0), (1, .int (nI W)), (2, .int to)]) (stk' := [.int 1000000, .int (p2 9 X)]) (mem' := fm (upd g 25 x) tp bt p2 b) (fun _ _ _ => rfl) ?_
        refine fe_s 1 (pc' := cond (fx_cb .ne (p2 9 X) 1000000) 63 60) (lc' := [(5, .int v2), (4, .int (nI i)), (3, .int z), (0, .ref 0), (1, .int (nI W)), (2, .int to)]) (stk' := []) (mem' := fm (upd g 25 x) tp bt p2 b) (fun _ _ _ => rfl) ?_
        cases h5 : fx_cb .ne (p2 9 X) 1000000
        · refine fe_s 3 (pc' := 12) (lc' := [(4, .int ((nI i) + 1)), (5, .int v2), (3, .int z), (0, .ref 0), (1, .int (nI W)), (2, .int to)]) (stk' := []) (mem' := fm (upd g 25 x) tp bt p2 b) (fun _ _ _ => rfl) ?_
          rw [show ((nI i) + 1 : Int32) = nI (i + 1) from by simp only [show (1 : Int32) = nI 1 from rfl, nI_add, fm_mul]]
          refine fe_w (lc' := [(4, .int (nI (i + 1))), (3, .int z), (0, .ref 0), (1, .int (nI W)), (2, .int to)]) ⟨rfl, rfl, rfl, rfl, rfl, trivial⟩ (by show List.Nodup [4, 3, 0, 1, 2]; decide) (by show List.Nodup [4, 5, 3, 0, 1, 2]; decide) ?_
          exact ih (i + 1) (by omega) _ _ p2 hz ap2
        · refine fe_s 7 (pc' := 12) (lc' := [(4, .int ((nI i) + 1)), (3, .int 1), (5, .int v2), (0, .ref 0), (1, .int (nI W)), (2, .int to)]) (stk' := []) (mem' := fm (upd (upd g 25 x) 25 v2) tp bt p2 b) (fun _ _ _ => rfl) ?_
          rw [show ((nI i) + 1 : Int32) = nI (i + 1) from by simp only [show (1 : Int32) = nI 1 from rfl, nI_add, fm_mul]]
          refine fe_w (lc' := [(4, .int (nI (i + 1))), (3, .int 1), (0, .ref 0), (1, .int (nI W)), (2, .int to)]) ⟨rfl, rfl, rfl, rfl, rfl, trivial⟩ (by show List.Nodup [4, 3, 0, 1, 2]; decide) (by show List.Nodup [4, 3, 5, 0, 1, 2]; decide) ?_
          rw [fm_upd2]
          exact ih (i + 1) (by omega) _ _ p2 (Or.inr rfl) ap2
      · refine fe_s 2 (pc' := 12) (lc' := [(4, .int ((nI i) + 1)), (5, .int v2), (3, .int z), (0, .ref 0), (1, .int (nI W)), (2, .int to)]) (stk' := []) (mem' := fm (upd g 25 x) tp bt p b) (fun _ _ _ => rfl) ?_
        rw [show ((nI i) + 1 : Int32) = nI (i + 1) from by simp only [show (1 : Int32) = nI 1 from rfl, nI_add, fm_mul]]
        refine fe_w (lc' := [(4, .int (nI (i + 1))), (3, .int z), (0, .ref 0), (1, .int (nI W)), (2, .int to)]) ⟨rfl, rfl, rfl, rfl, rfl, trivial⟩ (by show List.Nodup [4, 3, 0, 1, 2]; decide) (by show List.Nodup [4, 5, 3, 0, 1, 2]; decide) ?_
        exact ih (i + 1) (by omega) _ _ p hz ap
  exact loop NC 0 (by omega) 0 _ a (Or.inl rfl) (fun _ _ => rfl)
theorem fr_isAway {w c : Int32} (ht : fm_t a) : ∃ (v : Option Value) (mem' : fx_M), (fun R => ∃ v : Int32, (v = 0 ∨ v = 1 ∧ ∃ W, W < 8 ∧ w = nI W) ∧ R = (some (.int v), fm g tp bt a b)) (v, mem') ∧ fr_T 5 314 [.ref 0, .int w, .int c] (fm g tp bt a b) v mem' := by
  refine fe_meth (F := fun R => ∃ v : Int32, (v = 0 ∨ v = 1 ∧ ∃ W, W < 8 ∧ w = nI W) ∧ R = (some (.int v), fm g tp bt a b)) (M := gk_m314) (by rfl) (by rfl) ?_
  refine fe_s 3 (pc' := 3) (lc' := [(0, .ref 0), (1, .int w), (2, .int c)]) (stk' := [.int c, .int w, .ref 0]) (mem' := fm g tp bt a b) (fun _ _ _ => rfl) ?_
  obtain ⟨v7, mem7, ⟨x7, hx7, hR7⟩, hfr7⟩ := fr_areBoth (w := w) (c := c) (g := g) (tp := tp) (bt := bt) (b := b) ht
  cases hR7
  refine fe_ivV hfr7 (by omega) (by rfl) (by rfl) (by rfl) (by rfl) (by rfl) (by rfl) ?_
  rcases hx7 with rfl | ⟨rfl, W, hW, rfl⟩
  · refine fe_s 1 (pc' := cond (fx_cb .eq 0 0) 22 9) (lc' := [(0, .ref 0), (1, .int w), (2, .int c)]) (stk' := []) (mem' := fm g tp bt a b) (fun _ _ _ => rfl) ?_
    rw [show (fx_cb .eq 0 0) = true from by decide]
    dsimp only [cond]
    refine fe_s 1 (pc' := 23) (lc' := [(0, .ref 0), (1, .int w), (2, .int c)]) (stk' := [.int 0]) (mem' := fm g tp bt a b) (fun _ _ _ => rfl) ?_
    exact fe_ret ⟨_, Or.inl rfl, rfl⟩ (by rfl) (by rfl) (by rfl)
  · obtain ⟨⟨NC, hNC, eNC⟩, -, -, -, hw⟩ := id ht
    obtain ⟨X, hX, eX⟩ := hw W hW
    refine fe_s 1 (pc' := cond (fx_cb .eq 1 0) 22 9) (lc' := [(0, .ref 0), (1, .int (nI W)), (2, .int c)]) (stk' := []) (mem' := fm g tp bt a b) (fun _ _ _ => rfl) ?_
    rw [show (fx_cb .eq 1 0) = false from by decide]
    dsimp only [cond]
    refine fe_s 2 (pc' := 11) (lc' := [(0, .ref 0), (1, .int (nI W)), (2, .int c)]) (stk' := [.int (nI W), .ref 0]) (mem' := fm g tp bt a b) (fun _ _ _ => rfl) ?_
    refine fe_ivV (fr_whereOf (W := W) (by omega)) (by omega) (by rfl) (by rfl) (by rfl) (by rfl) (by rfl) (by rfl) ?_
    refine fe_s 1 (pc' := 15) (lc' := [(0, .ref 0), (1, .int (nI W)), (2, .int c)]) (stk' := [.int c, .int (a 1 (279 + 5 * W))]) (mem' := fm g tp bt a b) (fun _ _ _ => rfl) ?_
    refine fe_s 1 (pc' := cond (fx_cb .eq (a 1 (279 + 5 * W)) c) 22 18) (lc' := [(0, .ref 0), (1, .int (nI W)), (2, .int c)]) (stk' := []) (mem' := fm g tp bt a b) (fun _ _ _ => rfl) ?_
    cases h1 : fx_cb .eq (a 1 (279 + 5 * W)) c
    · refine fe_s 2 (pc' := 23) (lc' := [(0, .ref 0), (1, .int (nI W)), (2, .int c)]) (stk' := [.int 1]) (mem' := fm g tp bt a b) (fun _ _ _ => rfl) ?_
      exact fe_ret ⟨_, Or.inr ⟨rfl, W, hW, rfl⟩, rfl⟩ (by rfl) (by rfl) (by rfl)
    · refine fe_s 1 (pc' := 23) (lc' := [(0, .ref 0), (1, .int (nI W)), (2, .int c)]) (stk' := [.int 0]) (mem' := fm g tp bt a b) (fun _ _ _ => rfl) ?_
      exact fe_ret ⟨_, Or.inl rfl, rfl⟩ (by rfl) (by rfl) (by rfl)
theorem fr_surestAt {w c k : Int32} (ht : fm_t a) (hs : fm_sym a) (hb9 : ∀ i, i < 10 → 0 ≤ (a 9 i).toInt ∧ (a 9 i).toInt ≤ 1000000) : ∃ (v : Option Value) (mem' : fx_M), (fm_FQ g tp bt a b) (v, mem') ∧ fr_T 9 317 [.ref 0, .int w, .int c, .int k] (fm g tp bt a b) v mem' := by
  refine fe_meth (F := fm_FQ g tp bt a b) (M := gk_m317) (by rfl) (by rfl) ?_
  refine fe_s 3 (pc' := 3) (lc' := [(0, .ref 0), (1, .int w), (2, .int c), (3, .int k)]) (stk' := [.int c, .int w, .ref 0]) (mem' := fm g tp bt a b) (fun _ _ _ => rfl) ?_
  obtain ⟨v7, mem7, ⟨x7, hx7, hR7⟩, hfr7⟩ := fr_isAway (w := w) (c := c) (g := g) (tp := tp) (bt := bt) (b := b) ht
  cases hR7
  refine fe_ivV hfr7 (by omega) (by rfl) (by rfl) (by rfl) (by rfl) (by rfl) (by rfl) ?_
  rcases hx7 with rfl | ⟨rfl, W, hW, rfl⟩
  · refine fe_s 1 (pc' := cond (fx_cb .ne 0 0) 17 9) (lc' := [(0, .ref 0), (1, .int w), (2, .int c), (3, .int k)]) (stk' := []) (mem' := fm g tp bt a b) (fun _ _ _ => rfl) ?_
    rw [show (fx_cb .ne 0 0) = false from by decide]
    dsimp only [cond]
    refine fe_s 2 (pc' := 11) (lc' := [(0, .ref 0), (1, .int w), (2, .int c), (3, .int k)]) (stk' := [.int 1, .ref 0]) (mem' := fm g tp bt a b) (fun _ _ _ => rfl) ?_
    refine fe_ivV (fr_refuse (x := 1)) (by omega) (by rfl) (by rfl) (by rfl) (by rfl) (by rfl) (by rfl) ?_
    refine fe_s 1 (pc' := 45) (lc' := [(0, .ref 0), (1, .int w), (2, .int c), (3, .int k)]) (stk' := [.int (-1)]) (mem' := fm (upd g 2 1) tp bt a b) (fun _ _ _ => rfl) ?_
    exact fe_ret ⟨_, 1, 0, a, g, Or.inl rfl, by decide, by decide, ⟨fun _ _ => rfl, hb9⟩, Or.inl rfl, rfl⟩ (by rfl) (by rfl) (by rfl)
  · refine fe_s 1 (pc' := cond (fx_cb .ne 1 0) 17 9) (lc' := [(0, .ref 0), (1, .int (nI W)), (2, .int c), (3, .int k)]) (stk' := []) (mem' := fm g tp bt a b) (fun _ _ _ => rfl) ?_
    rw [show (fx_cb .ne 1 0) = true from by decide]
    dsimp only [cond]
    refine fe_s 3 (pc' := 20) (lc' := [(0, .ref 0), (1, .int (nI W)), (2, .int c), (3, .int k)]) (stk' := [.int c, .int (nI W), .ref 0]) (mem' := fm g tp bt a b) (fun _ _ _ => rfl) ?_
    obtain ⟨v8, mem8, ⟨x8, y8, p, hx8, hp, hR8⟩, hfr8⟩ := fr_laysSurest (W := W) (to := c) (g := g) (tp := tp) (bt := bt) (b := b) ht hW
    cases hR8
    refine fe_ivV hfr8 (by omega) (by rfl) (by rfl) (by rfl) (by rfl) (by rfl) (by rfl) ?_
    have htp : fm_t p := fm_t_eq (hp.1 1 (by decide)) ht
    have ap := hp.1
    rcases hx8 with rfl | rfl
    · refine fe_s 1 (pc' := cond (fx_cb .eq 0 0) 39 26) (lc' := [(0, .ref 0), (1, .int (nI W)), (2, .int c), (3, .int k)]) (stk' := []) (mem' := fm (upd g 25 y8) tp bt p b) (fun _ _ _ => rfl) ?_
      rw [show (fx_cb .eq 0 0) = true from by decide]
      dsimp only [cond]
      refine fe_s 2 (pc' := 42) (lc' := [(0, .ref 0), (1, .int (nI W)), (2, .int c), (3, .int k)]) (stk' := [.int 6, .ref 0]) (mem' := fm (upd g 25 y8) tp bt p b) (fun _ _ _ => rfl) ?_
      refine fe_ivV (fr_refuse (x := 6)) (by omega) (by rfl) (by rfl) (by rfl) (by rfl) (by rfl) (by rfl) ?_
      exact fe_ret ⟨_, 6, y8, p, _, Or.inl rfl, by decide, by decide, ⟨ap, fm_bfs_bd hp.2⟩, Or.inr rfl, rfl⟩ (by rfl) (by rfl) (by rfl)
    · refine fe_s 1 (pc' := cond (fx_cb .eq 1 0) 39 26) (lc' := [(0, .ref 0), (1, .int (nI W)), (2, .int c), (3, .int k)]) (stk' := []) (mem' := fm (upd g 25 y8) tp bt p b) (fun _ _ _ => rfl) ?_
      rw [show (fx_cb .eq 1 0) = false from by decide]
      dsimp only [cond]
      refine fe_s 4 (pc' := 30) (lc' := [(0, .ref 0), (1, .int (nI W)), (2, .int c), (3, .int k)]) (stk' := [.int k, .int (nI W), .ref 0, .ref 0]) (mem' := fm (upd g 25 y8) tp bt p b) (fun _ _ _ => rfl) ?_
      obtain ⟨vw, memw, ⟨xw, hxw, hRw⟩, hfrw⟩ := fr_onWay (W := W) (k := k) (g := (upd g 25 y8)) (tp := tp) (bt := bt) (a := p) (b := b) htp hp.2 (fm_sym_eq (ap 1 (by decide)) hs) hW
      cases hRw
      refine fe_ivV hfrw (by omega) (by rfl) (by rfl) (by rfl) (by rfl) (by rfl) (by rfl) ?_
      obtain ⟨vo, memo, ⟨so, ho1, ho2, hRo⟩, hfro⟩ := fr_orNone (x := xw) (g := (upd g 25 y8)) (tp := tp) (bt := bt) (a := p) (b := b)
      cases hRo
      refine fe_ivV hfro (by omega) (by rfl) (by rfl) (by rfl) (by rfl) (by rfl) (by rfl) ?_
      refine fe_s 1 (pc' := 45) (lc' := [(0, .ref 0), (1, .int (nI W)), (2, .int c), (3, .int k)]) (stk' := [.int xw]) (mem' := fm (upd (upd g 25 y8) 2 so) tp bt p b) (fun _ _ _ => rfl) ?_
      exact fe_ret ⟨_, so, y8, p, _, hxw, ho1, ho2, ⟨ap, fm_bfs_bd hp.2⟩, Or.inr rfl, rfl⟩ (by rfl) (by rfl) (by rfl)
end FWA
