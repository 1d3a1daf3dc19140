/-! ===== fx: which call is refused; on the way ===== -/
section FOW
variable {g : Nat → Int32} {tp bt : Int64} {a : Nat → Nat → Int32} {b : Nat → Nat → Int64}
theorem fm_rng {w : Int32} {n : Nat} (hn : n < 2147483648) (h1 : fx_cb .lt w 0 = false) (h2 : fx_cb .ge w (nI n) = false) : ∃ W, W < n ∧ w = nI W := by
  obtain ⟨j, hj, rfl⟩ := nI_of (x := w) (of_decide_eq_false h1)
  exact ⟨j, Nat.lt_of_not_le (fun z => of_decide_eq_false h2 ((nI_leI (by omega) (by omega)).mpr z)), rfl⟩
theorem fm_rng2 {w : Int32} {n : Nat} (hn : n < 2147483648) (h1 : fx_cb .lt w 0 = false) (h2 : fx_cb .lt w (nI n) = true) : ∃ W, W < n ∧ w = nI W := by
  obtain ⟨j, hj, rfl⟩ := nI_of (x := w) (of_decide_eq_false h1)
  exact ⟨j, (nI_ltI (by omega) (by omega)).mp (of_decide_eq_true h2), rfl⟩
theorem fr_refuse {x : Int32} : fr_T 1 207 [.ref 0, .int x] (fm g tp bt a b) (some (.int (-1))) (fm (upd g 2 x) tp bt a b) := by
  refine fr_meth (by rfl) (by rfl) ?_
  refine fr_s 4 (pc' := 6) (lc' := [(0, .ref 0), (1, .int x)]) (stk' := [.int (-1)]) (mem' := fm (upd g 2 x) tp bt a b) (fun _ _ _ => rfl) ?_
  exact fr_ret (by rfl) (by rfl) (by rfl)
theorem fr_gives {x : Int32} : fr_T 1 208 [.ref 0, .int x] (fm g tp bt a b) (some (.int x)) (fm (upd g 2 0) tp bt a b) := by
  refine fr_meth (by rfl) (by rfl) ?_
  refine fr_s 4 (pc' := 6) (lc' := [(0, .ref 0), (1, .int x)]) (stk' := [.int x]) (mem' := fm (upd g 2 0) tp bt a b) (fun _ _ _ => rfl) ?_
  exact fr_ret (by rfl) (by rfl) (by rfl)
/-- an int is answered; but for the status nothing is changed -/
def fm_FG (g : Nat → Int32) (tp bt : Int64) (a : Nat → Nat → Int32) (b : Nat → Nat → Int64) (V : Int32 → Prop) (R : Option Value × fx_M) : Prop := ∃ (v s : Int32), V v ∧ 0 ≤ s.toInt ∧ s.toInt ≤ 9 ∧ R = (some (.int v), fm (upd g 2 s) tp bt a b)
theorem fr_isWalker {w : Int32} (ht : fm_t a) : ∃ (v : Option Value) (mem' : fx_M), (fun R => ∃ v : Int32, (v = 0 ∨ v = 1 ∧ ∃ W, W < 8 ∧ w = nI W) ∧ R = (some (.int v), fm g tp bt a b)) (v, mem') ∧ fr_T 2 258 [.ref 0, .int w] (fm g tp bt a b) v mem' := by
  obtain ⟨-, ⟨NW, hNW, eNW⟩, -, -, -⟩ := id ht
  refine fe_meth (F := fun R => ∃ v : Int32, (v = 0 ∨ v = 1 ∧ ∃ W, W < 8 ∧ w = nI W) ∧ R = (some (.int v), fm g tp bt a b)) (M := gk_m258) (by rfl) (by rfl) ?_
  refine fe_s 1 (pc' := 1) (lc' := [(0, .ref 0), (1, .int w)]) (stk' := [.int w]) (mem' := fm g tp bt a b) (fun _ _ _ => rfl) ?_
  refine fe_s 1 (pc' := cond (fx_cb .lt w 0) 18 4) (lc' := [(0, .ref 0), (1, .int w)]) (stk' := []) (mem' := fm g tp bt a b) (fun _ _ _ => rfl) ?_
  cases h1 : fx_cb .lt w 0
  · refine fe_s 4 (pc' := 10) (lc' := [(0, .ref 0), (1, .int w)]) (stk' := [.int 1, .ref 1, .int w]) (mem' := fm g tp bt a b) (fun _ _ _ => rfl) ?_
    refine fe_ldI (by rfl) (by rfl) (fx_inN (i := 1) (by omega) (by omega)) ?_
    rw [show Int32.toNatClampNeg (1) = 1 from rfl]
    rw [eNW]
    refine fe_s 1 (pc' := cond (fx_cb .ge w (nI NW)) 18 14) (lc' := [(0, .ref 0), (1, .int w)]) (stk' := []) (mem' := fm g tp bt a b) (fun _ _ _ => rfl) ?_
    cases h2 : fx_cb .ge w (nI NW)
    · refine fe_s 2 (pc' := 19) (lc' := [(0, .ref 0), (1, .int w)]) (stk' := [.int 1]) (mem' := fm g tp bt a b) (fun _ _ _ => rfl) ?_
      exact fe_ret ⟨_, Or.inr ⟨rfl, (by obtain ⟨W, hW, e⟩ := fm_rng (by omega) h1 h2; exact ⟨W, by omega, e⟩)⟩, rfl⟩ (by rfl) (by rfl) (by rfl)
    · refine fe_s 1 (pc' := 19) (lc' := [(0, .ref 0), (1, .int w)]) (stk' := [.int 0]) (mem' := fm g tp bt a b) (fun _ _ _ => rfl) ?_
      exact fe_ret ⟨_, Or.inl rfl, rfl⟩ (by rfl) (by rfl) (by rfl)
  · refine fe_s 1 (pc' := 19) (lc' := [(0, .ref 0), (1, .int w)]) (stk' := [.int 0]) (mem' := fm g tp bt a b) (fun _ _ _ => rfl) ?_
    exact fe_ret ⟨_, Or.inl rfl, rfl⟩ (by rfl) (by rfl) (by rfl)
theorem fr_isCell {c : Int64} (ht : fm_t a) : ∃ (v : Option Value) (mem' : fx_M), (fun R => ∃ v : Int32, (v = 0 ∨ v = 1) ∧ R = (some (.int v), fm g tp bt a b)) (v, mem') ∧ fr_T 2 255 [.ref 0, .long c] (fm g tp bt a b) v mem' := by
  obtain ⟨⟨NC, hNC, eNC⟩, -, -, -, -⟩ := id ht
  refine fe_meth (F := fun R => ∃ v : Int32, (v = 0 ∨ v = 1) ∧ R = (some (.int v), fm g tp bt a b)) (M := gk_m255) (by rfl) (by rfl) ?_
  refine fe_s 3 (pc' := 3) (lc' := [(0, .ref 0), (1, .long c)]) (stk' := [.int (lg_cmp c 0)]) (mem' := fm g tp bt a b) (fun _ _ _ => rfl) ?_
  refine fe_s 1 (pc' := cond (fx_cb .lt (lg_cmp c 0) 0) 22 6) (lc' := [(0, .ref 0), (1, .long c)]) (stk' := []) (mem' := fm g tp bt a b) (fun _ _ _ => rfl) ?_
  cases h1 : fx_cb .lt (lg_cmp c 0) 0
  · refine fe_s 4 (pc' := 12) (lc' := [(0, .ref 0), (1, .long c)]) (stk' := [.int 0, .ref 1, .long c]) (mem' := fm g tp bt a b) (fun _ _ _ => rfl) ?_
    refine fe_ldI (by rfl) (by rfl) (fx_inN (i := 0) (by omega) (by omega)) ?_
    rw [show Int32.toNatClampNeg (0) = 0 from rfl]
    rw [eNC]
    refine fe_s 2 (pc' := 15) (lc' := [(0, .ref 0), (1, .long c)]) (stk' := [.int (lg_cmp c ((nI NC).toInt64))]) (mem' := fm g tp bt a b) (fun _ _ _ => rfl) ?_
    refine fe_s 1 (pc' := cond (fx_cb .ge (lg_cmp c ((nI NC).toInt64)) 0) 22 18) (lc' := [(0, .ref 0), (1, .long c)]) (stk' := []) (mem' := fm g tp bt a b) (fun _ _ _ => rfl) ?_
    cases h2 : fx_cb .ge (lg_cmp c ((nI NC).toInt64)) 0
    · refine fe_s 2 (pc' := 23) (lc' := [(0, .ref 0), (1, .long c)]) (stk' := [.int 1]) (mem' := fm g tp bt a b) (fun _ _ _ => rfl) ?_
      exact fe_ret ⟨_, Or.inr rfl, rfl⟩ (by rfl) (by rfl) (by rfl)
    · refine fe_s 1 (pc' := 23) (lc' := [(0, .ref 0), (1, .long c)]) (stk' := [.int 0]) (mem' := fm g tp bt a b) (fun _ _ _ => rfl) ?_
      exact fe_ret ⟨_, Or.inl rfl, rfl⟩ (by rfl) (by rfl) (by rfl)
  · refine fe_s 1 (pc' := 23) (lc' := [(0, .ref 0), (1, .long c)]) (stk' := [.int 0]) (mem' := fm g tp bt a b) (fun _ _ _ => rfl) ?_
    exact fe_ret ⟨_, Or.inl rfl, rfl⟩ (by rfl) (by rfl) (by rfl)
theorem fr_areBoth {w c : Int32} (ht : fm_t a) : ∃ (v : Option Value) (mem' : fx_M), (fun R => ∃ v : Int32, (v = 0 ∨ v = 1 ∧ ∃ W, W < 8 ∧ w = nI W) ∧ R = (some (.int v), fm g tp bt a b)) (v, mem') ∧ fr_T 3 259 [.ref 0, .int w, .int c] (fm g tp bt a b) v mem' := by
  refine fe_meth (F := fun R => ∃ v : Int32, (v = 0 ∨ v = 1 ∧ ∃ W, W < 8 ∧ w = nI W) ∧ R = (some (.int v), fm g tp bt a b)) (M := gk_m259) (by rfl) (by rfl) ?_
  refine fe_s 2 (pc' := 2) (lc' := [(0, .ref 0), (1, .int w), (2, .int c)]) (stk' := [.int w, .ref 0]) (mem' := fm g tp bt a b) (fun _ _ _ => rfl) ?_
  obtain ⟨v7, mem7, ⟨x7, hx7, hR7⟩, hfr7⟩ := fr_isWalker (w := w) (g := g) (tp := tp) (bt := bt) (b := b) ht
  cases hR7
  refine fe_ivV hfr7 (by omega) (by rfl) (by rfl) (by rfl) (by rfl) (by rfl) (by rfl) ?_
  rcases hx7 with rfl | ⟨rfl, hW7⟩
  · refine fe_s 1 (pc' := cond (fx_cb .eq 0 0) 21 8) (lc' := [(0, .ref 0), (1, .int w), (2, .int c)]) (stk' := []) (mem' := fm g tp bt a b) (fun _ _ _ => rfl) ?_
    rw [show (fx_cb .eq 0 0) = true from by decide]
    dsimp only [cond]
    refine fe_s 1 (pc' := 22) (lc' := [(0, .ref 0), (1, .int w), (2, .int c)]) (stk' := [.int 0]) (mem' := fm g tp bt a b) (fun _ _ _ => rfl) ?_
    exact fe_ret ⟨_, Or.inl rfl, rfl⟩ (by rfl) (by rfl) (by rfl)
  · refine fe_s 1 (pc' := cond (fx_cb .eq 1 0) 21 8) (lc' := [(0, .ref 0), (1, .int w), (2, .int c)]) (stk' := []) (mem' := fm g tp bt a b) (fun _ _ _ => rfl) ?_
    rw [show (fx_cb .eq 1 0) = false from by decide]
    dsimp only [cond]
    refine fe_s 3 (pc' := 11) (lc' := [(0, .ref 0), (1, .int w), (2, .int c)]) (stk' := [.long (c.toInt64), .ref 0]) (mem' := fm g tp bt a b) (fun _ _ _ => rfl) ?_
    obtain ⟨v8, mem8, ⟨x8, hx8, hR8⟩, hfr8⟩ := fr_isCell (c := c.toInt64) (g := g) (tp := tp) (bt := bt) (b := b) ht
    cases hR8
    refine fe_ivV hfr8 (by omega) (by rfl) (by rfl) (by rfl) (by rfl) (by rfl) (by rfl) ?_
    rcases hx8 with rfl | rfl
    · refine fe_s 1 (pc' := cond (fx_cb .eq 0 0) 21 17) (lc' := [(0, .ref 0), (1, .int w), (2, .int c)]) (stk' := []) (mem' := fm g tp bt a b) (fun _ _ _ => rfl) ?_
      rw [show (fx_cb .eq 0 0) = true from by decide]
      dsimp only [cond]
      refine fe_s 1 (pc' := 22) (lc' := [(0, .ref 0), (1, .int w), (2, .int c)]) (stk' := [.int 0]) (mem' := fm g tp bt a b) (fun _ _ _ => rfl) ?_
      exact fe_ret ⟨_, Or.inl rfl, rfl⟩ (by rfl) (by rfl) (by rfl)
    · refine fe_s 1 (pc' := cond (fx_cb .eq 1 0) 21 17) (lc' := [(0, .ref 0), (1, .int w), (2, .int c)]) (stk' := []) (mem' := fm g tp bt a b) (fun _ _ _ => rfl) ?_
      rw [show (fx_cb .eq 1 0) = false from by decide]
      dsimp only [cond]
      refine fe_s 2 (pc' := 22) (lc' := [(0, .ref 0), (1, .int w), (2, .int c)]) (stk' := [.int 1]) (mem' := fm g tp bt a b) (fun _ _ _ => rfl) ?_
      exact fe_ret ⟨_, Or.inr ⟨rfl, hW7⟩, rfl⟩ (by rfl) (by rfl) (by rfl)
theorem fr_onWay {W : Nat} {k : Int32} (ht : fm_t a) (hb : fm_bfs a) (hs : fm_sym a) (hW : W < 8) : ∃ (v : Option Value) (mem' : fx_M), (fun R => ∃ v : Int32, (v = -1 ∨ ∃ c, c < 10 ∧ v = nI c) ∧ R = (some (.int v), fm g tp bt a b)) (v, mem') ∧ fr_T 5 307 [.ref 0, .int (nI W), .int k] (fm g tp bt a b) v mem' := by
  obtain ⟨-, -, -, -, hw⟩ := id ht
  obtain ⟨X, hX, eX⟩ := hw W hW
  refine fe_meth (F := fun R => ∃ v : Int32, (v = -1 ∨ ∃ c, c < 10 ∧ v = nI c) ∧ R = (some (.int v), fm g tp bt a b)) (M := gk_m307) (by rfl) (by rfl) ?_
  refine fe_s 4 (pc' := 6) (lc' := [(0, .ref 0), (1, .int (nI W)), (2, .int k)]) (stk' := [.int (nI W), .ref 0, .ref 9]) (mem' := fm g tp bt a b) (fun _ _ _ => rfl) ?_
  refine fe_ivV (fr_whereOf (W := W) (by omega)) (by omega) (by rfl) (by rfl) (by rfl) (by rfl) (by rfl) (by rfl) ?_
  rw [eX]
  refine fe_ldI (by rfl) (by rfl) (fx_inN (i := X) (by omega) (by omega)) ?_
  rw [show Int32.toNatClampNeg (nI X) = X from nI_clamp (by omega)]
  rcases hb X hX with e | ⟨n, hn, e, -⟩
  · rw [e]
    refine fe_s 3 (pc' := 15) (lc' := [(3, .int 1000000), (0, .ref 0), (1, .int (nI W)), (2, .int k)]) (stk' := [.int 1000000, .int 1000000]) (mem' := fm g tp bt a b) (fun _ _ _ => rfl) ?_
    refine fe_s 1 (pc' := cond (fx_cb .eq 1000000 1000000) 27 18) (lc' := [(3, .int 1000000), (0, .ref 0), (1, .int (nI W)), (2, .int k)]) (stk' := []) (mem' := fm g tp bt a b) (fun _ _ _ => rfl) ?_
    rw [show (fx_cb .eq 1000000 1000000) = true from by decide]
    dsimp only [cond]
    refine fe_s 1 (pc' := 28) (lc' := [(3, .int 1000000), (0, .ref 0), (1, .int (nI W)), (2, .int k)]) (stk' := [.int (-1)]) (mem' := fm g tp bt a b) (fun _ _ _ => rfl) ?_
    exact fe_ret ⟨_, Or.inl rfl, rfl⟩ (by rfl) (by rfl) (by rfl)
  · rw [e]
    refine fe_s 3 (pc' := 15) (lc' := [(3, .int (nI n)), (0, .ref 0), (1, .int (nI W)), (2, .int k)]) (stk' := [.int 1000000, .int (nI n)]) (mem' := fm g tp bt a b) (fun _ _ _ => rfl) ?_
    refine fe_s 1 (pc' := cond (fx_cb .eq (nI n) 1000000) 27 18) (lc' := [(3, .int (nI n)), (0, .ref 0), (1, .int (nI W)), (2, .int k)]) (stk' := []) (mem' := fm g tp bt a b) (fun _ _ _ => rfl) ?_
    rw [show (fx_cb .eq (nI n) 1000000) = false from cb_eqF (a := n) (b := 1000000) (by omega) (by omega) (by omega)]
    dsimp only [cond]
    refine fe_s 1 (pc' := 19) (lc' := [(3, .int (nI n)), (0, .ref 0), (1, .int (nI W)), (2, .int k)]) (stk' := [.int k]) (mem' := fm g tp bt a b) (fun _ _ _ => rfl) ?_
    refine fe_s 1 (pc' := cond (fx_cb .lt k 0) 27 22) (lc' := [(3, .int (nI n)), (0, .ref 0), (1, .int (nI W)), (2, .int k)]) (stk' := []) (mem' := fm g tp bt a b) (fun _ _ _ => rfl) ?_
    cases h1 : fx_cb .lt k 0
    · refine fe_s 2 (pc' := 24) (lc' := [(3, .int (nI n)), (0, .ref 0), (1, .int (nI W)), (2, .int k)]) (stk' := [.int (nI n), .int k]) (mem' := fm g tp bt a b) (fun _ _ _ => rfl) ?_
      refine fe_s 1 (pc' := cond (fx_cb .lt k (nI n)) 29 27) (lc' := [(3, .int (nI n)), (0, .ref 0), (1, .int (nI W)), (2, .int k)]) (stk' := []) (mem' := fm g tp bt a b) (fun _ _ _ => rfl) ?_
      cases h2 : fx_cb .lt k (nI n)
      · refine fe_s 1 (pc' := 28) (lc' := [(3, .int (nI n)), (0, .ref 0), (1, .int (nI W)), (2, .int k)]) (stk' := [.int (-1)]) (mem' := fm g tp bt a b) (fun _ _ _ => rfl) ?_
        exact fe_ret ⟨_, Or.inl rfl, rfl⟩ (by rfl) (by rfl) (by rfl)
      · refine fe_s 2 (pc' := 31) (lc' := [(3, .int (nI n)), (0, .ref 0), (1, .int (nI W)), (2, .int k)]) (stk' := [.int (nI W), .ref 0]) (mem' := fm g tp bt a b) (fun _ _ _ => rfl) ?_
        refine fe_ivV (fr_whereOf (W := W) (by omega)) (by omega) (by rfl) (by rfl) (by rfl) (by rfl) (by rfl) (by rfl) ?_
        rw [eX]
        refine fe_s 3 (pc' := 39) (lc' := [(5, .int 0), (4, .int (nI X)), (3, .int (nI n)), (0, .ref 0), (1, .int (nI W)), (2, .int k)]) (stk' := []) (mem' := fm g tp bt a b) (fun _ _ _ => rfl) ?_
        obtain ⟨K, hK, rfl⟩ := fm_rng2 (by omega) h1 h2
        refine fe_w (lc' := [(5, .int (0)), (4, .int (nI X)), (3, .int (nI n)), (0, .ref 0), (1, .int (nI W)), (2, .int (nI K))]) ⟨rfl, rfl, rfl, rfl, rfl, rfl, trivial⟩ (by show List.Nodup [5, 4, 3, 0, 1, 2]; decide) (by show List.Nodup [5, 4, 3, 0, 1, 2]; decide) ?_
        have loop : ∀ (r i : Nat), i + r = n → i ≤ K + 1 → ∀ (Y : Nat), Y < 10 → a 9 Y = nI r → fe_R 4 gk_m307 39 [(5, .int (nI i)), (4, .int (nI Y)), (3, .int (nI n)), (0, .ref 0), (1, .int (nI W)), (2, .int (nI K))] [] (fm g tp bt a b) (fun R => ∃ v : Int32, (v = -1 ∨ ∃ c, c < 10 ∧ v = nI c) ∧ R = (some (.int v), fm g tp bt a b)) := by
          intro r
          induction r with
          | zero =>
            intro i hir hiK Y hY hq9
            refine fe_s 2 (pc' := 42) (lc' := [(5, .int (nI i)), (4, .int (nI Y)), (3, .int (nI n)), (0, .ref 0), (1, .int (nI W)), (2, .int (nI K))]) (stk' := [.int (nI K), .int (nI i)]) (mem' := fm g tp bt a b) (fun _ _ _ => rfl) ?_
            refine fe_s 1 (pc' := cond (fx_cb .gt (nI i) (nI K)) 59 45) (lc' := [(5, .int (nI i)), (4, .int (nI Y)), (3, .int (nI n)), (0, .ref 0), (1, .int (nI W)), (2, .int (nI K))]) (stk' := []) (mem' := fm g tp bt a b) (fun _ _ _ => rfl) ?_
            rw [show (fx_cb .gt (nI i) (nI K)) = true from cb_gtT (a := i) (b := K) (by omega) (by omega) (by omega)]
            dsimp only [cond]
            refine fe_s 1 (pc' := 61) (lc' := [(5, .int (nI i)), (4, .int (nI Y)), (3, .int (nI n)), (0, .ref 0), (1, .int (nI W)), (2, .int (nI K))]) (stk' := [.int (nI Y)]) (mem' := fm g tp bt a b) (fun _ _ _ => rfl) ?_
            exact fe_ret ⟨_, Or.inr ⟨Y, by omega, rfl⟩, rfl⟩ (by rfl) (by rfl) (by rfl)
          | succ r ih =>
            intro i hir hiK Y hY hq9
            obtain ⟨c0, hc0, hc9, hnx⟩ := fm_next (g := g) (tp := tp) (bt := bt) (b := b) (d := r) hb hs hY hq9 (by omega)
            refine fe_s 2 (pc' := 42) (lc' := [(5, .int (nI i)), (4, .int (nI Y)), (3, .int (nI n)), (0, .ref 0), (1, .int (nI W)), (2, .int (nI K))]) (stk' := [.int (nI K), .int (nI i)]) (mem' := fm g tp bt a b) (fun _ _ _ => rfl) ?_
            refine fe_s 1 (pc' := cond (fx_cb .gt (nI i) (nI K)) 59 45) (lc' := [(5, .int (nI i)), (4, .int (nI Y)), (3, .int (nI n)), (0, .ref 0), (1, .int (nI W)), (2, .int (nI K))]) (stk' := []) (mem' := fm g tp bt a b) (fun _ _ _ => rfl) ?_
            by_cases h3 : K < i
            · rw [show (fx_cb .gt (nI i) (nI K)) = true from cb_gtT (a := i) (b := K) (by omega) (by omega) (by omega)]
              dsimp only [cond]
              refine fe_s 1 (pc' := 61) (lc' := [(5, .int (nI i)), (4, .int (nI Y)), (3, .int (nI n)), (0, .ref 0), (1, .int (nI W)), (2, .int (nI K))]) (stk' := [.int (nI Y)]) (mem' := fm g tp bt a b) (fun _ _ _ => rfl) ?_
              exact fe_ret ⟨_, Or.inr ⟨Y, by omega, rfl⟩, rfl⟩ (by rfl) (by rfl) (by rfl)
            · rw [show (fx_cb .gt (nI i) (nI K)) = false from cb_gtF (a := i) (b := K) (by omega) (by omega) (by omega)]
              dsimp only [cond]
              refine fe_s 2 (pc' := 48) (lc' := [(5, .int (nI i)), (4, .int (nI Y)), (3, .int (nI n)), (0, .ref 0), (1, .int (nI W)), (2, .int (nI K))]) (stk' := [.int (nI Y), .ref 0]) (mem' := fm g tp bt a b) (fun _ _ _ => rfl) ?_
              refine fe_ivV hnx (by omega) (by rfl) (by rfl) (by rfl) (by rfl) (by rfl) (by rfl) ?_
              refine fe_s 3 (pc' := 39) (lc' := [(5, .int ((nI i) + 1)), (4, .int (nI c0)), (3, .int (nI n)), (0, .ref 0), (1, .int (nI W)), (2, .int (nI K))]) (stk' := []) (mem' := fm g tp bt a b) (fun _ _ _ => rfl) ?_
              rw [show ((nI i) + 1 : Int32) = nI (i + 1) from by simp only [show (1 : Int32) = nI 1 from rfl, nI_add, fm_mul]]
              refine fe_w (lc' := [(5, .int (nI (i + 1))), (4, .int (nI c0)), (3, .int (nI n)), (0, .ref 0), (1, .int (nI W)), (2, .int (nI K))]) ⟨rfl, rfl, rfl, rfl, rfl, rfl, trivial⟩ (by show List.Nodup [5, 4, 3, 0, 1, 2]; decide) (by show List.Nodup [5, 4, 3, 0, 1, 2]; decide) ?_
              exact ih (i + 1) (by omega) (by omega) c0 hc0 hc9
        exact loop n 0 (by omega) (by omega) X hX e
    · refine fe_s 1 (pc' := 28) (lc' := [(3, .int (nI n)), (0, .ref 0), (1, .int (nI W)), (2, .int k)]) (stk' := [.int (-1)]) (mem' := fm g tp bt a b) (fun _ _ _ => rfl) ?_
      exact fe_ret ⟨_, Or.inl rfl, rfl⟩ (by rfl) (by rfl) (by rfl)
end FOW
