section MH7_0
/-! ===== fx: ways: sends, far, cut ===== -/
section FSE
variable {g : Nat → Int32} {tp bt : Int64} {a0 a : Nat → Nat → Int32} {b : Nat → Nat → Int64}
theorem fr_bits {x : Int32} {mem : fx_M} : ∃ v : Int32, fr_T 1 261 [.int x] mem (some (.int v)) mem := by
  have main : ∃ (v : Option Value) (mem' : fx_M), (fun R => ∃ v : Int32, R = (some (.int v), mem)) (v, mem') ∧ fr_T 1 261 [.int x] mem v mem' := by
    refine fe_meth (F := fun R => ∃ v : Int32, R = (some (.int v), mem)) (M := gk_m261) (by rfl) (by rfl) ?_
    have loop : ∀ (r : Nat) (k n : Int32), k.toBitVec.toNat < r → fe_R 0 gk_m261 4 [(2, .int k), (1, .int n), (0, .int x)] [] mem (fun R => ∃ v : Int32, R = (some (.int v), mem)) := by
      intro r
      induction r with
      | zero => intro k n h; exact absurd h (Nat.not_lt_zero _)
      | succ r ih =>
        intro k n h
        refine fe_s 1 (pc' := 5) (lc' := [(2, .int k), (1, .int n), (0, .int x)]) (stk' := [.int k]) (mem' := mem) (by intro _ _ _; eq_refl) ?_
        refine fe_s 1 (pc' := cond (fx_cb .eq k 0) 20 8) (lc' := [(2, .int k), (1, .int n), (0, .int x)]) (stk' := []) (mem' := mem) (by intro _ _ _; eq_refl) ?_
        by_cases e : k = 0
        · rw [show fx_cb .eq k 0 = true from decide_eq_true e]
          dsimp only [cond]
          refine fe_s 1 (pc' := 21) (lc' := [(2, .int k), (1, .int n), (0, .int x)]) (stk' := [.int n]) (mem' := mem) (by intro _ _ _; eq_refl) ?_
          exact fe_ret ⟨_, rfl⟩ (by rfl) (by rfl) (by rfl)
        · rw [show fx_cb .eq k 0 = false from decide_eq_false e]
          dsimp only [cond]
          refine fe_s 8 (pc' := 4) (lc' := [(2, .int (k &&& (k - 1))), (1, .int (n + 1)), (0, .int x)]) (stk' := []) (mem' := mem) (by intro _ _ _; eq_refl) ?_
          exact ih _ _ (by have := fm_bits_dec k e; omega)
    refine fe_s 4 (pc' := 4) (lc' := [(2, .int x), (1, .int 0), (0, .int x)]) (stk' := []) (mem' := mem) (by intro _ _ _; eq_refl) ?_
    exact loop _ x 0 (Nat.lt_succ_self _)
  obtain ⟨v, mem', ⟨y, hR⟩, h⟩ := main
  cases hR
  exact ⟨y, h⟩
theorem fr_send {w t0 n0 : Int32} (hBa : fm_B a) (hgb : fm_gb g) : ∃ (v : Option Value) (mem' : fx_M), (fm_PO g tp bt a b) (v, mem') ∧ fr_T 9 289 [.ref 0, .int w, .int t0, .int n0] (fm g tp bt a b) v mem' := by
  have hG := fm_G_rf hgb
  have hB := hBa
  obtain ⟨NC, hNC, eNC⟩ := fm_B_0 hB (i := 0) (n := 10) (by decide) rfl
  obtain ⟨NW, hNW, eNW⟩ := fm_B_0 hB (i := 1) (n := 8) (by decide) rfl
  obtain ⟨NG, hNG, eNG⟩ := fm_B_0 hB (i := 3) (n := 20) (by decide) rfl
  obtain ⟨T, hT9, eT⟩ := fm_T5 hB
  have hD : fm_D a a T := fm_D_rf hB eT (by omega)
  refine fe_meth (F := fm_PO g tp bt a b) (M := gk_m289) (by rfl) (by rfl) ?_
  refine fe_s 2 (pc' := 2) (lc' := [(0, .ref 0), (1, .int w), (2, .int t0), (3, .int n0)]) (stk' := [.int w, .ref 0]) (mem' := fm g tp bt a b) (by intro _ _ _; eq_refl) ?_
  obtain ⟨vw1, memw1, ⟨xw1, hxw1, hRw1⟩, hfrw1⟩ := fr_isWalker (w := w) (g := g) (tp := tp) (bt := bt) (b := b) (fm_D_t hB hD)
  cases hRw1
  refine fe_ivV hfrw1 (by omega) (by rfl) (by rfl) (by rfl) (by rfl) (by rfl) (by rfl) ?_
  rcases hxw1 with rfl | ⟨rfl, Ww1, hWw1, rfl⟩
  · refine fe_s 1 (pc' := cond (fx_cb .eq 0 0) 19 8) (lc' := [(0, .ref 0), (1, .int w), (2, .int t0), (3, .int n0)]) (stk' := []) (mem' := fm g tp bt a b) (by intro _ _ _; eq_refl) ?_
    rw [show (fx_cb .eq 0 0) = true from by decide]
    dsimp only [cond]
    refine fe_s 3 (pc' := 24) (lc' := [(4, .int 1), (0, .ref 0), (1, .int w), (2, .int t0), (3, .int n0)]) (stk' := [.int 1]) (mem' := fm g tp bt a b) (by intro _ _ _; eq_refl) ?_
    refine fe_s 1 (pc' := cond (fx_cb .le 1 0) 34 27) (lc' := [(4, .int 1), (0, .ref 0), (1, .int w), (2, .int t0), (3, .int n0)]) (stk' := []) (mem' := fm g tp bt a b) (by intro _ _ _; eq_refl) ?_
    rw [show (fx_cb .le 1 0) = false from by decide]
    dsimp only [cond]
    refine fe_s 2 (pc' := 30) (lc' := [(4, .int 1), (0, .ref 0), (1, .int w), (2, .int t0), (3, .int n0)]) (stk' := [.int 1, .ref 0]) (mem' := fm g tp bt a b) (by intro _ _ _; eq_refl) ?_
    refine fe_ivV (fr_refuse (x := 1)) (by omega) (by rfl) (by rfl) (by rfl) (by rfl) (by rfl) (by rfl) ?_
    exact fe_ret ⟨_, _, _, _, _, _, (fm_E_rf hBa), (fm_G_2 hG (by decide) (by decide)), (fun _ _ _ => rfl), rfl⟩ (by rfl) (by rfl) (by rfl)
  · refine fe_s 1 (pc' := cond (fx_cb .eq 1 0) 19 8) (lc' := [(0, .ref 0), (1, .int (nI Ww1)), (2, .int t0), (3, .int n0)]) (stk' := []) (mem' := fm g tp bt a b) (by intro _ _ _; eq_refl) ?_
    rw [show (fx_cb .eq 1 0) = false from by decide]
    dsimp only [cond]
    refine fe_s 4 (pc' := 13) (lc' := [(0, .ref 0), (1, .int (nI Ww1)), (2, .int t0), (3, .int n0)]) (stk' := [.int 20, .int n0, .int t0, .ref 0]) (mem' := fm g tp bt a b) (by intro _ _ _; eq_refl) ?_
    obtain ⟨vu2, memu2, ⟨uu2, huu2, h0u2, hRu2⟩, hfru2⟩ := fr_wrongTray (tray := t0) (nn := n0) (M := 20) (g := g) (tp := tp) (bt := bt) (a := a) (b := b) (by omega) ((fm_D_h hD (by decide) rfl).trans eNC) hNC
    cases hRu2
    refine fe_ivV hfru2 (by omega) (by rfl) (by rfl) (by rfl) (by rfl) (by rfl) (by rfl) ?_
    refine fe_s 3 (pc' := 24) (lc' := [(4, .int (nI uu2)), (0, .ref 0), (1, .int (nI Ww1)), (2, .int t0), (3, .int n0)]) (stk' := [.int (nI uu2)]) (mem' := fm g tp bt a b) (by intro _ _ _; eq_refl) ?_
    refine fe_s 1 (pc' := cond (fx_cb .le (nI uu2) 0) 34 27) (lc' := [(4, .int (nI uu2)), (0, .ref 0), (1, .int (nI Ww1)), (2, .int t0), (3, .int n0)]) (stk' := []) (mem' := fm g tp bt a b) (by intro _ _ _; eq_refl) ?_
    by_cases h3 : uu2 ≤ 0
    · rw [show (fx_cb .le (nI uu2) 0) = true from cb_leT (a := uu2) (b := 0) (by omega) (by omega) (by omega)]
      dsimp only [cond]
      obtain ⟨t, n, rfl, rfl, ht, hn1, hn, hc⟩ := h0u2 (by omega)
      refine fe_s 2 (pc' := 36) (lc' := [(4, .int (nI uu2)), (0, .ref 0), (1, .int (nI Ww1)), (2, .int (nI t)), (3, .int (nI n))]) (stk' := [.int (nI Ww1), .ref 0]) (mem' := fm g tp bt a b) (by intro _ _ _; eq_refl) ?_
      obtain ⟨v4, z5, hv4⟩ := fq_isWet (V := Ww1) (g := g) (tp := tp) (bt := bt) (a := a) (b := b) (by omega)
      refine fe_ivV hv4 (by omega) (by rfl) (by rfl) (by rfl) (by rfl) (by rfl) (by rfl) ?_
      rcases z5 with rfl | rfl
      · refine fe_s 1 (pc' := cond (fx_cb .ne 0 0) 64 42) (lc' := [(4, .int (nI uu2)), (0, .ref 0), (1, .int (nI Ww1)), (2, .int (nI t)), (3, .int (nI n))]) (stk' := []) (mem' := fm g tp bt a b) (by intro _ _ _; eq_refl) ?_
        rw [show (fx_cb .ne 0 0) = false from by decide]
        dsimp only [cond]
        refine fe_s 2 (pc' := 44) (lc' := [(4, .int (nI uu2)), (0, .ref 0), (1, .int (nI Ww1)), (2, .int (nI t)), (3, .int (nI n))]) (stk' := [.int (nI Ww1), .ref 0]) (mem' := fm g tp bt a b) (by intro _ _ _; eq_refl) ?_
        refine fe_ivV (fr_leftOfX (V := Ww1) (g := g) (tp := tp) (bt := bt) (a := a) (b := b) (by omega)) (by omega) (by rfl) (by rfl) (by rfl) (by rfl) (by rfl) (by rfl) ?_
        obtain ⟨l6, hl6, el6⟩ := fm_D_w3 hD (W := Ww1) (by omega)
        rw [el6]
        refine fe_s 1 (pc' := cond (fx_cb .gt (nI l6) 0) 64 50) (lc' := [(4, .int (nI uu2)), (0, .ref 0), (1, .int (nI Ww1)), (2, .int (nI t)), (3, .int (nI n))]) (stk' := []) (mem' := fm g tp bt a b) (by intro _ _ _; eq_refl) ?_
        by_cases h7 : 0 < l6
        · rw [show (fx_cb .gt (nI l6) 0) = true from cb_gtT (a := l6) (b := 0) (by omega) (by omega) (by omega)]
          dsimp only [cond]
          refine fe_s 2 (pc' := 67) (lc' := [(4, .int (nI uu2)), (0, .ref 0), (1, .int (nI Ww1)), (2, .int (nI t)), (3, .int (nI n))]) (stk' := [.int 7, .ref 0]) (mem' := fm g tp bt a b) (by intro _ _ _; eq_refl) ?_
          refine fe_ivV (fr_refuse (x := 7)) (by omega) (by rfl) (by rfl) (by rfl) (by rfl) (by rfl) (by rfl) ?_
          exact fe_ret ⟨_, _, _, _, _, _, (fm_E_rf hBa), (fm_G_2 hG (by decide) (by decide)), (fun _ _ _ => rfl), rfl⟩ (by rfl) (by rfl) (by rfl)
        · rw [show (fx_cb .gt (nI l6) 0) = false from cb_gtF (a := l6) (b := 0) (by omega) (by omega) (by omega)]
          dsimp only [cond]
          refine fe_s 3 (pc' := 53) (lc' := [(4, .int (nI uu2)), (0, .ref 0), (1, .int (nI Ww1)), (2, .int (nI t)), (3, .int (nI n))]) (stk' := [.int (nI Ww1), .ref 0, .ref 0]) (mem' := fm g tp bt a b) (by intro _ _ _; eq_refl) ?_
          refine fe_ivV (fr_whereOf (W := Ww1) (g := g) (tp := tp) (bt := bt) (a := a) (b := b) (by omega)) (by omega) (by rfl) (by rfl) (by rfl) (by rfl) (by rfl) (by rfl) ?_
          obtain ⟨l8, hl8, el8⟩ := fm_D_w1 hD (W := Ww1) (by omega)
          rw [el8]
          refine fe_s 2 (pc' := 58) (lc' := [(4, .int (nI uu2)), (0, .ref 0), (1, .int (nI Ww1)), (2, .int (nI t)), (3, .int (nI n))]) (stk' := [.int (nI n), .int (nI t), .int (nI l8), .ref 0]) (mem' := fm g tp bt a b) (by intro _ _ _; eq_refl) ?_
          obtain ⟨vr9, memr9, ⟨xr9, hxr9, ar9, hDr9, hRr9⟩, hfrr9⟩ := fr_isRoute (X := l8) (t := t) (n := n) (g := g) (tp := tp) (bt := bt) (a := a) (b := b) hB hD (by omega) (by omega) (by omega) hc
          cases hRr9
          refine fe_ivV hfrr9 (by omega) (by rfl) (by rfl) (by rfl) (by rfl) (by rfl) (by rfl) ?_
          rcases hxr9 with rfl | rfl
          · refine fe_s 1 (pc' := cond (fx_cb .ne 0 0) 71 64) (lc' := [(4, .int (nI uu2)), (0, .ref 0), (1, .int (nI Ww1)), (2, .int (nI t)), (3, .int (nI n))]) (stk' := []) (mem' := fm g tp bt ar9 b) (by intro _ _ _; eq_refl) ?_
            rw [show (fx_cb .ne 0 0) = false from by decide]
            dsimp only [cond]
            refine fe_s 2 (pc' := 67) (lc' := [(4, .int (nI uu2)), (0, .ref 0), (1, .int (nI Ww1)), (2, .int (nI t)), (3, .int (nI n))]) (stk' := [.int 7, .ref 0]) (mem' := fm g tp bt ar9 b) (by intro _ _ _; eq_refl) ?_
            refine fe_ivV (fr_refuse (x := 7)) (by omega) (by rfl) (by rfl) (by rfl) (by rfl) (by rfl) (by rfl) ?_
            exact fe_ret ⟨_, _, _, _, _, _, fm_E_D hB hDr9 (by omega), (fm_G_2 hG (by decide) (by decide)), (fun _ _ _ => rfl), rfl⟩ (by rfl) (by rfl) (by rfl)
          · refine fe_s 1 (pc' := cond (fx_cb .ne 1 0) 71 64) (lc' := [(4, .int (nI uu2)), (0, .ref 0), (1, .int (nI Ww1)), (2, .int (nI t)), (3, .int (nI n))]) (stk' := []) (mem' := fm g tp bt ar9 b) (by intro _ _ _; eq_refl) ?_
            rw [show (fx_cb .ne 1 0) = true from by decide]
            dsimp only [cond]
            refine fe_s 4 (pc' := 75) (lc' := [(4, .int (nI uu2)), (0, .ref 0), (1, .int (nI Ww1)), (2, .int (nI t)), (3, .int (nI n))]) (stk' := [.int (nI n), .int (nI t), .int (nI Ww1), .ref 0]) (mem' := fm g tp bt ar9 b) (by intro _ _ _; eq_refl) ?_
            obtain ⟨vd10, memd10, ⟨ad10, hDd10, hRd10⟩, hfrd10⟩ := fr_sets (W := Ww1) (t := t) (n := n) (g := g) (tp := tp) (bt := bt) (a := ar9) (b := b) hB hDr9 (by omega) (by omega) (by omega) hc
            cases hRd10
            refine fe_ivV hfrd10 (by omega) (by rfl) (by rfl) (by rfl) (by rfl) (by rfl) (by rfl) ?_
            refine fe_s 2 (pc' := 80) (lc' := [(4, .int (nI uu2)), (0, .ref 0), (1, .int (nI Ww1)), (2, .int (nI t)), (3, .int (nI n))]) (stk' := [.int (nI n), .ref 0]) (mem' := fm g tp bt ad10 b) (by intro _ _ _; eq_refl) ?_
            refine fe_ivV (fr_gives (x := nI n)) (by omega) (by rfl) (by rfl) (by rfl) (by rfl) (by rfl) (by rfl) ?_
            exact fe_ret ⟨_, _, _, _, _, _, fm_E_D hB hDd10 (by omega), (fm_G_2 hG (by decide) (by decide)), (fun _ _ _ => rfl), rfl⟩ (by rfl) (by rfl) (by rfl)
      · refine fe_s 1 (pc' := cond (fx_cb .ne 1 0) 64 42) (lc' := [(4, .int (nI uu2)), (0, .ref 0), (1, .int (nI Ww1)), (2, .int (nI t)), (3, .int (nI n))]) (stk' := []) (mem' := fm g tp bt a b) (by intro _ _ _; eq_refl) ?_
        rw [show (fx_cb .ne 1 0) = true from by decide]
        dsimp only [cond]
        refine fe_s 2 (pc' := 67) (lc' := [(4, .int (nI uu2)), (0, .ref 0), (1, .int (nI Ww1)), (2, .int (nI t)), (3, .int (nI n))]) (stk' := [.int 7, .ref 0]) (mem' := fm g tp bt a b) (by intro _ _ _; eq_refl) ?_
        refine fe_ivV (fr_refuse (x := 7)) (by omega) (by rfl) (by rfl) (by rfl) (by rfl) (by rfl) (by rfl) ?_
        exact fe_ret ⟨_, _, _, _, _, _, (fm_E_rf hBa), (fm_G_2 hG (by decide) (by decide)), (fun _ _ _ => rfl), rfl⟩ (by rfl) (by rfl) (by rfl)
    · rw [show (fx_cb .le (nI uu2) 0) = false from cb_leF (a := uu2) (b := 0) (by omega) (by omega) (by omega)]
      dsimp only [cond]
      refine fe_s 2 (pc' := 30) (lc' := [(4, .int (nI uu2)), (0, .ref 0), (1, .int (nI Ww1)), (2, .int t0), (3, .int n0)]) (stk' := [.int (nI uu2), .ref 0]) (mem' := fm g tp bt a b) (by intro _ _ _; eq_refl) ?_
      refine fe_ivV (fr_refuse (x := nI uu2)) (by omega) (by rfl) (by rfl) (by rfl) (by rfl) (by rfl) (by rfl) ?_
      exact fe_ret ⟨_, _, _, _, _, _, (fm_E_rf hBa), (fm_G_2 hG (by rw [nI_i32 (by omega)]; omega) (by rw [nI_i32 (by omega)]; omega)), (fun _ _ _ => rfl), rfl⟩ (by rfl) (by rfl) (by rfl)
theorem fr_sendTo {w c : Int32} (hBa : fm_B a) (hgb : fm_gb g) : ∃ (v : Option Value) (mem' : fx_M), (fm_PO g tp bt a b) (v, mem') ∧ fr_T 10 291 [.ref 0, .int w, .int c] (fm g tp bt a b) v mem' := by
  have hG := fm_G_rf hgb
  have hB := hBa
  obtain ⟨NC, hNC, eNC⟩ := fm_B_0 hB (i := 0) (n := 10) (by decide) rfl
  obtain ⟨NW, hNW, eNW⟩ := fm_B_0 hB (i := 1) (n := 8) (by decide) rfl
  obtain ⟨NG, hNG, eNG⟩ := fm_B_0 hB (i := 3) (n := 20) (by decide) rfl
  obtain ⟨T, hT9, eT⟩ := fm_T5 hB
  have hD : fm_D a a T := fm_D_rf hB eT (by omega)
  refine fe_meth (F := fm_PO g tp bt a b) (M := gk_m291) (by rfl) (by rfl) ?_
  refine fe_s 3 (pc' := 3) (lc' := [(0, .ref 0), (1, .int w), (2, .int c)]) (stk' := [.int c, .int w, .ref 0]) (mem' := fm g tp bt a b) (by intro _ _ _; eq_refl) ?_
  obtain ⟨vw1, memw1, ⟨xw1, hxw1, hRw1⟩, hfrw1⟩ := fr_areBoth (w := w) (c := c) (g := g) (tp := tp) (bt := bt) (b := b) (fm_D_t hB hD)
  cases hRw1
  refine fe_ivV hfrw1 (by omega) (by rfl) (by rfl) (by rfl) (by rfl) (by rfl) (by rfl) ?_
  rcases hxw1 with rfl | ⟨rfl, Ww1, hWw1, rfl⟩
  · refine fe_s 1 (pc' := cond (fx_cb .eq 0 0) 18 9) (lc' := [(0, .ref 0), (1, .int w), (2, .int c)]) (stk' := []) (mem' := fm g tp bt a b) (by intro _ _ _; eq_refl) ?_
    rw [show (fx_cb .eq 0 0) = true from by decide]
    dsimp only [cond]
    refine fe_s 3 (pc' := 21) (lc' := [(3, .int 1), (0, .ref 0), (1, .int w), (2, .int c)]) (stk' := [.int 1]) (mem' := fm g tp bt a b) (by intro _ _ _; eq_refl) ?_
    refine fe_s 1 (pc' := cond (fx_cb .le 1 0) 32 24) (lc' := [(3, .int 1), (0, .ref 0), (1, .int w), (2, .int c)]) (stk' := []) (mem' := fm g tp bt a b) (by intro _ _ _; eq_refl) ?_
    rw [show (fx_cb .le 1 0) = false from by decide]
    dsimp only [cond]
    refine fe_s 2 (pc' := 26) (lc' := [(3, .int 1), (0, .ref 0), (1, .int w), (2, .int c)]) (stk' := [.int 1, .ref 0]) (mem' := fm g tp bt a b) (by intro _ _ _; eq_refl) ?_
    refine fe_ivV (fr_refuse (x := 1)) (by omega) (by rfl) (by rfl) (by rfl) (by rfl) (by rfl) (by rfl) ?_
    refine fe_s 1 (pc' := 41) (lc' := [(3, .int 1), (0, .ref 0), (1, .int w), (2, .int c)]) (stk' := [.int (-1)]) (mem' := fm (upd g 2 1) tp bt a b) (by intro _ _ _; eq_refl) ?_
    exact fe_ret ⟨_, _, _, _, _, _, (fm_E_rf hBa), (fm_G_2 hG (by decide) (by decide)), (fun _ _ _ => rfl), rfl⟩ (by rfl) (by rfl) (by rfl)
  · refine fe_s 1 (pc' := cond (fx_cb .eq 1 0) 18 9) (lc' := [(0, .ref 0), (1, .int (nI Ww1)), (2, .int c)]) (stk' := []) (mem' := fm g tp bt a b) (by intro _ _ _; eq_refl) ?_
    rw [show (fx_cb .eq 1 0) = false from by decide]
    dsimp only [cond]
    refine fe_s 3 (pc' := 12) (lc' := [(0, .ref 0), (1, .int (nI Ww1)), (2, .int c)]) (stk' := [.int c, .int (nI Ww1), .ref 0]) (mem' := fm g tp bt a b) (by intro _ _ _; eq_refl) ?_
    obtain ⟨ve2, meme2, ⟨xe2, qe2, hxe2, hRe2, hse2⟩, hfre2⟩ := fr_sends (g := g) (tp := tp) (bt := bt) (b := b) (W := Ww1) (to := c) (fm_D_t hB hD) (fm_D_sym hB hD) hD.2.2.2.2.2 (by omega)
    cases hRe2
    have hDe2 := fm_D_sent hD (by omega) hse2
    refine fe_ivV hfre2 (by omega) (by rfl) (by rfl) (by rfl) (by rfl) (by rfl) (by rfl) ?_
    rcases hxe2 with rfl | rfl | rfl
    · refine fe_s 3 (pc' := 21) (lc' := [(3, .int 0), (0, .ref 0), (1, .int (nI Ww1)), (2, .int c)]) (stk' := [.int 0]) (mem' := fm g tp bt qe2 b) (by intro _ _ _; eq_refl) ?_
      refine fe_s 1 (pc' := cond (fx_cb .le 0 0) 32 24) (lc' := [(3, .int 0), (0, .ref 0), (1, .int (nI Ww1)), (2, .int c)]) (stk' := []) (mem' := fm g tp bt qe2 b) (by intro _ _ _; eq_refl) ?_
      rw [show (fx_cb .le 0 0) = true from by decide]
      dsimp only [cond]
      refine fe_s 3 (pc' := 35) (lc' := [(3, .int 0), (0, .ref 0), (1, .int (nI Ww1)), (2, .int c)]) (stk' := [.int (nI Ww1), .ref 0, .ref 0]) (mem' := fm g tp bt qe2 b) (by intro _ _ _; eq_refl) ?_
      refine fe_ivV (fr_leftOfX (V := Ww1) (g := g) (tp := tp) (bt := bt) (a := qe2) (b := b) (by omega)) (by omega) (by rfl) (by rfl) (by rfl) (by rfl) (by rfl) (by rfl) ?_
      obtain ⟨l3, hl3, el3⟩ := fm_D_w3 hDe2 (W := Ww1) (by omega)
      rw [el3]
      refine fe_ivV (fr_gives (x := nI l3)) (by omega) (by rfl) (by rfl) (by rfl) (by rfl) (by rfl) (by rfl) ?_
      exact fe_ret ⟨_, _, _, _, _, _, fm_E_D hB hDe2 (by omega), (fm_G_2 hG (by decide) (by decide)), (fun _ _ _ => rfl), rfl⟩ (by rfl) (by rfl) (by rfl)
    · refine fe_s 3 (pc' := 21) (lc' := [(3, .int 6), (0, .ref 0), (1, .int (nI Ww1)), (2, .int c)]) (stk' := [.int 6]) (mem' := fm g tp bt qe2 b) (by intro _ _ _; eq_refl) ?_
      refine fe_s 1 (pc' := cond (fx_cb .le 6 0) 32 24) (lc' := [(3, .int 6), (0, .ref 0), (1, .int (nI Ww1)), (2, .int c)]) (stk' := []) (mem' := fm g tp bt qe2 b) (by intro _ _ _; eq_refl) ?_
      rw [show (fx_cb .le 6 0) = false from by decide]
      dsimp only [cond]
      refine fe_s 2 (pc' := 26) (lc' := [(3, .int 6), (0, .ref 0), (1, .int (nI Ww1)), (2, .int c)]) (stk' := [.int 6, .ref 0]) (mem' := fm g tp bt qe2 b) (by intro _ _ _; eq_refl) ?_
      refine fe_ivV (fr_refuse (x := 6)) (by omega) (by rfl) (by rfl) (by rfl) (by rfl) (by rfl) (by rfl) ?_
      refine fe_s 1 (pc' := 41) (lc' := [(3, .int 6), (0, .ref 0), (1, .int (nI Ww1)), (2, .int c)]) (stk' := [.int (-1)]) (mem' := fm (upd g 2 6) tp bt qe2 b) (by intro _ _ _; eq_refl) ?_
      exact fe_ret ⟨_, _, _, _, _, _, fm_E_D hB hDe2 (by omega), (fm_G_2 hG (by decide) (by decide)), (fun _ _ _ => rfl), rfl⟩ (by rfl) (by rfl) (by rfl)
    · refine fe_s 3 (pc' := 21) (lc' := [(3, .int 7), (0, .ref 0), (1, .int (nI Ww1)), (2, .int c)]) (stk' := [.int 7]) (mem' := fm g tp bt qe2 b) (by intro _ _ _; eq_refl) ?_
      refine fe_s 1 (pc' := cond (fx_cb .le 7 0) 32 24) (lc' := [(3, .int 7), (0, .ref 0), (1, .int (nI Ww1)), (2, .int c)]) (stk' := []) (mem' := fm g tp bt qe2 b) (by intro _ _ _; eq_refl) ?_
      rw [show (fx_cb .le 7 0) = false from by decide]
      dsimp only [cond]
      refine fe_s 2 (pc' := 26) (lc' := [(3, .int 7), (0, .ref 0), (1, .int (nI Ww1)), (2, .int c)]) (stk' := [.int 7, .ref 0]) (mem' := fm g tp bt qe2 b) (by intro _ _ _; eq_refl) ?_
      refine fe_ivV (fr_refuse (x := 7)) (by omega) (by rfl) (by rfl) (by rfl) (by rfl) (by rfl) (by rfl) ?_
      refine fe_s 1 (pc' := 41) (lc' := [(3, .int 7), (0, .ref 0), (1, .int (nI Ww1)), (2, .int c)]) (stk' := [.int (-1)]) (mem' := fm (upd g 2 7) tp bt qe2 b) (by intro _ _ _; eq_refl) ?_
      exact fe_ret ⟨_, _, _, _, _, _, fm_E_D hB hDe2 (by omega), (fm_G_2 hG (by decide) (by decide)), (fun _ _ _ => rfl), rfl⟩ (by rfl) (by rfl) (by rfl)
theorem fr_far {w c : Int32} (hBa : fm_B a) (hgb : fm_gb g) : ∃ (v : Option Value) (mem' : fx_M), (fm_PO g tp bt a b) (v, mem') ∧ fr_T 9 310 [.ref 0, .int w, .int c] (fm g tp bt a b) v mem' := by
  have hG := fm_G_rf hgb
  have hB := hBa
  obtain ⟨NC, hNC, eNC⟩ := fm_B_0 hB (i := 0) (n := 10) (by decide) rfl
  obtain ⟨NW, hNW, eNW⟩ := fm_B_0 hB (i := 1) (n := 8) (by decide) rfl
  obtain ⟨NG, hNG, eNG⟩ := fm_B_0 hB (i := 3) (n := 20) (by decide) rfl
  obtain ⟨T, hT9, eT⟩ := fm_T5 hB
  have hD : fm_D a a T := fm_D_rf hB eT (by omega)
  refine fe_meth (F := fm_PO g tp bt a b) (M := gk_m310) (by rfl) (by rfl) ?_
  refine fe_s 3 (pc' := 3) (lc' := [(0, .ref 0), (1, .int w), (2, .int c)]) (stk' := [.int c, .int w, .ref 0]) (mem' := fm g tp bt a b) (by intro _ _ _; eq_refl) ?_
  obtain ⟨vw1, memw1, ⟨xw1, hxw1, hRw1⟩, hfrw1⟩ := fr_areBoth (w := w) (c := c) (g := g) (tp := tp) (bt := bt) (b := b) (fm_D_t hB hD)
  cases hRw1
  refine fe_ivV hfrw1 (by omega) (by rfl) (by rfl) (by rfl) (by rfl) (by rfl) (by rfl) ?_
  rcases hxw1 with rfl | ⟨rfl, Ww1, hWw1, rfl⟩
  · refine fe_s 1 (pc' := cond (fx_cb .ne 0 0) 15 9) (lc' := [(0, .ref 0), (1, .int w), (2, .int c)]) (stk' := []) (mem' := fm g tp bt a b) (by intro _ _ _; eq_refl) ?_
    rw [show (fx_cb .ne 0 0) = false from by decide]
    dsimp only [cond]
    refine fe_s 2 (pc' := 11) (lc' := [(0, .ref 0), (1, .int w), (2, .int c)]) (stk' := [.int 1, .ref 0]) (mem' := fm g tp bt a b) (by intro _ _ _; eq_refl) ?_
    refine fe_ivV (fr_refuse (x := 1)) (by omega) (by rfl) (by rfl) (by rfl) (by rfl) (by rfl) (by rfl) ?_
    exact fe_ret ⟨_, _, _, _, _, _, (fm_E_rf hBa), (fm_G_2 hG (by decide) (by decide)), (fun _ _ _ => rfl), rfl⟩ (by rfl) (by rfl) (by rfl)
  · refine fe_s 1 (pc' := cond (fx_cb .ne 1 0) 15 9) (lc' := [(0, .ref 0), (1, .int (nI Ww1)), (2, .int c)]) (stk' := []) (mem' := fm g tp bt a b) (by intro _ _ _; eq_refl) ?_
    rw [show (fx_cb .ne 1 0) = true from by decide]
    dsimp only [cond]
    refine fe_s 5 (pc' := 20) (lc' := [(0, .ref 0), (1, .int (nI Ww1)), (2, .int c)]) (stk' := [.int (nI Ww1), .ref 0, .int c, .int (nI Ww1), .ref 0]) (mem' := fm g tp bt a b) (by intro _ _ _; eq_refl) ?_
    obtain ⟨v2, hv2⟩ := fq_bearers (W := Ww1) (g := g) (tp := tp) (bt := bt) (a := a) (b := b) (fm_D_t hB hD) (by omega)
    refine fe_ivV hv2 (by omega) (by rfl) (by rfl) (by rfl) (by rfl) (by rfl) (by rfl) ?_
    obtain ⟨Xy3, hXy3, eXy3⟩ := fm_D_w1 hD (W := Ww1) (by omega)
    obtain ⟨vy3, memy3, ⟨py3, hpy3, hRy3⟩, hfry3⟩ := fr_laysFar (g := g) (tp := tp) (bt := bt) (b := b) (to := c) (bby := v2) (W := Ww1) (by omega) eXy3 hXy3 ((fm_D_h hD (by decide) rfl).trans eNC) hNC
    cases hRy3
    have hDy3 := fm_D_ok9 hD hpy3
    refine fe_ivV hfry3 (by omega) (by rfl) (by rfl) (by rfl) (by rfl) (by rfl) (by rfl) ?_
    rcases hpy3.2 Xy3 hXy3 with ey3 | ⟨ny3, hny3, ey3, -⟩
    · rw [ey3]
      refine fe_s 3 (pc' := 31) (lc' := [(3, .int 1000000), (0, .ref 0), (1, .int (nI Ww1)), (2, .int c)]) (stk' := [.int 1000000, .int 1000000]) (mem' := fm g tp bt py3 b) (by intro _ _ _; eq_refl) ?_
      refine fe_s 1 (pc' := cond (fx_cb .ne 1000000 1000000) 43 34) (lc' := [(3, .int 1000000), (0, .ref 0), (1, .int (nI Ww1)), (2, .int c)]) (stk' := []) (mem' := fm g tp bt py3 b) (by intro _ _ _; eq_refl) ?_
      rw [show (fx_cb .ne 1000000 1000000) = false from by decide]
      dsimp only [cond]
      refine fe_s 2 (pc' := 37) (lc' := [(3, .int 1000000), (0, .ref 0), (1, .int (nI Ww1)), (2, .int c)]) (stk' := [.int 6, .ref 0]) (mem' := fm g tp bt py3 b) (by intro _ _ _; eq_refl) ?_
      refine fe_ivV (fr_refuse (x := 6)) (by omega) (by rfl) (by rfl) (by rfl) (by rfl) (by rfl) (by rfl) ?_
      refine fe_s 1 (pc' := 48) (lc' := [(3, .int 1000000), (0, .ref 0), (1, .int (nI Ww1)), (2, .int c)]) (stk' := [.int (-1)]) (mem' := fm (upd g 2 6) tp bt py3 b) (by intro _ _ _; eq_refl) ?_
      exact fe_ret ⟨_, _, _, _, _, _, fm_E_D hB hDy3 (by omega), (fm_G_2 hG (by decide) (by decide)), (fun _ _ _ => rfl), rfl⟩ (by rfl) (by rfl) (by rfl)
    · rw [ey3]
      refine fe_s 3 (pc' := 31) (lc' := [(3, .int (nI ny3)), (0, .ref 0), (1, .int (nI Ww1)), (2, .int c)]) (stk' := [.int 1000000, .int (nI ny3)]) (mem' := fm g tp bt py3 b) (by intro _ _ _; eq_refl) ?_
      refine fe_s 1 (pc' := cond (fx_cb .ne (nI ny3) 1000000) 43 34) (lc' := [(3, .int (nI ny3)), (0, .ref 0), (1, .int (nI Ww1)), (2, .int c)]) (stk' := []) (mem' := fm g tp bt py3 b) (by intro _ _ _; eq_refl) ?_
      rw [show (fx_cb .ne (nI ny3) 1000000) = true from cb_neT (a := ny3) (b := 1000000) (by omega) (by omega) (by omega)]
      dsimp only [cond]
      refine fe_s 2 (pc' := 45) (lc' := [(3, .int (nI ny3)), (0, .ref 0), (1, .int (nI Ww1)), (2, .int c)]) (stk' := [.int (nI ny3), .ref 0]) (mem' := fm g tp bt py3 b) (by intro _ _ _; eq_refl) ?_
      refine fe_ivV (fr_gives (x := nI ny3)) (by omega) (by rfl) (by rfl) (by rfl) (by rfl) (by rfl) (by rfl) ?_
      exact fe_ret ⟨_, _, _, _, _, _, fm_E_D hB hDy3 (by omega), (fm_G_2 hG (by decide) (by decide)), (fun _ _ _ => rfl), rfl⟩ (by rfl) (by rfl) (by rfl)
theorem fr_surest {w c : Int32} (hBa : fm_B a) (hgb : fm_gb g) : ∃ (v : Option Value) (mem' : fx_M), (fm_PO g tp bt a b) (v, mem') ∧ fr_T 10 315 [.ref 0, .int w, .int c] (fm g tp bt a b) v mem' := by
  have hG := fm_G_rf hgb
  have hB := hBa
  obtain ⟨NC, hNC, eNC⟩ := fm_B_0 hB (i := 0) (n := 10) (by decide) rfl
  obtain ⟨NW, hNW, eNW⟩ := fm_B_0 hB (i := 1) (n := 8) (by decide) rfl
  obtain ⟨NG, hNG, eNG⟩ := fm_B_0 hB (i := 3) (n := 20) (by decide) rfl
  obtain ⟨T, hT9, eT⟩ := fm_T5 hB
  have hD : fm_D a a T := fm_D_rf hB eT (by omega)
  refine fe_meth (F := fm_PO g tp bt a b) (M := gk_m315) (by rfl) (by rfl) ?_
  refine fe_s 3 (pc' := 3) (lc' := [(0, .ref 0), (1, .int w), (2, .int c)]) (stk' := [.int c, .int w, .ref 0]) (mem' := fm g tp bt a b) (by intro _ _ _; eq_refl) ?_
  obtain ⟨vw1, memw1, ⟨xw1, hxw1, hRw1⟩, hfrw1⟩ := fr_isAway (w := w) (c := c) (g := g) (tp := tp) (bt := bt) (b := b) (fm_D_t hB hD)
  cases hRw1
  refine fe_ivV hfrw1 (by omega) (by rfl) (by rfl) (by rfl) (by rfl) (by rfl) (by rfl) ?_
  rcases hxw1 with rfl | ⟨rfl, Ww1, hWw1, rfl⟩
  · refine fe_s 1 (pc' := cond (fx_cb .ne 0 0) 17 9) (lc' := [(0, .ref 0), (1, .int w), (2, .int c)]) (stk' := []) (mem' := fm g tp bt a b) (by intro _ _ _; eq_refl) ?_
    rw [show (fx_cb .ne 0 0) = false from by decide]
    dsimp only [cond]
    refine fe_s 2 (pc' := 11) (lc' := [(0, .ref 0), (1, .int w), (2, .int c)]) (stk' := [.int 1, .ref 0]) (mem' := fm g tp bt a b) (by intro _ _ _; eq_refl) ?_
    refine fe_ivV (fr_refuse (x := 1)) (by omega) (by rfl) (by rfl) (by rfl) (by rfl) (by rfl) (by rfl) ?_
    refine fe_s 1 (pc' := 43) (lc' := [(0, .ref 0), (1, .int w), (2, .int c)]) (stk' := [.int (-1)]) (mem' := fm (upd g 2 1) tp bt a b) (by intro _ _ _; eq_refl) ?_
    exact fe_ret ⟨_, _, _, _, _, _, (fm_E_rf hBa), (fm_G_2 hG (by decide) (by decide)), (fun _ _ _ => rfl), rfl⟩ (by rfl) (by rfl) (by rfl)
  · refine fe_s 1 (pc' := cond (fx_cb .ne 1 0) 17 9) (lc' := [(0, .ref 0), (1, .int (nI Ww1)), (2, .int c)]) (stk' := []) (mem' := fm g tp bt a b) (by intro _ _ _; eq_refl) ?_
    rw [show (fx_cb .ne 1 0) = true from by decide]
    dsimp only [cond]
    refine fe_s 3 (pc' := 20) (lc' := [(0, .ref 0), (1, .int (nI Ww1)), (2, .int c)]) (stk' := [.int c, .int (nI Ww1), .ref 0]) (mem' := fm g tp bt a b) (by intro _ _ _; eq_refl) ?_
    obtain ⟨ve2, meme2, ⟨xe2, ye2, pe2, hxe2, hpe2, hRe2⟩, hfre2⟩ := fr_laysSurest (g := g) (tp := tp) (bt := bt) (b := b) (W := Ww1) (to := c) (fm_D_t hB hD) (by omega)
    cases hRe2
    have hDe2 := fm_D_ok9 hD hpe2
    refine fe_ivV hfre2 (by omega) (by rfl) (by rfl) (by rfl) (by rfl) (by rfl) (by rfl) ?_
    rcases hxe2 with rfl | rfl
    · refine fe_s 1 (pc' := cond (fx_cb .eq 0 0) 37 26) (lc' := [(0, .ref 0), (1, .int (nI Ww1)), (2, .int c)]) (stk' := []) (mem' := fm (upd g 25 ye2) tp bt pe2 b) (by intro _ _ _; eq_refl) ?_
      rw [show (fx_cb .eq 0 0) = true from by decide]
      dsimp only [cond]
      refine fe_s 2 (pc' := 40) (lc' := [(0, .ref 0), (1, .int (nI Ww1)), (2, .int c)]) (stk' := [.int 6, .ref 0]) (mem' := fm (upd g 25 ye2) tp bt pe2 b) (by intro _ _ _; eq_refl) ?_
      refine fe_ivV (fr_refuse (x := 6)) (by omega) (by rfl) (by rfl) (by rfl) (by rfl) (by rfl) (by rfl) ?_
      exact fe_ret ⟨_, _, _, _, _, _, fm_E_D hB hDe2 (by omega), (fm_G_2 (fm_G_f hG (Or.inl rfl)) (by decide) (by decide)), (fun _ _ _ => rfl), rfl⟩ (by rfl) (by rfl) (by rfl)
    · refine fe_s 1 (pc' := cond (fx_cb .eq 1 0) 37 26) (lc' := [(0, .ref 0), (1, .int (nI Ww1)), (2, .int c)]) (stk' := []) (mem' := fm (upd g 25 ye2) tp bt pe2 b) (by intro _ _ _; eq_refl) ?_
      rw [show (fx_cb .eq 1 0) = false from by decide]
      dsimp only [cond]
      refine fe_s 3 (pc' := 31) (lc' := [(0, .ref 0), (1, .int (nI Ww1)), (2, .int c)]) (stk' := [.int ye2, .ref 0]) (mem' := fm (upd g 25 ye2) tp bt pe2 b) (by intro _ _ _; eq_refl) ?_
      refine fe_ivV (fr_gives (x := ye2)) (by omega) (by rfl) (by rfl) (by rfl) (by rfl) (by rfl) (by rfl) ?_
      refine fe_s 1 (pc' := 43) (lc' := [(0, .ref 0), (1, .int (nI Ww1)), (2, .int c)]) (stk' := [.int ye2]) (mem' := fm (upd (upd g 25 ye2) 2 0) tp bt pe2 b) (by intro _ _ _; eq_refl) ?_
      exact fe_ret ⟨_, _, _, _, _, _, fm_E_D hB hDe2 (by omega), (fm_G_2 (fm_G_f hG (Or.inl rfl)) (by decide) (by decide)), (fun _ _ _ => rfl), rfl⟩ (by rfl) (by rfl) (by rfl)
theorem fr_surestFar {w c : Int32} (hBa : fm_B a) (hgb : fm_gb g) : ∃ (v : Option Value) (mem' : fx_M), (fm_PO g tp bt a b) (v, mem') ∧ fr_T 10 316 [.ref 0, .int w, .int c] (fm g tp bt a b) v mem' := by
  have hG := fm_G_rf hgb
  have hB := hBa
  obtain ⟨NC, hNC, eNC⟩ := fm_B_0 hB (i := 0) (n := 10) (by decide) rfl
  obtain ⟨NW, hNW, eNW⟩ := fm_B_0 hB (i := 1) (n := 8) (by decide) rfl
  obtain ⟨NG, hNG, eNG⟩ := fm_B_0 hB (i := 3) (n := 20) (by decide) rfl
  obtain ⟨T, hT9, eT⟩ := fm_T5 hB
  have hD : fm_D a a T := fm_D_rf hB eT (by omega)
  refine fe_meth (F := fm_PO g tp bt a b) (M := gk_m316) (by rfl) (by rfl) ?_
  refine fe_s 3 (pc' := 3) (lc' := [(0, .ref 0), (1, .int w), (2, .int c)]) (stk' := [.int c, .int w, .ref 0]) (mem' := fm g tp bt a b) (by intro _ _ _; eq_refl) ?_
  obtain ⟨vw1, memw1, ⟨xw1, hxw1, hRw1⟩, hfrw1⟩ := fr_isAway (w := w) (c := c) (g := g) (tp := tp) (bt := bt) (b := b) (fm_D_t hB hD)
  cases hRw1
  refine fe_ivV hfrw1 (by omega) (by rfl) (by rfl) (by rfl) (by rfl) (by rfl) (by rfl) ?_
  rcases hxw1 with rfl | ⟨rfl, Ww1, hWw1, rfl⟩
  · refine fe_s 1 (pc' := cond (fx_cb .ne 0 0) 17 9) (lc' := [(0, .ref 0), (1, .int w), (2, .int c)]) (stk' := []) (mem' := fm g tp bt a b) (by intro _ _ _; eq_refl) ?_
    rw [show (fx_cb .ne 0 0) = false from by decide]
    dsimp only [cond]
    refine fe_s 2 (pc' := 11) (lc' := [(0, .ref 0), (1, .int w), (2, .int c)]) (stk' := [.int 1, .ref 0]) (mem' := fm g tp bt a b) (by intro _ _ _; eq_refl) ?_
    refine fe_ivV (fr_refuse (x := 1)) (by omega) (by rfl) (by rfl) (by rfl) (by rfl) (by rfl) (by rfl) ?_
    refine fe_s 1 (pc' := 49) (lc' := [(0, .ref 0), (1, .int w), (2, .int c)]) (stk' := [.int (-1)]) (mem' := fm (upd g 2 1) tp bt a b) (by intro _ _ _; eq_refl) ?_
    exact fe_ret ⟨_, _, _, _, _, _, (fm_E_rf hBa), (fm_G_2 hG (by decide) (by decide)), (fun _ _ _ => rfl), rfl⟩ (by rfl) (by rfl) (by rfl)
  · refine fe_s 1 (pc' := cond (fx_cb .ne 1 0) 17 9) (lc' := [(0, .ref 0), (1, .int (nI Ww1)), (2, .int c)]) (stk' := []) (mem' := fm g tp bt a b) (by intro _ _ _; eq_refl) ?_
    rw [show (fx_cb .ne 1 0) = true from by decide]
    dsimp only [cond]
    refine fe_s 3 (pc' := 20) (lc' := [(0, .ref 0), (1, .int (nI Ww1)), (2, .int c)]) (stk' := [.int c, .int (nI Ww1), .ref 0]) (mem' := fm g tp bt a b) (by intro _ _ _; eq_refl) ?_
    obtain ⟨ve2, meme2, ⟨xe2, ye2, pe2, hxe2, hpe2, hRe2⟩, hfre2⟩ := fr_laysSurest (g := g) (tp := tp) (bt := bt) (b := b) (W := Ww1) (to := c) (fm_D_t hB hD) (by omega)
    cases hRe2
    have hDe2 := fm_D_ok9 hD hpe2
    refine fe_ivV hfre2 (by omega) (by rfl) (by rfl) (by rfl) (by rfl) (by rfl) (by rfl) ?_
    rcases hxe2 with rfl | rfl
    · refine fe_s 1 (pc' := cond (fx_cb .eq 0 0) 43 26) (lc' := [(0, .ref 0), (1, .int (nI Ww1)), (2, .int c)]) (stk' := []) (mem' := fm (upd g 25 ye2) tp bt pe2 b) (by intro _ _ _; eq_refl) ?_
      rw [show (fx_cb .eq 0 0) = true from by decide]
      dsimp only [cond]
      refine fe_s 2 (pc' := 46) (lc' := [(0, .ref 0), (1, .int (nI Ww1)), (2, .int c)]) (stk' := [.int 6, .ref 0]) (mem' := fm (upd g 25 ye2) tp bt pe2 b) (by intro _ _ _; eq_refl) ?_
      refine fe_ivV (fr_refuse (x := 6)) (by omega) (by rfl) (by rfl) (by rfl) (by rfl) (by rfl) (by rfl) ?_
      exact fe_ret ⟨_, _, _, _, _, _, fm_E_D hB hDe2 (by omega), (fm_G_2 (fm_G_f hG (Or.inl rfl)) (by decide) (by decide)), (fun _ _ _ => rfl), rfl⟩ (by rfl) (by rfl) (by rfl)
    · refine fe_s 1 (pc' := cond (fx_cb .eq 1 0) 43 26) (lc' := [(0, .ref 0), (1, .int (nI Ww1)), (2, .int c)]) (stk' := []) (mem' := fm (upd g 25 ye2) tp bt pe2 b) (by intro _ _ _; eq_refl) ?_
      rw [show (fx_cb .eq 1 0) = false from by decide]
      dsimp only [cond]
      refine fe_s 5 (pc' := 33) (lc' := [(0, .ref 0), (1, .int (nI Ww1)), (2, .int c)]) (stk' := [.int (nI Ww1), .ref 0, .ref 9, .ref 0]) (mem' := fm (upd g 25 ye2) tp bt pe2 b) (by intro _ _ _; eq_refl) ?_
      refine fe_ivV (fr_whereOf (W := Ww1) (g := (upd g 25 ye2)) (tp := tp) (bt := bt) (a := pe2) (b := b) (by omega)) (by omega) (by rfl) (by rfl) (by rfl) (by rfl) (by rfl) (by rfl) ?_
      obtain ⟨l3, hl3, el3⟩ := fm_D_w1 hDe2 (W := Ww1) (by omega)
      rw [el3]
      refine fe_ldI (by rfl) (by rfl) (fx_inN (i := l3) (by omega) (by omega)) ?_
      rw [show Int32.toNatClampNeg (nI l3) = l3 from nI_clamp (by omega)]
      refine fe_ivV (fr_gives (x := pe2 9 l3)) (by omega) (by rfl) (by rfl) (by rfl) (by rfl) (by rfl) (by rfl) ?_
      refine fe_s 1 (pc' := 49) (lc' := [(0, .ref 0), (1, .int (nI Ww1)), (2, .int c)]) (stk' := [.int (pe2 9 l3)]) (mem' := fm (upd (upd g 25 ye2) 2 0) tp bt pe2 b) (by intro _ _ _; eq_refl) ?_
      exact fe_ret ⟨_, _, _, _, _, _, fm_E_D hB hDe2 (by omega), (fm_G_2 (fm_G_f hG (Or.inl rfl)) (by decide) (by decide)), (fun _ _ _ => rfl), rfl⟩ (by rfl) (by rfl) (by rfl)
theorem fr_reach {w : Int32} (hBa : fm_B a) (hgb : fm_gb g) : ∃ (v : Option Value) (mem' : fx_M), (fm_PO g tp bt a b) (v, mem') ∧ fr_T 9 318 [.ref 0, .int w] (fm g tp bt a b) v mem' := by
  have hG := fm_G_rf hgb
  have hB := hBa
  obtain ⟨NC, hNC, eNC⟩ := fm_B_0 hB (i := 0) (n := 10) (by decide) rfl
  obtain ⟨NW, hNW, eNW⟩ := fm_B_0 hB (i := 1) (n := 8) (by decide) rfl
  obtain ⟨NG, hNG, eNG⟩ := fm_B_0 hB (i := 3) (n := 20) (by decide) rfl
  obtain ⟨T, hT9, eT⟩ := fm_T5 hB
  have hD : fm_D a a T := fm_D_rf hB eT (by omega)
  refine fe_meth (F := fm_PO g tp bt a b) (M := gk_m318) (by rfl) (by rfl) ?_
  refine fe_s 2 (pc' := 2) (lc' := [(0, .ref 0), (1, .int w)]) (stk' := [.int w, .ref 0]) (mem' := fm g tp bt a b) (by intro _ _ _; eq_refl) ?_
  obtain ⟨vw1, memw1, ⟨xw1, hxw1, hRw1⟩, hfrw1⟩ := fr_isWalker (w := w) (g := g) (tp := tp) (bt := bt) (b := b) (fm_D_t hB hD)
  cases hRw1
  refine fe_ivV hfrw1 (by omega) (by rfl) (by rfl) (by rfl) (by rfl) (by rfl) (by rfl) ?_
  rcases hxw1 with rfl | ⟨rfl, Ww1, hWw1, rfl⟩
  · refine fe_s 1 (pc' := cond (fx_cb .ne 0 0) 14 8) (lc' := [(0, .ref 0), (1, .int w)]) (stk' := []) (mem' := fm g tp bt a b) (by intro _ _ _; eq_refl) ?_
    rw [show (fx_cb .ne 0 0) = false from by decide]
    dsimp only [cond]
    refine fe_s 2 (pc' := 10) (lc' := [(0, .ref 0), (1, .int w)]) (stk' := [.int 1, .ref 0]) (mem' := fm g tp bt a b) (by intro _ _ _; eq_refl) ?_
    refine fe_ivV (fr_refuse (x := 1)) (by omega) (by rfl) (by rfl) (by rfl) (by rfl) (by rfl) (by rfl) ?_
    exact fe_ret ⟨_, _, _, _, _, _, (fm_E_rf hBa), (fm_G_2 hG (by decide) (by decide)), (fun _ _ _ => rfl), rfl⟩ (by rfl) (by rfl) (by rfl)
  · refine fe_s 1 (pc' := cond (fx_cb .ne 1 0) 14 8) (lc' := [(0, .ref 0), (1, .int (nI Ww1))]) (stk' := []) (mem' := fm g tp bt a b) (by intro _ _ _; eq_refl) ?_
    rw [show (fx_cb .ne 1 0) = true from by decide]
    dsimp only [cond]
    refine fe_s 2 (pc' := 16) (lc' := [(0, .ref 0), (1, .int (nI Ww1))]) (stk' := [.int (nI Ww1), .ref 0]) (mem' := fm g tp bt a b) (by intro _ _ _; eq_refl) ?_
    obtain ⟨v2, hv2⟩ := fq_bearers (W := Ww1) (g := g) (tp := tp) (bt := bt) (a := a) (b := b) (fm_D_t hB hD) (by omega)
    refine fe_ivV hv2 (by omega) (by rfl) (by rfl) (by rfl) (by rfl) (by rfl) (by rfl) ?_
    refine fe_s 5 (pc' := 25) (lc' := [(4, .int 0), (3, .int 0), (2, .int v2), (0, .ref 0), (1, .int (nI Ww1))]) (stk' := []) (mem' := fm g tp bt a b) (by intro _ _ _; eq_refl) ?_
    have loop3 : ∀ (r i3 : Nat), i3 + r = NC → ∀ (x3_3 : Int32), ∀ a_3 : Nat → Nat → Int32, fm_D a a_3 T → fe_R 8 gk_m318 25 [(4, .int (nI i3)), (3, .int x3_3), (2, .int v2), (0, .ref 0), (1, .int (nI Ww1))] [] (fm g tp bt a_3 b) (fm_PO g tp bt a b) := by
      intro r
      induction r with
      | zero =>
        intro i3 hi3 x3_3 a_3 hD_3
        obtain rfl : NC = i3 := by omega
        refine fe_s 4 (pc' := 32) (lc' := [(4, .int (nI NC)), (3, .int x3_3), (2, .int v2), (0, .ref 0), (1, .int (nI Ww1))]) (stk' := [.int 0, .ref 1, .int (nI NC)]) (mem' := fm g tp bt a_3 b) (by intro _ _ _; eq_refl) ?_
        refine fe_ldI (by rfl) (by rfl) (fx_inN (i := 0) (by omega) (by omega)) ?_
        rw [show Int32.toNatClampNeg (0) = 0 from rfl]
        rw [show a_3 1 0 = nI NC from (fm_D_h hD_3 (by decide) rfl).trans eNC]
        refine fe_s 1 (pc' := cond (fx_cb .ge (nI NC) (nI NC)) 67 36) (lc' := [(4, .int (nI NC)), (3, .int x3_3), (2, .int v2), (0, .ref 0), (1, .int (nI Ww1))]) (stk' := []) (mem' := fm g tp bt a_3 b) (by intro _ _ _; eq_refl) ?_
        rw [show (fx_cb .ge (nI NC) (nI NC)) = true from cb_geT (a := NC) (b := NC) (by omega) (by omega) (by omega)]
        dsimp only [cond]
        refine fe_s 2 (pc' := 69) (lc' := [(4, .int (nI NC)), (3, .int x3_3), (2, .int v2), (0, .ref 0), (1, .int (nI Ww1))]) (stk' := [.int x3_3, .ref 0]) (mem' := fm g tp bt a_3 b) (by intro _ _ _; eq_refl) ?_
        refine fe_ivV (fr_gives (x := x3_3)) (by omega) (by rfl) (by rfl) (by rfl) (by rfl) (by rfl) (by rfl) ?_
        exact fe_ret ⟨_, _, _, _, _, _, fm_E_D hB hD_3 (by omega), (fm_G_2 hG (by decide) (by decide)), (fun _ _ _ => rfl), rfl⟩ (by rfl) (by rfl) (by rfl)
      | succ r ih3 =>
        intro i3 hi3 x3_3 a_3 hD_3
        have hl3 : i3 < NC := by omega
        refine fe_s 4 (pc' := 32) (lc' := [(4, .int (nI i3)), (3, .int x3_3), (2, .int v2), (0, .ref 0), (1, .int (nI Ww1))]) (stk' := [.int 0, .ref 1, .int (nI i3)]) (mem' := fm g tp bt a_3 b) (by intro _ _ _; eq_refl) ?_
        refine fe_ldI (by rfl) (by rfl) (fx_inN (i := 0) (by omega) (by omega)) ?_
        rw [show Int32.toNatClampNeg (0) = 0 from rfl]
        rw [show a_3 1 0 = nI NC from (fm_D_h hD_3 (by decide) rfl).trans eNC]
        refine fe_s 1 (pc' := cond (fx_cb .ge (nI i3) (nI NC)) 67 36) (lc' := [(4, .int (nI i3)), (3, .int x3_3), (2, .int v2), (0, .ref 0), (1, .int (nI Ww1))]) (stk' := []) (mem' := fm g tp bt a_3 b) (by intro _ _ _; eq_refl) ?_
        rw [show (fx_cb .ge (nI i3) (nI NC)) = false from cb_geF (a := i3) (b := NC) (by omega) (by omega) (by omega)]
        dsimp only [cond]
        refine fe_s 5 (pc' := 42) (lc' := [(4, .int (nI i3)), (3, .int x3_3), (2, .int v2), (0, .ref 0), (1, .int (nI Ww1))]) (stk' := [.int v2, .int (nI i3), .int (nI Ww1), .ref 0, .int x3_3]) (mem' := fm g tp bt a_3 b) (by intro _ _ _; eq_refl) ?_
        obtain ⟨Xy4, hXy4, eXy4⟩ := fm_D_w1 hD_3 (W := Ww1) (by omega)
        obtain ⟨vy4, memy4, ⟨py4, hpy4, hRy4⟩, hfry4⟩ := fr_laysFar (g := g) (tp := tp) (bt := bt) (b := b) (to := nI i3) (bby := v2) (W := Ww1) (by omega) eXy4 hXy4 ((fm_D_h hD_3 (by decide) rfl).trans eNC) hNC
        cases hRy4
        have hDy4 := fm_D_ok9 hD_3 hpy4
        refine fe_ivV hfry4 (by omega) (by rfl) (by rfl) (by rfl) (by rfl) (by rfl) (by rfl) ?_
        rcases hpy4.2 Xy4 hXy4 with ey4 | ⟨ny4, hny4, ey4, -⟩
        · rw [ey4]
          refine fe_s 1 (pc' := 48) (lc' := [(4, .int (nI i3)), (3, .int x3_3), (2, .int v2), (0, .ref 0), (1, .int (nI Ww1))]) (stk' := [.int 1000000, .int 1000000, .int x3_3]) (mem' := fm g tp bt py4 b) (by intro _ _ _; eq_refl) ?_
          refine fe_s 1 (pc' := cond (fx_cb .ge 1000000 1000000) 58 51) (lc' := [(4, .int (nI i3)), (3, .int x3_3), (2, .int v2), (0, .ref 0), (1, .int (nI Ww1))]) (stk' := [.int x3_3]) (mem' := fm g tp bt py4 b) (by intro _ _ _; eq_refl) ?_
          rw [show (fx_cb .ge 1000000 1000000) = true from by decide]
          dsimp only [cond]
          refine fe_s 5 (pc' := 25) (lc' := [(4, .int ((nI i3) + 1)), (3, .int (x3_3 ||| 0)), (2, .int v2), (0, .ref 0), (1, .int (nI Ww1))]) (stk' := []) (mem' := fm g tp bt py4 b) (by intro _ _ _; eq_refl) ?_
          rw [show ((nI i3) + 1 : Int32) = nI (i3 + 1) from by simp only [show (1 : Int32) = nI 1 from rfl, nI_add, fm_mul]]
          exact ih3 (i3 + 1) (by omega) _ py4 hDy4
        · rw [ey4]
          refine fe_s 1 (pc' := 48) (lc' := [(4, .int (nI i3)), (3, .int x3_3), (2, .int v2), (0, .ref 0), (1, .int (nI Ww1))]) (stk' := [.int 1000000, .int (nI ny4), .int x3_3]) (mem' := fm g tp bt py4 b) (by intro _ _ _; eq_refl) ?_
          refine fe_s 1 (pc' := cond (fx_cb .ge (nI ny4) 1000000) 58 51) (lc' := [(4, .int (nI i3)), (3, .int x3_3), (2, .int v2), (0, .ref 0), (1, .int (nI Ww1))]) (stk' := [.int x3_3]) (mem' := fm g tp bt py4 b) (by intro _ _ _; eq_refl) ?_
          rw [show (fx_cb .ge (nI ny4) 1000000) = false from cb_geF (a := ny4) (b := 1000000) (by omega) (by omega) (by omega)]
          dsimp only [cond]
          refine fe_s 8 (pc' := 25) (lc' := [(4, .int ((nI i3) + 1)), (3, .int (x3_3 ||| ((1 : Int32) <<< ((nI i3) &&& 31)))), (2, .int v2), (0, .ref 0), (1, .int (nI Ww1))]) (stk' := []) (mem' := fm g tp bt py4 b) (by intro _ _ _; eq_refl) ?_
          rw [show ((nI i3) + 1 : Int32) = nI (i3 + 1) from by simp only [show (1 : Int32) = nI 1 from rfl, nI_add, fm_mul]]
          exact ih3 (i3 + 1) (by omega) _ py4 hDy4
    exact loop3 (NC) 0 (by omega) _ a hD
theorem fr_cutOf {T : Nat} {W : Nat} {to : Int32} (hB : fm_B a0) (hD : fm_D a0 a T) (hW : W < 8) : ∃ (v : Option Value) (mem' : fx_M), (fun R => ∃ (v : Int32) (a' : Nat → Nat → Int32), fm_D a0 a' T ∧ R = (some (.int v), fm g tp bt a' b)) (v, mem') ∧ fr_T 9 319 [.ref 0, .int (nI W), .int to] (fm g tp bt a b) v mem' := by
  obtain ⟨NC, hNC, eNC⟩ := fm_B_0 hB (i := 0) (n := 10) (by decide) rfl
  obtain ⟨NW, hNW, eNW⟩ := fm_B_0 hB (i := 1) (n := 8) (by decide) rfl
  obtain ⟨P, hP, eP⟩ := fm_shlP NC hNC
  have hT9 := hD.2.2.2.2.1
  refine fe_meth (F := fun R => ∃ (v : Int32) (a' : Nat → Nat → Int32), fm_D a0 a' T ∧ R = (some (.int v), fm g tp bt a' b)) (M := gk_m319) (by rfl) (by rfl) ?_
  refine fe_s 2 (pc' := 2) (lc' := [(0, .ref 0), (1, .int (nI W)), (2, .int to)]) (stk' := [.int (nI W), .ref 0]) (mem' := fm g tp bt a b) (by intro _ _ _; eq_refl) ?_
  obtain ⟨v1, hv1⟩ := fq_bearers (W := W) (g := g) (tp := tp) (bt := bt) (a := a) (b := b) (fm_D_t hB hD) (by omega)
  refine fe_ivV hv1 (by omega) (by rfl) (by rfl) (by rfl) (by rfl) (by rfl) (by rfl) ?_
  refine fe_s 4 (pc' := 9) (lc' := [(3, .int v1), (0, .ref 0), (1, .int (nI W)), (2, .int to)]) (stk' := [.int 0, .ref 0, .int v1]) (mem' := fm g tp bt a b) (by intro _ _ _; eq_refl) ?_
  obtain ⟨vd2, memd2, ⟨xd2, ad2, hDd2, hRd2⟩, hfrd2⟩ := fr_setOf0 (g := g) (tp := tp) (bt := bt) (a := a) (b := b) hB hD
  cases hRd2
  refine fe_ivV hfrd2 (by omega) (by rfl) (by rfl) (by rfl) (by rfl) (by rfl) (by rfl) ?_
  refine fe_s 12 (pc' := 24) (lc' := [(3, .int v1), (0, .ref 0), (1, .int (nI W)), (2, .int to)]) (stk' := [.int (nI W), .ref 0, .int 1, .int ((v1 &&& (xd2 ^^^ (-1))) &&& (((1 : Int32) <<< (to &&& 31)) ^^^ (-1)))]) (mem' := fm g tp bt ad2 b) (by intro _ _ _; eq_refl) ?_
  refine fe_ivV (fr_whereOf (W := W) (g := g) (tp := tp) (bt := bt) (a := ad2) (b := b) (by omega)) (by omega) (by rfl) (by rfl) (by rfl) (by rfl) (by rfl) (by rfl) ?_
  obtain ⟨l3, hl3, el3⟩ := fm_D_w1 hDd2 (W := W) (by omega)
  rw [el3]
  refine fe_s 9 (pc' := 39) (lc' := [(6, .int 0), (5, .int (-1)), (4, .int (((v1 &&& (xd2 ^^^ (-1))) &&& (((1 : Int32) <<< (to &&& 31)) ^^^ (-1))) &&& (((1 : Int32) <<< ((nI l3) &&& 31)) ^^^ (-1)))), (3, .int v1), (0, .ref 0), (1, .int (nI W)), (2, .int to)]) (stk' := []) (mem' := fm g tp bt ad2 b) (by intro _ _ _; eq_refl) ?_
  have loop4 : ∀ (r i4 : Nat), i4 + r = P → ∀ (x5_4 : Int32), ∀ a_4 : Nat → Nat → Int32, fm_D a0 a_4 T → fe_R 8 gk_m319 39 [(6, .int (nI i4)), (5, .int x5_4), (4, .int (((v1 &&& (xd2 ^^^ (-1))) &&& (((1 : Int32) <<< (to &&& 31)) ^^^ (-1))) &&& (((1 : Int32) <<< ((nI l3) &&& 31)) ^^^ (-1)))), (3, .int v1), (0, .ref 0), (1, .int (nI W)), (2, .int to)] [] (fm g tp bt a_4 b) (fun R => ∃ (v : Int32) (a' : Nat → Nat → Int32), fm_D a0 a' T ∧ R = (some (.int v), fm g tp bt a' b)) := by
    intro r
    induction r with
    | zero =>
      intro i4 hi4 x5_4 a_4 hD_4
      obtain rfl : P = i4 := by omega
      refine fe_s 5 (pc' := 47) (lc' := [(6, .int (nI P)), (5, .int x5_4), (4, .int (((v1 &&& (xd2 ^^^ (-1))) &&& (((1 : Int32) <<< (to &&& 31)) ^^^ (-1))) &&& (((1 : Int32) <<< ((nI l3) &&& 31)) ^^^ (-1)))), (3, .int v1), (0, .ref 0), (1, .int (nI W)), (2, .int to)]) (stk' := [.int 0, .ref 1, .int 1, .int (nI P)]) (mem' := fm g tp bt a_4 b) (by intro _ _ _; eq_refl) ?_
      refine fe_ldI (by rfl) (by rfl) (fx_inN (i := 0) (by omega) (by omega)) ?_
      rw [show Int32.toNatClampNeg (0) = 0 from rfl]
      rw [show a_4 1 0 = nI NC from (fm_D_h hD_4 (by decide) rfl).trans eNC]
      refine fe_s 1 (pc' := 49) (lc' := [(6, .int (nI P)), (5, .int x5_4), (4, .int (((v1 &&& (xd2 ^^^ (-1))) &&& (((1 : Int32) <<< (to &&& 31)) ^^^ (-1))) &&& (((1 : Int32) <<< ((nI l3) &&& 31)) ^^^ (-1)))), (3, .int v1), (0, .ref 0), (1, .int (nI W)), (2, .int to)]) (stk' := [.int ((1 : Int32) <<< (nI NC &&& 31)), .int (nI P)]) (mem' := fm g tp bt a_4 b) (by intro _ _ _; eq_refl) ?_
      rw [show ((1 : Int32) <<< (nI NC &&& 31) : Int32) = nI P from by simp only [eP, nI_add, fm_mul]]
      refine fe_s 1 (pc' := cond (fx_cb .ge (nI P) (nI P)) 109 52) (lc' := [(6, .int (nI P)), (5, .int x5_4), (4, .int (((v1 &&& (xd2 ^^^ (-1))) &&& (((1 : Int32) <<< (to &&& 31)) ^^^ (-1))) &&& (((1 : Int32) <<< ((nI l3) &&& 31)) ^^^ (-1)))), (3, .int v1), (0, .ref 0), (1, .int (nI W)), (2, .int to)]) (stk' := []) (mem' := fm g tp bt a_4 b) (by intro _ _ _; eq_refl) ?_
      rw [show (fx_cb .ge (nI P) (nI P)) = true from cb_geT (a := P) (b := P) (by omega) (by omega) (by omega)]
      dsimp only [cond]
      refine fe_s 1 (pc' := 111) (lc' := [(6, .int (nI P)), (5, .int x5_4), (4, .int (((v1 &&& (xd2 ^^^ (-1))) &&& (((1 : Int32) <<< (to &&& 31)) ^^^ (-1))) &&& (((1 : Int32) <<< ((nI l3) &&& 31)) ^^^ (-1)))), (3, .int v1), (0, .ref 0), (1, .int (nI W)), (2, .int to)]) (stk' := [.int x5_4]) (mem' := fm g tp bt a_4 b) (by intro _ _ _; eq_refl) ?_
      exact fe_ret ⟨_, _, hD_4, rfl⟩ (by rfl) (by rfl) (by rfl)
    | succ r ih4 =>
      intro i4 hi4 x5_4 a_4 hD_4
      have hl4 : i4 < P := by omega
      refine fe_s 5 (pc' := 47) (lc' := [(6, .int (nI i4)), (5, .int x5_4), (4, .int (((v1 &&& (xd2 ^^^ (-1))) &&& (((1 : Int32) <<< (to &&& 31)) ^^^ (-1))) &&& (((1 : Int32) <<< ((nI l3) &&& 31)) ^^^ (-1)))), (3, .int v1), (0, .ref 0), (1, .int (nI W)), (2, .int to)]) (stk' := [.int 0, .ref 1, .int 1, .int (nI i4)]) (mem' := fm g tp bt a_4 b) (by intro _ _ _; eq_refl) ?_
      refine fe_ldI (by rfl) (by rfl) (fx_inN (i := 0) (by omega) (by omega)) ?_
      rw [show Int32.toNatClampNeg (0) = 0 from rfl]
      rw [show a_4 1 0 = nI NC from (fm_D_h hD_4 (by decide) rfl).trans eNC]
      refine fe_s 1 (pc' := 49) (lc' := [(6, .int (nI i4)), (5, .int x5_4), (4, .int (((v1 &&& (xd2 ^^^ (-1))) &&& (((1 : Int32) <<< (to &&& 31)) ^^^ (-1))) &&& (((1 : Int32) <<< ((nI l3) &&& 31)) ^^^ (-1)))), (3, .int v1), (0, .ref 0), (1, .int (nI W)), (2, .int to)]) (stk' := [.int ((1 : Int32) <<< (nI NC &&& 31)), .int (nI i4)]) (mem' := fm g tp bt a_4 b) (by intro _ _ _; eq_refl) ?_
      rw [show ((1 : Int32) <<< (nI NC &&& 31) : Int32) = nI P from by simp only [eP, nI_add, fm_mul]]
      refine fe_s 1 (pc' := cond (fx_cb .ge (nI i4) (nI P)) 109 52) (lc' := [(6, .int (nI i4)), (5, .int x5_4), (4, .int (((v1 &&& (xd2 ^^^ (-1))) &&& (((1 : Int32) <<< (to &&& 31)) ^^^ (-1))) &&& (((1 : Int32) <<< ((nI l3) &&& 31)) ^^^ (-1)))), (3, .int v1), (0, .ref 0), (1, .int (nI W)), (2, .int to)]) (stk' := []) (mem' := fm g tp bt a_4 b) (by intro _ _ _; eq_refl) ?_
      rw [show (fx_cb .ge (nI i4) (nI P)) = false from cb_geF (a := i4) (b := P) (by omega) (by omega) (by omega)]
      dsimp only [cond]
      refine fe_s 5 (pc' := 59) (lc' := [(6, .int (nI i4)), (5, .int x5_4), (4, .int (((v1 &&& (xd2 ^^^ (-1))) &&& (((1 : Int32) <<< (to &&& 31)) ^^^ (-1))) &&& (((1 : Int32) <<< ((nI l3) &&& 31)) ^^^ (-1)))), (3, .int v1), (0, .ref 0), (1, .int (nI W)), (2, .int to)]) (stk' := [.int ((nI i4) &&& ((((v1 &&& (xd2 ^^^ (-1))) &&& (((1 : Int32) <<< (to &&& 31)) ^^^ (-1))) &&& (((1 : Int32) <<< ((nI l3) &&& 31)) ^^^ (-1))) ^^^ (-1)))]) (mem' := fm g tp bt a_4 b) (by intro _ _ _; eq_refl) ?_
      refine fe_s 1 (pc' := cond (fx_cb .ne ((nI i4) &&& ((((v1 &&& (xd2 ^^^ (-1))) &&& (((1 : Int32) <<< (to &&& 31)) ^^^ (-1))) &&& (((1 : Int32) <<< ((nI l3) &&& 31)) ^^^ (-1))) ^^^ (-1))) 0) 103 62) (lc' := [(6, .int (nI i4)), (5, .int x5_4), (4, .int (((v1 &&& (xd2 ^^^ (-1))) &&& (((1 : Int32) <<< (to &&& 31)) ^^^ (-1))) &&& (((1 : Int32) <<< ((nI l3) &&& 31)) ^^^ (-1)))), (3, .int v1), (0, .ref 0), (1, .int (nI W)), (2, .int to)]) (stk' := []) (mem' := fm g tp bt a_4 b) (by intro _ _ _; eq_refl) ?_
      cases h5 : fx_cb .ne ((nI i4) &&& ((((v1 &&& (xd2 ^^^ (-1))) &&& (((1 : Int32) <<< (to &&& 31)) ^^^ (-1))) &&& (((1 : Int32) <<< ((nI l3) &&& 31)) ^^^ (-1))) ^^^ (-1))) 0
      · refine fe_s 2 (pc' := 65) (lc' := [(6, .int (nI i4)), (5, .int x5_4), (4, .int (((v1 &&& (xd2 ^^^ (-1))) &&& (((1 : Int32) <<< (to &&& 31)) ^^^ (-1))) &&& (((1 : Int32) <<< ((nI l3) &&& 31)) ^^^ (-1)))), (3, .int v1), (0, .ref 0), (1, .int (nI W)), (2, .int to)]) (stk' := [.int (-1), .int x5_4]) (mem' := fm g tp bt a_4 b) (by intro _ _ _; eq_refl) ?_
        refine fe_s 1 (pc' := cond (fx_cb .eq x5_4 (-1)) 81 68) (lc' := [(6, .int (nI i4)), (5, .int x5_4), (4, .int (((v1 &&& (xd2 ^^^ (-1))) &&& (((1 : Int32) <<< (to &&& 31)) ^^^ (-1))) &&& (((1 : Int32) <<< ((nI l3) &&& 31)) ^^^ (-1)))), (3, .int v1), (0, .ref 0), (1, .int (nI W)), (2, .int to)]) (stk' := []) (mem' := fm g tp bt a_4 b) (by intro _ _ _; eq_refl) ?_
        cases h6 : fx_cb .eq x5_4 (-1)
        · refine fe_s 1 (pc' := 70) (lc' := [(6, .int (nI i4)), (5, .int x5_4), (4, .int (((v1 &&& (xd2 ^^^ (-1))) &&& (((1 : Int32) <<< (to &&& 31)) ^^^ (-1))) &&& (((1 : Int32) <<< ((nI l3) &&& 31)) ^^^ (-1)))), (3, .int v1), (0, .ref 0), (1, .int (nI W)), (2, .int to)]) (stk' := [.int (nI i4)]) (mem' := fm g tp bt a_4 b) (by intro _ _ _; eq_refl) ?_
          obtain ⟨vb7, hfrb7⟩ := fr_bits (x := nI i4) (mem := fm g tp bt a_4 b)
          refine fe_ivS hfrb7 (by omega) (by rfl) (by rfl) (by rfl) (by rfl) (by rfl) ?_
          refine fe_s 1 (pc' := 75) (lc' := [(6, .int (nI i4)), (5, .int x5_4), (4, .int (((v1 &&& (xd2 ^^^ (-1))) &&& (((1 : Int32) <<< (to &&& 31)) ^^^ (-1))) &&& (((1 : Int32) <<< ((nI l3) &&& 31)) ^^^ (-1)))), (3, .int v1), (0, .ref 0), (1, .int (nI W)), (2, .int to)]) (stk' := [.int x5_4, .int vb7]) (mem' := fm g tp bt a_4 b) (by intro _ _ _; eq_refl) ?_
          obtain ⟨vb8, hfrb8⟩ := fr_bits (x := x5_4) (mem := fm g tp bt a_4 b)
          refine fe_ivS hfrb8 (by omega) (by rfl) (by rfl) (by rfl) (by rfl) (by rfl) ?_
          refine fe_s 1 (pc' := cond (fx_cb .ge vb7 vb8) 103 81) (lc' := [(6, .int (nI i4)), (5, .int x5_4), (4, .int (((v1 &&& (xd2 ^^^ (-1))) &&& (((1 : Int32) <<< (to &&& 31)) ^^^ (-1))) &&& (((1 : Int32) <<< ((nI l3) &&& 31)) ^^^ (-1)))), (3, .int v1), (0, .ref 0), (1, .int (nI W)), (2, .int to)]) (stk' := []) (mem' := fm g tp bt a_4 b) (by intro _ _ _; eq_refl) ?_
          cases h9 : fx_cb .ge vb7 vb8
          · refine fe_s 8 (pc' := 90) (lc' := [(6, .int (nI i4)), (5, .int x5_4), (4, .int (((v1 &&& (xd2 ^^^ (-1))) &&& (((1 : Int32) <<< (to &&& 31)) ^^^ (-1))) &&& (((1 : Int32) <<< ((nI l3) &&& 31)) ^^^ (-1)))), (3, .int v1), (0, .ref 0), (1, .int (nI W)), (2, .int to)]) (stk' := [.int (v1 &&& ((nI i4) ^^^ (-1))), .int to, .int (nI W), .ref 0]) (mem' := fm g tp bt a_4 b) (by intro _ _ _; eq_refl) ?_
            obtain ⟨Xy10, hXy10, eXy10⟩ := fm_D_w1 hD_4 (W := W) (by omega)
            obtain ⟨vy10, memy10, ⟨py10, hpy10, hRy10⟩, hfry10⟩ := fr_laysFar (g := g) (tp := tp) (bt := bt) (b := b) (to := to) (bby := v1 &&& ((nI i4) ^^^ (-1))) (W := W) (by omega) eXy10 hXy10 ((fm_D_h hD_4 (by decide) rfl).trans eNC) hNC
            cases hRy10
            have hDy10 := fm_D_ok9 hD_4 hpy10
            refine fe_ivV hfry10 (by omega) (by rfl) (by rfl) (by rfl) (by rfl) (by rfl) (by rfl) ?_
            rcases hpy10.2 Xy10 hXy10 with ey10 | ⟨ny10, hny10, ey10, -⟩
            · rw [ey10]
              refine fe_s 1 (pc' := 96) (lc' := [(6, .int (nI i4)), (5, .int x5_4), (4, .int (((v1 &&& (xd2 ^^^ (-1))) &&& (((1 : Int32) <<< (to &&& 31)) ^^^ (-1))) &&& (((1 : Int32) <<< ((nI l3) &&& 31)) ^^^ (-1)))), (3, .int v1), (0, .ref 0), (1, .int (nI W)), (2, .int to)]) (stk' := [.int 1000000, .int 1000000]) (mem' := fm g tp bt py10 b) (by intro _ _ _; eq_refl) ?_
              refine fe_s 1 (pc' := cond (fx_cb .ne 1000000 1000000) 103 99) (lc' := [(6, .int (nI i4)), (5, .int x5_4), (4, .int (((v1 &&& (xd2 ^^^ (-1))) &&& (((1 : Int32) <<< (to &&& 31)) ^^^ (-1))) &&& (((1 : Int32) <<< ((nI l3) &&& 31)) ^^^ (-1)))), (3, .int v1), (0, .ref 0), (1, .int (nI W)), (2, .int to)]) (stk' := []) (mem' := fm g tp bt py10 b) (by intro _ _ _; eq_refl) ?_
              rw [show (fx_cb .ne 1000000 1000000) = false from by decide]
              dsimp only [cond]
              refine fe_s 3 (pc' := 106) (lc' := [(6, .int ((nI i4) + 1)), (5, .int (nI i4)), (4, .int (((v1 &&& (xd2 ^^^ (-1))) &&& (((1 : Int32) <<< (to &&& 31)) ^^^ (-1))) &&& (((1 : Int32) <<< ((nI l3) &&& 31)) ^^^ (-1)))), (3, .int v1), (0, .ref 0), (1, .int (nI W)), (2, .int to)]) (stk' := []) (mem' := fm g tp bt py10 b) (by intro _ _ _; eq_refl) ?_
              rw [show ((nI i4) + 1 : Int32) = nI (i4 + 1) from by simp only [show (1 : Int32) = nI 1 from rfl, nI_add, fm_mul]]
              refine fe_s 1 (pc' := fx_to 106 (-67)) (lc' := [(6, .int (nI (i4 + 1))), (5, .int (nI i4)), (4, .int (((v1 &&& (xd2 ^^^ (-1))) &&& (((1 : Int32) <<< (to &&& 31)) ^^^ (-1))) &&& (((1 : Int32) <<< ((nI l3) &&& 31)) ^^^ (-1)))), (3, .int v1), (0, .ref 0), (1, .int (nI W)), (2, .int to)]) (stk' := []) (mem' := fm g tp bt py10 b) (by intro _ _ _; eq_refl) ?_
              rw [show fx_to 106 (-67) = 39 from by decide]
              exact ih4 (i4 + 1) (by omega) _ py10 hDy10
            · rw [ey10]
              refine fe_s 1 (pc' := 96) (lc' := [(6, .int (nI i4)), (5, .int x5_4), (4, .int (((v1 &&& (xd2 ^^^ (-1))) &&& (((1 : Int32) <<< (to &&& 31)) ^^^ (-1))) &&& (((1 : Int32) <<< ((nI l3) &&& 31)) ^^^ (-1)))), (3, .int v1), (0, .ref 0), (1, .int (nI W)), (2, .int to)]) (stk' := [.int 1000000, .int (nI ny10)]) (mem' := fm g tp bt py10 b) (by intro _ _ _; eq_refl) ?_
              refine fe_s 1 (pc' := cond (fx_cb .ne (nI ny10) 1000000) 103 99) (lc' := [(6, .int (nI i4)), (5, .int x5_4), (4, .int (((v1 &&& (xd2 ^^^ (-1))) &&& (((1 : Int32) <<< (to &&& 31)) ^^^ (-1))) &&& (((1 : Int32) <<< ((nI l3) &&& 31)) ^^^ (-1)))), (3, .int v1), (0, .ref 0), (1, .int (nI W)), (2, .int to)]) (stk' := []) (mem' := fm g tp bt py10 b) (by intro _ _ _; eq_refl) ?_
              rw [show (fx_cb .ne (nI ny10) 1000000) = true from cb_neT (a := ny10) (b := 1000000) (by omega) (by omega) (by omega)]
              dsimp only [cond]
              refine fe_s 1 (pc' := 106) (lc' := [(6, .int ((nI i4) + 1)), (5, .int x5_4), (4, .int (((v1 &&& (xd2 ^^^ (-1))) &&& (((1 : Int32) <<< (to &&& 31)) ^^^ (-1))) &&& (((1 : Int32) <<< ((nI l3) &&& 31)) ^^^ (-1)))), (3, .int v1), (0, .ref 0), (1, .int (nI W)), (2, .int to)]) (stk' := []) (mem' := fm g tp bt py10 b) (by intro _ _ _; eq_refl) ?_
              rw [show ((nI i4) + 1 : Int32) = nI (i4 + 1) from by simp only [show (1 : Int32) = nI 1 from rfl, nI_add, fm_mul]]
              refine fe_s 1 (pc' := fx_to 106 (-67)) (lc' := [(6, .int (nI (i4 + 1))), (5, .int x5_4), (4, .int (((v1 &&& (xd2 ^^^ (-1))) &&& (((1 : Int32) <<< (to &&& 31)) ^^^ (-1))) &&& (((1 : Int32) <<< ((nI l3) &&& 31)) ^^^ (-1)))), (3, .int v1), (0, .ref 0), (1, .int (nI W)), (2, .int to)]) (stk' := []) (mem' := fm g tp bt py10 b) (by intro _ _ _; eq_refl) ?_
              rw [show fx_to 106 (-67) = 39 from by decide]
              exact ih4 (i4 + 1) (by omega) _ py10 hDy10
          · refine fe_s 1 (pc' := 106) (lc' := [(6, .int ((nI i4) + 1)), (5, .int x5_4), (4, .int (((v1 &&& (xd2 ^^^ (-1))) &&& (((1 : Int32) <<< (to &&& 31)) ^^^ (-1))) &&& (((1 : Int32) <<< ((nI l3) &&& 31)) ^^^ (-1)))), (3, .int v1), (0, .ref 0), (1, .int (nI W)), (2, .int to)]) (stk' := []) (mem' := fm g tp bt a_4 b) (by intro _ _ _; eq_refl) ?_
            rw [show ((nI i4) + 1 : Int32) = nI (i4 + 1) from by simp only [show (1 : Int32) = nI 1 from rfl, nI_add, fm_mul]]
            refine fe_s 1 (pc' := fx_to 106 (-67)) (lc' := [(6, .int (nI (i4 + 1))), (5, .int x5_4), (4, .int (((v1 &&& (xd2 ^^^ (-1))) &&& (((1 : Int32) <<< (to &&& 31)) ^^^ (-1))) &&& (((1 : Int32) <<< ((nI l3) &&& 31)) ^^^ (-1)))), (3, .int v1), (0, .ref 0), (1, .int (nI W)), (2, .int to)]) (stk' := []) (mem' := fm g tp bt a_4 b) (by intro _ _ _; eq_refl) ?_
            rw [show fx_to 106 (-67) = 39 from by decide]
            exact ih4 (i4 + 1) (by omega) _ a_4 hD_4
        · refine fe_s 8 (pc' := 90) (lc' := [(6, .int (nI i4)), (5, .int x5_4), (4, .int (((v1 &&& (xd2 ^^^ (-1))) &&& (((1 : Int32) <<< (to &&& 31)) ^^^ (-1))) &&& (((1 : Int32) <<< ((nI l3) &&& 31)) ^^^ (-1)))), (3, .int v1), (0, .ref 0), (1, .int (nI W)), (2, .int to)]) (stk' := [.int (v1 &&& ((nI i4) ^^^ (-1))), .int to, .int (nI W), .ref 0]) (mem' := fm g tp bt a_4 b) (by intro _ _ _; eq_refl) ?_
          obtain ⟨Xy11, hXy11, eXy11⟩ := fm_D_w1 hD_4 (W := W) (by omega)
          obtain ⟨vy11, memy11, ⟨py11, hpy11, hRy11⟩, hfry11⟩ := fr_laysFar (g := g) (tp := tp) (bt := bt) (b := b) (to := to) (bby := v1 &&& ((nI i4) ^^^ (-1))) (W := W) (by omega) eXy11 hXy11 ((fm_D_h hD_4 (by decide) rfl).trans eNC) hNC
          cases hRy11
          have hDy11 := fm_D_ok9 hD_4 hpy11
          refine fe_ivV hfry11 (by omega) (by rfl) (by rfl) (by rfl) (by rfl) (by rfl) (by rfl) ?_
          rcases hpy11.2 Xy11 hXy11 with ey11 | ⟨ny11, hny11, ey11, -⟩
          · rw [ey11]
            refine fe_s 1 (pc' := 96) (lc' := [(6, .int (nI i4)), (5, .int x5_4), (4, .int (((v1 &&& (xd2 ^^^ (-1))) &&& (((1 : Int32) <<< (to &&& 31)) ^^^ (-1))) &&& (((1 : Int32) <<< ((nI l3) &&& 31)) ^^^ (-1)))), (3, .int v1), (0, .ref 0), (1, .int (nI W)), (2, .int to)]) (stk' := [.int 1000000, .int 1000000]) (mem' := fm g tp bt py11 b) (by intro _ _ _; eq_refl) ?_
            refine fe_s 1 (pc' := cond (fx_cb .ne 1000000 1000000) 103 99) (lc' := [(6, .int (nI i4)), (5, .int x5_4), (4, .int (((v1 &&& (xd2 ^^^ (-1))) &&& (((1 : Int32) <<< (to &&& 31)) ^^^ (-1))) &&& (((1 : Int32) <<< ((nI l3) &&& 31)) ^^^ (-1)))), (3, .int v1), (0, .ref 0), (1, .int (nI W)), (2, .int to)]) (stk' := []) (mem' := fm g tp bt py11 b) (by intro _ _ _; eq_refl) ?_
            rw [show (fx_cb .ne 1000000 1000000) = false from by decide]
            dsimp only [cond]
            refine fe_s 3 (pc' := 106) (lc' := [(6, .int ((nI i4) + 1)), (5, .int (nI i4)), (4, .int (((v1 &&& (xd2 ^^^ (-1))) &&& (((1 : Int32) <<< (to &&& 31)) ^^^ (-1))) &&& (((1 : Int32) <<< ((nI l3) &&& 31)) ^^^ (-1)))), (3, .int v1), (0, .ref 0), (1, .int (nI W)), (2, .int to)]) (stk' := []) (mem' := fm g tp bt py11 b) (by intro _ _ _; eq_refl) ?_
            rw [show ((nI i4) + 1 : Int32) = nI (i4 + 1) from by simp only [show (1 : Int32) = nI 1 from rfl, nI_add, fm_mul]]
            refine fe_s 1 (pc' := fx_to 106 (-67)) (lc' := [(6, .int (nI (i4 + 1))), (5, .int (nI i4)), (4, .int (((v1 &&& (xd2 ^^^ (-1))) &&& (((1 : Int32) <<< (to &&& 31)) ^^^ (-1))) &&& (((1 : Int32) <<< ((nI l3) &&& 31)) ^^^ (-1)))), (3, .int v1), (0, .ref 0), (1, .int (nI W)), (2, .int to)]) (stk' := []) (mem' := fm g tp bt py11 b) (by intro _ _ _; eq_refl) ?_
            rw [show fx_to 106 (-67) = 39 from by decide]
            exact ih4 (i4 + 1) (by omega) _ py11 hDy11
          · rw [ey11]
            refine fe_s 1 (pc' := 96) (lc' := [(6, .int (nI i4)), (5, .int x5_4), (4, .int (((v1 &&& (xd2 ^^^ (-1))) &&& (((1 : Int32) <<< (to &&& 31)) ^^^ (-1))) &&& (((1 : Int32) <<< ((nI l3) &&& 31)) ^^^ (-1)))), (3, .int v1), (0, .ref 0), (1, .int (nI W)), (2, .int to)]) (stk' := [.int 1000000, .int (nI ny11)]) (mem' := fm g tp bt py11 b) (by intro _ _ _; eq_refl) ?_
            refine fe_s 1 (pc' := cond (fx_cb .ne (nI ny11) 1000000) 103 99) (lc' := [(6, .int (nI i4)), (5, .int x5_4), (4, .int (((v1 &&& (xd2 ^^^ (-1))) &&& (((1 : Int32) <<< (to &&& 31)) ^^^ (-1))) &&& (((1 : Int32) <<< ((nI l3) &&& 31)) ^^^ (-1)))), (3, .int v1), (0, .ref 0), (1, .int (nI W)), (2, .int to)]) (stk' := []) (mem' := fm g tp bt py11 b) (by intro _ _ _; eq_refl) ?_
            rw [show (fx_cb .ne (nI ny11) 1000000) = true from cb_neT (a := ny11) (b := 1000000) (by omega) (by omega) (by omega)]
            dsimp only [cond]
            refine fe_s 1 (pc' := 106) (lc' := [(6, .int ((nI i4) + 1)), (5, .int x5_4), (4, .int (((v1 &&& (xd2 ^^^ (-1))) &&& (((1 : Int32) <<< (to &&& 31)) ^^^ (-1))) &&& (((1 : Int32) <<< ((nI l3) &&& 31)) ^^^ (-1)))), (3, .int v1), (0, .ref 0), (1, .int (nI W)), (2, .int to)]) (stk' := []) (mem' := fm g tp bt py11 b) (by intro _ _ _; eq_refl) ?_
            rw [show ((nI i4) + 1 : Int32) = nI (i4 + 1) from by simp only [show (1 : Int32) = nI 1 from rfl, nI_add, fm_mul]]
            refine fe_s 1 (pc' := fx_to 106 (-67)) (lc' := [(6, .int (nI (i4 + 1))), (5, .int x5_4), (4, .int (((v1 &&& (xd2 ^^^ (-1))) &&& (((1 : Int32) <<< (to &&& 31)) ^^^ (-1))) &&& (((1 : Int32) <<< ((nI l3) &&& 31)) ^^^ (-1)))), (3, .int v1), (0, .ref 0), (1, .int (nI W)), (2, .int to)]) (stk' := []) (mem' := fm g tp bt py11 b) (by intro _ _ _; eq_refl) ?_
            rw [show fx_to 106 (-67) = 39 from by decide]
            exact ih4 (i4 + 1) (by omega) _ py11 hDy11
      · refine fe_s 1 (pc' := 106) (lc' := [(6, .int ((nI i4) + 1)), (5, .int x5_4), (4, .int (((v1 &&& (xd2 ^^^ (-1))) &&& (((1 : Int32) <<< (to &&& 31)) ^^^ (-1))) &&& (((1 : Int32) <<< ((nI l3) &&& 31)) ^^^ (-1)))), (3, .int v1), (0, .ref 0), (1, .int (nI W)), (2, .int to)]) (stk' := []) (mem' := fm g tp bt a_4 b) (by intro _ _ _; eq_refl) ?_
        rw [show ((nI i4) + 1 : Int32) = nI (i4 + 1) from by simp only [show (1 : Int32) = nI 1 from rfl, nI_add, fm_mul]]
        refine fe_s 1 (pc' := fx_to 106 (-67)) (lc' := [(6, .int (nI (i4 + 1))), (5, .int x5_4), (4, .int (((v1 &&& (xd2 ^^^ (-1))) &&& (((1 : Int32) <<< (to &&& 31)) ^^^ (-1))) &&& (((1 : Int32) <<< ((nI l3) &&& 31)) ^^^ (-1)))), (3, .int v1), (0, .ref 0), (1, .int (nI W)), (2, .int to)]) (stk' := []) (mem' := fm g tp bt a_4 b) (by intro _ _ _; eq_refl) ?_
        rw [show fx_to 106 (-67) = 39 from by decide]
        exact ih4 (i4 + 1) (by omega) _ a_4 hD_4
  exact loop4 (P) 0 (by omega) _ ad2 hDd2
theorem fr_cut {w c : Int32} (hBa : fm_B a) (hgb : fm_gb g) : ∃ (v : Option Value) (mem' : fx_M), (fm_PO g tp bt a b) (v, mem') ∧ fr_T 10 320 [.ref 0, .int w, .int c] (fm g tp bt a b) v mem' := by
  have hG := fm_G_rf hgb
  have hB := hBa
  obtain ⟨NC, hNC, eNC⟩ := fm_B_0 hB (i := 0) (n := 10) (by decide) rfl
  obtain ⟨NW, hNW, eNW⟩ := fm_B_0 hB (i := 1) (n := 8) (by decide) rfl
  obtain ⟨NG, hNG, eNG⟩ := fm_B_0 hB (i := 3) (n := 20) (by decide) rfl
  obtain ⟨T, hT9, eT⟩ := fm_T5 hB
  have hD : fm_D a a T := fm_D_rf hB eT (by omega)
  refine fe_meth (F := fm_PO g tp bt a b) (M := gk_m320) (by rfl) (by rfl) ?_
  refine fe_s 3 (pc' := 3) (lc' := [(0, .ref 0), (1, .int w), (2, .int c)]) (stk' := [.int c, .int w, .ref 0]) (mem' := fm g tp bt a b) (by intro _ _ _; eq_refl) ?_
  obtain ⟨vw1, memw1, ⟨xw1, hxw1, hRw1⟩, hfrw1⟩ := fr_isAway (w := w) (c := c) (g := g) (tp := tp) (bt := bt) (b := b) (fm_D_t hB hD)
  cases hRw1
  refine fe_ivV hfrw1 (by omega) (by rfl) (by rfl) (by rfl) (by rfl) (by rfl) (by rfl) ?_
  rcases hxw1 with rfl | ⟨rfl, Ww1, hWw1, rfl⟩
  · refine fe_s 1 (pc' := cond (fx_cb .ne 0 0) 15 9) (lc' := [(0, .ref 0), (1, .int w), (2, .int c)]) (stk' := []) (mem' := fm g tp bt a b) (by intro _ _ _; eq_refl) ?_
    rw [show (fx_cb .ne 0 0) = false from by decide]
    dsimp only [cond]
    refine fe_s 2 (pc' := 11) (lc' := [(0, .ref 0), (1, .int w), (2, .int c)]) (stk' := [.int 1, .ref 0]) (mem' := fm g tp bt a b) (by intro _ _ _; eq_refl) ?_
    refine fe_ivV (fr_refuse (x := 1)) (by omega) (by rfl) (by rfl) (by rfl) (by rfl) (by rfl) (by rfl) ?_
    exact fe_ret ⟨_, _, _, _, _, _, (fm_E_rf hBa), (fm_G_2 hG (by decide) (by decide)), (fun _ _ _ => rfl), rfl⟩ (by rfl) (by rfl) (by rfl)
  · refine fe_s 1 (pc' := cond (fx_cb .ne 1 0) 15 9) (lc' := [(0, .ref 0), (1, .int (nI Ww1)), (2, .int c)]) (stk' := []) (mem' := fm g tp bt a b) (by intro _ _ _; eq_refl) ?_
    rw [show (fx_cb .ne 1 0) = true from by decide]
    dsimp only [cond]
    refine fe_s 3 (pc' := 18) (lc' := [(0, .ref 0), (1, .int (nI Ww1)), (2, .int c)]) (stk' := [.int c, .int (nI Ww1), .ref 0]) (mem' := fm g tp bt a b) (by intro _ _ _; eq_refl) ?_
    obtain ⟨vd2, memd2, ⟨xd2, ad2, hDd2, hRd2⟩, hfrd2⟩ := fr_cutOf (W := Ww1) (to := c) (g := g) (tp := tp) (bt := bt) (a := a) (b := b) hB hD (by omega)
    cases hRd2
    refine fe_ivV hfrd2 (by omega) (by rfl) (by rfl) (by rfl) (by rfl) (by rfl) (by rfl) ?_
    refine fe_s 3 (pc' := 24) (lc' := [(3, .int xd2), (0, .ref 0), (1, .int (nI Ww1)), (2, .int c)]) (stk' := [.int (-1), .int xd2]) (mem' := fm g tp bt ad2 b) (by intro _ _ _; eq_refl) ?_
    refine fe_s 1 (pc' := cond (fx_cb .ne xd2 (-1)) 36 27) (lc' := [(3, .int xd2), (0, .ref 0), (1, .int (nI Ww1)), (2, .int c)]) (stk' := []) (mem' := fm g tp bt ad2 b) (by intro _ _ _; eq_refl) ?_
    cases h3 : fx_cb .ne xd2 (-1)
    · refine fe_s 2 (pc' := 30) (lc' := [(3, .int xd2), (0, .ref 0), (1, .int (nI Ww1)), (2, .int c)]) (stk' := [.int 6, .ref 0]) (mem' := fm g tp bt ad2 b) (by intro _ _ _; eq_refl) ?_
      refine fe_ivV (fr_refuse (x := 6)) (by omega) (by rfl) (by rfl) (by rfl) (by rfl) (by rfl) (by rfl) ?_
      refine fe_s 1 (pc' := 44) (lc' := [(3, .int xd2), (0, .ref 0), (1, .int (nI Ww1)), (2, .int c)]) (stk' := [.int (-1)]) (mem' := fm (upd g 2 6) tp bt ad2 b) (by intro _ _ _; eq_refl) ?_
      exact fe_ret ⟨_, _, _, _, _, _, fm_E_D hB hDd2 (by omega), (fm_G_2 hG (by decide) (by decide)), (fun _ _ _ => rfl), rfl⟩ (by rfl) (by rfl) (by rfl)
    · refine fe_s 2 (pc' := 38) (lc' := [(3, .int xd2), (0, .ref 0), (1, .int (nI Ww1)), (2, .int c)]) (stk' := [.int xd2, .ref 0]) (mem' := fm g tp bt ad2 b) (by intro _ _ _; eq_refl) ?_
      obtain ⟨vb4, hfrb4⟩ := fr_bits (x := xd2) (mem := fm g tp bt ad2 b)
      refine fe_ivS hfrb4 (by omega) (by rfl) (by rfl) (by rfl) (by rfl) (by rfl) ?_
      refine fe_ivV (fr_gives (x := vb4)) (by omega) (by rfl) (by rfl) (by rfl) (by rfl) (by rfl) (by rfl) ?_
      exact fe_ret ⟨_, _, _, _, _, _, fm_E_D hB hDd2 (by omega), (fm_G_2 hG (by decide) (by decide)), (fun _ _ _ => rfl), rfl⟩ (by rfl) (by rfl) (by rfl)
theorem fr_cutSet {w c : Int32} (hBa : fm_B a) (hgb : fm_gb g) : ∃ (v : Option Value) (mem' : fx_M), (fm_PO g tp bt a b) (v, mem') ∧ fr_T 10 321 [.ref 0, .int w, .int c] (fm g tp bt a b) v mem' := by
  have hG := fm_G_rf hgb
  have hB := hBa
  obtain ⟨NC, hNC, eNC⟩ := fm_B_0 hB (i := 0) (n := 10) (by decide) rfl
  obtain ⟨NW, hNW, eNW⟩ := fm_B_0 hB (i := 1) (n := 8) (by decide) rfl
  obtain ⟨NG, hNG, eNG⟩ := fm_B_0 hB (i := 3) (n := 20) (by decide) rfl
  obtain ⟨T, hT9, eT⟩ := fm_T5 hB
  have hD : fm_D a a T := fm_D_rf hB eT (by omega)
  refine fe_meth (F := fm_PO g tp bt a b) (M := gk_m321) (by rfl) (by rfl) ?_
  refine fe_s 3 (pc' := 3) (lc' := [(0, .ref 0), (1, .int w), (2, .int c)]) (stk' := [.int c, .int w, .ref 0]) (mem' := fm g tp bt a b) (by intro _ _ _; eq_refl) ?_
  obtain ⟨vw1, memw1, ⟨xw1, hxw1, hRw1⟩, hfrw1⟩ := fr_isAway (w := w) (c := c) (g := g) (tp := tp) (bt := bt) (b := b) (fm_D_t hB hD)
  cases hRw1
  refine fe_ivV hfrw1 (by omega) (by rfl) (by rfl) (by rfl) (by rfl) (by rfl) (by rfl) ?_
  rcases hxw1 with rfl | ⟨rfl, Ww1, hWw1, rfl⟩
  · refine fe_s 1 (pc' := cond (fx_cb .eq 0 0) 22 9) (lc' := [(0, .ref 0), (1, .int w), (2, .int c)]) (stk' := []) (mem' := fm g tp bt a b) (by intro _ _ _; eq_refl) ?_
    rw [show (fx_cb .eq 0 0) = true from by decide]
    dsimp only [cond]
    refine fe_s 2 (pc' := 24) (lc' := [(0, .ref 0), (1, .int w), (2, .int c)]) (stk' := [.int 1, .ref 0]) (mem' := fm g tp bt a b) (by intro _ _ _; eq_refl) ?_
    refine fe_ivV (fr_refuse (x := 1)) (by omega) (by rfl) (by rfl) (by rfl) (by rfl) (by rfl) (by rfl) ?_
    exact fe_ret ⟨_, _, _, _, _, _, (fm_E_rf hBa), (fm_G_2 hG (by decide) (by decide)), (fun _ _ _ => rfl), rfl⟩ (by rfl) (by rfl) (by rfl)
  · refine fe_s 1 (pc' := cond (fx_cb .eq 1 0) 22 9) (lc' := [(0, .ref 0), (1, .int (nI Ww1)), (2, .int c)]) (stk' := []) (mem' := fm g tp bt a b) (by intro _ _ _; eq_refl) ?_
    rw [show (fx_cb .eq 1 0) = false from by decide]
    dsimp only [cond]
    refine fe_s 4 (pc' := 13) (lc' := [(0, .ref 0), (1, .int (nI Ww1)), (2, .int c)]) (stk' := [.int c, .int (nI Ww1), .ref 0, .ref 0]) (mem' := fm g tp bt a b) (by intro _ _ _; eq_refl) ?_
    obtain ⟨vd2, memd2, ⟨xd2, ad2, hDd2, hRd2⟩, hfrd2⟩ := fr_cutOf (W := Ww1) (to := c) (g := g) (tp := tp) (bt := bt) (a := a) (b := b) hB hD (by omega)
    cases hRd2
    refine fe_ivV hfrd2 (by omega) (by rfl) (by rfl) (by rfl) (by rfl) (by rfl) (by rfl) ?_
    obtain ⟨vo3, memo3, ⟨so3, hso3, hto3, hRo3⟩, hfro3⟩ := fr_orNone (x := xd2) (g := g) (tp := tp) (bt := bt) (a := ad2) (b := b)
    cases hRo3
    refine fe_ivV hfro3 (by omega) (by rfl) (by rfl) (by rfl) (by rfl) (by rfl) (by rfl) ?_
    refine fe_s 1 (pc' := 27) (lc' := [(0, .ref 0), (1, .int (nI Ww1)), (2, .int c)]) (stk' := [.int xd2]) (mem' := fm (upd g 2 so3) tp bt ad2 b) (by intro _ _ _; eq_refl) ?_
    exact fe_ret ⟨_, _, _, _, _, _, fm_E_D hB hDd2 (by omega), (fm_G_2 hG hso3 hto3), (fun _ _ _ => rfl), rfl⟩ (by rfl) (by rfl) (by rfl)
end FSE
end MH7_0
section MH7_1
/-! ===== fx: a WAY is hewn; MARKS ===== -/
section FHW
variable {g : Nat → Int32} {tp bt : Int64} {a0 a : Nat → Nat → Int32} {b : Nat → Nat → Int64}
theorem fr_isx0 : fr_T 1 206 [.ref 0, .int 0] (fm g tp bt a b) (some (.int 1)) (fm (upd g 2 0) tp bt a b) := by
  refine fr_meth (by rfl) (by rfl) ?_
  refine fr_s 4 (pc' := 6) (lc' := [(0, .ref 0), (1, .int 0)]) (stk' := [.int 0]) (mem' := fm (upd g 2 0) tp bt a b) (by intro _ _ _; eq_refl) ?_
  refine fr_s 1 (pc' := cond (fx_cb .ne 0 0) 13 9) (lc' := [(0, .ref 0), (1, .int 0)]) (stk' := []) (mem' := fm (upd g 2 0) tp bt a b) (by intro _ _ _; eq_refl) ?_
  rw [show (fx_cb .ne 0 0) = false from by decide]
  dsimp only [cond]
  refine fr_s 2 (pc' := 14) (lc' := [(0, .ref 0), (1, .int 0)]) (stk' := [.int 1]) (mem' := fm (upd g 2 0) tp bt a b) (by intro _ _ _; eq_refl) ?_
  exact fr_ret (by rfl) (by rfl) (by rfl)
theorem fr_isx1 : fr_T 1 206 [.ref 0, .int 1] (fm g tp bt a b) (some (.int 0)) (fm (upd g 2 1) tp bt a b) := by
  refine fr_meth (by rfl) (by rfl) ?_
  refine fr_s 4 (pc' := 6) (lc' := [(0, .ref 0), (1, .int 1)]) (stk' := [.int 1]) (mem' := fm (upd g 2 1) tp bt a b) (by intro _ _ _; eq_refl) ?_
  refine fr_s 1 (pc' := cond (fx_cb .ne 1 0) 13 9) (lc' := [(0, .ref 0), (1, .int 1)]) (stk' := []) (mem' := fm (upd g 2 1) tp bt a b) (by intro _ _ _; eq_refl) ?_
  rw [show (fx_cb .ne 1 0) = true from by decide]
  dsimp only [cond]
  refine fr_s 1 (pc' := 14) (lc' := [(0, .ref 0), (1, .int 1)]) (stk' := [.int 0]) (mem' := fm (upd g 2 1) tp bt a b) (by intro _ _ _; eq_refl) ?_
  exact fr_ret (by rfl) (by rfl) (by rfl)
theorem fr_isx2 : fr_T 1 206 [.ref 0, .int 2] (fm g tp bt a b) (some (.int 0)) (fm (upd g 2 2) tp bt a b) := by
  refine fr_meth (by rfl) (by rfl) ?_
  refine fr_s 4 (pc' := 6) (lc' := [(0, .ref 0), (1, .int 2)]) (stk' := [.int 2]) (mem' := fm (upd g 2 2) tp bt a b) (by intro _ _ _; eq_refl) ?_
  refine fr_s 1 (pc' := cond (fx_cb .ne 2 0) 13 9) (lc' := [(0, .ref 0), (1, .int 2)]) (stk' := []) (mem' := fm (upd g 2 2) tp bt a b) (by intro _ _ _; eq_refl) ?_
  rw [show (fx_cb .ne 2 0) = true from by decide]
  dsimp only [cond]
  refine fr_s 1 (pc' := 14) (lc' := [(0, .ref 0), (1, .int 2)]) (stk' := [.int 0]) (mem' := fm (upd g 2 2) tp bt a b) (by intro _ _ _; eq_refl) ?_
  exact fr_ret (by rfl) (by rfl) (by rfl)
theorem fr_isx3 : fr_T 1 206 [.ref 0, .int 3] (fm g tp bt a b) (some (.int 0)) (fm (upd g 2 3) tp bt a b) := by
  refine fr_meth (by rfl) (by rfl) ?_
  refine fr_s 4 (pc' := 6) (lc' := [(0, .ref 0), (1, .int 3)]) (stk' := [.int 3]) (mem' := fm (upd g 2 3) tp bt a b) (by intro _ _ _; eq_refl) ?_
  refine fr_s 1 (pc' := cond (fx_cb .ne 3 0) 13 9) (lc' := [(0, .ref 0), (1, .int 3)]) (stk' := []) (mem' := fm (upd g 2 3) tp bt a b) (by intro _ _ _; eq_refl) ?_
  rw [show (fx_cb .ne 3 0) = true from by decide]
  dsimp only [cond]
  refine fr_s 1 (pc' := 14) (lc' := [(0, .ref 0), (1, .int 3)]) (stk' := [.int 0]) (mem' := fm (upd g 2 3) tp bt a b) (by intro _ _ _; eq_refl) ?_
  exact fr_ret (by rfl) (by rfl) (by rfl)
theorem fr_isx4 : fr_T 1 206 [.ref 0, .int 4] (fm g tp bt a b) (some (.int 0)) (fm (upd g 2 4) tp bt a b) := by
  refine fr_meth (by rfl) (by rfl) ?_
  refine fr_s 4 (pc' := 6) (lc' := [(0, .ref 0), (1, .int 4)]) (stk' := [.int 4]) (mem' := fm (upd g 2 4) tp bt a b) (by intro _ _ _; eq_refl) ?_
  refine fr_s 1 (pc' := cond (fx_cb .ne 4 0) 13 9) (lc' := [(0, .ref 0), (1, .int 4)]) (stk' := []) (mem' := fm (upd g 2 4) tp bt a b) (by intro _ _ _; eq_refl) ?_
  rw [show (fx_cb .ne 4 0) = true from by decide]
  dsimp only [cond]
  refine fr_s 1 (pc' := 14) (lc' := [(0, .ref 0), (1, .int 4)]) (stk' := [.int 0]) (mem' := fm (upd g 2 4) tp bt a b) (by intro _ _ _; eq_refl) ?_
  exact fr_ret (by rfl) (by rfl) (by rfl)
theorem fr_isx5 : fr_T 1 206 [.ref 0, .int 5] (fm g tp bt a b) (some (.int 0)) (fm (upd g 2 5) tp bt a b) := by
  refine fr_meth (by rfl) (by rfl) ?_
  refine fr_s 4 (pc' := 6) (lc' := [(0, .ref 0), (1, .int 5)]) (stk' := [.int 5]) (mem' := fm (upd g 2 5) tp bt a b) (by intro _ _ _; eq_refl) ?_
  refine fr_s 1 (pc' := cond (fx_cb .ne 5 0) 13 9) (lc' := [(0, .ref 0), (1, .int 5)]) (stk' := []) (mem' := fm (upd g 2 5) tp bt a b) (by intro _ _ _; eq_refl) ?_
  rw [show (fx_cb .ne 5 0) = true from by decide]
  dsimp only [cond]
  refine fr_s 1 (pc' := 14) (lc' := [(0, .ref 0), (1, .int 5)]) (stk' := [.int 0]) (mem' := fm (upd g 2 5) tp bt a b) (by intro _ _ _; eq_refl) ?_
  exact fr_ret (by rfl) (by rfl) (by rfl)
theorem fr_isx6 : fr_T 1 206 [.ref 0, .int 6] (fm g tp bt a b) (some (.int 0)) (fm (upd g 2 6) tp bt a b) := by
  refine fr_meth (by rfl) (by rfl) ?_
  refine fr_s 4 (pc' := 6) (lc' := [(0, .ref 0), (1, .int 6)]) (stk' := [.int 6]) (mem' := fm (upd g 2 6) tp bt a b) (by intro _ _ _; eq_refl) ?_
  refine fr_s 1 (pc' := cond (fx_cb .ne 6 0) 13 9) (lc' := [(0, .ref 0), (1, .int 6)]) (stk' := []) (mem' := fm (upd g 2 6) tp bt a b) (by intro _ _ _; eq_refl) ?_
  rw [show (fx_cb .ne 6 0) = true from by decide]
  dsimp only [cond]
  refine fr_s 1 (pc' := 14) (lc' := [(0, .ref 0), (1, .int 6)]) (stk' := [.int 0]) (mem' := fm (upd g 2 6) tp bt a b) (by intro _ _ _; eq_refl) ?_
  exact fr_ret (by rfl) (by rfl) (by rfl)
theorem fr_isx7 : fr_T 1 206 [.ref 0, .int 7] (fm g tp bt a b) (some (.int 0)) (fm (upd g 2 7) tp bt a b) := by
  refine fr_meth (by rfl) (by rfl) ?_
  refine fr_s 4 (pc' := 6) (lc' := [(0, .ref 0), (1, .int 7)]) (stk' := [.int 7]) (mem' := fm (upd g 2 7) tp bt a b) (by intro _ _ _; eq_refl) ?_
  refine fr_s 1 (pc' := cond (fx_cb .ne 7 0) 13 9) (lc' := [(0, .ref 0), (1, .int 7)]) (stk' := []) (mem' := fm (upd g 2 7) tp bt a b) (by intro _ _ _; eq_refl) ?_
  rw [show (fx_cb .ne 7 0) = true from by decide]
  dsimp only [cond]
  refine fr_s 1 (pc' := 14) (lc' := [(0, .ref 0), (1, .int 7)]) (stk' := [.int 0]) (mem' := fm (upd g 2 7) tp bt a b) (by intro _ _ _; eq_refl) ?_
  exact fr_ret (by rfl) (by rfl) (by rfl)
theorem fr_isx8 : fr_T 1 206 [.ref 0, .int 8] (fm g tp bt a b) (some (.int 0)) (fm (upd g 2 8) tp bt a b) := by
  refine fr_meth (by rfl) (by rfl) ?_
  refine fr_s 4 (pc' := 6) (lc' := [(0, .ref 0), (1, .int 8)]) (stk' := [.int 8]) (mem' := fm (upd g 2 8) tp bt a b) (by intro _ _ _; eq_refl) ?_
  refine fr_s 1 (pc' := cond (fx_cb .ne 8 0) 13 9) (lc' := [(0, .ref 0), (1, .int 8)]) (stk' := []) (mem' := fm (upd g 2 8) tp bt a b) (by intro _ _ _; eq_refl) ?_
  rw [show (fx_cb .ne 8 0) = true from by decide]
  dsimp only [cond]
  refine fr_s 1 (pc' := 14) (lc' := [(0, .ref 0), (1, .int 8)]) (stk' := [.int 0]) (mem' := fm (upd g 2 8) tp bt a b) (by intro _ _ _; eq_refl) ?_
  exact fr_ret (by rfl) (by rfl) (by rfl)
theorem fr_isx9 : fr_T 1 206 [.ref 0, .int 9] (fm g tp bt a b) (some (.int 0)) (fm (upd g 2 9) tp bt a b) := by
  refine fr_meth (by rfl) (by rfl) ?_
  refine fr_s 4 (pc' := 6) (lc' := [(0, .ref 0), (1, .int 9)]) (stk' := [.int 9]) (mem' := fm (upd g 2 9) tp bt a b) (by intro _ _ _; eq_refl) ?_
  refine fr_s 1 (pc' := cond (fx_cb .ne 9 0) 13 9) (lc' := [(0, .ref 0), (1, .int 9)]) (stk' := []) (mem' := fm (upd g 2 9) tp bt a b) (by intro _ _ _; eq_refl) ?_
  rw [show (fx_cb .ne 9 0) = true from by decide]
  dsimp only [cond]
  refine fr_s 1 (pc' := 14) (lc' := [(0, .ref 0), (1, .int 9)]) (stk' := [.int 0]) (mem' := fm (upd g 2 9) tp bt a b) (by intro _ _ _; eq_refl) ?_
  exact fr_ret (by rfl) (by rfl) (by rfl)
theorem fr_areTwo {x y : Int32} {NC : Nat} (eN : a 1 0 = nI NC) (hN : NC ≤ 10) : ∃ (r : Option Value) (mem' : fx_M), (fun R => ∃ z : Int32, (z = 0 ∨ z = 1 ∧ ∃ A B : Nat, A < 10 ∧ B < 10 ∧ ¬ A = B ∧ x = nI A ∧ y = nI B) ∧ R = (some (.int z), fm g tp bt a b)) (r, mem') ∧ fr_T 3 278 [.ref 0, .int x, .int y] (fm g tp bt a b) r mem' := by
  refine fe_meth (F := fun R => ∃ z : Int32, (z = 0 ∨ z = 1 ∧ ∃ A B : Nat, A < 10 ∧ B < 10 ∧ ¬ A = B ∧ x = nI A ∧ y = nI B) ∧ R = (some (.int z), fm g tp bt a b)) (M := gk_m278) (by rfl) (by rfl) ?_
  refine fe_s 3 (pc' := 3) (lc' := [(0, .ref 0), (1, .int x), (2, .int y)]) (stk' := [.long (x.toInt64), .ref 0]) (mem' := fm g tp bt a b) (by intro _ _ _; eq_refl) ?_
  obtain ⟨vc1, memc1, ⟨xc1, hxc1, hRc1⟩, hfrc1⟩ := fr_isCellX (c := x.toInt64) (g := g) (tp := tp) (bt := bt) (b := b) eN hN
  cases hRc1
  refine fe_ivV hfrc1 (by omega) (by rfl) (by rfl) (by rfl) (by rfl) (by rfl) (by rfl) ?_
  rcases hxc1 with rfl | ⟨rfl, Cc1, hCc1, ec1⟩
  · refine fe_s 1 (pc' := cond (fx_cb .eq 0 0) 27 9) (lc' := [(0, .ref 0), (1, .int x), (2, .int y)]) (stk' := []) (mem' := fm g tp bt a b) (by intro _ _ _; eq_refl) ?_
    rw [show (fx_cb .eq 0 0) = true from by decide]
    dsimp only [cond]
    refine fe_s 1 (pc' := 28) (lc' := [(0, .ref 0), (1, .int x), (2, .int y)]) (stk' := [.int 0]) (mem' := fm g tp bt a b) (by intro _ _ _; eq_refl) ?_
    exact fe_ret ⟨_, Or.inl rfl, rfl⟩ (by rfl) (by rfl) (by rfl)
  · obtain rfl := fm_i64c ec1 (by omega)
    refine fe_s 1 (pc' := cond (fx_cb .eq 1 0) 27 9) (lc' := [(0, .ref 0), (1, .int (nI Cc1)), (2, .int y)]) (stk' := []) (mem' := fm g tp bt a b) (by intro _ _ _; eq_refl) ?_
    rw [show (fx_cb .eq 1 0) = false from by decide]
    dsimp only [cond]
    refine fe_s 3 (pc' := 12) (lc' := [(0, .ref 0), (1, .int (nI Cc1)), (2, .int y)]) (stk' := [.long (y.toInt64), .ref 0]) (mem' := fm g tp bt a b) (by intro _ _ _; eq_refl) ?_
    obtain ⟨vc2, memc2, ⟨xc2, hxc2, hRc2⟩, hfrc2⟩ := fr_isCellX (c := y.toInt64) (g := g) (tp := tp) (bt := bt) (b := b) eN hN
    cases hRc2
    refine fe_ivV hfrc2 (by omega) (by rfl) (by rfl) (by rfl) (by rfl) (by rfl) (by rfl) ?_
    rcases hxc2 with rfl | ⟨rfl, Cc2, hCc2, ec2⟩
    · refine fe_s 1 (pc' := cond (fx_cb .eq 0 0) 27 18) (lc' := [(0, .ref 0), (1, .int (nI Cc1)), (2, .int y)]) (stk' := []) (mem' := fm g tp bt a b) (by intro _ _ _; eq_refl) ?_
      rw [show (fx_cb .eq 0 0) = true from by decide]
      dsimp only [cond]
      refine fe_s 1 (pc' := 28) (lc' := [(0, .ref 0), (1, .int (nI Cc1)), (2, .int y)]) (stk' := [.int 0]) (mem' := fm g tp bt a b) (by intro _ _ _; eq_refl) ?_
      exact fe_ret ⟨_, Or.inl rfl, rfl⟩ (by rfl) (by rfl) (by rfl)
    · obtain rfl := fm_i64c ec2 (by omega)
      refine fe_s 1 (pc' := cond (fx_cb .eq 1 0) 27 18) (lc' := [(0, .ref 0), (1, .int (nI Cc1)), (2, .int (nI Cc2))]) (stk' := []) (mem' := fm g tp bt a b) (by intro _ _ _; eq_refl) ?_
      rw [show (fx_cb .eq 1 0) = false from by decide]
      dsimp only [cond]
      refine fe_s 2 (pc' := 20) (lc' := [(0, .ref 0), (1, .int (nI Cc1)), (2, .int (nI Cc2))]) (stk' := [.int (nI Cc2), .int (nI Cc1)]) (mem' := fm g tp bt a b) (by intro _ _ _; eq_refl) ?_
      refine fe_s 1 (pc' := cond (fx_cb .eq (nI Cc1) (nI Cc2)) 27 23) (lc' := [(0, .ref 0), (1, .int (nI Cc1)), (2, .int (nI Cc2))]) (stk' := []) (mem' := fm g tp bt a b) (by intro _ _ _; eq_refl) ?_
      by_cases h3 : Cc1 = Cc2
      · rw [show (fx_cb .eq (nI Cc1) (nI Cc2)) = true from cb_eqT (a := Cc1) (b := Cc2) (by omega) (by omega) (by omega)]
        dsimp only [cond]
        refine fe_s 1 (pc' := 28) (lc' := [(0, .ref 0), (1, .int (nI Cc1)), (2, .int (nI Cc2))]) (stk' := [.int 0]) (mem' := fm g tp bt a b) (by intro _ _ _; eq_refl) ?_
        exact fe_ret ⟨_, Or.inl rfl, rfl⟩ (by rfl) (by rfl) (by rfl)
      · rw [show (fx_cb .eq (nI Cc1) (nI Cc2)) = false from cb_eqF (a := Cc1) (b := Cc2) (by omega) (by omega) (by omega)]
        dsimp only [cond]
        refine fe_s 2 (pc' := 28) (lc' := [(0, .ref 0), (1, .int (nI Cc1)), (2, .int (nI Cc2))]) (stk' := [.int 1]) (mem' := fm g tp bt a b) (by intro _ _ _; eq_refl) ?_
        exact fe_ret ⟨_, Or.inr ⟨rfl, Cc1, Cc2, by omega, by omega, by omega, rfl, rfl⟩, rfl⟩ (by rfl) (by rfl) (by rfl)
theorem fr_hew {x y z : Int32} (hBa : fm_B a) (hgb : fm_gb g) : ∃ (v : Option Value) (mem' : fx_M), (fm_PW g tp bt a b) (v, mem') ∧ fr_T 9 301 [.ref 0, .int x, .int y, .int z] (fm g tp bt a b) v mem' := by
  have hG := fm_G_rf hgb
  have hB := hBa
  obtain ⟨NC, hNC, eNC⟩ := fm_B_0 hB (i := 0) (n := 10) (by decide) rfl
  obtain ⟨NW, hNW, eNW⟩ := fm_B_0 hB (i := 1) (n := 8) (by decide) rfl
  obtain ⟨NG, hNG, eNG⟩ := fm_B_0 hB (i := 3) (n := 20) (by decide) rfl
  obtain ⟨T, hT9, eT⟩ := fm_T5 hB
  have hD : fm_D a a T := fm_D_rf hB eT (by omega)
  refine fe_meth (F := fm_PW g tp bt a b) (M := gk_m301) (by rfl) (by rfl) ?_
  refine fe_s 3 (pc' := 3) (lc' := [(0, .ref 0), (1, .int x), (2, .int y), (3, .int z)]) (stk' := [.int y, .int x, .ref 0]) (mem' := fm g tp bt a b) (by intro _ _ _; eq_refl) ?_
  obtain ⟨vw1, memw1, ⟨xw1, hxw1, hRw1⟩, hfrw1⟩ := fr_areTwo (x := x) (y := y) (g := g) (tp := tp) (bt := bt) (b := b) eNC hNC
  cases hRw1
  refine fe_ivV hfrw1 (by omega) (by rfl) (by rfl) (by rfl) (by rfl) (by rfl) (by rfl) ?_
  rcases hxw1 with rfl | ⟨rfl, A, B, hA, hB2, hAB, rfl, rfl⟩
  · refine fe_s 1 (pc' := cond (fx_cb .ne 0 0) 15 9) (lc' := [(0, .ref 0), (1, .int x), (2, .int y), (3, .int z)]) (stk' := []) (mem' := fm g tp bt a b) (by intro _ _ _; eq_refl) ?_
    rw [show (fx_cb .ne 0 0) = false from by decide]
    dsimp only [cond]
    refine fe_s 2 (pc' := 11) (lc' := [(0, .ref 0), (1, .int x), (2, .int y), (3, .int z)]) (stk' := [.int 1, .ref 0]) (mem' := fm g tp bt a b) (by intro _ _ _; eq_refl) ?_
    refine fe_ivV fr_isx1 (by omega) (by rfl) (by rfl) (by rfl) (by rfl) (by rfl) (by rfl) ?_
    exact fe_ret ⟨_, _, _, _, _, _, Or.inl rfl, (fm_E_w (fm_E_rf hBa)), (fm_G_2 hG (by decide) (by decide)), (fun _ _ _ => rfl), rfl⟩ (by rfl) (by rfl) (by rfl)
  · refine fe_s 1 (pc' := cond (fx_cb .ne 1 0) 15 9) (lc' := [(0, .ref 0), (1, .int (nI A)), (2, .int (nI B)), (3, .int z)]) (stk' := []) (mem' := fm g tp bt a b) (by intro _ _ _; eq_refl) ?_
    rw [show (fx_cb .ne 1 0) = true from by decide]
    dsimp only [cond]
    refine fe_s 3 (pc' := 18) (lc' := [(0, .ref 0), (1, .int (nI A)), (2, .int (nI B)), (3, .int z)]) (stk' := [.int (nI B), .int (nI A), .ref 0]) (mem' := fm g tp bt a b) (by intro _ _ _; eq_refl) ?_
    refine fe_ivV (fr_isWay (A := A) (B := nI B) (g := g) (tp := tp) (bt := bt) (a := a) (b := b) (by omega)) (by omega) (by rfl) (by rfl) (by rfl) (by rfl) (by rfl) (by rfl) ?_
    rcases fm_b_01 (a 1 (10 + 6 * A)) (nI B) with q2 | q2
    · rw [q2]
      refine fe_s 1 (pc' := 22) (lc' := [(0, .ref 0), (1, .int (nI A)), (2, .int (nI B)), (3, .int z)]) (stk' := [.int z, .int 0]) (mem' := fm g tp bt a b) (by intro _ _ _; eq_refl) ?_
      refine fe_s 1 (pc' := cond (fx_cb .ne 0 z) 32 25) (lc' := [(0, .ref 0), (1, .int (nI A)), (2, .int (nI B)), (3, .int z)]) (stk' := []) (mem' := fm g tp bt a b) (by intro _ _ _; eq_refl) ?_
      cases h3 : fx_cb .ne 0 z
      · refine fe_s 2 (pc' := 28) (lc' := [(0, .ref 0), (1, .int (nI A)), (2, .int (nI B)), (3, .int z)]) (stk' := [.int 7, .ref 0]) (mem' := fm g tp bt a b) (by intro _ _ _; eq_refl) ?_
        refine fe_ivV fr_isx7 (by omega) (by rfl) (by rfl) (by rfl) (by rfl) (by rfl) (by rfl) ?_
        exact fe_ret ⟨_, _, _, _, _, _, Or.inl rfl, (fm_E_w (fm_E_rf hBa)), (fm_G_2 hG (by decide) (by decide)), (fun _ _ _ => rfl), rfl⟩ (by rfl) (by rfl) (by rfl)
      · refine fe_s 3 (pc' := 37) (lc' := [(0, .ref 0), (1, .int (nI A)), (2, .int (nI B)), (3, .int z)]) (stk' := [.int (nI A), .ref 1]) (mem' := fm g tp bt a b) (by intro _ _ _; eq_refl) ?_
        refine fe_ivS fr_cellRow (by omega) (by rfl) (by rfl) (by rfl) (by rfl) (by rfl) ?_
        rw [show (8 + 6 * (nI A) : Int32) = nI (8 + (6 * A)) from by simp only [show (8 : Int32) = nI 8 from rfl, show (6 : Int32) = nI 6 from rfl, nI_add, fm_mul]]
        refine fe_s 3 (pc' := 43) (lc' := [(0, .ref 0), (1, .int (nI A)), (2, .int (nI B)), (3, .int z)]) (stk' := [.int ((nI (8 + (6 * A))) + 2), .ref 1, .int ((nI (8 + (6 * A))) + 2), .ref 1]) (mem' := fm g tp bt a b) (by intro _ _ _; eq_refl) ?_
        rw [show ((nI (8 + (6 * A))) + 2 : Int32) = nI ((8 + (6 * A)) + 2) from by simp only [show (2 : Int32) = nI 2 from rfl, nI_add, fm_mul]]
        refine fe_ldI (by rfl) (by rfl) (fx_inN (i := (8 + (6 * A)) + 2) (by omega) (by omega)) ?_
        rw [show Int32.toNatClampNeg (nI ((8 + (6 * A)) + 2)) = (8 + (6 * A)) + 2 from nI_clamp (by omega)]
        refine fe_s 4 (pc' := 48) (lc' := [(0, .ref 0), (1, .int (nI A)), (2, .int (nI B)), (3, .int z)]) (stk' := [.int ((a 1 ((8 + (6 * A)) + 2)) ^^^ ((1 : Int32) <<< ((nI B) &&& 31))), .int (nI ((8 + (6 * A)) + 2)), .ref 1]) (mem' := fm g tp bt a b) (by intro _ _ _; eq_refl) ?_
        refine fe_stI (mem' := fm g tp bt (fm_u a 1 (nI ((8 + (6 * A)) + 2) : Int32).toNatClampNeg ((a 1 ((8 + (6 * A)) + 2)) ^^^ ((1 : Int32) <<< ((nI B) &&& 31)))) b) (by rfl) (by rfl) (fx_inN (i := (8 + (6 * A)) + 2) (by omega) (by omega)) fm_si1 ?_
        rw [show Int32.toNatClampNeg (nI ((8 + (6 * A)) + 2)) = (8 + (6 * A)) + 2 from nI_clamp (by omega)]
        refine fe_s 3 (pc' := 54) (lc' := [(0, .ref 0), (1, .int (nI A)), (2, .int (nI B)), (3, .int z)]) (stk' := [.int (nI B), .ref 1]) (mem' := fm g tp bt (fm_u a 1 ((8 + (6 * A)) + 2) ((a 1 ((8 + (6 * A)) + 2)) ^^^ ((1 : Int32) <<< ((nI B) &&& 31)))) b) (by intro _ _ _; eq_refl) ?_
        refine fe_ivS fr_cellRow (by omega) (by rfl) (by rfl) (by rfl) (by rfl) (by rfl) ?_
        rw [show (8 + 6 * (nI B) : Int32) = nI (8 + (6 * B)) from by simp only [show (8 : Int32) = nI 8 from rfl, show (6 : Int32) = nI 6 from rfl, nI_add, fm_mul]]
        refine fe_s 3 (pc' := 60) (lc' := [(0, .ref 0), (1, .int (nI A)), (2, .int (nI B)), (3, .int z)]) (stk' := [.int ((nI (8 + (6 * B))) + 2), .ref 1, .int ((nI (8 + (6 * B))) + 2), .ref 1]) (mem' := fm g tp bt (fm_u a 1 ((8 + (6 * A)) + 2) ((a 1 ((8 + (6 * A)) + 2)) ^^^ ((1 : Int32) <<< ((nI B) &&& 31)))) b) (by intro _ _ _; eq_refl) ?_
        rw [show ((nI (8 + (6 * B))) + 2 : Int32) = nI ((8 + (6 * B)) + 2) from by simp only [show (2 : Int32) = nI 2 from rfl, nI_add, fm_mul]]
        refine fe_ldI (by rfl) (by rfl) (fx_inN (i := (8 + (6 * B)) + 2) (by omega) (by omega)) ?_
        rw [show Int32.toNatClampNeg (nI ((8 + (6 * B)) + 2)) = (8 + (6 * B)) + 2 from nI_clamp (by omega)]
        refine fe_s 4 (pc' := 65) (lc' := [(0, .ref 0), (1, .int (nI A)), (2, .int (nI B)), (3, .int z)]) (stk' := [.int (((fm_u a 1 ((8 + (6 * A)) + 2) ((a 1 ((8 + (6 * A)) + 2)) ^^^ ((1 : Int32) <<< ((nI B) &&& 31)))) 1 ((8 + (6 * B)) + 2)) ^^^ ((1 : Int32) <<< ((nI A) &&& 31))), .int (nI ((8 + (6 * B)) + 2)), .ref 1]) (mem' := fm g tp bt (fm_u a 1 ((8 + (6 * A)) + 2) ((a 1 ((8 + (6 * A)) + 2)) ^^^ ((1 : Int32) <<< ((nI B) &&& 31)))) b) (by intro _ _ _; eq_refl) ?_
        refine fe_stI (mem' := fm g tp bt (fm_u (fm_u a 1 ((8 + (6 * A)) + 2) ((a 1 ((8 + (6 * A)) + 2)) ^^^ ((1 : Int32) <<< ((nI B) &&& 31)))) 1 (nI ((8 + (6 * B)) + 2) : Int32).toNatClampNeg (((fm_u a 1 ((8 + (6 * A)) + 2) ((a 1 ((8 + (6 * A)) + 2)) ^^^ ((1 : Int32) <<< ((nI B) &&& 31)))) 1 ((8 + (6 * B)) + 2)) ^^^ ((1 : Int32) <<< ((nI A) &&& 31)))) b) (by rfl) (by rfl) (fx_inN (i := (8 + (6 * B)) + 2) (by omega) (by omega)) fm_si1 ?_
        rw [show Int32.toNatClampNeg (nI ((8 + (6 * B)) + 2)) = (8 + (6 * B)) + 2 from nI_clamp (by omega)]
        have hEx : fm_Ew a (fm_u (fm_u a 1 ((8 + (6 * A)) + 2) ((a 1 ((8 + (6 * A)) + 2)) ^^^ ((1 : Int32) <<< ((nI B) &&& 31)))) 1 ((8 + (6 * B)) + 2) (((fm_u a 1 ((8 + (6 * A)) + 2) ((a 1 ((8 + (6 * A)) + 2)) ^^^ ((1 : Int32) <<< ((nI B) &&& 31)))) 1 ((8 + (6 * B)) + 2)) ^^^ ((1 : Int32) <<< ((nI A) &&& 31)))) := by
          refine ⟨?_, fun t ht => ?_⟩
          · rw [show (8 + (6 * A)) + 2 = 10 + 6 * A by omega, show (8 + (6 * B)) + 2 = 10 + 6 * B by omega]; exact fm_B_hew hB (by omega) (by omega) hAB
          · have h1 : t ≠ 1 := fun e => by subst e; exact absurd ht (by decide)
            rw [fm_ut h1, fm_ut h1]
        refine fe_s 2 (pc' := 68) (lc' := [(0, .ref 0), (1, .int (nI A)), (2, .int (nI B)), (3, .int z)]) (stk' := [.int 0, .ref 0]) (mem' := fm g tp bt (fm_u (fm_u a 1 ((8 + (6 * A)) + 2) ((a 1 ((8 + (6 * A)) + 2)) ^^^ ((1 : Int32) <<< ((nI B) &&& 31)))) 1 ((8 + (6 * B)) + 2) (((fm_u a 1 ((8 + (6 * A)) + 2) ((a 1 ((8 + (6 * A)) + 2)) ^^^ ((1 : Int32) <<< ((nI B) &&& 31)))) 1 ((8 + (6 * B)) + 2)) ^^^ ((1 : Int32) <<< ((nI A) &&& 31)))) b) (by intro _ _ _; eq_refl) ?_
        refine fe_ivV fr_isx0 (by omega) (by rfl) (by rfl) (by rfl) (by rfl) (by rfl) (by rfl) ?_
        exact fe_ret ⟨_, _, _, _, _, _, Or.inr rfl, hEx, (fm_G_2 hG (by decide) (by decide)), (fun _ _ _ => rfl), rfl⟩ (by rfl) (by rfl) (by rfl)
    · rw [q2]
      refine fe_s 1 (pc' := 22) (lc' := [(0, .ref 0), (1, .int (nI A)), (2, .int (nI B)), (3, .int z)]) (stk' := [.int z, .int 1]) (mem' := fm g tp bt a b) (by intro _ _ _; eq_refl) ?_
      refine fe_s 1 (pc' := cond (fx_cb .ne 1 z) 32 25) (lc' := [(0, .ref 0), (1, .int (nI A)), (2, .int (nI B)), (3, .int z)]) (stk' := []) (mem' := fm g tp bt a b) (by intro _ _ _; eq_refl) ?_
      cases h4 : fx_cb .ne 1 z
      · refine fe_s 2 (pc' := 28) (lc' := [(0, .ref 0), (1, .int (nI A)), (2, .int (nI B)), (3, .int z)]) (stk' := [.int 7, .ref 0]) (mem' := fm g tp bt a b) (by intro _ _ _; eq_refl) ?_
        refine fe_ivV fr_isx7 (by omega) (by rfl) (by rfl) (by rfl) (by rfl) (by rfl) (by rfl) ?_
        exact fe_ret ⟨_, _, _, _, _, _, Or.inl rfl, (fm_E_w (fm_E_rf hBa)), (fm_G_2 hG (by decide) (by decide)), (fun _ _ _ => rfl), rfl⟩ (by rfl) (by rfl) (by rfl)
      · refine fe_s 3 (pc' := 37) (lc' := [(0, .ref 0), (1, .int (nI A)), (2, .int (nI B)), (3, .int z)]) (stk' := [.int (nI A), .ref 1]) (mem' := fm g tp bt a b) (by intro _ _ _; eq_refl) ?_
        refine fe_ivS fr_cellRow (by omega) (by rfl) (by rfl) (by rfl) (by rfl) (by rfl) ?_
        rw [show (8 + 6 * (nI A) : Int32) = nI (8 + (6 * A)) from by simp only [show (8 : Int32) = nI 8 from rfl, show (6 : Int32) = nI 6 from rfl, nI_add, fm_mul]]
        refine fe_s 3 (pc' := 43) (lc' := [(0, .ref 0), (1, .int (nI A)), (2, .int (nI B)), (3, .int z)]) (stk' := [.int ((nI (8 + (6 * A))) + 2), .ref 1, .int ((nI (8 + (6 * A))) + 2), .ref 1]) (mem' := fm g tp bt a b) (by intro _ _ _; eq_refl) ?_
        rw [show ((nI (8 + (6 * A))) + 2 : Int32) = nI ((8 + (6 * A)) + 2) from by simp only [show (2 : Int32) = nI 2 from rfl, nI_add, fm_mul]]
        refine fe_ldI (by rfl) (by rfl) (fx_inN (i := (8 + (6 * A)) + 2) (by omega) (by omega)) ?_
        rw [show Int32.toNatClampNeg (nI ((8 + (6 * A)) + 2)) = (8 + (6 * A)) + 2 from nI_clamp (by omega)]
        refine fe_s 4 (pc' := 48) (lc' := [(0, .ref 0), (1, .int (nI A)), (2, .int (nI B)), (3, .int z)]) (stk' := [.int ((a 1 ((8 + (6 * A)) + 2)) ^^^ ((1 : Int32) <<< ((nI B) &&& 31))), .int (nI ((8 + (6 * A)) + 2)), .ref 1]) (mem' := fm g tp bt a b) (by intro _ _ _; eq_refl) ?_
        refine fe_stI (mem' := fm g tp bt (fm_u a 1 (nI ((8 + (6 * A)) + 2) : Int32).toNatClampNeg ((a 1 ((8 + (6 * A)) + 2)) ^^^ ((1 : Int32) <<< ((nI B) &&& 31)))) b) (by rfl) (by rfl) (fx_inN (i := (8 + (6 * A)) + 2) (by omega) (by omega)) fm_si1 ?_
        rw [show Int32.toNatClampNeg (nI ((8 + (6 * A)) + 2)) = (8 + (6 * A)) + 2 from nI_clamp (by omega)]
        refine fe_s 3 (pc' := 54) (lc' := [(0, .ref 0), (1, .int (nI A)), (2, .int (nI B)), (3, .int z)]) (stk' := [.int (nI B), .ref 1]) (mem' := fm g tp bt (fm_u a 1 ((8 + (6 * A)) + 2) ((a 1 ((8 + (6 * A)) + 2)) ^^^ ((1 : Int32) <<< ((nI B) &&& 31)))) b) (by intro _ _ _; eq_refl) ?_
        refine fe_ivS fr_cellRow (by omega) (by rfl) (by rfl) (by rfl) (by rfl) (by rfl) ?_
        rw [show (8 + 6 * (nI B) : Int32) = nI (8 + (6 * B)) from by simp only [show (8 : Int32) = nI 8 from rfl, show (6 : Int32) = nI 6 from rfl, nI_add, fm_mul]]
        refine fe_s 3 (pc' := 60) (lc' := [(0, .ref 0), (1, .int (nI A)), (2, .int (nI B)), (3, .int z)]) (stk' := [.int ((nI (8 + (6 * B))) + 2), .ref 1, .int ((nI (8 + (6 * B))) + 2), .ref 1]) (mem' := fm g tp bt (fm_u a 1 ((8 + (6 * A)) + 2) ((a 1 ((8 + (6 * A)) + 2)) ^^^ ((1 : Int32) <<< ((nI B) &&& 31)))) b) (by intro _ _ _; eq_refl) ?_
        rw [show ((nI (8 + (6 * B))) + 2 : Int32) = nI ((8 + (6 * B)) + 2) from by simp only [show (2 : Int32) = nI 2 from rfl, nI_add, fm_mul]]
        refine fe_ldI (by rfl) (by rfl) (fx_inN (i := (8 + (6 * B)) + 2) (by omega) (by omega)) ?_
        rw [show Int32.toNatClampNeg (nI ((8 + (6 * B)) + 2)) = (8 + (6 * B)) + 2 from nI_clamp (by omega)]
        refine fe_s 4 (pc' := 65) (lc' := [(0, .ref 0), (1, .int (nI A)), (2, .int (nI B)), (3, .int z)]) (stk' := [.int (((fm_u a 1 ((8 + (6 * A)) + 2) ((a 1 ((8 + (6 * A)) + 2)) ^^^ ((1 : Int32) <<< ((nI B) &&& 31)))) 1 ((8 + (6 * B)) + 2)) ^^^ ((1 : Int32) <<< ((nI A) &&& 31))), .int (nI ((8 + (6 * B)) + 2)), .ref 1]) (mem' := fm g tp bt (fm_u a 1 ((8 + (6 * A)) + 2) ((a 1 ((8 + (6 * A)) + 2)) ^^^ ((1 : Int32) <<< ((nI B) &&& 31)))) b) (by intro _ _ _; eq_refl) ?_
        refine fe_stI (mem' := fm g tp bt (fm_u (fm_u a 1 ((8 + (6 * A)) + 2) ((a 1 ((8 + (6 * A)) + 2)) ^^^ ((1 : Int32) <<< ((nI B) &&& 31)))) 1 (nI ((8 + (6 * B)) + 2) : Int32).toNatClampNeg (((fm_u a 1 ((8 + (6 * A)) + 2) ((a 1 ((8 + (6 * A)) + 2)) ^^^ ((1 : Int32) <<< ((nI B) &&& 31)))) 1 ((8 + (6 * B)) + 2)) ^^^ ((1 : Int32) <<< ((nI A) &&& 31)))) b) (by rfl) (by rfl) (fx_inN (i := (8 + (6 * B)) + 2) (by omega) (by omega)) fm_si1 ?_
        rw [show Int32.toNatClampNeg (nI ((8 + (6 * B)) + 2)) = (8 + (6 * B)) + 2 from nI_clamp (by omega)]
        have hEx : fm_Ew a (fm_u (fm_u a 1 ((8 + (6 * A)) + 2) ((a 1 ((8 + (6 * A)) + 2)) ^^^ ((1 : Int32) <<< ((nI B) &&& 31)))) 1 ((8 + (6 * B)) + 2) (((fm_u a 1 ((8 + (6 * A)) + 2) ((a 1 ((8 + (6 * A)) + 2)) ^^^ ((1 : Int32) <<< ((nI B) &&& 31)))) 1 ((8 + (6 * B)) + 2)) ^^^ ((1 : Int32) <<< ((nI A) &&& 31)))) := by
          refine ⟨?_, fun t ht => ?_⟩
          · rw [show (8 + (6 * A)) + 2 = 10 + 6 * A by omega, show (8 + (6 * B)) + 2 = 10 + 6 * B by omega]; exact fm_B_hew hB (by omega) (by omega) hAB
          · have h1 : t ≠ 1 := fun e => by subst e; exact absurd ht (by decide)
            rw [fm_ut h1, fm_ut h1]
        refine fe_s 2 (pc' := 68) (lc' := [(0, .ref 0), (1, .int (nI A)), (2, .int (nI B)), (3, .int z)]) (stk' := [.int 0, .ref 0]) (mem' := fm g tp bt (fm_u (fm_u a 1 ((8 + (6 * A)) + 2) ((a 1 ((8 + (6 * A)) + 2)) ^^^ ((1 : Int32) <<< ((nI B) &&& 31)))) 1 ((8 + (6 * B)) + 2) (((fm_u a 1 ((8 + (6 * A)) + 2) ((a 1 ((8 + (6 * A)) + 2)) ^^^ ((1 : Int32) <<< ((nI B) &&& 31)))) 1 ((8 + (6 * B)) + 2)) ^^^ ((1 : Int32) <<< ((nI A) &&& 31)))) b) (by intro _ _ _; eq_refl) ?_
        refine fe_ivV fr_isx0 (by omega) (by rfl) (by rfl) (by rfl) (by rfl) (by rfl) (by rfl) ?_
        exact fe_ret ⟨_, _, _, _, _, _, Or.inr rfl, hEx, (fm_G_2 hG (by decide) (by decide)), (fun _ _ _ => rfl), rfl⟩ (by rfl) (by rfl) (by rfl)
theorem fr_copies {s d : Nat} (hs : s < 4) (hd : d < 4) (hne : ¬ s = d) : ∃ (v : Option Value) (mem' : fx_M), (fun R => ∃ (a' : Nat → Nat → Int32) (b' : Nat → Nat → Int64), fm_cpy a a' s d ∧ (∀ t, t ≠ 2 → b' t = b t) ∧ R = (none, fm g tp bt a' b')) (v, mem') ∧ fr_T 1 369 [.ref 0, .int (nI s), .int (nI d)] (fm g tp bt a b) v mem' := by
  refine fe_meth (F := fun R => ∃ (a' : Nat → Nat → Int32) (b' : Nat → Nat → Int64), fm_cpy a a' s d ∧ (∀ t, t ≠ 2 → b' t = b t) ∧ R = (none, fm g tp bt a' b')) (M := gk_m369) (by rfl) (by rfl) ?_
  have l41 : ∀ (r k : Nat), k + r = 18 → ∀ (a' : Nat → Nat → Int32) (b' : Nat → Nat → Int64), fm_cpy a a' s d → (∀ t, t ≠ 2 → b' t = b t) → fe_R 0 gk_m369 41 [(3, .int (nI k)), (0, .ref 0), (1, .int (nI s)), (2, .int (nI d))] [] (fm g tp bt a' b') (fun R => ∃ (a' : Nat → Nat → Int32) (b' : Nat → Nat → Int64), fm_cpy a a' s d ∧ (∀ t, t ≠ 2 → b' t = b t) ∧ R = (none, fm g tp bt a' b')) := by
    intro r
    induction r with
    | zero =>
      intro k hk a' b' h1 h2
      obtain rfl : k = 18 := by omega
      refine fe_s 2 (pc' := 44) (lc' := [(3, .int (nI 18)), (0, .ref 0), (1, .int (nI s)), (2, .int (nI d))]) (stk' := [.int 18, .int (nI 18)]) (mem' := fm g tp bt a' b') (by intro _ _ _; eq_refl) ?_
      refine fe_s 1 (pc' := cond (fx_cb .ge (nI 18) 18) 75 47) (lc' := [(3, .int (nI 18)), (0, .ref 0), (1, .int (nI s)), (2, .int (nI d))]) (stk' := []) (mem' := fm g tp bt a' b') (by intro _ _ _; eq_refl) ?_
      rw [show (fx_cb .ge (nI 18) 18) = true from cb_geT (a := 18) (b := 18) (by omega) (by omega) (by omega)]
      dsimp only [cond]
      exact fe_ret ⟨a', b', h1, h2, rfl⟩ (by rfl) (by rfl) (by rfl)
    | succ r ih =>
      intro k hk a' b' h1 h2
      refine fe_s 2 (pc' := 44) (lc' := [(3, .int (nI k)), (0, .ref 0), (1, .int (nI s)), (2, .int (nI d))]) (stk' := [.int 18, .int (nI k)]) (mem' := fm g tp bt a' b') (by intro _ _ _; eq_refl) ?_
      refine fe_s 1 (pc' := cond (fx_cb .ge (nI k) 18) 75 47) (lc' := [(3, .int (nI k)), (0, .ref 0), (1, .int (nI s)), (2, .int (nI d))]) (stk' := []) (mem' := fm g tp bt a' b') (by intro _ _ _; eq_refl) ?_
      rw [show (fx_cb .ge (nI k) 18) = false from cb_geF (a := k) (b := 18) (by omega) (by omega) (by omega)]
      dsimp only [cond]
      refine fe_s 14 (pc' := 67) (lc' := [(3, .int (nI k)), (0, .ref 0), (1, .int (nI s)), (2, .int (nI d))]) (stk' := [.int ((18 * (nI s)) + (nI k)), .ref 2, .int ((18 * (nI d)) + (nI k)), .ref 2]) (mem' := fm g tp bt a' b') (by intro _ _ _; eq_refl) ?_
      rw [show ((18 * (nI s)) + (nI k) : Int32) = nI ((18 * s) + k) from by simp only [show (18 : Int32) = nI 18 from rfl, nI_add, fm_mul]]
      rw [show ((18 * (nI d)) + (nI k) : Int32) = nI ((18 * d) + k) from by simp only [show (18 : Int32) = nI 18 from rfl, nI_add, fm_mul]]
      refine fe_ldL (by rfl) (by rfl) (fx_inN (i := (18 * s) + k) (by omega) (by omega)) ?_
      rw [show Int32.toNatClampNeg (nI ((18 * s) + k)) = (18 * s) + k from nI_clamp (by omega)]
      refine fe_stL (mem' := fm g tp bt a' (fm_uL b' 2 (nI ((18 * d) + k) : Int32).toNatClampNeg (b' 2 ((18 * s) + k)))) (by rfl) (by rfl) (fx_inN (i := (18 * d) + k) (by omega) (by omega)) fm_sl2 ?_
      rw [show Int32.toNatClampNeg (nI ((18 * d) + k)) = (18 * d) + k from nI_clamp (by omega)]
      refine fe_s 2 (pc' := 41) (lc' := [(3, .int ((nI k) + 1)), (0, .ref 0), (1, .int (nI s)), (2, .int (nI d))]) (stk' := []) (mem' := fm g tp bt a' (fm_uL b' 2 ((18 * d) + k) (b' 2 ((18 * s) + k)))) (by intro _ _ _; eq_refl) ?_
      rw [show ((nI k) + 1 : Int32) = nI (k + 1) from by simp only [show (1 : Int32) = nI 1 from rfl, nI_add, fm_mul]]
      exact ih (k + 1) (by omega) a' _ h1 (fun t ht => by rw [fm_uL_t ht]; exact h2 t ht)
  have l2 : ∀ (r k : Nat), k + r = 842 → ∀ a' : Nat → Nat → Int32, (∀ t, t ≠ 1 → a' t = a t) → (∀ i, ¬ (842 * d ≤ i ∧ i < 842 * d + k) → a' 1 i = a 1 i) → (∀ i, i < k → a' 1 (842 * d + i) = a 1 (842 * s + i)) → fe_R 0 gk_m369 2 [(3, .int (nI k)), (0, .ref 0), (1, .int (nI s)), (2, .int (nI d))] [] (fm g tp bt a' b) (fun R => ∃ (a' : Nat → Nat → Int32) (b' : Nat → Nat → Int64), fm_cpy a a' s d ∧ (∀ t, t ≠ 2 → b' t = b t) ∧ R = (none, fm g tp bt a' b')) := by
    intro r
    induction r with
    | zero =>
      intro k hk a' h1 h2 h3
      obtain rfl : k = 842 := by omega
      refine fe_s 2 (pc' := 6) (lc' := [(3, .int (nI 842)), (0, .ref 0), (1, .int (nI s)), (2, .int (nI d))]) (stk' := [.int 842, .int (nI 842)]) (mem' := fm g tp bt a' b) (by intro _ _ _; eq_refl) ?_
      refine fe_s 1 (pc' := cond (fx_cb .ge (nI 842) 842) 39 9) (lc' := [(3, .int (nI 842)), (0, .ref 0), (1, .int (nI s)), (2, .int (nI d))]) (stk' := []) (mem' := fm g tp bt a' b) (by intro _ _ _; eq_refl) ?_
      rw [show (fx_cb .ge (nI 842) 842) = true from cb_geT (a := 842) (b := 842) (by omega) (by omega) (by omega)]
      dsimp only [cond]
      refine fe_s 2 (pc' := 41) (lc' := [(3, .int 0), (0, .ref 0), (1, .int (nI s)), (2, .int (nI d))]) (stk' := []) (mem' := fm g tp bt a' b) (by intro _ _ _; eq_refl) ?_
      refine fe_w (lc' := [(3, .int (nI 0)), (0, .ref 0), (1, .int (nI s)), (2, .int (nI d))]) ⟨rfl, rfl, rfl, rfl, trivial⟩ (by show List.Nodup [3, 0, 1, 2]; decide) (by show List.Nodup [3, 0, 1, 2]; decide) (l41 18 0 (by omega) a' b ⟨h1, h2, h3⟩ (fun _ _ => rfl))
    | succ r ih =>
      intro k hk a' h1 h2 h3
      refine fe_s 2 (pc' := 6) (lc' := [(3, .int (nI k)), (0, .ref 0), (1, .int (nI s)), (2, .int (nI d))]) (stk' := [.int 842, .int (nI k)]) (mem' := fm g tp bt a' b) (by intro _ _ _; eq_refl) ?_
      refine fe_s 1 (pc' := cond (fx_cb .ge (nI k) 842) 39 9) (lc' := [(3, .int (nI k)), (0, .ref 0), (1, .int (nI s)), (2, .int (nI d))]) (stk' := []) (mem' := fm g tp bt a' b) (by intro _ _ _; eq_refl) ?_
      rw [show (fx_cb .ge (nI k) 842) = false from cb_geF (a := k) (b := 842) (by omega) (by omega) (by omega)]
      dsimp only [cond]
      refine fe_s 14 (pc' := 31) (lc' := [(3, .int (nI k)), (0, .ref 0), (1, .int (nI s)), (2, .int (nI d))]) (stk' := [.int ((842 * (nI s)) + (nI k)), .ref 1, .int ((842 * (nI d)) + (nI k)), .ref 1]) (mem' := fm g tp bt a' b) (by intro _ _ _; eq_refl) ?_
      rw [show ((842 * (nI s)) + (nI k) : Int32) = nI ((842 * s) + k) from by simp only [show (842 : Int32) = nI 842 from rfl, nI_add, fm_mul]]
      rw [show ((842 * (nI d)) + (nI k) : Int32) = nI ((842 * d) + k) from by simp only [show (842 : Int32) = nI 842 from rfl, nI_add, fm_mul]]
      refine fe_ldI (by rfl) (by rfl) (fx_inN (i := (842 * s) + k) (by omega) (by omega)) ?_
      rw [show Int32.toNatClampNeg (nI ((842 * s) + k)) = (842 * s) + k from nI_clamp (by omega)]
      refine fe_stI (mem' := fm g tp bt (fm_u a' 1 (nI ((842 * d) + k) : Int32).toNatClampNeg (a' 1 ((842 * s) + k))) b) (by rfl) (by rfl) (fx_inN (i := (842 * d) + k) (by omega) (by omega)) fm_si1 ?_
      rw [show Int32.toNatClampNeg (nI ((842 * d) + k)) = (842 * d) + k from nI_clamp (by omega)]
      refine fe_s 2 (pc' := 2) (lc' := [(3, .int ((nI k) + 1)), (0, .ref 0), (1, .int (nI s)), (2, .int (nI d))]) (stk' := []) (mem' := fm g tp bt (fm_u a' 1 ((842 * d) + k) (a' 1 ((842 * s) + k))) b) (by intro _ _ _; eq_refl) ?_
      rw [show ((nI k) + 1 : Int32) = nI (k + 1) from by simp only [show (1 : Int32) = nI 1 from rfl, nI_add, fm_mul]]
      refine ih (k + 1) (by omega) _ (fun t ht => by rw [fm_ut ht]; exact h1 t ht) (fun i hi => by rw [fm_u1, if_neg (by omega)]; exact h2 i (by omega)) (fun i hi => ?_)
      rw [fm_u1]
      by_cases e : i = k
      · rw [if_pos (by omega), h2 _ (by omega), e]
      · rw [if_neg (by omega)]; exact h3 i (by omega)
  refine fe_s 2 (pc' := 2) (lc' := [(3, .int 0), (0, .ref 0), (1, .int (nI s)), (2, .int (nI d))]) (stk' := []) (mem' := fm g tp bt a b) (by intro _ _ _; eq_refl) ?_
  exact l2 842 0 (by omega) a (fun _ _ => rfl) (fun _ _ => rfl) (fun i hi => absurd hi (Nat.not_lt_zero i))
theorem fr_mark {m : Nat} (hB : fm_B a) (hm : g 42 = nI m) (hm3 : m ≤ 3) : ∃ (v : Option Value) (mem' : fx_M), (fun R => ∃ (v : Int32) (g' : Nat → Int32) (a' : Nat → Nat → Int32) (b' : Nat → Nat → Int64), (m = 3 ∧ v = -1 ∧ g' = upd g 2 4 ∧ a' = a ∧ b' = b ∨ m < 3 ∧ v = nI (m + 1) ∧ g' = upd (upd g 42 (nI (m + 1))) 2 0 ∧ fm_B a' ∧ (∀ t, t ≠ 1 → a' t = a t) ∧ ∀ t, t ≠ 2 → b' t = b t) ∧ R = (some (.int v), fm g' tp bt a' b')) (v, mem') ∧ fr_T 2 370 [.ref 0] (fm g tp bt a b) v mem' := by
  refine fe_meth (F := fun R => ∃ (v : Int32) (g' : Nat → Int32) (a' : Nat → Nat → Int32) (b' : Nat → Nat → Int64), (m = 3 ∧ v = -1 ∧ g' = upd g 2 4 ∧ a' = a ∧ b' = b ∨ m < 3 ∧ v = nI (m + 1) ∧ g' = upd (upd g 42 (nI (m + 1))) 2 0 ∧ fm_B a' ∧ (∀ t, t ≠ 1 → a' t = a t) ∧ ∀ t, t ≠ 2 → b' t = b t) ∧ R = (some (.int v), fm g' tp bt a' b')) (M := gk_m370) (by rfl) (by rfl) ?_
  refine fe_s 3 (pc' := 5) (lc' := [(0, .ref 0)]) (stk' := [.int 3, .int (g 42)]) (mem' := fm g tp bt a b) (by intro _ _ _; eq_refl) ?_
  try rw [hm]
  refine fe_s 1 (pc' := cond (fx_cb .ne (nI m) 3) 14 8) (lc' := [(0, .ref 0)]) (stk' := []) (mem' := fm g tp bt a b) (by intro _ _ _; eq_refl) ?_
  by_cases h1 : m = 3
  · rw [show (fx_cb .ne (nI m) 3) = false from cb_neF (a := m) (b := 3) (by omega) (by omega) (by omega)]
    dsimp only [cond]
    refine fe_s 2 (pc' := 10) (lc' := [(0, .ref 0)]) (stk' := [.int 4, .ref 0]) (mem' := fm g tp bt a b) (by intro _ _ _; eq_refl) ?_
    refine fe_ivV (fr_refuse (x := 4)) (by omega) (by rfl) (by rfl) (by rfl) (by rfl) (by rfl) (by rfl) ?_
    exact fe_ret ⟨_, _, a, b, Or.inl ⟨by omega, rfl, rfl, rfl, rfl⟩, rfl⟩ (by rfl) (by rfl) (by rfl)
  · rw [show (fx_cb .ne (nI m) 3) = true from cb_neT (a := m) (b := 3) (by omega) (by omega) (by omega)]
    dsimp only [cond]
    refine fe_s 10 (pc' := 30) (lc' := [(0, .ref 0)]) (stk' := [.int ((g 42) + 1), .int 0, .ref 0]) (mem' := fm (upd g 42 ((g 42) + 1)) tp bt a b) (by intro _ _ _; eq_refl) ?_
    try rw [hm]
    rw [show ((nI m) + 1 : Int32) = nI (m + 1) from by simp only [show (1 : Int32) = nI 1 from rfl, nI_add, fm_mul]]
    obtain ⟨v5, mem5, ⟨a5, b5, hc5, hb5, hR5⟩, hfr5⟩ := fr_copies (s := 0) (d := m + 1) (g := (upd g 42 (nI (m + 1)))) (tp := tp) (bt := bt) (a := a) (b := b) (by omega) (by omega) (by omega)
    cases hR5
    refine fe_ivV hfr5 (by omega) (by rfl) (by rfl) (by rfl) (by rfl) (by rfl) (by rfl) ?_
    refine fe_s 3 (pc' := 38) (lc' := [(0, .ref 0)]) (stk' := [.int (nI (m + 1)), .ref 0]) (mem' := fm (upd g 42 (nI (m + 1))) tp bt a5 b5) (by intro _ _ _; eq_refl) ?_
    refine fe_ivV (fr_gives (x := nI (m + 1))) (by omega) (by rfl) (by rfl) (by rfl) (by rfl) (by rfl) (by rfl) ?_
    exact fe_ret ⟨_, _, a5, b5, Or.inr ⟨by omega, rfl, rfl, fm_B_cpy hB (by omega) (by omega) hc5, hc5.1, hb5⟩, rfl⟩ (by rfl) (by rfl) (by rfl)
theorem fr_undo {m : Nat} (hB : fm_B a) (hm : g 42 = nI m) (hm3 : m ≤ 3) : ∃ (v : Option Value) (mem' : fx_M), (fun R => ∃ (v : Int32) (g' : Nat → Int32) (a' : Nat → Nat → Int32) (b' : Nat → Nat → Int64), (m = 0 ∧ v = -1 ∧ g' = upd g 2 6 ∧ a' = a ∧ b' = b ∨ 0 < m ∧ v = nI (m - 1) ∧ g' = upd (upd g 42 (nI (m - 1))) 2 0 ∧ fm_B a' ∧ (∀ t, t ≠ 1 → a' t = a t) ∧ ∀ t, t ≠ 2 → b' t = b t) ∧ R = (some (.int v), fm g' tp bt a' b')) (v, mem') ∧ fr_T 2 371 [.ref 0] (fm g tp bt a b) v mem' := by
  refine fe_meth (F := fun R => ∃ (v : Int32) (g' : Nat → Int32) (a' : Nat → Nat → Int32) (b' : Nat → Nat → Int64), (m = 0 ∧ v = -1 ∧ g' = upd g 2 6 ∧ a' = a ∧ b' = b ∨ 0 < m ∧ v = nI (m - 1) ∧ g' = upd (upd g 42 (nI (m - 1))) 2 0 ∧ fm_B a' ∧ (∀ t, t ≠ 1 → a' t = a t) ∧ ∀ t, t ≠ 2 → b' t = b t) ∧ R = (some (.int v), fm g' tp bt a' b')) (M := gk_m371) (by rfl) (by rfl) ?_
  refine fe_s 2 (pc' := 4) (lc' := [(0, .ref 0)]) (stk' := [.int (g 42)]) (mem' := fm g tp bt a b) (by intro _ _ _; eq_refl) ?_
  try rw [hm]
  refine fe_s 1 (pc' := cond (fx_cb .ne (nI m) 0) 14 7) (lc' := [(0, .ref 0)]) (stk' := []) (mem' := fm g tp bt a b) (by intro _ _ _; eq_refl) ?_
  by_cases h1 : m = 0
  · rw [show (fx_cb .ne (nI m) 0) = false from cb_neF (a := m) (b := 0) (by omega) (by omega) (by omega)]
    dsimp only [cond]
    refine fe_s 2 (pc' := 10) (lc' := [(0, .ref 0)]) (stk' := [.int 6, .ref 0]) (mem' := fm g tp bt a b) (by intro _ _ _; eq_refl) ?_
    refine fe_ivV (fr_refuse (x := 6)) (by omega) (by rfl) (by rfl) (by rfl) (by rfl) (by rfl) (by rfl) ?_
    exact fe_ret ⟨_, _, a, b, Or.inl ⟨by omega, rfl, rfl, rfl, rfl⟩, rfl⟩ (by rfl) (by rfl) (by rfl)
  · rw [show (fx_cb .ne (nI m) 0) = true from cb_neT (a := m) (b := 0) (by omega) (by omega) (by omega)]
    dsimp only [cond]
    refine fe_s 4 (pc' := 20) (lc' := [(0, .ref 0)]) (stk' := [.int 0, .int (g 42), .ref 0]) (mem' := fm g tp bt a b) (by intro _ _ _; eq_refl) ?_
    try rw [hm]
    obtain ⟨v5, mem5, ⟨a5, b5, hc5, hb5, hR5⟩, hfr5⟩ := fr_copies (s := m) (d := 0) (g := g) (tp := tp) (bt := bt) (a := a) (b := b) (by omega) (by omega) (by omega)
    cases hR5
    refine fe_ivV hfr5 (by omega) (by rfl) (by rfl) (by rfl) (by rfl) (by rfl) (by rfl) ?_
    refine fe_s 9 (pc' := 38) (lc' := [(0, .ref 0)]) (stk' := [.int ((g 42) - 1), .ref 0]) (mem' := fm (upd g 42 ((g 42) - 1)) tp bt a5 b5) (by intro _ _ _; eq_refl) ?_
    try rw [hm]
    rw [show ((nI m) - 1 : Int32) = nI (m - 1) from by simp only [show (1 : Int32) = nI 1 from rfl, tg_sub2 (x := m) (y := 1) (by omega), nI_add, fm_mul]]
    refine fe_ivV (fr_gives (x := nI (m - 1))) (by omega) (by rfl) (by rfl) (by rfl) (by rfl) (by rfl) (by rfl) ?_
    exact fe_ret ⟨_, _, a5, b5, Or.inr ⟨by omega, rfl, rfl, fm_B_cpy hB (by omega) (by omega) hc5, hc5.1, hb5⟩, rfl⟩ (by rfl) (by rfl) (by rfl)
end FHW
end MH7_1
section MH7_2
/-! ===== fx: remainders, a switch that is missed, sums, rows ===== -/
theorem fm_lrem_abs {x y : Int64} (hy : ¬ y = 0) : (x - x / y * y).toInt.natAbs < y.toInt.natAbs := by
  have hY : y.toInt ≠ 0 := fun z => hy (Int64.toInt_inj.mp (by rw [z]; rfl))
  have h2 : (x.toInt.tmod y.toInt).natAbs < y.toInt.natAbs := by
    rw [Int.natAbs_tmod]
    exact Nat.mod_lt _ (by omega)
  have b1 := Int64.toInt_lt y
  have b2 := Int64.le_toInt y
  have h1 := Int.mul_tdiv_add_tmod x.toInt y.toInt
  have e : (x - x / y * y).toInt = x.toInt.tmod y.toInt := by
    rw [Int64.toInt_sub, Int64.toInt_mul, Int64.toInt_div, Int.bmod_mul_bmod, Int.sub_bmod_bmod]
    have h3 : x.toInt - x.toInt.tdiv y.toInt * y.toInt = x.toInt.tmod y.toInt := by
      rw [Int.mul_comm]
      generalize y.toInt * x.toInt.tdiv y.toInt = z at *
      omega
    rw [h3]
    generalize x.toInt.tmod y.toInt = z at *
    rcases Int.natAbs_eq z with e1 | e1 <;> rcases Int.natAbs_eq y.toInt with e2 | e2 <;> apply Int.bmod_eq_of_le <;> omega
  rw [e]
  exact h2
theorem fe_irem {k : Nat} {M : rk_M2} {pc : Nat} {x y : Int32} {lc : fx_L} {r : List Value} {mem : fx_M} {F : Option Value × fx_M → Prop} (hat : tk_at M.1 pc = some (pc, .irem, 1)) (hy : ¬ y = 0) (kk : fe_R k M (pc + 1) lc (.int (x - x / y * y) :: r) mem F) : fe_R k M pc lc (.int y :: .int x :: r) mem F := by
  refine fe_s 1 (pc' := pc + 1) (lc' := lc) (stk' := .int (x - x / y * y) :: r) (mem' := mem) (fun N d n => ?_) kk
  refine fx_one (z := (pc + 1, lc, .int (x - x / y * y) :: r, mem)) hat rfl rfl ?_
  show (match (if y = 0 then none else some (pc + 1, lc, Value.int (x - x / y * y) :: r) : fx_R) with
    | some z => some (z.1, z.2.1, z.2.2, mem)
    | none => none) = _
  rw [if_neg hy]
theorem fe_tbd {k : Nat} {M : rk_M2} {pc pc' len : Nat} {d lo hi : Int} {offs : Array Int} {x : Int32} {lc : fx_L} {r : List Value} {mem : fx_M} {F : Option Value × fx_M → Prop} (hat : tk_at M.1 pc = some (pc, .tableswitch d lo hi offs, len)) (hl : rk_len (.tableswitch d lo hi offs) len = true) (h1 : (offs.toList.length : Int) = hi - lo + 1) (hx : x.toInt < lo ∨ hi < x.toInt) (hd : 0 ≤ (pc : Int) + d) (hp : fx_to pc d = pc') (kk : fe_R k M pc' lc r mem F) : fe_R k M pc lc (.int x :: r) mem F := by
  subst hp
  refine fe_s 1 (pc' := fx_to pc d) (lc' := lc) (stk' := r) (mem' := mem) (fun N d2 n => ?_) kk
  refine fx_one (z := (fx_to pc d, lc, r, mem)) hat hl rfl ?_
  show fx_tb pc d lo hi offs.toList lc (.int x :: r) mem = _
  have e : Op.lookupswitch.offset (tk_tp lo offs.toList) d x.toInt = d := by
    rcases tk_tp_ok d x.toInt offs.toList lo with ⟨-, e⟩ | ⟨i, e1, e2⟩
    · exact e
    · have := (List.getElem?_eq_some_iff.mp e2).1
      omega
  show cond (decide ((offs.toList.length : Int) = hi - lo + 1) && decide (0 ≤ (pc : Int) + Op.lookupswitch.offset (tk_tp lo offs.toList) d x.toInt)) (some (fx_to pc (Op.lookupswitch.offset (tk_tp lo offs.toList) d x.toInt), lc, r, mem)) none = _
  rw [e, decide_eq_true h1, decide_eq_true hd]
  rfl
def fm_sum (f : Nat → Int32) : Nat → Nat
  | 0 => 0
  | n + 1 => fm_sum f n + (f n).toInt.toNat
theorem fm_sum_out {f : Nat → Int32} {o : Nat} {v : Int32} : ∀ n, n ≤ o → fm_sum (upd f o v) n = fm_sum f n := by
  intro n
  induction n with
  | zero => intro _; rfl
  | succ n ih =>
    intro h
    show fm_sum (upd f o v) n + (upd f o v n).toInt.toNat = fm_sum f n + (f n).toInt.toNat
    rw [ih (by omega), pk_un (by omega)]
theorem fm_sum_upd {f : Nat → Int32} {o : Nat} {v : Int32} : ∀ n, o < n → fm_sum (upd f o v) n + (f o).toInt.toNat = fm_sum f n + v.toInt.toNat := by
  intro n
  induction n with
  | zero => intro h; exact absurd h (Nat.not_lt_zero _)
  | succ n ih =>
    intro h
    show fm_sum (upd f o v) n + (upd f o v n).toInt.toNat + (f o).toInt.toNat = fm_sum f n + (f n).toInt.toNat + v.toInt.toNat
    by_cases e : n = o
    · subst e
      rw [fm_sum_out n (Nat.le_refl _), pk_us]
      omega
    · rw [pk_un e]
      have := ih (by omega)
      omega
theorem fm_pos1 {x : Int32} (h : fx_cb .le x 0 = false) : 0 < x.toInt ∧ (x - 1).toInt.toNat + 1 = x.toInt.toNat := by
  have h1 : ¬ x ≤ 0 := of_decide_eq_false h
  have h2 : 0 < x.toInt := by
    rw [Int32.le_iff_toInt_le, show ((0 : Int32).toInt) = 0 from rfl] at h1
    omega
  have h3 := x.toInt_lt
  have e : (x - 1).toInt = x.toInt - 1 := by
    rw [Int32.toInt_sub, show ((1 : Int32).toInt) = 1 from rfl]
    apply Int.bmod_eq_of_le <;> omega
  rw [e]
  omega
theorem fm_sub0 (x : Int32) : x - 0 = x := by
  apply Int32.toInt_inj.mp
  rw [Int32.toInt_sub, show ((0 : Int32).toInt) = 0 from rfl, Int.sub_zero]
  have h1 := x.le_toInt
  have h2 := x.toInt_lt
  apply Int.bmod_eq_of_le <;> omega
/-- a row of TALES: its numbers -/
theorem fm_row_m {a0 : Nat → Nat → Int32} (hB : fm_B a0) {k : Nat} (hk : k < 60) : ∃ m, m ≤ 1922 ∧ a0 1 (478 + 6 * k) = nI m := by
  have hg : ∀ k, k < 60 → gm_at (478 + 6 * k) = (0, 1922) := by decide
  exact fm_B_0 hB (n := 1922) (by omega) (hg k hk)
theorem fm_row_o {a0 : Nat → Nat → Int32} (hB : fm_B a0) {k : Nat} (hk : k < 60) : ∃ m, m ≤ 59 ∧ a0 1 (482 + 6 * k) = nI m := by
  have hg : ∀ k, k < 60 → gm_at (482 + 6 * k) = (0, 59) := by decide
  exact fm_B_0 hB (n := 59) (by omega) (hg k hk)
theorem fm_row_ro {a0 : Nat → Nat → Int32} (hB : fm_B a0) {k N : Nat} (hN : a0 1 6 = nI N) (hN6 : N ≤ 60) (hk : k < N) : fm_ro (a0 1 (478 + 6 * k)) (a0 1 (479 + 6 * k)) := by
  have := hB.2.1.2 0 (by omega) k
  rw [show 842 * 0 + 6 = 6 from rfl, hN, nI_i32 (by omega), show 842 * 0 + 478 + 6 * k = 478 + 6 * k by omega, show 842 * 0 + 479 + 6 * k = 479 + 6 * k by omega] at this
  exact this (by omega)
theorem fm_dyn_hi {i : Nat} (h : 478 ≤ i) : fm_dyn i = false := by
  cases hd : fm_dyn i
  · rfl
  · have := fm_dyn_lt hd; omega
theorem fm_D_hi {a0 a : Nat → Nat → Int32} {T i : Nat} (hD : fm_D a0 a T) (h : 478 ≤ i) : a 1 i = a0 1 i := fm_D_h hD (by omega) (fm_dyn_hi h)
theorem fm_ro_7 {x y : Int32} (h : fm_ro x y) (hx : x = 11 ∨ x = 1810 ∨ x = 1822) : ∃ w, w < 8 ∧ y = nI w := by
  obtain ⟨h1, h2⟩ := h.1 hx
  obtain ⟨w, h3, h4⟩ := nI_bd (n := 7) h1 h2
  exact ⟨w, by omega, h4⟩
theorem fm_ro_9 {x y : Int32} (h : fm_ro x y) (hx : 1800 ≤ x.toInt) : ∃ w, w < 10 ∧ y = nI w := by
  obtain ⟨h1, h2⟩ := h.2.1 hx
  obtain ⟨w, h3, h4⟩ := nI_bd (n := 9) h1 h2
  exact ⟨w, by omega, h4⟩
theorem fm_ro_20 {x y : Int32} (h : fm_ro x y) (hx : x = 12) : ∃ w, w ≤ 20 ∧ y = nI w := by
  obtain ⟨h1, h2⟩ := h.2.2 hx
  exact nI_bd (n := 20) h1 h2
/-- taken back: the LAKE is as it was kept -/
theorem fm_restD {a a0 a1 a9 : Nat → Nat → Int32} {to T T1 : Nat} (ht : to = 4210 ∨ to = 5052) (h : fm_K a a0 to) (hB : fm_B a0) (h0 : fm_D a0 a0 T) (hD : fm_D a0 a1 T1) (hr : fm_Rs a1 a9 to) : fm_D a0 a9 T := by
  obtain ⟨k1, k2, k3⟩ := h
  obtain ⟨r1, r2, r3⟩ := hr
  have he : ∀ i, a9 1 i = a0 1 i := fun i => by
    rcases Nat.lt_or_ge i 478 with hi | hi
    · rw [r3 i hi, fm_D_hi hD (by omega), k3 i hi, k2 i (by omega)]
    · rw [r2 i hi, fm_D_hi hD hi]
  refine ⟨fun t ht2 => ?_, fun i _ _ => he i, fun i hi => fm_bd_eq (h0.2.2.1 i hi) (he i), by rw [he]; exact h0.2.2.2.1, h0.2.2.2.2.1, fun i hi => by rw [r1 9 (by decide)]; exact hD.2.2.2.2.2 i hi⟩
  rw [r1 t (fun e => by subst e; exact absurd ht2 (by decide))]
  exact hD.1 t ht2
section FTW
variable {g : Nat → Int32} {tp bt : Int64} {a : Nat → Nat → Int32} {b : Nat → Nat → Int64}
theorem fr_tellsByX {n d : Int64} (hd : ¬ d = 0) : ∃ (v : Option Value) (mem' : fx_M), (fun R => ∃ t u : Int64, R = (some (.int 1), fm (upd g 2 0) t u a b)) (v, mem') ∧ fr_T 3 210 [.ref 0, .long n, .long d] (fm g tp bt a b) v mem' := by
  refine fe_meth (F := fun R => ∃ t u : Int64, R = (some (.int 1), fm (upd g 2 0) t u a b)) (M := gk_m210) (by rfl) (by rfl) ?_
  have h0 : (0 : Int64).toInt = 0 := rfl
  have loop : ∀ (r : Nat) (x y : Int64), y.toInt.natAbs < r → (¬ x = 0 ∨ ¬ y = 0) → fe_R 2 gk_m210 6 [(7, .long y), (5, .long x), (0, .ref 0), (1, .long n), (3, .long d)] [] (fm g tp bt a b) (fun R => ∃ t u : Int64, R = (some (.int 1), fm (upd g 2 0) t u a b)) := by
    intro r
    induction r with
    | zero => intro x y h; exact absurd h (Nat.not_lt_zero _)
    | succ r ih =>
      intro x y hr hxy
      refine fe_s 3 (pc' := 10) (lc' := [(7, .long y), (5, .long x), (0, .ref 0), (1, .long n), (3, .long d)]) (stk' := [.int (lg_cmp y 0)]) (mem' := fm g tp bt a b) (by intro _ _ _; eq_refl) ?_
      refine fe_s 1 (pc' := cond (fx_cb .eq (lg_cmp y 0) 0) 31 13) (lc' := [(7, .long y), (5, .long x), (0, .ref 0), (1, .long n), (3, .long d)]) (stk' := []) (mem' := fm g tp bt a b) (by intro _ _ _; eq_refl) ?_
      cases h1 : fx_cb .eq (lg_cmp y 0) 0
      · refine fe_s 2 (pc' := 17) (lc' := [(7, .long y), (5, .long x), (0, .ref 0), (1, .long n), (3, .long d)]) (stk' := [.long y, .long x]) (mem' := fm g tp bt a b) (by intro _ _ _; eq_refl) ?_
        have hy0 := fm_i64 h1
        have hm := fm_lrem_abs (x := x) (y := y) hy0
        refine fe_lrem (by rfl) hy0 ?_
        refine fe_s 6 (pc' := 6) (lc' := [(7, .long (x - x / y * y)), (5, .long y), (9, .long (x - x / y * y)), (0, .ref 0), (1, .long n), (3, .long d)]) (stk' := []) (mem' := fm g tp bt a b) (by intro _ _ _; eq_refl) ?_
        refine fe_w (lc' := [(7, .long (x - x / y * y)), (5, .long y), (0, .ref 0), (1, .long n), (3, .long d)]) ⟨rfl, rfl, rfl, rfl, rfl, trivial⟩ (by show List.Nodup [7, 5, 0, 1, 3]; decide) (by show List.Nodup [7, 5, 9, 0, 1, 3]; decide) ?_
        exact ih y (x - x / y * y) (by omega) (Or.inl hy0)
      · obtain rfl := fm_i64e h1
        have hx0 : ¬ x = 0 := hxy.elim id (fun z => absurd rfl z)
        refine fe_s 3 (pc' := 35) (lc' := [(7, .long 0), (5, .long x), (0, .ref 0), (1, .long n), (3, .long d)]) (stk' := [.long x, .long n, .ref 0]) (mem' := fm g tp bt a b) (by intro _ _ _; eq_refl) ?_
        refine fe_ldiv (by rfl) hx0 ?_
        refine fe_s 4 (pc' := 43) (lc' := [(7, .long 0), (5, .long x), (0, .ref 0), (1, .long n), (3, .long d)]) (stk' := [.long x, .long d, .ref 0]) (mem' := fm g (n / x) bt a b) (by intro _ _ _; eq_refl) ?_
        refine fe_ldiv (by rfl) hx0 ?_
        refine fe_s 3 (pc' := 49) (lc' := [(7, .long 0), (5, .long x), (0, .ref 0), (1, .long n), (3, .long d)]) (stk' := [.int 0, .ref 0]) (mem' := fm g (n / x) (d / x) a b) (by intro _ _ _; eq_refl) ?_
        refine fe_ivV fr_is0 (by omega) (by rfl) (by rfl) (by rfl) (by rfl) (by rfl) (by rfl) ?_
        exact fe_ret ⟨n / x, d / x, rfl⟩ (by rfl) (by rfl) (by rfl)
  refine fe_s 4 (pc' := 6) (lc' := [(7, .long d), (5, .long n), (0, .ref 0), (1, .long n), (3, .long d)]) (stk' := []) (mem' := fm g tp bt a b) (by intro _ _ _; eq_refl) ?_
  exact loop (d.toInt.natAbs + 1) n d (by omega) (Or.inr hd)
end FTW
end MH7_2
section MH7_3
/-! ===== fx: who lives: an order of the TALES is done ===== -/
section FLV
variable {g : Nat → Int32} {tp bt : Int64} {a0 a : Nat → Nat → Int32} {b : Nat → Nat → Int64}
theorem fr_sendsBy {T : Nat} {W : Nat} {to : Int32} (hB : fm_B a0) (hD : fm_D a0 a T) (hW : W < 8) : ∃ (v : Option Value) (mem' : fx_M), (fun R => ∃ v : Int32, (v = 0 ∨ v = 1) ∧ ∃ a' : Nat → Nat → Int32, fm_D a0 a' T ∧ R = (some (.int v), fm g tp bt a' b)) (v, mem') ∧ fr_T 9 359 [.ref 0, .int (nI W), .int to] (fm g tp bt a b) v mem' := by
  obtain ⟨NC, hNC, eNC⟩ := fm_B_0 hB (i := 0) (n := 10) (by decide) rfl
  obtain ⟨NW, hNW, eNW⟩ := fm_B_0 hB (i := 1) (n := 8) (by decide) rfl
  have hT9 := hD.2.2.2.2.1
  refine fe_meth (F := fun R => ∃ v : Int32, (v = 0 ∨ v = 1) ∧ ∃ a' : Nat → Nat → Int32, fm_D a0 a' T ∧ R = (some (.int v), fm g tp bt a' b)) (M := gk_m359) (by rfl) (by rfl) ?_
  refine fe_s 3 (pc' := 3) (lc' := [(0, .ref 0), (1, .int (nI W)), (2, .int to)]) (stk' := [.int to, .int (nI W), .ref 0]) (mem' := fm g tp bt a b) (by intro _ _ _; eq_refl) ?_
  obtain ⟨ve1, meme1, ⟨xe1, qe1, hxe1, hRe1, hse1⟩, hfre1⟩ := fr_sends (g := g) (tp := tp) (bt := bt) (b := b) (W := W) (to := to) (fm_D_t hB hD) (fm_D_sym hB hD) hD.2.2.2.2.2 (by omega)
  cases hRe1
  have hDe1 := fm_D_sent hD (by omega) hse1
  refine fe_ivV hfre1 (by omega) (by rfl) (by rfl) (by rfl) (by rfl) (by rfl) (by rfl) ?_
  rcases hxe1 with rfl | rfl | rfl
  · refine fe_s 1 (pc' := cond (fx_cb .le 0 0) 11 9) (lc' := [(0, .ref 0), (1, .int (nI W)), (2, .int to)]) (stk' := []) (mem' := fm g tp bt qe1 b) (by intro _ _ _; eq_refl) ?_
    rw [show (fx_cb .le 0 0) = true from by decide]
    dsimp only [cond]
    refine fe_s 4 (pc' := 17) (lc' := [(0, .ref 0), (1, .int (nI W)), (2, .int to)]) (stk' := [.int 2, .ref 20, .int 2, .ref 20]) (mem' := fm g tp bt qe1 b) (by intro _ _ _; eq_refl) ?_
    refine fe_ldI (by rfl) (by rfl) (fx_inN (i := 2) (by omega) (by omega)) ?_
    rw [show Int32.toNatClampNeg (2) = 2 from rfl]
    refine fe_s 2 (pc' := 20) (lc' := [(0, .ref 0), (1, .int (nI W)), (2, .int to)]) (stk' := [.int ((qe1 20 2) + 1), .int 2, .ref 20]) (mem' := fm g tp bt qe1 b) (by intro _ _ _; eq_refl) ?_
    refine fe_stI (mem' := fm g tp bt (fm_u qe1 20 (2 : Int32).toNatClampNeg ((qe1 20 2) + 1)) b) (by rfl) (by rfl) (fx_inN (i := 2) (by omega) (by omega)) fm_si20 ?_
    rw [show Int32.toNatClampNeg (2) = 2 from rfl]
    obtain ⟨at2, hat2⟩ : ∃ z, z = fm_u qe1 20 (2) ((qe1 20 2) + 1) := ⟨_, rfl⟩
    rw [← hat2]
    have hDt2 : fm_D a0 at2 T := by rw [hat2]; exact fm_D_ot hDe1 (by decide) (by decide) rfl
    refine fe_s 1 (pc' := 22) (lc' := [(0, .ref 0), (1, .int (nI W)), (2, .int to)]) (stk' := [.int 1]) (mem' := fm g tp bt at2 b) (by intro _ _ _; eq_refl) ?_
    exact fe_ret ⟨_, Or.inr rfl, _, hDt2, rfl⟩ (by rfl) (by rfl) (by rfl)
  · refine fe_s 1 (pc' := cond (fx_cb .le 6 0) 11 9) (lc' := [(0, .ref 0), (1, .int (nI W)), (2, .int to)]) (stk' := []) (mem' := fm g tp bt qe1 b) (by intro _ _ _; eq_refl) ?_
    rw [show (fx_cb .le 6 0) = false from by decide]
    dsimp only [cond]
    refine fe_s 1 (pc' := 10) (lc' := [(0, .ref 0), (1, .int (nI W)), (2, .int to)]) (stk' := [.int 0]) (mem' := fm g tp bt qe1 b) (by intro _ _ _; eq_refl) ?_
    exact fe_ret ⟨_, Or.inl rfl, _, hDe1, rfl⟩ (by rfl) (by rfl) (by rfl)
  · refine fe_s 1 (pc' := cond (fx_cb .le 7 0) 11 9) (lc' := [(0, .ref 0), (1, .int (nI W)), (2, .int to)]) (stk' := []) (mem' := fm g tp bt qe1 b) (by intro _ _ _; eq_refl) ?_
    rw [show (fx_cb .le 7 0) = false from by decide]
    dsimp only [cond]
    refine fe_s 1 (pc' := 10) (lc' := [(0, .ref 0), (1, .int (nI W)), (2, .int to)]) (stk' := [.int 0]) (mem' := fm g tp bt qe1 b) (by intro _ _ _; eq_refl) ?_
    exact fe_ret ⟨_, Or.inl rfl, _, hDe1, rfl⟩ (by rfl) (by rfl) (by rfl)
set_option maxRecDepth 20000 in
theorem fr_draw {n d : Nat} (hn : 0 < n) (hn9 : n ≤ 10) (hd : g 36 = nI d) (hd9 : d ≤ 65535) : ∃ (v : Option Value) (mem' : fx_M), (fun R => ∃ d' k : Nat, d' ≤ 65535 ∧ k < n ∧ R = (some (.int (nI k)), fm (upd g 36 (nI d')) tp bt a b)) (v, mem') ∧ fr_T 1 358 [.ref 0, .int (nI n)] (fm g tp bt a b) v mem' := by
  refine fe_meth (F := fun R => ∃ d' k : Nat, d' ≤ 65535 ∧ k < n ∧ R = (some (.int (nI k)), fm (upd g 36 (nI d')) tp bt a b)) (M := gk_m358) (by rfl) (by rfl) ?_
  have e : ((g 36) * 2999 + 11177) - ((g 36) * 2999 + 11177) / 65536 * 65536 = nI ((d * 2999 + 11177) % 65536) := by
    rw [hd, show (nI d * 2999 + 11177 : Int32) = nI (d * 2999 + 11177) from by rw [show (2999 : Int32) = nI 2999 from rfl, show (11177 : Int32) = nI 11177 from rfl, fm_mul, nI_add]]
    rw [show (65536 : Int32) = nI 65536 from rfl]
    exact pk_rem (a := d * 2999 + 11177) (d := 65536) (by omega) (by omega) (by omega)
  refine fe_s 15 (pc' := 28) (lc' := [(0, .ref 0), (1, .int (nI n))]) (stk' := [.int (nI n), .int ((((g 36) * 2999 + 11177) - ((g 36) * 2999 + 11177) / 65536 * 65536) / 8)]) (mem' := fm (upd g 36 (((g 36) * 2999 + 11177) - ((g 36) * 2999 + 11177) / 65536 * 65536)) tp bt a b) (by intro _ _ _; eq_refl) ?_
  rw [e]
  have hq : (d * 2999 + 11177) % 65536 < 65536 := Nat.mod_lt _ (by omega)
  generalize (d * 2999 + 11177) % 65536 = q at hq
  rw [show (nI q / 8 : Int32) = nI (q / 8) from pk_div (a := q) (d := 8) (by omega) (by omega) (by omega)]
  have hq8 : q / 8 < 65536 := by omega
  generalize q / 8 = q8 at hq8
  refine fe_irem (by rfl) (nI_ne0 (by omega) (by omega)) ?_
  rw [show (nI q8 - nI q8 / nI n * nI n : Int32) = nI (q8 % n) from pk_rem (by omega) (by omega) (by omega)]
  exact fe_ret ⟨q, q8 % n, by omega, Nat.mod_lt _ (by omega), rfl⟩ (by rfl) (by rfl) (by rfl)
theorem fr_stepsOn {T : Nat} {m : Nat} (hB : fm_B a0) (hD : fm_D a0 a T) (hm : m ≤ 20) (hT : T ≤ 9999) : ∃ (v : Option Value) (mem' : fx_M), (fun R => ∃ (v : Int32) (a' : Nat → Nat → Int32) (T' : Nat), (v = 0 ∨ v = 1) ∧ T' ≤ 9999 ∧ fm_D a0 a' T' ∧ R = (some (.int v), fm g tp bt a' b)) (v, mem') ∧ fr_T 9 361 [.ref 0, .int (nI m)] (fm g tp bt a b) v mem' := by
  obtain ⟨NC, hNC, eNC⟩ := fm_B_0 hB (i := 0) (n := 10) (by decide) rfl
  obtain ⟨NW, hNW, eNW⟩ := fm_B_0 hB (i := 1) (n := 8) (by decide) rfl
  have hT9 := hD.2.2.2.2.1
  refine fe_meth (F := fun R => ∃ (v : Int32) (a' : Nat → Nat → Int32) (T' : Nat), (v = 0 ∨ v = 1) ∧ T' ≤ 9999 ∧ fm_D a0 a' T' ∧ R = (some (.int v), fm g tp bt a' b)) (M := gk_m361) (by rfl) (by rfl) ?_
  refine fe_s 3 (pc' := 5) (lc' := [(0, .ref 0), (1, .int (nI m))]) (stk' := [.int 5, .ref 1]) (mem' := fm g tp bt a b) (by intro _ _ _; eq_refl) ?_
  refine fe_ldI (by rfl) (by rfl) (fx_inN (i := 5) (by omega) (by omega)) ?_
  rw [show Int32.toNatClampNeg (5) = 5 from rfl]
  rw [show a 1 5 = nI T from hD.2.2.2.1]
  refine fe_s 3 (pc' := 11) (lc' := [(0, .ref 0), (1, .int (nI m))]) (stk' := [.int 9999, .int ((nI T) + (nI m))]) (mem' := fm g tp bt a b) (by intro _ _ _; eq_refl) ?_
  rw [show ((nI T) + (nI m) : Int32) = nI (T + m) from by simp only [nI_add, fm_mul]]
  refine fe_s 1 (pc' := cond (fx_cb .le (nI (T + m)) 9999) 16 14) (lc' := [(0, .ref 0), (1, .int (nI m))]) (stk' := []) (mem' := fm g tp bt a b) (by intro _ _ _; eq_refl) ?_
  by_cases h1 : (T + m) ≤ 9999
  · rw [show (fx_cb .le (nI (T + m)) 9999) = true from cb_leT (a := T + m) (b := 9999) (by omega) (by omega) (by omega)]
    dsimp only [cond]
    refine fe_s 2 (pc' := 18) (lc' := [(2, .int 0), (0, .ref 0), (1, .int (nI m))]) (stk' := []) (mem' := fm g tp bt a b) (by intro _ _ _; eq_refl) ?_
    have loop2 : ∀ (r i2 : Nat), i2 + r = m → ∀ (a_2 : Nat → Nat → Int32) (T_2 : Nat), T_2 ≤ T + i2 → fm_D a0 a_2 T_2 → fe_R 8 gk_m361 18 [(2, .int (nI i2)), (0, .ref 0), (1, .int (nI m))] [] (fm g tp bt a_2 b) (fun R => ∃ (v : Int32) (a' : Nat → Nat → Int32) (T' : Nat), (v = 0 ∨ v = 1) ∧ T' ≤ 9999 ∧ fm_D a0 a' T' ∧ R = (some (.int v), fm g tp bt a' b)) := by
      intro r
      induction r with
      | zero =>
        intro i2 hi2 a_2 T_2 hT2 hD_2
        obtain rfl : m = i2 := by omega
        refine fe_s 2 (pc' := 20) (lc' := [(2, .int (nI m)), (0, .ref 0), (1, .int (nI m))]) (stk' := [.int (nI m), .int (nI m)]) (mem' := fm g tp bt a_2 b) (by intro _ _ _; eq_refl) ?_
        refine fe_s 1 (pc' := cond (fx_cb .ge (nI m) (nI m)) 45 23) (lc' := [(2, .int (nI m)), (0, .ref 0), (1, .int (nI m))]) (stk' := []) (mem' := fm g tp bt a_2 b) (by intro _ _ _; eq_refl) ?_
        rw [show (fx_cb .ge (nI m) (nI m)) = true from cb_geT (a := m) (b := m) (by omega) (by omega) (by omega)]
        dsimp only [cond]
        refine fe_s 4 (pc' := 51) (lc' := [(2, .int (nI m)), (0, .ref 0), (1, .int (nI m))]) (stk' := [.int 1, .ref 20, .int 1, .ref 20]) (mem' := fm g tp bt a_2 b) (by intro _ _ _; eq_refl) ?_
        refine fe_ldI (by rfl) (by rfl) (fx_inN (i := 1) (by omega) (by omega)) ?_
        rw [show Int32.toNatClampNeg (1) = 1 from rfl]
        refine fe_s 2 (pc' := 54) (lc' := [(2, .int (nI m)), (0, .ref 0), (1, .int (nI m))]) (stk' := [.int ((a_2 20 1) + (nI m)), .int 1, .ref 20]) (mem' := fm g tp bt a_2 b) (by intro _ _ _; eq_refl) ?_
        refine fe_stI (mem' := fm g tp bt (fm_u a_2 20 (1 : Int32).toNatClampNeg ((a_2 20 1) + (nI m))) b) (by rfl) (by rfl) (fx_inN (i := 1) (by omega) (by omega)) fm_si20 ?_
        rw [show Int32.toNatClampNeg (1) = 1 from rfl]
        obtain ⟨at3, hat3⟩ : ∃ z, z = fm_u a_2 20 (1) ((a_2 20 1) + (nI m)) := ⟨_, rfl⟩
        rw [← hat3]
        have hDt3 : fm_D a0 at3 T_2 := by rw [hat3]; exact fm_D_ot hD_2 (by decide) (by decide) rfl
        refine fe_s 1 (pc' := 56) (lc' := [(2, .int (nI m)), (0, .ref 0), (1, .int (nI m))]) (stk' := [.int 1]) (mem' := fm g tp bt at3 b) (by intro _ _ _; eq_refl) ?_
        exact fe_ret ⟨_, _, _, Or.inr rfl, by omega, hDt3, rfl⟩ (by rfl) (by rfl) (by rfl)
      | succ r ih2 =>
        intro i2 hi2 a_2 T_2 hT2 hD_2
        have hl2 : i2 < m := by omega
        refine fe_s 2 (pc' := 20) (lc' := [(2, .int (nI i2)), (0, .ref 0), (1, .int (nI m))]) (stk' := [.int (nI m), .int (nI i2)]) (mem' := fm g tp bt a_2 b) (by intro _ _ _; eq_refl) ?_
        refine fe_s 1 (pc' := cond (fx_cb .ge (nI i2) (nI m)) 45 23) (lc' := [(2, .int (nI i2)), (0, .ref 0), (1, .int (nI m))]) (stk' := []) (mem' := fm g tp bt a_2 b) (by intro _ _ _; eq_refl) ?_
        rw [show (fx_cb .ge (nI i2) (nI m)) = false from cb_geF (a := i2) (b := m) (by omega) (by omega) (by omega)]
        dsimp only [cond]
        refine fe_s 4 (pc' := 29) (lc' := [(2, .int (nI i2)), (0, .ref 0), (1, .int (nI m))]) (stk' := [.int 3, .ref 20, .int 3, .ref 20]) (mem' := fm g tp bt a_2 b) (by intro _ _ _; eq_refl) ?_
        refine fe_ldI (by rfl) (by rfl) (fx_inN (i := 3) (by omega) (by omega)) ?_
        rw [show Int32.toNatClampNeg (3) = 3 from rfl]
        refine fe_s 1 (pc' := 31) (lc' := [(2, .int (nI i2)), (0, .ref 0), (1, .int (nI m))]) (stk' := [.ref 0, .int (a_2 20 3), .int 3, .ref 20]) (mem' := fm g tp bt a_2 b) (by intro _ _ _; eq_refl) ?_
        obtain ⟨vd4, memd4, ⟨xd4, ad4, hDd4, hRd4⟩, hfrd4⟩ := fr_goes (T := T_2) (g := g) (tp := tp) (bt := bt) (a := a_2) (b := b) hB hD_2 (by omega)
        cases hRd4
        refine fe_ivV hfrd4 (by omega) (by rfl) (by rfl) (by rfl) (by rfl) (by rfl) (by rfl) ?_
        obtain ⟨vb5, hfrb5⟩ := fr_bits (x := xd4) (mem := fm g tp bt ad4 b)
        refine fe_ivS hfrb5 (by omega) (by rfl) (by rfl) (by rfl) (by rfl) (by rfl) ?_
        refine fe_s 1 (pc' := 38) (lc' := [(2, .int (nI i2)), (0, .ref 0), (1, .int (nI m))]) (stk' := [.int ((a_2 20 3) + vb5), .int 3, .ref 20]) (mem' := fm g tp bt ad4 b) (by intro _ _ _; eq_refl) ?_
        refine fe_stI (mem' := fm g tp bt (fm_u ad4 20 (3 : Int32).toNatClampNeg ((a_2 20 3) + vb5)) b) (by rfl) (by rfl) (fx_inN (i := 3) (by omega) (by omega)) fm_si20 ?_
        rw [show Int32.toNatClampNeg (3) = 3 from rfl]
        obtain ⟨at6, hat6⟩ : ∃ z, z = fm_u ad4 20 (3) ((a_2 20 3) + vb5) := ⟨_, rfl⟩
        rw [← hat6]
        have hDt6 : fm_D a0 at6 (T_2 + 1) := by rw [hat6]; exact fm_D_ot hDd4 (by decide) (by decide) rfl
        refine fe_s 2 (pc' := 18) (lc' := [(2, .int ((nI i2) + 1)), (0, .ref 0), (1, .int (nI m))]) (stk' := []) (mem' := fm g tp bt at6 b) (by intro _ _ _; eq_refl) ?_
        rw [show ((nI i2) + 1 : Int32) = nI (i2 + 1) from by simp only [show (1 : Int32) = nI 1 from rfl, nI_add, fm_mul]]
        exact ih2 (i2 + 1) (by omega) at6 (T_2 + 1) (by omega) hDt6
    exact loop2 (m) 0 (by omega) a T (by omega) hD
  · rw [show (fx_cb .le (nI (T + m)) 9999) = false from cb_leF (a := T + m) (b := 9999) (by omega) (by omega) (by omega)]
    dsimp only [cond]
    refine fe_s 1 (pc' := 15) (lc' := [(0, .ref 0), (1, .int (nI m))]) (stk' := [.int 0]) (mem' := fm g tp bt a b) (by intro _ _ _; eq_refl) ?_
    exact fe_ret ⟨_, _, _, Or.inl rfl, by omega, hD, rfl⟩ (by rfl) (by rfl) (by rfl)
theorem fr_sendsAny {T : Nat} {d : Nat} (hB : fm_B a0) (hD : fm_D a0 a T) (hT : T ≤ 9999) (hd36 : g 36 = nI d) (hd9 : d ≤ 65535) : ∃ (v : Option Value) (mem' : fx_M), (fun R => ∃ (v : Int32) (g' : Nat → Int32) (a' : Nat → Nat → Int32) (T' d' : Nat), (v = 0 ∨ v = 1) ∧ T' ≤ 9999 ∧ d' ≤ 65535 ∧ (∀ j, j ≠ 36 → g' j = g j) ∧ g' 36 = nI d' ∧ fm_D a0 a' T' ∧ R = (some (.int v), fm g' tp bt a' b)) (v, mem') ∧ fr_T 10 360 [.ref 0] (fm g tp bt a b) v mem' := by
  obtain ⟨NC, hNC, eNC⟩ := fm_B_0 hB (i := 0) (n := 10) (by decide) rfl
  obtain ⟨NW, hNW, eNW⟩ := fm_B_0 hB (i := 1) (n := 8) (by decide) rfl
  have hT9 := hD.2.2.2.2.1
  refine fe_meth (F := fun R => ∃ (v : Int32) (g' : Nat → Int32) (a' : Nat → Nat → Int32) (T' d' : Nat), (v = 0 ∨ v = 1) ∧ T' ≤ 9999 ∧ d' ≤ 65535 ∧ (∀ j, j ≠ 36 → g' j = g j) ∧ g' 36 = nI d' ∧ fm_D a0 a' T' ∧ R = (some (.int v), fm g' tp bt a' b)) (M := gk_m360) (by rfl) (by rfl) ?_
  refine fe_s 3 (pc' := 5) (lc' := [(0, .ref 0)]) (stk' := [.int 1, .ref 1]) (mem' := fm g tp bt a b) (by intro _ _ _; eq_refl) ?_
  refine fe_ldI (by rfl) (by rfl) (fx_inN (i := 1) (by omega) (by omega)) ?_
  rw [show Int32.toNatClampNeg (1) = 1 from rfl]
  rw [show a 1 1 = nI NW from (fm_D_h hD (by decide) rfl).trans eNW]
  refine fe_s 1 (pc' := cond (fx_cb .eq (nI NW) 0) 18 9) (lc' := [(0, .ref 0)]) (stk' := []) (mem' := fm g tp bt a b) (by intro _ _ _; eq_refl) ?_
  by_cases h1 : NW = 0
  · rw [show (fx_cb .eq (nI NW) 0) = true from cb_eqT (a := NW) (b := 0) (by omega) (by omega) (by omega)]
    dsimp only [cond]
    refine fe_s 1 (pc' := 19) (lc' := [(0, .ref 0)]) (stk' := [.int 0]) (mem' := fm g tp bt a b) (by intro _ _ _; eq_refl) ?_
    exact fe_ret ⟨_, _, _, _, _, Or.inl rfl, by omega, by omega, (fun _ _ => rfl), hd36, hD, rfl⟩ (by rfl) (by rfl) (by rfl)
  · rw [show (fx_cb .eq (nI NW) 0) = false from cb_eqF (a := NW) (b := 0) (by omega) (by omega) (by omega)]
    dsimp only [cond]
    refine fe_s 3 (pc' := 14) (lc' := [(0, .ref 0)]) (stk' := [.int 0, .ref 1]) (mem' := fm g tp bt a b) (by intro _ _ _; eq_refl) ?_
    refine fe_ldI (by rfl) (by rfl) (fx_inN (i := 0) (by omega) (by omega)) ?_
    rw [show Int32.toNatClampNeg (0) = 0 from rfl]
    rw [show a 1 0 = nI NC from (fm_D_h hD (by decide) rfl).trans eNC]
    refine fe_s 1 (pc' := cond (fx_cb .ne (nI NC) 0) 20 18) (lc' := [(0, .ref 0)]) (stk' := []) (mem' := fm g tp bt a b) (by intro _ _ _; eq_refl) ?_
    by_cases h2 : NC = 0
    · rw [show (fx_cb .ne (nI NC) 0) = false from cb_neF (a := NC) (b := 0) (by omega) (by omega) (by omega)]
      dsimp only [cond]
      refine fe_s 1 (pc' := 19) (lc' := [(0, .ref 0)]) (stk' := [.int 0]) (mem' := fm g tp bt a b) (by intro _ _ _; eq_refl) ?_
      exact fe_ret ⟨_, _, _, _, _, Or.inl rfl, by omega, by omega, (fun _ _ => rfl), hd36, hD, rfl⟩ (by rfl) (by rfl) (by rfl)
    · rw [show (fx_cb .ne (nI NC) 0) = true from cb_neT (a := NC) (b := 0) (by omega) (by omega) (by omega)]
      dsimp only [cond]
      refine fe_s 4 (pc' := 26) (lc' := [(0, .ref 0)]) (stk' := [.int 1, .ref 1, .ref 0]) (mem' := fm g tp bt a b) (by intro _ _ _; eq_refl) ?_
      refine fe_ldI (by rfl) (by rfl) (fx_inN (i := 1) (by omega) (by omega)) ?_
      rw [show Int32.toNatClampNeg (1) = 1 from rfl]
      rw [show a 1 1 = nI NW from (fm_D_h hD (by decide) rfl).trans eNW]
      obtain ⟨vd3, memd3, ⟨dd3, kd3, hdd3, hkd3, hRd3⟩, hfrd3⟩ := fr_draw (n := NW) (d := d) (g := g) (tp := tp) (bt := bt) (a := a) (b := b) (by omega) (by omega) hd36 (by omega)
      cases hRd3
      have hgfd3 : ∀ j, j ≠ 36 → (upd g 36 (nI dd3)) j = g j := fun j hj => (pk_un hj).trans ((fun _ _ => rfl) j hj)
      refine fe_ivV hfrd3 (by omega) (by rfl) (by rfl) (by rfl) (by rfl) (by rfl) (by rfl) ?_
      refine fe_s 7 (pc' := 39) (lc' := [(1, .int (nI kd3)), (0, .ref 0)]) (stk' := [.int 0, .ref 1, .ref 0, .int (nI kd3), .ref 0]) (mem' := fm (upd g 36 (nI dd3)) tp bt a b) (by intro _ _ _; eq_refl) ?_
      refine fe_ldI (by rfl) (by rfl) (fx_inN (i := 0) (by omega) (by omega)) ?_
      rw [show Int32.toNatClampNeg (0) = 0 from rfl]
      rw [show a 1 0 = nI NC from (fm_D_h hD (by decide) rfl).trans eNC]
      obtain ⟨vd4, memd4, ⟨dd4, kd4, hdd4, hkd4, hRd4⟩, hfrd4⟩ := fr_draw (n := NC) (d := dd3) (g := (upd g 36 (nI dd3))) (tp := tp) (bt := bt) (a := a) (b := b) (by omega) (by omega) rfl (by omega)
      cases hRd4
      have hgfd4 : ∀ j, j ≠ 36 → (upd (upd g 36 (nI dd3)) 36 (nI dd4)) j = g j := fun j hj => (pk_un hj).trans (hgfd3 j hj)
      refine fe_ivV hfrd4 (by omega) (by rfl) (by rfl) (by rfl) (by rfl) (by rfl) (by rfl) ?_
      obtain ⟨ve5, meme5, ⟨xe5, hxe5, ae5, hDe5, hRe5⟩, hfre5⟩ := fr_sendsBy (W := kd3) (to := nI kd4) (g := (upd (upd g 36 (nI dd3)) 36 (nI dd4))) (tp := tp) (bt := bt) (a := a) (b := b) hB hD (by omega)
      cases hRe5
      refine fe_ivV hfre5 (by omega) (by rfl) (by rfl) (by rfl) (by rfl) (by rfl) (by rfl) ?_
      rcases hxe5 with rfl | rfl
      · exact fe_ret ⟨_, _, _, _, _, Or.inl rfl, by omega, by omega, hgfd4, rfl, hDe5, rfl⟩ (by rfl) (by rfl) (by rfl)
      · exact fe_ret ⟨_, _, _, _, _, Or.inr rfl, by omega, by omega, hgfd4, rfl, hDe5, rfl⟩ (by rfl) (by rfl) (by rfl)
set_option maxHeartbeats 8000000 in
theorem fr_does {T : Nat} {d k : Nat} (hB : fm_B a0) (hD : fm_D a0 a T) (hT : T ≤ 9999) (hd36 : g 36 = nI d) (hd9 : d ≤ 65535) (hk : k < 60) (hr : fm_ro (a0 1 (478 + 6 * k)) (a0 1 (479 + 6 * k))) : ∃ (v : Option Value) (mem' : fx_M), (fun R => ∃ (v : Int32) (g' : Nat → Int32) (a' : Nat → Nat → Int32) (T' d' : Nat), (v = 0 ∨ v = 1) ∧ T' ≤ 9999 ∧ d' ≤ 65535 ∧ (∀ j, j ≠ 36 → g' j = g j) ∧ g' 36 = nI d' ∧ fm_D a0 a' T' ∧ R = (some (.int v), fm g' tp bt a' b)) (v, mem') ∧ fr_T 11 362 [.ref 0, .int (nI (478 + (6 * k)))] (fm g tp bt a b) v mem' := by
  obtain ⟨NC, hNC, eNC⟩ := fm_B_0 hB (i := 0) (n := 10) (by decide) rfl
  obtain ⟨NW, hNW, eNW⟩ := fm_B_0 hB (i := 1) (n := 8) (by decide) rfl
  obtain ⟨m, hm, em⟩ := fm_row_m hB hk
  have hT9 := hD.2.2.2.2.1
  refine fe_meth (F := fun R => ∃ (v : Int32) (g' : Nat → Int32) (a' : Nat → Nat → Int32) (T' d' : Nat), (v = 0 ∨ v = 1) ∧ T' ≤ 9999 ∧ d' ≤ 65535 ∧ (∀ j, j ≠ 36 → g' j = g j) ∧ g' 36 = nI d' ∧ fm_D a0 a' T' ∧ R = (some (.int v), fm g' tp bt a' b)) (M := gk_m362) (by rfl) (by rfl) ?_
  refine fe_s 5 (pc' := 7) (lc' := [(0, .ref 0), (1, .int (nI (478 + (6 * k))))]) (stk' := [.int ((nI (478 + (6 * k))) + 1), .ref 1]) (mem' := fm g tp bt a b) (by intro _ _ _; eq_refl) ?_
  rw [show ((nI (478 + (6 * k))) + 1 : Int32) = nI ((478 + (6 * k)) + 1) from by simp only [show (1 : Int32) = nI 1 from rfl, nI_add, fm_mul]]
  refine fe_ldI (by rfl) (by rfl) (fx_inN (i := (478 + (6 * k)) + 1) (by omega) (by omega)) ?_
  rw [show Int32.toNatClampNeg (nI ((478 + (6 * k)) + 1)) = (478 + (6 * k)) + 1 from nI_clamp (by omega)]
  rw [show a 1 ((478 + (6 * k)) + 1) = a0 1 (479 + 6 * k) from by rw [show (478 + (6 * k)) + 1 = 479 + 6 * k by omega]; exact fm_D_hi hD (by omega)]
  refine fe_s 4 (pc' := 14) (lc' := [(2, .int (a0 1 (479 + 6 * k))), (0, .ref 0), (1, .int (nI (478 + (6 * k))))]) (stk' := [.int (nI (478 + (6 * k))), .ref 1]) (mem' := fm g tp bt a b) (by intro _ _ _; eq_refl) ?_
  refine fe_ldI (by rfl) (by rfl) (fx_inN (i := 478 + (6 * k)) (by omega) (by omega)) ?_
  rw [show Int32.toNatClampNeg (nI (478 + (6 * k))) = 478 + (6 * k) from nI_clamp (by omega)]
  rw [show a 1 (478 + (6 * k)) = nI m from (fm_D_hi hD (by omega)).trans em]
  rcases (by omega : m = 11 ∨ m = 12 ∨ m = 13 ∨ m = 14 ∨ m = 15 ∨ (m < 11 ∨ 15 < m)) with rfl | rfl | rfl | rfl | rfl | hsw
  · rw [show nI 11 = 11 from rfl]
    obtain ⟨w, hw, ew⟩ := fm_ro_7 hr (Or.inl em)
    rw [ew]
    refine fe_s 1 (pc' := 48) (lc' := [(2, .int (nI w)), (0, .ref 0), (1, .int (nI (478 + (6 * k))))]) (stk' := []) (mem' := fm g tp bt a b) (by intro _ _ _; eq_refl) ?_
    refine fe_s 7 (pc' := 57) (lc' := [(2, .int (nI w)), (0, .ref 0), (1, .int (nI (478 + (6 * k))))]) (stk' := [.int ((nI (478 + (6 * k))) + 2), .ref 1, .int (nI w), .ref 0]) (mem' := fm g tp bt a b) (by intro _ _ _; eq_refl) ?_
    rw [show ((nI (478 + (6 * k))) + 2 : Int32) = nI ((478 + (6 * k)) + 2) from by simp only [show (2 : Int32) = nI 2 from rfl, nI_add, fm_mul]]
    refine fe_ldI (by rfl) (by rfl) (fx_inN (i := (478 + (6 * k)) + 2) (by omega) (by omega)) ?_
    rw [show Int32.toNatClampNeg (nI ((478 + (6 * k)) + 2)) = (478 + (6 * k)) + 2 from nI_clamp (by omega)]
    obtain ⟨ve1, meme1, ⟨xe1, hxe1, ae1, hDe1, hRe1⟩, hfre1⟩ := fr_sendsBy (W := w) (to := a 1 ((478 + (6 * k)) + 2)) (g := g) (tp := tp) (bt := bt) (a := a) (b := b) hB hD (by omega)
    cases hRe1
    refine fe_ivV hfre1 (by omega) (by rfl) (by rfl) (by rfl) (by rfl) (by rfl) (by rfl) ?_
    rcases hxe1 with rfl | rfl
    · exact fe_ret ⟨_, _, _, _, _, Or.inl rfl, by omega, by omega, (fun _ _ => rfl), hd36, hDe1, rfl⟩ (by rfl) (by rfl) (by rfl)
    · exact fe_ret ⟨_, _, _, _, _, Or.inr rfl, by omega, by omega, (fun _ _ => rfl), hd36, hDe1, rfl⟩ (by rfl) (by rfl) (by rfl)
  · rw [show nI 12 = 12 from rfl]
    obtain ⟨w, hw, ew⟩ := fm_ro_20 hr em
    rw [ew]
    refine fe_s 1 (pc' := 62) (lc' := [(2, .int (nI w)), (0, .ref 0), (1, .int (nI (478 + (6 * k))))]) (stk' := []) (mem' := fm g tp bt a b) (by intro _ _ _; eq_refl) ?_
    refine fe_s 2 (pc' := 64) (lc' := [(2, .int (nI w)), (0, .ref 0), (1, .int (nI (478 + (6 * k))))]) (stk' := [.int (nI w), .ref 0]) (mem' := fm g tp bt a b) (by intro _ _ _; eq_refl) ?_
    obtain ⟨ve2, meme2, ⟨xe2, ae2, Te2, hxe2, hTe2, hDe2, hRe2⟩, hfre2⟩ := fr_stepsOn (m := w) (g := g) (tp := tp) (bt := bt) (a := a) (b := b) hB hD (by omega) (by omega)
    cases hRe2
    refine fe_ivV hfre2 (by omega) (by rfl) (by rfl) (by rfl) (by rfl) (by rfl) (by rfl) ?_
    rcases hxe2 with rfl | rfl
    · exact fe_ret ⟨_, _, _, _, _, Or.inl rfl, by omega, by omega, (fun _ _ => rfl), hd36, hDe2, rfl⟩ (by rfl) (by rfl) (by rfl)
    · exact fe_ret ⟨_, _, _, _, _, Or.inr rfl, by omega, by omega, (fun _ _ => rfl), hd36, hDe2, rfl⟩ (by rfl) (by rfl) (by rfl)
  · rw [show nI 13 = 13 from rfl]
    refine fe_s 1 (pc' := 68) (lc' := [(2, .int (a0 1 (479 + 6 * k))), (0, .ref 0), (1, .int (nI (478 + (6 * k))))]) (stk' := []) (mem' := fm g tp bt a b) (by intro _ _ _; eq_refl) ?_
    refine fe_s 2 (pc' := 70) (lc' := [(2, .int (a0 1 (479 + 6 * k))), (0, .ref 0), (1, .int (nI (478 + (6 * k))))]) (stk' := [.int (a0 1 (479 + 6 * k)), .ref 0]) (mem' := fm g tp bt a b) (by intro _ _ _; eq_refl) ?_
    obtain ⟨vd3, memd3, ⟨xd3, ad3, hDd3, hRd3⟩, hfrd3⟩ := fr_freezes (n := a0 1 (479 + 6 * k)) (g := g) (tp := tp) (bt := bt) (a := a) (b := b) hB hD
    cases hRd3
    refine fe_ivV hfrd3 (by omega) (by rfl) (by rfl) (by rfl) (by rfl) (by rfl) (by rfl) ?_
    refine fe_s 1 (pc' := cond (fx_cb .lt xd3 0) 80 76) (lc' := [(2, .int (a0 1 (479 + 6 * k))), (0, .ref 0), (1, .int (nI (478 + (6 * k))))]) (stk' := []) (mem' := fm g tp bt ad3 b) (by intro _ _ _; eq_refl) ?_
    cases h4 : fx_cb .lt xd3 0
    · refine fe_s 2 (pc' := 81) (lc' := [(2, .int (a0 1 (479 + 6 * k))), (0, .ref 0), (1, .int (nI (478 + (6 * k))))]) (stk' := [.int 1]) (mem' := fm g tp bt ad3 b) (by intro _ _ _; eq_refl) ?_
      exact fe_ret ⟨_, _, _, _, _, Or.inr rfl, by omega, by omega, (fun _ _ => rfl), hd36, hDd3, rfl⟩ (by rfl) (by rfl) (by rfl)
    · refine fe_s 1 (pc' := 81) (lc' := [(2, .int (a0 1 (479 + 6 * k))), (0, .ref 0), (1, .int (nI (478 + (6 * k))))]) (stk' := [.int 0]) (mem' := fm g tp bt ad3 b) (by intro _ _ _; eq_refl) ?_
      exact fe_ret ⟨_, _, _, _, _, Or.inl rfl, by omega, by omega, (fun _ _ => rfl), hd36, hDd3, rfl⟩ (by rfl) (by rfl) (by rfl)
  · rw [show nI 14 = 14 from rfl]
    refine fe_s 1 (pc' := 82) (lc' := [(2, .int (a0 1 (479 + 6 * k))), (0, .ref 0), (1, .int (nI (478 + (6 * k))))]) (stk' := []) (mem' := fm g tp bt a b) (by intro _ _ _; eq_refl) ?_
    refine fe_s 2 (pc' := 84) (lc' := [(2, .int (a0 1 (479 + 6 * k))), (0, .ref 0), (1, .int (nI (478 + (6 * k))))]) (stk' := [.int (a0 1 (479 + 6 * k)), .ref 0]) (mem' := fm g tp bt a b) (by intro _ _ _; eq_refl) ?_
    obtain ⟨vd5, memd5, ⟨xd5, ad5, hDd5, hRd5⟩, hfrd5⟩ := fr_thaws (n := a0 1 (479 + 6 * k)) (g := g) (tp := tp) (bt := bt) (a := a) (b := b) hB hD
    cases hRd5
    refine fe_ivV hfrd5 (by omega) (by rfl) (by rfl) (by rfl) (by rfl) (by rfl) (by rfl) ?_
    refine fe_s 1 (pc' := cond (fx_cb .lt xd5 0) 94 90) (lc' := [(2, .int (a0 1 (479 + 6 * k))), (0, .ref 0), (1, .int (nI (478 + (6 * k))))]) (stk' := []) (mem' := fm g tp bt ad5 b) (by intro _ _ _; eq_refl) ?_
    cases h6 : fx_cb .lt xd5 0
    · refine fe_s 2 (pc' := 95) (lc' := [(2, .int (a0 1 (479 + 6 * k))), (0, .ref 0), (1, .int (nI (478 + (6 * k))))]) (stk' := [.int 1]) (mem' := fm g tp bt ad5 b) (by intro _ _ _; eq_refl) ?_
      exact fe_ret ⟨_, _, _, _, _, Or.inr rfl, by omega, by omega, (fun _ _ => rfl), hd36, hDd5, rfl⟩ (by rfl) (by rfl) (by rfl)
    · refine fe_s 1 (pc' := 95) (lc' := [(2, .int (a0 1 (479 + 6 * k))), (0, .ref 0), (1, .int (nI (478 + (6 * k))))]) (stk' := [.int 0]) (mem' := fm g tp bt ad5 b) (by intro _ _ _; eq_refl) ?_
      exact fe_ret ⟨_, _, _, _, _, Or.inl rfl, by omega, by omega, (fun _ _ => rfl), hd36, hDd5, rfl⟩ (by rfl) (by rfl) (by rfl)
  · rw [show nI 15 = 15 from rfl]
    refine fe_s 1 (pc' := 96) (lc' := [(2, .int (a0 1 (479 + 6 * k))), (0, .ref 0), (1, .int (nI (478 + (6 * k))))]) (stk' := []) (mem' := fm g tp bt a b) (by intro _ _ _; eq_refl) ?_
    refine fe_s 1 (pc' := 97) (lc' := [(2, .int (a0 1 (479 + 6 * k))), (0, .ref 0), (1, .int (nI (478 + (6 * k))))]) (stk' := [.ref 0]) (mem' := fm g tp bt a b) (by intro _ _ _; eq_refl) ?_
    obtain ⟨ve7, meme7, ⟨xe7, ge7, ae7, Te7, de7, hxe7, hTe7, hde7, hge7, hd36e7, hDe7, hRe7⟩, hfre7⟩ := fr_sendsAny (g := g) (tp := tp) (bt := bt) (a := a) (b := b) hB hD (by omega) hd36 (by omega)
    cases hRe7
    have hgfe7 : ∀ j, j ≠ 36 → ge7 j = g j := fun j hj => (hge7 j hj).trans ((fun _ _ => rfl) j hj)
    refine fe_ivV hfre7 (by omega) (by rfl) (by rfl) (by rfl) (by rfl) (by rfl) (by rfl) ?_
    rcases hxe7 with rfl | rfl
    · exact fe_ret ⟨_, _, _, _, _, Or.inl rfl, by omega, by omega, hgfe7, hd36e7, hDe7, rfl⟩ (by rfl) (by rfl) (by rfl)
    · exact fe_ret ⟨_, _, _, _, _, Or.inr rfl, by omega, by omega, hgfe7, hd36e7, hDe7, rfl⟩ (by rfl) (by rfl) (by rfl)
  · refine fe_tbd (pc' := 101) (by rfl) (by rfl) (by decide) (by rw [nI_i32 (by omega)]; omega) (by decide) (by decide) ?_
    refine fe_s 1 (pc' := 102) (lc' := [(2, .int (a0 1 (479 + 6 * k))), (0, .ref 0), (1, .int (nI (478 + (6 * k))))]) (stk' := [.int 1]) (mem' := fm g tp bt a b) (by intro _ _ _; eq_refl) ?_
    exact fe_ret ⟨_, _, _, _, _, Or.inr rfl, by omega, by omega, (fun _ _ => rfl), hd36, hD, rfl⟩ (by rfl) (by rfl) (by rfl)
theorem fm_sub1800 {m c : Nat} (hm : m ≤ 1922) (h18 : 1800 ≤ m) (hc : c < 100) (h : fx_cb .ne (nI m - 1800) (nI c) = false) : m = 1800 + c := by
  have e := fm_ne h
  rw [show (1800 : Int32) = nI 1800 from rfl, tg_sub2 (x := m) (y := 1800) h18] at e
  have := (nI_eq (a := m - 1800) (b := c) (by omega) (by omega)).mp e
  omega
set_option maxHeartbeats 8000000 in
theorem fr_isSo {T : Nat} {k : Nat} (hB : fm_B a0) (hD : fm_D a0 a T) (hk : k < 60) (hr : fm_ro (a0 1 (478 + 6 * k)) (a0 1 (479 + 6 * k))) (h18 : 1800 ≤ (a0 1 (478 + 6 * k)).toInt) : ∃ (v : Option Value) (mem' : fx_M), (fun R => ∃ v : Int32, (v = 0 ∨ v = 1) ∧ R = (some (.int v), fm g tp bt a b)) (v, mem') ∧ fr_T 7 363 [.ref 0, .int (nI (478 + (6 * k)))] (fm g tp bt a b) v mem' := by
  obtain ⟨NC, hNC, eNC⟩ := fm_B_0 hB (i := 0) (n := 10) (by decide) rfl
  obtain ⟨NW, hNW, eNW⟩ := fm_B_0 hB (i := 1) (n := 8) (by decide) rfl
  obtain ⟨m, hm, em⟩ := fm_row_m hB hk
  have hm18 : 1800 ≤ m := by rw [em, nI_i32 (by omega)] at h18; omega
  obtain ⟨w, hw, ew⟩ := fm_ro_9 hr h18
  have hw7 : ¬ (m = 1810 ∨ m = 1822) ∨ w < 8 := by
    by_cases e : m = 1810 ∨ m = 1822
    · obtain ⟨w2, h2, e2⟩ := fm_ro_7 hr (by rcases e with rfl | rfl; exact Or.inr (Or.inl em); exact Or.inr (Or.inr em))
      have := (nI_eq (a := w) (b := w2) (by omega) (by omega)).mp (ew.symm.trans e2)
      omega
    · exact Or.inl e
  have hT9 := hD.2.2.2.2.1
  refine fe_meth (F := fun R => ∃ v : Int32, (v = 0 ∨ v = 1) ∧ R = (some (.int v), fm g tp bt a b)) (M := gk_m363) (by rfl) (by rfl) ?_
  refine fe_s 3 (pc' := 5) (lc' := [(0, .ref 0), (1, .int (nI (478 + (6 * k))))]) (stk' := [.int (nI (478 + (6 * k))), .ref 1]) (mem' := fm g tp bt a b) (by intro _ _ _; eq_refl) ?_
  refine fe_ldI (by rfl) (by rfl) (fx_inN (i := 478 + (6 * k)) (by omega) (by omega)) ?_
  rw [show Int32.toNatClampNeg (nI (478 + (6 * k))) = 478 + (6 * k) from nI_clamp (by omega)]
  rw [show a 1 (478 + (6 * k)) = nI m from (fm_D_hi hD (by omega)).trans em]
  refine fe_s 5 (pc' := 14) (lc' := [(2, .int ((nI m) - 1800)), (0, .ref 0), (1, .int (nI (478 + (6 * k))))]) (stk' := [.int 22, .int ((nI m) - 1800)]) (mem' := fm g tp bt a b) (by intro _ _ _; eq_refl) ?_
  refine fe_s 1 (pc' := cond (fx_cb .ne ((nI m) - 1800) 22) 30 17) (lc' := [(2, .int ((nI m) - 1800)), (0, .ref 0), (1, .int (nI (478 + (6 * k))))]) (stk' := []) (mem' := fm g tp bt a b) (by intro _ _ _; eq_refl) ?_
  cases h1 : fx_cb .ne ((nI m) - 1800) 22
  · refine fe_s 6 (pc' := 25) (lc' := [(2, .int ((nI m) - 1800)), (0, .ref 0), (1, .int (nI (478 + (6 * k))))]) (stk' := [.int ((nI (478 + (6 * k))) + 1), .ref 1, .ref 0]) (mem' := fm g tp bt a b) (by intro _ _ _; eq_refl) ?_
    rw [show ((nI (478 + (6 * k))) + 1 : Int32) = nI ((478 + (6 * k)) + 1) from by simp only [show (1 : Int32) = nI 1 from rfl, nI_add, fm_mul]]
    refine fe_ldI (by rfl) (by rfl) (fx_inN (i := (478 + (6 * k)) + 1) (by omega) (by omega)) ?_
    rw [show Int32.toNatClampNeg (nI ((478 + (6 * k)) + 1)) = (478 + (6 * k)) + 1 from nI_clamp (by omega)]
    rw [show a 1 ((478 + (6 * k)) + 1) = a0 1 (479 + 6 * k) from by rw [show (478 + (6 * k)) + 1 = 479 + 6 * k by omega]; exact fm_D_hi hD (by omega)]
    rw [ew]
    have hm22 := fm_sub1800 (c := 22) hm hm18 (by omega) h1
    obtain ⟨v2, z3, hv2⟩ := fq_isWet (V := w) (g := g) (tp := tp) (bt := bt) (a := a) (b := b) (by omega)
    refine fe_ivV hv2 (by omega) (by rfl) (by rfl) (by rfl) (by rfl) (by rfl) (by rfl) ?_
    rcases z3 with rfl | rfl
    · exact fe_ret ⟨_, Or.inl rfl, rfl⟩ (by rfl) (by rfl) (by rfl)
    · exact fe_ret ⟨_, Or.inr rfl, rfl⟩ (by rfl) (by rfl) (by rfl)
  · refine fe_s 2 (pc' := 33) (lc' := [(2, .int ((nI m) - 1800)), (0, .ref 0), (1, .int (nI (478 + (6 * k))))]) (stk' := [.int 10, .int ((nI m) - 1800)]) (mem' := fm g tp bt a b) (by intro _ _ _; eq_refl) ?_
    refine fe_s 1 (pc' := cond (fx_cb .ne ((nI m) - 1800) 10) 65 36) (lc' := [(2, .int ((nI m) - 1800)), (0, .ref 0), (1, .int (nI (478 + (6 * k))))]) (stk' := []) (mem' := fm g tp bt a b) (by intro _ _ _; eq_refl) ?_
    cases h4 : fx_cb .ne ((nI m) - 1800) 10
    · refine fe_s 6 (pc' := 44) (lc' := [(2, .int ((nI m) - 1800)), (0, .ref 0), (1, .int (nI (478 + (6 * k))))]) (stk' := [.int ((nI (478 + (6 * k))) + 1), .ref 1, .ref 0]) (mem' := fm g tp bt a b) (by intro _ _ _; eq_refl) ?_
      rw [show ((nI (478 + (6 * k))) + 1 : Int32) = nI ((478 + (6 * k)) + 1) from by simp only [show (1 : Int32) = nI 1 from rfl, nI_add, fm_mul]]
      refine fe_ldI (by rfl) (by rfl) (fx_inN (i := (478 + (6 * k)) + 1) (by omega) (by omega)) ?_
      rw [show Int32.toNatClampNeg (nI ((478 + (6 * k)) + 1)) = (478 + (6 * k)) + 1 from nI_clamp (by omega)]
      rw [show a 1 ((478 + (6 * k)) + 1) = a0 1 (479 + 6 * k) from by rw [show (478 + (6 * k)) + 1 = 479 + 6 * k by omega]; exact fm_D_hi hD (by omega)]
      rw [ew]
      have hm10 := fm_sub1800 (c := 10) hm hm18 (by omega) h4
      refine fe_ivV (fr_whereOf (W := w) (g := g) (tp := tp) (bt := bt) (a := a) (b := b) (by omega)) (by omega) (by rfl) (by rfl) (by rfl) (by rfl) (by rfl) (by rfl) ?_
      obtain ⟨l5, hl5, el5⟩ := fm_D_w1 hD (W := w) (by omega)
      rw [el5]
      refine fe_s 5 (pc' := 55) (lc' := [(2, .int ((nI m) - 1800)), (0, .ref 0), (1, .int (nI (478 + (6 * k))))]) (stk' := [.int ((nI (478 + (6 * k))) + 2), .ref 1, .int (nI l5)]) (mem' := fm g tp bt a b) (by intro _ _ _; eq_refl) ?_
      rw [show ((nI (478 + (6 * k))) + 2 : Int32) = nI ((478 + (6 * k)) + 2) from by simp only [show (2 : Int32) = nI 2 from rfl, nI_add, fm_mul]]
      refine fe_ldI (by rfl) (by rfl) (fx_inN (i := (478 + (6 * k)) + 2) (by omega) (by omega)) ?_
      rw [show Int32.toNatClampNeg (nI ((478 + (6 * k)) + 2)) = (478 + (6 * k)) + 2 from nI_clamp (by omega)]
      refine fe_s 1 (pc' := cond (fx_cb .ne (nI l5) (a 1 ((478 + (6 * k)) + 2))) 63 59) (lc' := [(2, .int ((nI m) - 1800)), (0, .ref 0), (1, .int (nI (478 + (6 * k))))]) (stk' := []) (mem' := fm g tp bt a b) (by intro _ _ _; eq_refl) ?_
      cases h6 : fx_cb .ne (nI l5) (a 1 ((478 + (6 * k)) + 2))
      · refine fe_s 2 (pc' := 64) (lc' := [(2, .int ((nI m) - 1800)), (0, .ref 0), (1, .int (nI (478 + (6 * k))))]) (stk' := [.int 1]) (mem' := fm g tp bt a b) (by intro _ _ _; eq_refl) ?_
        exact fe_ret ⟨_, Or.inr rfl, rfl⟩ (by rfl) (by rfl) (by rfl)
      · refine fe_s 1 (pc' := 64) (lc' := [(2, .int ((nI m) - 1800)), (0, .ref 0), (1, .int (nI (478 + (6 * k))))]) (stk' := [.int 0]) (mem' := fm g tp bt a b) (by intro _ _ _; eq_refl) ?_
        exact fe_ret ⟨_, Or.inl rfl, rfl⟩ (by rfl) (by rfl) (by rfl)
    · refine fe_s 6 (pc' := 73) (lc' := [(2, .int ((nI m) - 1800)), (0, .ref 0), (1, .int (nI (478 + (6 * k))))]) (stk' := [.int ((nI (478 + (6 * k))) + 1), .ref 1, .ref 0]) (mem' := fm g tp bt a b) (by intro _ _ _; eq_refl) ?_
      rw [show ((nI (478 + (6 * k))) + 1 : Int32) = nI ((478 + (6 * k)) + 1) from by simp only [show (1 : Int32) = nI 1 from rfl, nI_add, fm_mul]]
      refine fe_ldI (by rfl) (by rfl) (fx_inN (i := (478 + (6 * k)) + 1) (by omega) (by omega)) ?_
      rw [show Int32.toNatClampNeg (nI ((478 + (6 * k)) + 1)) = (478 + (6 * k)) + 1 from nI_clamp (by omega)]
      rw [show a 1 ((478 + (6 * k)) + 1) = a0 1 (479 + 6 * k) from by rw [show (478 + (6 * k)) + 1 = 479 + 6 * k by omega]; exact fm_D_hi hD (by omega)]
      rw [ew]
      obtain ⟨v7, hv7⟩ := fq_strengthOf (C := w) (g := g) (tp := tp) (bt := bt) (a := a) (b := b) (fm_D_t hB hD) (by omega)
      refine fe_ivV hv7 (by omega) (by rfl) (by rfl) (by rfl) (by rfl) (by rfl) (by rfl) ?_
      refine fe_s 6 (pc' := 85) (lc' := [(3, .int v7), (2, .int ((nI m) - 1800)), (0, .ref 0), (1, .int (nI (478 + (6 * k))))]) (stk' := [.int ((nI (478 + (6 * k))) + 5), .ref 1]) (mem' := fm g tp bt a b) (by intro _ _ _; eq_refl) ?_
      rw [show ((nI (478 + (6 * k))) + 5 : Int32) = nI ((478 + (6 * k)) + 5) from by simp only [show (5 : Int32) = nI 5 from rfl, nI_add, fm_mul]]
      refine fe_ldI (by rfl) (by rfl) (fx_inN (i := (478 + (6 * k)) + 5) (by omega) (by omega)) ?_
      rw [show Int32.toNatClampNeg (nI ((478 + (6 * k)) + 5)) = (478 + (6 * k)) + 5 from nI_clamp (by omega)]
      refine fe_s 1 (pc' := 88) (lc' := [(3, .int v7), (2, .int ((nI m) - 1800)), (0, .ref 0), (1, .int (nI (478 + (6 * k))))]) (stk' := [.int 60, .int (a 1 ((478 + (6 * k)) + 5))]) (mem' := fm g tp bt a b) (by intro _ _ _; eq_refl) ?_
      refine fe_s 1 (pc' := cond (fx_cb .ne (a 1 ((478 + (6 * k)) + 5)) 60) 111 91) (lc' := [(3, .int v7), (2, .int ((nI m) - 1800)), (0, .ref 0), (1, .int (nI (478 + (6 * k))))]) (stk' := []) (mem' := fm g tp bt a b) (by intro _ _ _; eq_refl) ?_
      cases h8 : fx_cb .ne (a 1 ((478 + (6 * k)) + 5)) 60
      · refine fe_s 6 (pc' := 99) (lc' := [(3, .int v7), (2, .int ((nI m) - 1800)), (0, .ref 0), (1, .int (nI (478 + (6 * k))))]) (stk' := [.int ((nI (478 + (6 * k))) + 2), .ref 1, .int v7]) (mem' := fm g tp bt a b) (by intro _ _ _; eq_refl) ?_
        rw [show ((nI (478 + (6 * k))) + 2 : Int32) = nI ((478 + (6 * k)) + 2) from by simp only [show (2 : Int32) = nI 2 from rfl, nI_add, fm_mul]]
        refine fe_ldI (by rfl) (by rfl) (fx_inN (i := (478 + (6 * k)) + 2) (by omega) (by omega)) ?_
        rw [show Int32.toNatClampNeg (nI ((478 + (6 * k)) + 2)) = (478 + (6 * k)) + 2 from nI_clamp (by omega)]
        refine fe_s 1 (pc' := cond (fx_cb .ge v7 (a 1 ((478 + (6 * k)) + 2))) 107 103) (lc' := [(3, .int v7), (2, .int ((nI m) - 1800)), (0, .ref 0), (1, .int (nI (478 + (6 * k))))]) (stk' := []) (mem' := fm g tp bt a b) (by intro _ _ _; eq_refl) ?_
        cases h9 : fx_cb .ge v7 (a 1 ((478 + (6 * k)) + 2))
        · refine fe_s 2 (pc' := 161) (lc' := [(3, .int v7), (2, .int ((nI m) - 1800)), (0, .ref 0), (1, .int (nI (478 + (6 * k))))]) (stk' := [.int 1]) (mem' := fm g tp bt a b) (by intro _ _ _; eq_refl) ?_
          exact fe_ret ⟨_, Or.inr rfl, rfl⟩ (by rfl) (by rfl) (by rfl)
        · refine fe_s 2 (pc' := 161) (lc' := [(3, .int v7), (2, .int ((nI m) - 1800)), (0, .ref 0), (1, .int (nI (478 + (6 * k))))]) (stk' := [.int 0]) (mem' := fm g tp bt a b) (by intro _ _ _; eq_refl) ?_
          exact fe_ret ⟨_, Or.inl rfl, rfl⟩ (by rfl) (by rfl) (by rfl)
      · refine fe_s 5 (pc' := 118) (lc' := [(3, .int v7), (2, .int ((nI m) - 1800)), (0, .ref 0), (1, .int (nI (478 + (6 * k))))]) (stk' := [.int ((nI (478 + (6 * k))) + 5), .ref 1]) (mem' := fm g tp bt a b) (by intro _ _ _; eq_refl) ?_
        rw [show ((nI (478 + (6 * k))) + 5 : Int32) = nI ((478 + (6 * k)) + 5) from by simp only [show (5 : Int32) = nI 5 from rfl, nI_add, fm_mul]]
        refine fe_ldI (by rfl) (by rfl) (fx_inN (i := (478 + (6 * k)) + 5) (by omega) (by omega)) ?_
        rw [show Int32.toNatClampNeg (nI ((478 + (6 * k)) + 5)) = (478 + (6 * k)) + 5 from nI_clamp (by omega)]
        refine fe_s 1 (pc' := 121) (lc' := [(3, .int v7), (2, .int ((nI m) - 1800)), (0, .ref 0), (1, .int (nI (478 + (6 * k))))]) (stk' := [.int 62, .int (a 1 ((478 + (6 * k)) + 5))]) (mem' := fm g tp bt a b) (by intro _ _ _; eq_refl) ?_
        refine fe_s 1 (pc' := cond (fx_cb .ne (a 1 ((478 + (6 * k)) + 5)) 62) 144 124) (lc' := [(3, .int v7), (2, .int ((nI m) - 1800)), (0, .ref 0), (1, .int (nI (478 + (6 * k))))]) (stk' := []) (mem' := fm g tp bt a b) (by intro _ _ _; eq_refl) ?_
        cases h10 : fx_cb .ne (a 1 ((478 + (6 * k)) + 5)) 62
        · refine fe_s 6 (pc' := 132) (lc' := [(3, .int v7), (2, .int ((nI m) - 1800)), (0, .ref 0), (1, .int (nI (478 + (6 * k))))]) (stk' := [.int ((nI (478 + (6 * k))) + 2), .ref 1, .int v7]) (mem' := fm g tp bt a b) (by intro _ _ _; eq_refl) ?_
          rw [show ((nI (478 + (6 * k))) + 2 : Int32) = nI ((478 + (6 * k)) + 2) from by simp only [show (2 : Int32) = nI 2 from rfl, nI_add, fm_mul]]
          refine fe_ldI (by rfl) (by rfl) (fx_inN (i := (478 + (6 * k)) + 2) (by omega) (by omega)) ?_
          rw [show Int32.toNatClampNeg (nI ((478 + (6 * k)) + 2)) = (478 + (6 * k)) + 2 from nI_clamp (by omega)]
          refine fe_s 1 (pc' := cond (fx_cb .le v7 (a 1 ((478 + (6 * k)) + 2))) 140 136) (lc' := [(3, .int v7), (2, .int ((nI m) - 1800)), (0, .ref 0), (1, .int (nI (478 + (6 * k))))]) (stk' := []) (mem' := fm g tp bt a b) (by intro _ _ _; eq_refl) ?_
          cases h11 : fx_cb .le v7 (a 1 ((478 + (6 * k)) + 2))
          · refine fe_s 2 (pc' := 161) (lc' := [(3, .int v7), (2, .int ((nI m) - 1800)), (0, .ref 0), (1, .int (nI (478 + (6 * k))))]) (stk' := [.int 1]) (mem' := fm g tp bt a b) (by intro _ _ _; eq_refl) ?_
            exact fe_ret ⟨_, Or.inr rfl, rfl⟩ (by rfl) (by rfl) (by rfl)
          · refine fe_s 2 (pc' := 161) (lc' := [(3, .int v7), (2, .int ((nI m) - 1800)), (0, .ref 0), (1, .int (nI (478 + (6 * k))))]) (stk' := [.int 0]) (mem' := fm g tp bt a b) (by intro _ _ _; eq_refl) ?_
            exact fe_ret ⟨_, Or.inl rfl, rfl⟩ (by rfl) (by rfl) (by rfl)
        · refine fe_s 6 (pc' := 152) (lc' := [(3, .int v7), (2, .int ((nI m) - 1800)), (0, .ref 0), (1, .int (nI (478 + (6 * k))))]) (stk' := [.int ((nI (478 + (6 * k))) + 2), .ref 1, .int v7]) (mem' := fm g tp bt a b) (by intro _ _ _; eq_refl) ?_
          rw [show ((nI (478 + (6 * k))) + 2 : Int32) = nI ((478 + (6 * k)) + 2) from by simp only [show (2 : Int32) = nI 2 from rfl, nI_add, fm_mul]]
          refine fe_ldI (by rfl) (by rfl) (fx_inN (i := (478 + (6 * k)) + 2) (by omega) (by omega)) ?_
          rw [show Int32.toNatClampNeg (nI ((478 + (6 * k)) + 2)) = (478 + (6 * k)) + 2 from nI_clamp (by omega)]
          refine fe_s 1 (pc' := cond (fx_cb .ne v7 (a 1 ((478 + (6 * k)) + 2))) 160 156) (lc' := [(3, .int v7), (2, .int ((nI m) - 1800)), (0, .ref 0), (1, .int (nI (478 + (6 * k))))]) (stk' := []) (mem' := fm g tp bt a b) (by intro _ _ _; eq_refl) ?_
          cases h12 : fx_cb .ne v7 (a 1 ((478 + (6 * k)) + 2))
          · refine fe_s 2 (pc' := 161) (lc' := [(3, .int v7), (2, .int ((nI m) - 1800)), (0, .ref 0), (1, .int (nI (478 + (6 * k))))]) (stk' := [.int 1]) (mem' := fm g tp bt a b) (by intro _ _ _; eq_refl) ?_
            exact fe_ret ⟨_, Or.inr rfl, rfl⟩ (by rfl) (by rfl) (by rfl)
          · refine fe_s 1 (pc' := 161) (lc' := [(3, .int v7), (2, .int ((nI m) - 1800)), (0, .ref 0), (1, .int (nI (478 + (6 * k))))]) (stk' := [.int 0]) (mem' := fm g tp bt a b) (by intro _ _ _; eq_refl) ?_
            exact fe_ret ⟨_, Or.inl rfl, rfl⟩ (by rfl) (by rfl) (by rfl)
end FLV
end MH7_3
