/-! ===== fx: sends ===== -/
section FSN
variable {g : Nat → Int32} {tp bt : Int64} {a : Nat → Nat → Int32} {b : Nat → Nat → Int64}
def fm_sym (a : Nat → Nat → Int32) : Prop := ∀ A B, A < 10 → B < 10 → fm_b (a 1 (10 + 6 * A)) (nI B) = fm_b (a 1 (10 + 6 * B)) (nI A)
theorem fm_min {q : Nat → Nat → Int32} {Y : Nat} : ∀ n : Nat, (∃ c, c < n ∧ fm_near q Y c) → ∃ c, c < n ∧ fm_near q Y c ∧ ∀ d, d < c → ¬ fm_near q Y d := by
  intro n
  induction n with
  | zero => rintro ⟨c, h, -⟩; exact absurd h (Nat.not_lt_zero c)
  | succ n ih =>
    rintro ⟨c, hc, hn⟩
    by_cases h : ∃ d, d < n ∧ fm_near q Y d
    · obtain ⟨d, h1, h2, h3⟩ := ih h
      exact ⟨d, by omega, h2, h3⟩
    · refine ⟨c, hc, hn, fun d hd hq => h ⟨d, by omega, hq⟩⟩
theorem nI_pred1 (d : Nat) : nI (d + 1) - 1 = nI d := nI_pred d
theorem fm_next {q : Nat → Nat → Int32} {Y d : Nat} (hb : fm_bfs q) (hs : fm_sym q) (hY : Y < 10) (hd : q 9 Y = nI (d + 1)) (hd10 : d + 1 ≤ 10) : ∃ c0, c0 < 10 ∧ q 9 c0 = nI d ∧ fr_T 4 306 [.ref 0, .int (nI Y)] (fm g tp bt q b) (some (.int (nI c0))) (fm g tp bt q b) := by
  have hex : ∃ c, c < 10 ∧ fm_near q Y c := by
    rcases hb Y hY with e | ⟨v, hv, e, h0 | ⟨c1, h1, h2, h3⟩⟩
    · rw [hd] at e
      exact absurd ((nI_eq (a := d + 1) (b := 1000000) (by omega) (by omega)).mp e) (by omega)
    · rw [hd] at e
      have := (nI_eq (a := d + 1) (b := v) (by omega) (by omega)).mp e
      omega
    · rw [hd] at e
      have e2 := (nI_eq (a := d + 1) (b := v) (by omega) (by omega)).mp e
      subst e2
      refine ⟨c1, h1, ?_, ?_⟩
      · rw [hs Y c1 hY h1]; exact h3
      · rw [h2, hd, nI_pred1]; rfl
  obtain ⟨c0, h1, h2, h3⟩ := fm_min 10 hex
  refine ⟨c0, h1, ?_, fr_nextOn hY h1 h2 h3⟩
  rw [h2.2, hd, nI_pred1]
def fm_sent (a q : Nat → Nat → Int32) (W : Nat) : Prop := (∀ t, t ≠ 1 → t ≠ 9 → q t = a t) ∧ (∀ i, i < 10 → 0 ≤ (q 9 i).toInt ∧ (q 9 i).toInt ≤ 1000000) ∧ ∀ j, q 1 j = a 1 j ∨ (318 + 20 * W ≤ j ∧ j < 328 + 20 * W ∧ ∃ c, c < 10 ∧ q 1 j = nI c) ∨ (j = 281 + 5 * W ∧ ∃ n, n ≤ 10 ∧ q 1 j = nI n)
def fm_FS (g : Nat → Int32) (tp bt : Int64) (a : Nat → Nat → Int32) (b : Nat → Nat → Int64) (W : Nat) (R : Option Value × fx_M) : Prop := ∃ (v : Int32) (q : Nat → Nat → Int32), (v = 0 ∨ v = 6 ∨ v = 7) ∧ R = (some (.int v), fm g tp bt q b) ∧ fm_sent a q W
/-- what a route's writing leaves -/
def fm_way (p q : Nat → Nat → Int32) (W : Nat) : Prop := (∀ t, t ≠ 1 → q t = p t) ∧ ∀ j, q 1 j = p 1 j ∨ (318 + 20 * W ≤ j ∧ j < 328 + 20 * W ∧ ∃ c, c < 10 ∧ q 1 j = nI c)
theorem fm_way_low {p q : Nat → Nat → Int32} {W j : Nat} (h : fm_way p q W) (hj : j < 318) : q 1 j = p 1 j := by
  rcases h.2 j with e | ⟨h1, -, -⟩
  · exact e
  · omega
theorem fm_way_bfs {p q : Nat → Nat → Int32} {W : Nat} (h : fm_way p q W) (hb : fm_bfs p) : fm_bfs q := by
  intro c hc
  rw [h.1 9 (by decide)]
  rcases hb c hc with e | ⟨v, hv, e, h0⟩
  · exact Or.inl e
  · refine Or.inr ⟨v, hv, e, h0.imp id ?_⟩
    rintro ⟨c1, h1, h2, h3⟩
    exact ⟨c1, h1, h2, by rw [fm_way_low h (by omega)]; exact h3⟩
theorem fm_way_sym {p q : Nat → Nat → Int32} {W : Nat} (h : fm_way p q W) (hs : fm_sym p) : fm_sym q := fun A B hA hB => by
  rw [fm_way_low h (by omega), fm_way_low h (by omega)]
  exact hs A B hA hB
theorem fm_way_set {p q : Nat → Nat → Int32} {W i c : Nat} (h : fm_way p q W) (hi : i < 10) (hc : c < 10) : fm_way p (fm_u q 1 (318 + 20 * W + i) (nI c)) W := by
  refine ⟨fun t ht => ?_, fun j => ?_⟩
  · unfold fm_u; rw [if_neg ht]; exact h.1 t ht
  · unfold fm_u
    rw [if_pos rfl]
    by_cases e : j = 318 + 20 * W + i
    · subst e
      exact Or.inr ⟨by omega, by omega, c, hc, pk_us⟩
    · rw [pk_un e]; exact h.2 j
theorem fr_sends {W : Nat} {to : Int32} (ht : fm_t a) (hs : fm_sym a) (hb9 : ∀ i, i < 10 → 0 ≤ (a 9 i).toInt ∧ (a 9 i).toInt ≤ 1000000) (hW : W < 8) : ∃ (v : Option Value) (mem' : fx_M), fm_FS g tp bt a b W (v, mem') ∧ fr_T 8 290 [.ref 0, .int (nI W), .int to] (fm g tp bt a b) v mem' := by
  obtain ⟨⟨NC, hNC, eNC⟩, -, -, -, hw⟩ := id ht
  obtain ⟨X, hX, eX⟩ := hw W hW
  refine fe_meth (by rfl) (by rfl) ?_
  refine fe_s 2 (pc' := 2) (lc' := [(0, .ref 0), (1, .int (nI W)), (2, .int to)]) (stk' := [.int (nI W), .ref 0]) (mem' := fm g tp bt a b) (fun _ _ _ => rfl) ?_
  obtain ⟨v3, z4, hv3⟩ := fq_isWet (V := W) (g := g) (tp := tp) (bt := bt) (a := a) (b := b) (by omega)
  refine fe_ivV hv3 (by omega) (by rfl) (by rfl) (by rfl) (by rfl) (by rfl) (by rfl) ?_
  rcases z4 with rfl | rfl
  · refine fe_s 1 (pc' := cond (fx_cb .ne 0 0) 25 8) (lc' := [(0, .ref 0), (1, .int (nI W)), (2, .int to)]) (stk' := []) (mem' := fm g tp bt a b) (fun _ _ _ => rfl) ?_
    rw [show (fx_cb .ne 0 0) = false from by decide]
    dsimp only [cond]
    refine fe_s 2 (pc' := 10) (lc' := [(0, .ref 0), (1, .int (nI W)), (2, .int to)]) (stk' := [.int (nI W), .ref 0]) (mem' := fm g tp bt a b) (fun _ _ _ => rfl) ?_
    obtain ⟨v5, hv5⟩ := fq_leftOf (V := W) (g := g) (tp := tp) (bt := bt) (a := a) (b := b) (by omega)
    refine fe_ivV hv5 (by omega) (by rfl) (by rfl) (by rfl) (by rfl) (by rfl) (by rfl) ?_
    refine fe_s 1 (pc' := cond (fx_cb .gt v5 0) 25 16) (lc' := [(0, .ref 0), (1, .int (nI W)), (2, .int to)]) (stk' := []) (mem' := fm g tp bt a b) (fun _ _ _ => rfl) ?_
    cases h6 : fx_cb .gt v5 0
    · refine fe_s 2 (pc' := 18) (lc' := [(0, .ref 0), (1, .int (nI W)), (2, .int to)]) (stk' := [.int (nI W), .ref 0]) (mem' := fm g tp bt a b) (fun _ _ _ => rfl) ?_
      refine fe_ivV (fr_whereOf (W := W) (by omega)) (by omega) (by rfl) (by rfl) (by rfl) (by rfl) (by rfl) (by rfl) ?_
      rw [eX]
      refine fe_s 1 (pc' := 22) (lc' := [(0, .ref 0), (1, .int (nI W)), (2, .int to)]) (stk' := [.int to, .int (nI X)]) (mem' := fm g tp bt a b) (fun _ _ _ => rfl) ?_
      refine fe_s 1 (pc' := cond (fx_cb .ne (nI X) to) 28 25) (lc' := [(0, .ref 0), (1, .int (nI W)), (2, .int to)]) (stk' := []) (mem' := fm g tp bt a b) (fun _ _ _ => rfl) ?_
      cases h7 : fx_cb .ne (nI X) to
      · refine fe_s 1 (pc' := 27) (lc' := [(0, .ref 0), (1, .int (nI W)), (2, .int to)]) (stk' := [.int 7]) (mem' := fm g tp bt a b) (fun _ _ _ => rfl) ?_
        exact fe_ret ⟨_, a, Or.inr (Or.inr rfl), rfl, ⟨fun _ _ _ => rfl, hb9, fun j => Or.inl rfl⟩⟩ (by rfl) (by rfl) (by rfl)
      · refine fe_s 5 (pc' := 33) (lc' := [(0, .ref 0), (1, .int (nI W)), (2, .int to)]) (stk' := [.int (nI W), .ref 0, .int to, .int (nI W), .ref 0]) (mem' := fm g tp bt a b) (fun _ _ _ => rfl) ?_
        obtain ⟨v8, hv8⟩ := fq_bearers (W := W) (g := g) (tp := tp) (bt := bt) (a := a) (b := b) ht (by omega)
        refine fe_ivV hv8 (by omega) (by rfl) (by rfl) (by rfl) (by rfl) (by rfl) (by rfl) ?_
        obtain ⟨v5, mem5, ⟨p, hp, hR⟩, hfr⟩ := fr_laysFar (g := g) (tp := tp) (bt := bt) (b := b) (to := to) (bby := v8) (W := W) (by omega) eX hX eNC hNC
        cases hR
        refine fe_ivV hfr (by omega) (by rfl) (by rfl) (by rfl) (by rfl) (by rfl) (by rfl) ?_
        have eXp : p 1 (279 + 5 * W) = nI X := by rw [hp.1 1 (by decide)]; exact eX
        rcases hp.2 X hX with e | ⟨n, hn, e, -⟩
        · rw [e]
          refine fe_s 3 (pc' := 44) (lc' := [(3, .int 1000000), (0, .ref 0), (1, .int (nI W)), (2, .int to)]) (stk' := [.int 1000000, .int 1000000]) (mem' := fm g tp bt p b) (fun _ _ _ => rfl) ?_
          refine fe_s 1 (pc' := cond (fx_cb .ne 1000000 1000000) 50 47) (lc' := [(3, .int 1000000), (0, .ref 0), (1, .int (nI W)), (2, .int to)]) (stk' := []) (mem' := fm g tp bt p b) (fun _ _ _ => rfl) ?_
          rw [show (fx_cb .ne 1000000 1000000) = false from by decide]
          dsimp only [cond]
          refine fe_s 1 (pc' := 49) (lc' := [(3, .int 1000000), (0, .ref 0), (1, .int (nI W)), (2, .int to)]) (stk' := [.int 6]) (mem' := fm g tp bt p b) (fun _ _ _ => rfl) ?_
          exact fe_ret ⟨_, p, Or.inr (Or.inl rfl), rfl, ⟨fun t h1 h9 => hp.1 t h9, fm_bfs_bd hp.2, fun j => Or.inl (by rw [hp.1 1 (by decide)])⟩⟩ (by rfl) (by rfl) (by rfl)
        · rw [e]
          refine fe_s 3 (pc' := 44) (lc' := [(3, .int (nI n)), (0, .ref 0), (1, .int (nI W)), (2, .int to)]) (stk' := [.int 1000000, .int (nI n)]) (mem' := fm g tp bt p b) (fun _ _ _ => rfl) ?_
          refine fe_s 1 (pc' := cond (fx_cb .ne (nI n) 1000000) 50 47) (lc' := [(3, .int (nI n)), (0, .ref 0), (1, .int (nI W)), (2, .int to)]) (stk' := []) (mem' := fm g tp bt p b) (fun _ _ _ => rfl) ?_
          rw [show (fx_cb .ne (nI n) 1000000) = true from cb_neT (a := n) (b := 1000000) (by omega) (by omega) (by omega)]
          dsimp only [cond]
          refine fe_s 2 (pc' := 52) (lc' := [(3, .int (nI n)), (0, .ref 0), (1, .int (nI W)), (2, .int to)]) (stk' := [.int (nI W), .ref 0]) (mem' := fm g tp bt p b) (fun _ _ _ => rfl) ?_
          refine fe_ivV (fr_whereOf (W := W) (by omega)) (by omega) (by rfl) (by rfl) (by rfl) (by rfl) (by rfl) (by rfl) ?_
          rw [eXp]
          refine fe_s 3 (pc' := 60) (lc' := [(5, .int 0), (4, .int (nI X)), (3, .int (nI n)), (0, .ref 0), (1, .int (nI W)), (2, .int to)]) (stk' := []) (mem' := fm g tp bt p b) (fun _ _ _ => rfl) ?_
          refine fe_w (lc' := [(5, .int (0)), (4, .int (nI X)), (3, .int (nI n)), (0, .ref 0), (1, .int (nI W)), (2, .int to)]) ⟨rfl, rfl, rfl, rfl, rfl, rfl, trivial⟩ (by show List.Nodup [5, 4, 3, 0, 1, 2]; decide) (by show List.Nodup [5, 4, 3, 0, 1, 2]; decide) ?_
          have hsp : fm_sym p := fun A B hA hB => by rw [hp.1 1 (by decide)]; exact hs A B hA hB
          have loop : ∀ (r i : Nat), i + r = n → ∀ (Y : Nat) (q : Nat → Nat → Int32), Y < 10 → q 9 Y = nI r → fm_way p q W → fe_R 7 gk_m290 60 [(5, .int (nI i)), (4, .int (nI Y)), (3, .int (nI n)), (0, .ref 0), (1, .int (nI W)), (2, .int to)] [] (fm g tp bt q b) (fm_FS g tp bt a b W) := by
            intro r
            induction r with
            | zero =>
              intro i hir Y q hY hq9 hq
              obtain rfl : n = i := by omega
              refine fe_s 2 (pc' := 63) (lc' := [(5, .int (nI n)), (4, .int (nI Y)), (3, .int (nI n)), (0, .ref 0), (1, .int (nI W)), (2, .int to)]) (stk' := [.int (nI n), .int (nI n)]) (mem' := fm g tp bt q b) (fun _ _ _ => rfl) ?_
              refine fe_s 1 (pc' := cond (fx_cb .ge (nI n) (nI n)) 98 66) (lc' := [(5, .int (nI n)), (4, .int (nI Y)), (3, .int (nI n)), (0, .ref 0), (1, .int (nI W)), (2, .int to)]) (stk' := []) (mem' := fm g tp bt q b) (fun _ _ _ => rfl) ?_
              rw [show (fx_cb .ge (nI n) (nI n)) = true from cb_geT (a := n) (b := n) (by omega) (by omega) (by omega)]
              dsimp only [cond]
              refine fe_s 3 (pc' := 103) (lc' := [(5, .int (nI n)), (4, .int (nI Y)), (3, .int (nI n)), (0, .ref 0), (1, .int (nI W)), (2, .int to)]) (stk' := [.int (nI W), .ref 1]) (mem' := fm g tp bt q b) (fun _ _ _ => rfl) ?_
              refine fe_ivS fr_walkerRow (by omega) (by rfl) (by rfl) (by rfl) (by rfl) (by rfl) ?_
              rw [show (278 + 5 * (nI W) : Int32) = nI (278 + (5 * W)) from by simp only [show (278 : Int32) = nI 278 from rfl, show (5 : Int32) = nI 5 from rfl, nI_add, fm_mul]]
              refine fe_s 3 (pc' := 109) (lc' := [(5, .int (nI n)), (4, .int (nI Y)), (3, .int (nI n)), (0, .ref 0), (1, .int (nI W)), (2, .int to)]) (stk' := [.int (nI n), .int ((nI (278 + (5 * W))) + 3), .ref 1]) (mem' := fm g tp bt q b) (fun _ _ _ => rfl) ?_
              rw [show ((nI (278 + (5 * W))) + 3 : Int32) = nI ((278 + (5 * W)) + 3) from by simp only [show (3 : Int32) = nI 3 from rfl, nI_add, fm_mul]]
              refine fe_stI (mem' := fm g tp bt (fm_u q 1 (nI ((278 + (5 * W)) + 3)).toNatClampNeg (nI n)) b) (by rfl) (by rfl) (fx_inN (i := (278 + (5 * W)) + 3) (by omega) (by omega)) (by rfl) ?_
              rw [show Int32.toNatClampNeg (nI ((278 + (5 * W)) + 3)) = (278 + (5 * W)) + 3 from nI_clamp (by omega)]
              refine fe_s 1 (pc' := 111) (lc' := [(5, .int (nI n)), (4, .int (nI Y)), (3, .int (nI n)), (0, .ref 0), (1, .int (nI W)), (2, .int to)]) (stk' := [.int 0]) (mem' := fm g tp bt (fm_u q 1 ((278 + (5 * W)) + 3) (nI n)) b) (fun _ _ _ => rfl) ?_
              refine fe_ret ⟨_, _, Or.inl rfl, rfl, fun t h1 h9 => ?_, fun k hk => ?_, fun j => ?_⟩ (by rfl) (by rfl) (by rfl)
              · unfold fm_u; rw [if_neg h1, hq.1 t h1]; exact hp.1 t h9
              · unfold fm_u; rw [if_neg (by decide), hq.1 9 (by decide)]; exact fm_bfs_bd hp.2 k hk
              · unfold fm_u; rw [if_pos rfl]
                by_cases e9 : j = (278 + (5 * W)) + 3
                · subst e9; exact Or.inr (Or.inr ⟨by omega, n, by omega, pk_us⟩)
                · rw [pk_un e9]
                  rcases hq.2 j with z | z
                  · exact Or.inl (by rw [z, hp.1 1 (by decide)])
                  · exact Or.inr (Or.inl z)
            | succ r ih =>
              intro i hir Y q hY hq9 hq
              obtain ⟨c0, hc0, hc9, hnx⟩ := fm_next (g := g) (tp := tp) (bt := bt) (b := b) (d := r) (fm_way_bfs hq hp.2) (fm_way_sym hq hsp) hY hq9 (by omega)
              refine fe_s 2 (pc' := 63) (lc' := [(5, .int (nI i)), (4, .int (nI Y)), (3, .int (nI n)), (0, .ref 0), (1, .int (nI W)), (2, .int to)]) (stk' := [.int (nI n), .int (nI i)]) (mem' := fm g tp bt q b) (fun _ _ _ => rfl) ?_
              refine fe_s 1 (pc' := cond (fx_cb .ge (nI i) (nI n)) 98 66) (lc' := [(5, .int (nI i)), (4, .int (nI Y)), (3, .int (nI n)), (0, .ref 0), (1, .int (nI W)), (2, .int to)]) (stk' := []) (mem' := fm g tp bt q b) (fun _ _ _ => rfl) ?_
              rw [show (fx_cb .ge (nI i) (nI n)) = false from cb_geF (a := i) (b := n) (by omega) (by omega) (by omega)]
              dsimp only [cond]
              refine fe_s 2 (pc' := 69) (lc' := [(5, .int (nI i)), (4, .int (nI Y)), (3, .int (nI n)), (0, .ref 0), (1, .int (nI W)), (2, .int to)]) (stk' := [.int (nI Y), .ref 0]) (mem' := fm g tp bt q b) (fun _ _ _ => rfl) ?_
              refine fe_ivV hnx (by omega) (by rfl) (by rfl) (by rfl) (by rfl) (by rfl) (by rfl) ?_
              refine fe_s 11 (pc' := 91) (lc' := [(4, .int (nI c0)), (5, .int (nI i)), (3, .int (nI n)), (0, .ref 0), (1, .int (nI W)), (2, .int to)]) (stk' := [.int (nI c0), .int ((318 + (20 * (nI W))) + (nI i)), .ref 1]) (mem' := fm g tp bt q b) (fun _ _ _ => rfl) ?_
              rw [show ((318 + (20 * (nI W))) + (nI i) : Int32) = nI ((318 + (20 * W)) + i) from by simp only [show (318 : Int32) = nI 318 from rfl, show (20 : Int32) = nI 20 from rfl, nI_add, fm_mul]]
              refine fe_stI (mem' := fm g tp bt (fm_u q 1 (nI ((318 + (20 * W)) + i)).toNatClampNeg (nI c0)) b) (by rfl) (by rfl) (fx_inN (i := (318 + (20 * W)) + i) (by omega) (by omega)) (by rfl) ?_
              rw [show Int32.toNatClampNeg (nI ((318 + (20 * W)) + i)) = 318 + 20 * W + i from by rw [nI_clamp (by omega)]]
              refine fe_s 2 (pc' := 60) (lc' := [(5, .int ((nI i) + 1)), (4, .int (nI c0)), (3, .int (nI n)), (0, .ref 0), (1, .int (nI W)), (2, .int to)]) (stk' := []) (mem' := fm g tp bt (fm_u q 1 (318 + 20 * W + i) (nI c0)) b) (fun _ _ _ => rfl) ?_
              rw [show ((nI i) + 1 : Int32) = nI (i + 1) from by simp only [show (1 : Int32) = nI 1 from rfl, nI_add, fm_mul]]
              refine fe_w (lc' := [(5, .int (nI (i + 1))), (4, .int (nI c0)), (3, .int (nI n)), (0, .ref 0), (1, .int (nI W)), (2, .int to)]) ⟨rfl, rfl, rfl, rfl, rfl, rfl, trivial⟩ (by show List.Nodup [5, 4, 3, 0, 1, 2]; decide) (by show List.Nodup [5, 4, 3, 0, 1, 2]; decide) ?_
              refine ih (i + 1) (by omega) c0 _ hc0 ?_ (fm_way_set hq (by omega) hc0)
              show fm_u q 1 (318 + 20 * W + i) (nI c0) 9 c0 = nI r
              unfold fm_u; rw [if_neg (by decide)]; exact hc9
          exact loop n 0 (by omega) X p hX e ⟨fun _ _ => rfl, fun _ => Or.inl rfl⟩
    · refine fe_s 1 (pc' := 27) (lc' := [(0, .ref 0), (1, .int (nI W)), (2, .int to)]) (stk' := [.int 7]) (mem' := fm g tp bt a b) (fun _ _ _ => rfl) ?_
      exact fe_ret ⟨_, a, Or.inr (Or.inr rfl), rfl, ⟨fun _ _ _ => rfl, hb9, fun j => Or.inl rfl⟩⟩ (by rfl) (by rfl) (by rfl)
  · refine fe_s 1 (pc' := cond (fx_cb .ne 1 0) 25 8) (lc' := [(0, .ref 0), (1, .int (nI W)), (2, .int to)]) (stk' := []) (mem' := fm g tp bt a b) (fun _ _ _ => rfl) ?_
    rw [show (fx_cb .ne 1 0) = true from by decide]
    dsimp only [cond]
    refine fe_s 1 (pc' := 27) (lc' := [(0, .ref 0), (1, .int (nI W)), (2, .int to)]) (stk' := [.int 7]) (mem' := fm g tp bt a b) (fun _ _ _ => rfl) ?_
    exact fe_ret ⟨_, a, Or.inr (Or.inr rfl), rfl, ⟨fun _ _ _ => rfl, hb9, fun j => Or.inl rfl⟩⟩ (by rfl) (by rfl) (by rfl)
end FSN
