/-! ===== fx: TALES are read ===== -/
section FTQ
variable {g : Nat → Int32} {tp bt : Int64} {a : Nat → Nat → Int32} {b : Nat → Nat → Int64}
/-- what is left by TALES that were read, good or not -/
def fm_TK1 (g0 : Nat → Int32) (a0 : Nat → Nat → Int32) (g' : Nat → Int32) (a' : Nat → Nat → Int32) : Prop := (∀ j, j ≠ 2 → ¬ (10 ≤ j ∧ j ≤ 19) → j ≠ 22 → j ≠ 23 → g' j = g0 j) ∧ g' 10 = 0 ∧ (g' 2 = 0 ∨ g' 2 = 9) ∧ (∃ S E F, fm_xp g' S E F) ∧ fm_flt g' ∧ g' 16 = g' 18 ∧ g' 19 = 0 ∧ (∃ D, D ≤ 3 ∧ g' 22 = nI D) ∧ (∃ K, K ≤ 30 ∧ g' 23 = nI K) ∧ (∀ t, t ≠ 1 → t ≠ 7 → t ≠ 8 → a' t = a0 t) ∧ (∀ i, a' 7 i = a0 7 i ∨ ∃ x : Int32, a' 7 i = x.toInt8.toInt32) ∧ (∀ d, d < 3 → ∃ o, o ≤ 59 ∧ a' 8 d = nI o) ∧ (∀ i, i ≠ 6 → ¬ (478 ≤ i ∧ i < 838) → ¬ (3368 ≤ i ∧ i < 4210) → a' 1 i = a0 1 i) ∧ (∀ i, 3368 ≤ i → i < 4210 → (gm_at i).1 ≤ (a' 1 i).toInt ∧ (a' 1 i).toInt ≤ (gm_at i).2) ∧ fm_sy a' 3368 ∧ ((∀ i, i = 6 ∨ 478 ≤ i ∧ i < 838 → a' 1 i = a0 1 i) ∨ (∀ i, i = 6 ∨ 478 ≤ i ∧ i < 838 → (gm_at i).1 ≤ (a' 1 i).toInt ∧ (a' 1 i).toInt ≤ (gm_at i).2) ∧ ∃ n, n ≤ 60 ∧ a' 1 6 = nI n ∧ ∀ m, m < n → fm_ro (a' 1 (478 + 6 * m)) (a' 1 (479 + 6 * m)))
def fm_FTA (g0 : Nat → Int32) (tp bt : Int64) (a0 : Nat → Nat → Int32) (b0 : Nat → Nat → Int64) (n : Int32) (R : Option Value × fx_M) : Prop := ∃ (v : Int32) (g' : Nat → Int32) (a' : Nat → Nat → Int32), R = (some (.int v), fm g' tp bt a' b0) ∧ (¬ (0 ≤ n ∧ n ≤ g0 10 ∧ n ≤ 300) ∧ v = -1 ∧ g' = upd g0 2 1 ∧ a' = a0 ∨ (0 ≤ n ∧ n ≤ g0 10 ∧ n ≤ 300) ∧ fm_TK1 g0 a0 g' a')
theorem fm_TS_n {a0 a : Nat → Nat → Int32} {g : Nat → Int32} {n D K : Nat} (h : fm_TS a0 g a n D K) : n ≤ 60 := by have := h.2.2.2.2.2.1; omega
theorem fm_TK1_0 {g0 : Nat → Int32} {a0 : Nat → Nat → Int32} {g1 g2 g3 : Nat → Int32} {a1 a2 : Nat → Nat → Int32} {S E E2 F2 n D K : Nat} {s : Int32} (h1 : fm_begun g0 g1) (h2 : fm_tx7 a0 a1) (h9 : ∀ d, d < 3 → ∃ o, o ≤ 59 ∧ a2 8 d = nI o) (h3 : fm_gy g1 g2 S E E2 F2) (h4 : fm_TS a1 g2 a2 n D K) (hs : s = 0 ∨ s = 9) (e3 : g3 = upd (upd g2 16 (g2 18)) 2 s) : fm_TK1 g0 a0 g3 a2 := by
  subst e3
  obtain ⟨p1, p2, p3, p4, p5, p6⟩ := h1
  obtain ⟨q1, q2, q3, q4⟩ := h3
  obtain ⟨n1, n2, n3, n4, n5, ⟨c1, c2, c3, c4, c5⟩, n7, n8⟩ := h4
  have hg : ∀ j, j ≠ 2 → j ≠ 16 → upd (upd g2 16 (g2 18)) 2 s j = g2 j := fun j k1 k2 => by rw [pk_un k1, pk_un k2]
  refine ⟨fun j k1 k2 k3 k4 => ?_, ?_, ?_, ⟨S, E2, F2, ?_⟩, ?_, ?_, ?_, ⟨D, c2, ?_⟩, ⟨K, c4, ?_⟩, fun t t1 t7 t8 => ?_, fun i => ?_, h9, fun i k1 k2 k3 => ?_, n3, n4, Or.inl (fun i hi => ?_)⟩
  · rw [hg j k1 (by omega), q1 j (by omega) (by omega) (by omega) (by omega) (by omega) (by omega) k3 k4]
    exact p1 j (by omega) (by omega) (by omega) (by omega) (by omega) (by omega) (by omega) (by omega) (by omega)
  · rw [hg 10 (by decide) (by decide), q1 10 (by decide) (by decide) (by decide) (by decide) (by decide) (by decide) (by decide) (by decide)]; exact p2
  · rw [pk_us]; exact hs
  · unfold fm_xp at q2 ⊢
    rw [hg 11 (by decide) (by decide), hg 12 (by decide) (by decide), hg 13 (by decide) (by decide), hg 14 (by decide) (by decide), hg 15 (by decide) (by decide)]
    exact q2
  · unfold fm_flt at q3 ⊢
    rw [hg 17 (by decide) (by decide), hg 18 (by decide) (by decide)]
    exact q3
  · rw [pk_un (by decide), pk_us, hg 18 (by decide) (by decide)]
  · rw [hg 19 (by decide) (by decide), q1 19 (by decide) (by decide) (by decide) (by decide) (by decide) (by decide) (by decide) (by decide)]; exact p4
  · rw [hg 22 (by decide) (by decide)]; exact c1
  · rw [hg 23 (by decide) (by decide)]; exact c3
  · rw [n1 t t1 t8]; exact h2.1 t t7
  · rw [n1 7 (by decide) (by decide)]; exact h2.2 i
  · rw [n2 i k3, h2.1 1 (by decide)]
  · rw [n2 i (by omega), h2.1 1 (by decide)]
theorem gm_at_0s : ∀ i, i < 842 → 478 ≤ i → gm_at i = gm_at (3368 + i) := by decide +kernel
theorem fm_TK1_1 {g0 : Nat → Int32} {a0 : Nat → Nat → Int32} {g3 : Nat → Int32} {a2 a3 : Nat → Nat → Int32} {n : Nat} (h : fm_TK1 g0 a0 g3 a2) (hn : n ≤ 60) (en : a2 1 3374 = nI n) (hR : fm_TR a2 n) (k1 : ∀ t, t ≠ 1 → a3 t = a2 t) (k2 : ∀ i, i ≠ 6 → ¬ (478 ≤ i ∧ i < 838) → a3 1 i = a2 1 i) (k3 : ∀ i, 478 ≤ i → i < 838 → a3 1 i = a2 1 (3368 + i)) (k4 : a3 1 6 = nI n) : fm_TK1 g0 a0 g3 a3 := by
  obtain ⟨p1, p2, p3, p4, p5, p6, p7, p8, p9, p10, p11, p12, p13, p14, p15, -⟩ := h
  refine ⟨p1, p2, p3, p4, p5, p6, p7, p8, p9, fun t t1 t7 t8 => by rw [k1 t t1]; exact p10 t t1 t7 t8, fun i => by rw [k1 7 (by decide)]; exact p11 i, fun d hd => by rw [k1 8 (by decide)]; exact p12 d hd, fun i j1 j2 j3 => by rw [k2 i j1 j2]; exact p13 i j1 j2 j3, fun i j1 j2 => by rw [k2 i (by omega) (by omega)]; exact p14 i j1 j2, fun c d hc hd => ?_, Or.inr ⟨fun i hi => ?_, n, hn, k4, fun m hm => ?_⟩⟩
  · rw [k2 _ (by omega) (by omega), k2 _ (by omega) (by omega)]; exact p15 c d hc hd
  · rcases hi with rfl | ⟨i1, i2⟩
    · rw [k4, nI_i32 (by omega), show gm_at 6 = (-1, 60) from rfl]
      exact ⟨by show (-1 : Int) ≤ _; omega, by show _ ≤ (60 : Int); omega⟩
    · rw [k3 i i1 i2, gm_at_0s i (by omega) i1]
      exact p14 (3368 + i) (by omega) (by omega)
  · rw [k3 _ (by omega) (by omega), k3 _ (by omega) (by omega), show 3368 + (478 + 6 * m) = 3846 + 6 * m by omega, show 3368 + (479 + 6 * m) = 3847 + 6 * m by omega]
    exact hR m hm
theorem ta_77 {g0 g1 : Nat → Int32} {a0 a1 : Nat → Nat → Int32} {n : Int32} {S E E2 F2 N D K : Nat} {z : Int32} (hB : fm_begun g0 g1) (hX : fm_tx7 a0 a1) (hr : 0 ≤ n ∧ n ≤ g0 10 ∧ n ≤ 300) (hG : fm_gy g1 g S E E2 F2) (hT : fm_TS a1 g a N D K) (hR : g 18 = 0 → fm_TR a N) : fe_R 12 gk_m252 77 [(2, .int z), (0, .ref 0), (1, .int n)] [] (fm g tp bt a b) (fm_FTA g0 tp bt a0 b n) := by
  by_cases hz : g 18 = 0
  · refine fe_s 2 (pc' := 81) (lc' := [(2, .int z), (0, .ref 0), (1, .int n)]) (stk' := [.int (g 18)]) (mem' := fm g tp bt a b) (fun _ _ _ => rfl) ?_
    refine fe_s 1 (pc' := cond (fx_cb .ne (g 18) 0) 132 84) (lc' := [(2, .int z), (0, .ref 0), (1, .int n)]) (stk' := []) (mem' := fm g tp bt a b) (fun _ _ _ => rfl) ?_
    rw [show (fx_cb .ne (g 18) 0) = false from by rw [hz]; rfl]
    dsimp only [cond]
    have l103 : ∀ (r k : Nat), k + r = 838 → 478 ≤ k → ∀ a3 : Nat → Nat → Int32, (∀ t, t ≠ 1 → a3 t = a t) → (∀ i, i ≠ 6 → ¬ (478 ≤ i ∧ i < k) → a3 1 i = a 1 i) → (∀ i, 478 ≤ i → i < k → a3 1 i = a 1 (3368 + i)) → a3 1 6 = nI N → fe_R 12 gk_m252 103 [(3, .int (nI k)), (2, .int z), (0, .ref 0), (1, .int n)] [] (fm g tp bt a3 b) (fm_FTA g0 tp bt a0 b n) := by
      intro r
      induction r with
      | zero =>
        intro k hk h478 a3 k1 k2 k3 k4
        obtain rfl : k = 838 := by omega
        refine fe_s 2 (pc' := 107) (lc' := [(3, .int (nI 838)), (2, .int z), (0, .ref 0), (1, .int n)]) (stk' := [.int 838, .int (nI 838)]) (mem' := fm g tp bt a3 b) (fun _ _ _ => rfl) ?_
        refine fe_s 1 (pc' := cond (fx_cb .ge (nI 838) 838) 132 110) (lc' := [(3, .int (nI 838)), (2, .int z), (0, .ref 0), (1, .int n)]) (stk' := []) (mem' := fm g tp bt a3 b) (fun _ _ _ => rfl) ?_
        rw [show (fx_cb .ge (nI 838) 838) = true from cb_geT (a := 838) (b := 838) (by omega) (by omega) (by omega)]
        dsimp only [cond]
        refine fe_s 3 (pc' := 137) (lc' := [(3, .int (nI 838)), (2, .int z), (0, .ref 0), (1, .int n)]) (stk' := [.int (g 23), .ref 0]) (mem' := fm g tp bt a3 b) (fun _ _ _ => rfl) ?_
        obtain ⟨v7, mem7, ⟨x7, hx7⟩, hfr7⟩ := fr_taken (x := g 23) (g := g) (tp := tp) (bt := bt) (a := a3) (b := b) hG.2.2.1
        obtain ⟨hn7, rfl, hR7⟩ : g 18 = 0 ∧ x7 = _ ∧ _ := by rcases hx7 with q | q; exact absurd hz q.1; exact q
        cases hR7
        refine fe_ivV hfr7 (by omega) (by rfl) (by rfl) (by rfl) (by rfl) (by rfl) (by rfl) ?_
        exact fe_ret ⟨_, _, _, rfl, Or.inr ⟨hr, fm_TK1_1 (fm_TK1_0 hB hX hT.2.2.2.2.2.2.2 hG hT (Or.inl rfl) rfl) (fm_TS_n hT) hT.2.2.2.2.1 (hR hz) k1 k2 k3 k4⟩⟩ (by rfl) (by rfl) (by rfl)
      | succ r ih =>
        intro k hk h478 a3 k1 k2 k3 k4
        refine fe_s 2 (pc' := 107) (lc' := [(3, .int (nI k)), (2, .int z), (0, .ref 0), (1, .int n)]) (stk' := [.int 838, .int (nI k)]) (mem' := fm g tp bt a3 b) (fun _ _ _ => rfl) ?_
        refine fe_s 1 (pc' := cond (fx_cb .ge (nI k) 838) 132 110) (lc' := [(3, .int (nI k)), (2, .int z), (0, .ref 0), (1, .int n)]) (stk' := []) (mem' := fm g tp bt a3 b) (fun _ _ _ => rfl) ?_
        rw [show (fx_cb .ge (nI k) 838) = false from cb_geF (a := k) (b := 838) (by omega) (by omega) (by omega)]
        dsimp only [cond]
        refine fe_s 8 (pc' := 124) (lc' := [(3, .int (nI k)), (2, .int z), (0, .ref 0), (1, .int n)]) (stk' := [.int (3368 + (nI k)), .ref 1, .int (nI k), .ref 1]) (mem' := fm g tp bt a3 b) (fun _ _ _ => rfl) ?_
        rw [show (3368 + (nI k) : Int32) = nI (3368 + k) from by simp only [show (3368 : Int32) = nI 3368 from rfl, nI_add, fm_mul]]
        refine fe_ldI (by rfl) (by rfl) (fx_inN (i := 3368 + k) (by omega) (by omega)) ?_
        rw [show Int32.toNatClampNeg (nI (3368 + k)) = 3368 + k from nI_clamp (by omega)]
        refine fe_stI (mem' := fm g tp bt (fm_u a3 1 (nI k : Int32).toNatClampNeg (a3 1 (3368 + k))) b) (by rfl) (by rfl) (fx_inN (i := k) (by omega) (by omega)) (by rfl) ?_
        rw [show Int32.toNatClampNeg (nI k) = k from nI_clamp (by omega)]
        refine fe_s 2 (pc' := 103) (lc' := [(3, .int ((nI k) + 1)), (2, .int z), (0, .ref 0), (1, .int n)]) (stk' := []) (mem' := fm g tp bt (fm_u a3 1 k (a3 1 (3368 + k))) b) (fun _ _ _ => rfl) ?_
        rw [show ((nI k) + 1 : Int32) = nI (k + 1) from by simp only [show (1 : Int32) = nI 1 from rfl, nI_add, fm_mul]]
        refine ih (k + 1) (by omega) (by omega) _ (fun t ht => by rw [fm_ut ht]; exact k1 t ht) (fun i h6 hi => by rw [fm_u1, if_neg (by omega)]; exact k2 i h6 (by omega)) (fun i i1 i2 => ?_) (by rw [fm_u1, if_neg (by omega)]; exact k4)
        rw [fm_u1]
        split
        · next e => rw [e, k2 (3368 + k) (by omega) (by omega)]
        · exact k3 i i1 (by omega)
    refine fe_s 6 (pc' := 97) (lc' := [(2, .int z), (0, .ref 0), (1, .int n)]) (stk' := [.int 3374, .ref 1, .int 6, .ref 1]) (mem' := fm g tp bt a b) (fun _ _ _ => rfl) ?_
    refine fe_ldI (by rfl) (by rfl) (fx_inN (i := 3374) (by omega) (by omega)) ?_
    rw [show Int32.toNatClampNeg (3374) = 3374 from rfl]
    refine fe_stI (mem' := fm g tp bt (fm_u a 1 (6 : Int32).toNatClampNeg (a 1 3374)) b) (by rfl) (by rfl) (fx_inN (i := 6) (by omega) (by omega)) (by rfl) ?_
    rw [show Int32.toNatClampNeg (6) = 6 from rfl]
    refine fe_s 2 (pc' := 103) (lc' := [(3, .int 478), (2, .int z), (0, .ref 0), (1, .int n)]) (stk' := []) (mem' := fm g tp bt (fm_u a 1 6 (a 1 3374)) b) (fun _ _ _ => rfl) ?_
    refine fe_w (lc' := [(3, .int (nI 478)), (2, .int z), (0, .ref 0), (1, .int n)]) ⟨rfl, rfl, rfl, rfl, trivial⟩ (by show List.Nodup [3, 2, 0, 1]; decide) (by show List.Nodup [3, 2, 0, 1]; decide) ?_
    exact l103 360 478 (by omega) (by omega) _ (fun t ht => fm_ut ht) (fun i h6 hi => by rw [fm_u1, if_neg h6]) (fun i i1 i2 => by omega) (by rw [fm_u1, if_pos rfl, hT.2.2.2.2.1])
  · refine fe_s 2 (pc' := 81) (lc' := [(2, .int z), (0, .ref 0), (1, .int n)]) (stk' := [.int (g 18)]) (mem' := fm g tp bt a b) (fun _ _ _ => rfl) ?_
    refine fe_s 1 (pc' := cond (fx_cb .ne (g 18) 0) 132 84) (lc' := [(2, .int z), (0, .ref 0), (1, .int n)]) (stk' := []) (mem' := fm g tp bt a b) (fun _ _ _ => rfl) ?_
    rw [show (fx_cb .ne (g 18) 0) = true from by show (!decide (g 18 = 0)) = true; rw [decide_eq_false hz]; rfl]
    dsimp only [cond]
    refine fe_s 3 (pc' := 137) (lc' := [(2, .int z), (0, .ref 0), (1, .int n)]) (stk' := [.int (g 23), .ref 0]) (mem' := fm g tp bt a b) (fun _ _ _ => rfl) ?_
    obtain ⟨v7, mem7, ⟨x7, hx7⟩, hfr7⟩ := fr_taken (x := g 23) (g := g) (tp := tp) (bt := bt) (a := a) (b := b) hG.2.2.1
    obtain ⟨hn7, rfl, hR7⟩ : ¬ g 18 = 0 ∧ x7 = -1 ∧ _ := by rcases hx7 with q | q; exact q; exact absurd q.1 hz
    cases hR7
    refine fe_ivV hfr7 (by omega) (by rfl) (by rfl) (by rfl) (by rfl) (by rfl) (by rfl) ?_
    exact fe_ret ⟨_, _, _, rfl, Or.inr ⟨hr, fm_TK1_0 hB hX hT.2.2.2.2.2.2.2 hG hT (Or.inr rfl) rfl⟩⟩ (by rfl) (by rfl) (by rfl)
theorem ta_57 {g0 g1 : Nat → Int32} {a0 a1 : Nat → Nat → Int32} {n : Int32} {S E E2 F2 N D K : Nat} {z : Int32} (hB : fm_begun g0 g1) (hX : fm_tx7 a0 a1) (hr : 0 ≤ n ∧ n ≤ g0 10 ∧ n ≤ 300) (hG : fm_gy g1 g S E E2 F2) (hT : fm_TS a1 g a N D K) (hR : g 18 = 0 → fm_TR a N) : fe_R 12 gk_m252 57 [(2, .int z), (0, .ref 0), (1, .int n)] [] (fm g tp bt a b) (fm_FTA g0 tp bt a0 b n) := by
  by_cases hz : g 18 = 0
  · refine fe_s 2 (pc' := 61) (lc' := [(2, .int z), (0, .ref 0), (1, .int n)]) (stk' := [.int (g 18)]) (mem' := fm g tp bt a b) (fun _ _ _ => rfl) ?_
    refine fe_s 1 (pc' := cond (fx_cb .ne (g 18) 0) 77 64) (lc' := [(2, .int z), (0, .ref 0), (1, .int n)]) (stk' := []) (mem' := fm g tp bt a b) (fun _ _ _ => rfl) ?_
    rw [show (fx_cb .ne (g 18) 0) = false from by rw [hz]; rfl]
    dsimp only [cond]
    obtain ⟨eD, hD3, eK, hK30, hnK⟩ := hT.2.2.2.2.2.1
    refine fe_s 2 (pc' := 68) (lc' := [(2, .int z), (0, .ref 0), (1, .int n)]) (stk' := [.int (g 22)]) (mem' := fm g tp bt a b) (fun _ _ _ => rfl) ?_
    try rw [eD]
    refine fe_s 1 (pc' := cond (fx_cb .le (nI D) 0) 77 71) (lc' := [(2, .int z), (0, .ref 0), (1, .int n)]) (stk' := []) (mem' := fm g tp bt a b) (fun _ _ _ => rfl) ?_
    by_cases h1 : D ≤ 0
    · rw [show (fx_cb .le (nI D) 0) = true from cb_leT (a := D) (b := 0) (by omega) (by omega) (by omega)]
      dsimp only [cond]
      refine fe_w (lc' := [(2, .int z), (0, .ref 0), (1, .int n)]) ⟨rfl, rfl, rfl, trivial⟩ (by show List.Nodup [2, 0, 1]; decide) (by show List.Nodup [2, 0, 1]; decide) ?_
      exact ta_77 hB hX hr hG hT hR
    · rw [show (fx_cb .le (nI D) 0) = false from cb_leF (a := D) (b := 0) (by omega) (by omega) (by omega)]
      dsimp only [cond]
      refine fe_s 2 (pc' := 73) (lc' := [(2, .int z), (0, .ref 0), (1, .int n)]) (stk' := [.int 2, .ref 0]) (mem' := fm g tp bt a b) (fun _ _ _ => rfl) ?_
      obtain ⟨gf, hfrf, hof, hzf⟩ := fr_failsq (x := 2) (g := g) (tp := tp) (bt := bt) (a := a) (b := b) (by omega) (by omega) hG.2.1 hG.2.2.1
      have gof := fm_gy_tr hG hof
      have hT2 : fm_TS a1 gf a N D K := ⟨hT.1, hT.2.1, hT.2.2.1, hT.2.2.2.1, hT.2.2.2.2.1, ⟨by rw [hof.1 22 (by decide) (by decide) (by decide) (by decide) (by decide) (by decide)]; exact eD, hD3, by rw [hof.1 23 (by decide) (by decide) (by decide) (by decide) (by decide) (by decide)]; exact eK, hK30, hnK⟩, hT.2.2.2.2.2.2.1, hT.2.2.2.2.2.2.2⟩
      refine fe_ivV hfrf (by omega) (by rfl) (by rfl) (by rfl) (by rfl) (by rfl) (by rfl) ?_
      refine fe_s 1 (pc' := 77) (lc' := [(2, .int z), (0, .ref 0), (1, .int n)]) (stk' := []) (mem' := fm gf tp bt a b) (fun _ _ _ => rfl) ?_
      refine fe_w (lc' := [(2, .int z), (0, .ref 0), (1, .int n)]) ⟨rfl, rfl, rfl, trivial⟩ (by show List.Nodup [2, 0, 1]; decide) (by show List.Nodup [2, 0, 1]; decide) ?_
      exact ta_77 hB hX hr gof hT2 (fun z => absurd z hzf)
  · refine fe_s 2 (pc' := 61) (lc' := [(2, .int z), (0, .ref 0), (1, .int n)]) (stk' := [.int (g 18)]) (mem' := fm g tp bt a b) (fun _ _ _ => rfl) ?_
    refine fe_s 1 (pc' := cond (fx_cb .ne (g 18) 0) 77 64) (lc' := [(2, .int z), (0, .ref 0), (1, .int n)]) (stk' := []) (mem' := fm g tp bt a b) (fun _ _ _ => rfl) ?_
    rw [show (fx_cb .ne (g 18) 0) = true from by show (!decide (g 18 = 0)) = true; rw [decide_eq_false hz]; rfl]
    dsimp only [cond]
    exact ta_77 hB hX hr hG hT hR
theorem ta_t0 {g0 g1 : Nat → Int32} {a0 a1 : Nat → Nat → Int32} {n : Int32} {S E E2 F2 N D K : Nat} (hB : fm_begun g0 g1) (hX : fm_tx7 a0 a1) (hr : 0 ≤ n ∧ n ≤ g0 10 ∧ n ≤ 300) (hG : fm_gy g1 g S E E2 F2) (hT : fm_TS a1 g a N D K) (hR : fm_TR a N) (h0 : g 12 = 0) : fe_R 12 gk_m252 38 [(2, .int 1), (0, .ref 0), (1, .int n)] [] (fm g tp bt a b) (fm_FTA g0 tp bt a0 b n) := by
  refine fe_s 1 (pc' := 39) (lc' := [(2, .int 1), (0, .ref 0), (1, .int n)]) (stk' := [.int 1]) (mem' := fm g tp bt a b) (fun _ _ _ => rfl) ?_
  refine fe_s 1 (pc' := 42) (lc' := [(2, .int 1), (0, .ref 0), (1, .int n)]) (stk' := []) (mem' := fm g tp bt a b) (fun _ _ _ => rfl) ?_
  refine fe_s 2 (pc' := 46) (lc' := [(2, .int 1), (0, .ref 0), (1, .int n)]) (stk' := [.int (g 12)]) (mem' := fm g tp bt a b) (fun _ _ _ => rfl) ?_
  refine fe_s 1 (pc' := cond (fx_cb .eq (g 12) 0) 57 49) (lc' := [(2, .int 1), (0, .ref 0), (1, .int n)]) (stk' := []) (mem' := fm g tp bt a b) (fun _ _ _ => rfl) ?_
  rw [show (fx_cb .eq (g 12) 0) = true from decide_eq_true h0]
  dsimp only [cond]
  exact ta_57 hB hX hr hG hT (fun _ => hR)
theorem ta_38 {g0 g1 : Nat → Int32} {a0 a1 : Nat → Nat → Int32} {n : Int32} (hB : fm_begun g0 g1) (hX : fm_tx7 a0 a1) (hr : 0 ≤ n ∧ n ≤ g0 10 ∧ n ≤ 300) {C W E0 : Nat} (hH : fm_th a1 C W) : ∀ (r : Nat) {S E F N D K : Nat} {g : Nat → Int32} {a : Nat → Nat → Int32}, S - E < r → fm_gy g1 g S E0 E F → fm_TS a1 g a N D K → fm_TR a N → g 18 = 0 → fe_R 12 gk_m252 38 [(2, .int 1), (0, .ref 0), (1, .int n)] [] (fm g tp bt a b) (fm_FTA g0 tp bt a0 b n) := by
  intro r
  induction r with
  | zero => intro S E F N D K g a h; exact absurd h (Nat.not_lt_zero _)
  | succ r ih =>
    intro S E F N D K g a hr9 hG hT hR hz
    by_cases h0 : g 12 = 0
    · exact ta_t0 hB hX hr hG hT hR h0
    · refine fe_s 1 (pc' := 39) (lc' := [(2, .int 1), (0, .ref 0), (1, .int n)]) (stk' := [.int 1]) (mem' := fm g tp bt a b) (fun _ _ _ => rfl) ?_
      refine fe_s 1 (pc' := cond (fx_cb .eq 1 0) 57 42) (lc' := [(2, .int 1), (0, .ref 0), (1, .int n)]) (stk' := []) (mem' := fm g tp bt a b) (fun _ _ _ => rfl) ?_
      rw [show (fx_cb .eq 1 0) = false from by decide]
      dsimp only [cond]
      refine fe_s 2 (pc' := 46) (lc' := [(2, .int 1), (0, .ref 0), (1, .int n)]) (stk' := [.int (g 12)]) (mem' := fm g tp bt a b) (fun _ _ _ => rfl) ?_
      refine fe_s 1 (pc' := cond (fx_cb .eq (g 12) 0) 57 49) (lc' := [(2, .int 1), (0, .ref 0), (1, .int n)]) (stk' := []) (mem' := fm g tp bt a b) (fun _ _ _ => rfl) ?_
      rw [show (fx_cb .eq (g 12) 0) = false from decide_eq_false h0]
      dsimp only [cond]
      refine fe_s 1 (pc' := 50) (lc' := [(2, .int 1), (0, .ref 0), (1, .int n)]) (stk' := [.ref 0]) (mem' := fm g tp bt a b) (fun _ _ _ => rfl) ?_
      obtain ⟨v5, mem5, ⟨x5, g5, E5, F5, a5, N5, D5, K5, ho5, hT5, hv5, hR5⟩, hfr5⟩ := fr_taleStep (g := g) (tp := tp) (bt := bt) (a := a) (b := b) (a0 := a1) hG.2.1 hG.2.2.1 hH hT hR
      cases hR5
      have hG5 := fm_gy_tx hG ho5
      refine fe_ivV hfr5 (by omega) (by rfl) (by rfl) (by rfl) (by rfl) (by rfl) (by rfl) ?_
      rcases hv5 with ⟨rfl, hz5⟩ | ⟨rfl, he5, hp5, hW5⟩
      · refine fe_s 2 (pc' := 38) (lc' := [(2, .int 0), (0, .ref 0), (1, .int n)]) (stk' := []) (mem' := fm g5 tp bt a5 b) (fun _ _ _ => rfl) ?_
        refine fe_w (lc' := [(2, .int 0), (0, .ref 0), (1, .int n)]) ⟨rfl, rfl, rfl, trivial⟩ (by show List.Nodup [2, 0, 1]; decide) (by show List.Nodup [2, 0, 1]; decide) ?_
        refine fe_s 1 (pc' := 39) (lc' := [(2, .int 0), (0, .ref 0), (1, .int n)]) (stk' := [.int 0]) (mem' := fm g5 tp bt a5 b) (fun _ _ _ => rfl) ?_
        refine fe_s 1 (pc' := 57) (lc' := [(2, .int 0), (0, .ref 0), (1, .int n)]) (stk' := []) (mem' := fm g5 tp bt a5 b) (fun _ _ _ => rfl) ?_
        exact ta_57 hB hX hr hG5 hT5 (fun q => absurd q hz5)
      · refine fe_s 2 (pc' := 38) (lc' := [(2, .int 1), (0, .ref 0), (1, .int n)]) (stk' := []) (mem' := fm g5 tp bt a5 b) (fun _ _ _ => rfl) ?_
        refine fe_w (lc' := [(2, .int 1), (0, .ref 0), (1, .int n)]) ⟨rfl, rfl, rfl, trivial⟩ (by show List.Nodup [2, 0, 1]; decide) (by show List.Nodup [2, 0, 1]; decide) ?_
        rcases hp5 with hq5 | hq5
        · exact ta_t0 hB hX hr hG5 hT5 hW5 hq5
        · exact ih (by have := ho5.2.1.2.2.2.1; omega) hG5 hT5 hW5 (he5.trans hz)
/-- what must be so ahead: the tape's length, the heads of the LAKE, the NEW table -/
def fm_TH (g : Nat → Int32) (a : Nat → Nat → Int32) : Prop := (∃ T, T ≤ 900 ∧ g 10 = nI T) ∧ (∃ C W, fm_th a C W) ∧ (∀ i, 3368 ≤ i → i < 4210 → (gm_at i).1 ≤ (a 1 i).toInt ∧ (a 1 i).toInt ≤ (gm_at i).2) ∧ fm_sy a 3368 ∧ ∀ d, d < 3 → ∃ o, o ≤ 59 ∧ a 8 d = nI o
theorem fm_TS_0 {g0 g5 : Nat → Int32} {a0 a5 : Nat → Nat → Int32} (h : fm_TH g0 a0) (hX : fm_tx7 a0 a5) : fm_TS a5 (upd (upd g5 22 0) 23 0) (fm_u a5 1 3374 0) 0 0 0 := by
  obtain ⟨-, -, h3, h4, h5⟩ := h
  have e1 : a5 1 = a0 1 := hX.1 1 (by decide)
  refine ⟨fun t t1 _ => fm_ut t1, fun i hi => by rw [fm_u1, if_neg (by omega)], fun i j1 j2 => ?_, fun c d hc hd => ?_, by rw [fm_u1, if_pos rfl]; rfl, ⟨rfl, by omega, rfl, by omega, by omega⟩, fun d hd => absurd hd (Nat.not_lt_zero d), fun d hd => ?_⟩
  · rw [fm_u1]
    split
    · next e => rw [e]; decide
    · rw [e1]; exact h3 i j1 j2
  · rw [fm_u1, fm_u1, if_neg (by omega), if_neg (by omega), e1]; exact h4 c d hc hd
  · rw [fm_ut (by decide), hX.1 8 (by decide)]; exact h5 d hd
theorem fr_tales {n : Int32} (hH : fm_TH g a) : ∃ (v : Option Value) (mem' : fx_M), (fm_FTA g tp bt a b n) (v, mem') ∧ fr_T 13 252 [.ref 0, .int n] (fm g tp bt a b) v mem' := by
  refine fe_meth (F := fm_FTA g tp bt a b n) (M := gk_m252) (by rfl) (by rfl) ?_
  refine fe_s 3 (pc' := 5) (lc' := [(0, .ref 0), (1, .int n)]) (stk' := [.int 300, .int n, .ref 0]) (mem' := fm g tp bt a b) (fun _ _ _ => rfl) ?_
  obtain ⟨v5, mem5, ⟨x5, g5, a5, hR5, hv5⟩, hfr5⟩ := fr_begins (n := n) (most := 300) (g := g) (tp := tp) (bt := bt) (a := a) (b := b) hH.1
  cases hR5
  refine fe_ivV hfr5 (by omega) (by rfl) (by rfl) (by rfl) (by rfl) (by rfl) (by rfl) ?_
  rcases hv5 with ⟨rfl, rfl, rfl, hn5⟩ | ⟨rfl, hr5, hB5, hX5⟩
  · refine fe_s 1 (pc' := cond (fx_cb .ne 0 0) 17 11) (lc' := [(0, .ref 0), (1, .int n)]) (stk' := []) (mem' := fm g5 tp bt a5 b) (fun _ _ _ => rfl) ?_
    rw [show (fx_cb .ne 0 0) = false from by decide]
    dsimp only [cond]
    refine fe_s 2 (pc' := 13) (lc' := [(0, .ref 0), (1, .int n)]) (stk' := [.int 1, .ref 0]) (mem' := fm g5 tp bt a5 b) (fun _ _ _ => rfl) ?_
    refine fe_ivV (fr_refuse (x := 1)) (by omega) (by rfl) (by rfl) (by rfl) (by rfl) (by rfl) (by rfl) ?_
    exact fe_ret ⟨_, _, _, rfl, Or.inl ⟨hn5, rfl, rfl, rfl⟩⟩ (by rfl) (by rfl) (by rfl)
  · refine fe_s 1 (pc' := cond (fx_cb .ne 1 0) 17 11) (lc' := [(0, .ref 0), (1, .int n)]) (stk' := []) (mem' := fm g5 tp bt a5 b) (fun _ _ _ => rfl) ?_
    rw [show (fx_cb .ne 1 0) = true from by decide]
    dsimp only [cond]
    refine fe_s 4 (pc' := 25) (lc' := [(0, .ref 0), (1, .int n)]) (stk' := [.int 0, .int 3374, .ref 1]) (mem' := fm g5 tp bt a5 b) (fun _ _ _ => rfl) ?_
    refine fe_stI (mem' := fm g5 tp bt (fm_u a5 1 (3374 : Int32).toNatClampNeg 0) b) (by rfl) (by rfl) (fx_inN (i := 3374) (by omega) (by omega)) (by rfl) ?_
    rw [show Int32.toNatClampNeg (3374) = 3374 from rfl]
    refine fe_s 8 (pc' := 38) (lc' := [(2, .int 1), (0, .ref 0), (1, .int n)]) (stk' := []) (mem' := fm (upd (upd g5 22 0) 23 0) tp bt (fm_u a5 1 3374 0) b) (fun _ _ _ => rfl) ?_
    refine fe_w (lc' := [(2, .int 1), (0, .ref 0), (1, .int n)]) ⟨rfl, rfl, rfl, trivial⟩ (by show List.Nodup [2, 0, 1]; decide) (by show List.Nodup [2, 0, 1]; decide) ?_
    obtain ⟨S, E, F, hx5⟩ := hB5.2.2.2.2.1
    obtain ⟨C, W, hth⟩ := hH.2.1
    have e1 : a5 1 = a 1 := hX5.1 1 (by decide)
    exact ta_38 hB5 hX5 hr5 (C := C) (W := W) ⟨by rw [e1]; exact hth.1, hth.2.1, by rw [e1]; exact hth.2.2.1, hth.2.2.2⟩ (S - E + 1) (by omega) (fm_gy_up (fm_gy_up (fm_gy_rf hx5 hB5.2.2.2.2.2) (by decide)) (by decide)) (fm_TS_0 hH hX5) (fun m hm => absurd hm (Nat.not_lt_zero m)) (((pk_un (by decide)).trans (pk_un (by decide))).trans hB5.2.2.1)
end FTQ
