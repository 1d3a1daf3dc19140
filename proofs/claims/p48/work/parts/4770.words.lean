/-! ===== fx: which word it is ===== -/
/-- where the model's words begin -/
def mw_s : List Nat := [1, 5, 11, 15, 22, 29, 35, 40, 47, 53, 60, 63, 68, 73, 79, 84, 88, 91, 94, 99, 104, 108, 113, 117]
theorem mv_ok : ∀ j, j < 23 → mw_s.getD j 0 < mw_s.getD (j + 1) 0 - 1 ∧ mw_s.getD (j + 1) 0 ≤ 117 ∧ sk_b.getD (mw_s.getD (j + 1) 0 - 1) 0 = 32 := by decide +kernel
theorem mw_sp : ∀ j, j < 23 → ∀ i, i < 117 → mw_s.getD j 0 ≤ i → i < mw_s.getD (j + 1) 0 - 1 → sk_b.getD i 0 ≠ 32 := by decide +kernel
section FIW
variable {g : Nat → Int32} {tp bt : Int64} {a : Nat → Nat → Int32} {b : Nat → Nat → Int64} {n : Nat}
theorem fe_chr {k : Nat} {M : rk_M2} {pc idx i : Nat} {lc : fx_L} {r : List Value} {mem : fx_M} {F : Option Value × fx_M → Prop} (hi : i < 117) (hat : tk_at M.1 pc = some (pc, .invokevirtual idx, 3)) (hlk : rk_lk M.2.2.1 idx = some (5, 378, 1)) (hm : mem[22]? = none ∧ mem.length = 22) (hsum : Nat.ble (fx_sum r) 8 = true) (kk : fe_R k M (pc + 3) lc (.int (sk_b.getD i 0) :: r) mem F) : fe_R k M pc lc (.int (nI i) :: .ref 22 :: r) mem F := by
  refine fe_s 1 (pc' := pc + 3) (lc' := lc) (stk' := .int (sk_b.getD i 0) :: r) (mem' := mem) (fun N d n => ?_) kk
  refine fx_one (z := (pc + 3, lc, .int (sk_b.getD i 0) :: r, mem)) hat rfl rfl ?_
  show (match rk_lk M.2.2.1 idx with
    | some q => cond (Nat.beq q.1 5 || Nat.beq q.1 6) (fx_cv gk_mci (fm_call (N + 100) (d + k)) (pc + 3) q.2.1 q.2.2 lc (.int (nI i) :: .ref 22 :: r) mem) none
    | none => none) = _
  rw [hlk]
  show fx_cv gk_mci (fm_call (N + 100) (d + k)) (pc + 3) 378 1 lc (.int (nI i) :: .ref 22 :: r) mem = _
  show (match mem[22]? with
    | some (.inl o) => cond (Nat.ble (fx_sum r) 8 && decide (gk_mci[378]? = some o.1)) (fx_aft (pc + 3) lc r (fm_call (N + 100) (d + k) 378 (.ref 22 :: [.int (nI i)]) mem)) none
    | none => fx_sv (pc + 3) 378 22 [.int (nI i)] r lc mem
    | _ => none) = _
  rw [hm.1]
  show fx_sv (pc + 3) 378 22 [.int (nI i)] r lc mem = _
  unfold fx_sv
  rw [show fx_sc 378 [.int (nI i)] = some (.int (sk_b.getD i 0)) from by
    show cond (Nat.beq 378 378 && fx_in (nI i) sk_n) (some (Value.int (sk_b.getD (nI i).toNatClampNeg 0))) none = _
    rw [show fx_in (nI i) sk_n = true from fx_inN hi (by decide), nI_clamp (by omega)]
    rfl]
  show cond (Nat.ble (fx_sum r) 8 && Nat.beq 22 mem.length) _ none = _
  rw [hsum, hm.2]
  rfl
def fm_FI (mem : fx_M) (R : Option Value × fx_M) : Prop := ∃ v : Int32, (v = -1 ∨ ∃ n, n < 24 ∧ v = nI n) ∧ R = (some (.int v), mem)
/-- the letters of a word against the token's -/
def mw_eq (a : Nat → Nat → Int32) (n s k e : Nat) : Prop := ∀ i, i < e - k → sk_b.getD (k + i) 0 = fm_byte a n (s + i)
theorem mw_like {s k e m : Nat} {F : Option Value × fx_M → Prop} (h11 : g 11 = nI n) (hn : n ≤ 900) (h13 : g 13 = nI s) (hs : s ≤ n) (hk : k ≤ e) (he : e < 117) (hyes : mw_eq a n s k e → fe_R 1 gk_m226 115 [(6, .int (nI e)), (5, .int 1), (4, .int (nI e)), (3, .int (nI k)), (2, .int (nI m)), (0, .ref 0), (1, .ref 22)] [] (fm g tp bt a b) F) (hno : ∀ i, ¬ mw_eq a n s k e → fe_R 1 gk_m226 115 [(6, .int (nI i)), (5, .int 0), (4, .int (nI e)), (3, .int (nI k)), (2, .int (nI m)), (0, .ref 0), (1, .ref 22)] [] (fm g tp bt a b) F) : ∀ (r i : Nat), i + r = e → k ≤ i → (∀ j, j < i - k → sk_b.getD (k + j) 0 = fm_byte a n (s + j)) → fe_R 1 gk_m226 68 [(6, .int (nI i)), (5, .int 1), (4, .int (nI e)), (3, .int (nI k)), (2, .int (nI m)), (0, .ref 0), (1, .ref 22)] [] (fm g tp bt a b) F := by
  intro r
  induction r with
  | zero =>
    intro i hr hki hall
    obtain rfl : i = e := by omega
    refine fe_s 3 (pc' := cond (fx_cb .ge (nI i) (nI i)) 115 75) (lc' := [(6, .int (nI i)), (5, .int 1), (4, .int (nI i)), (3, .int (nI k)), (2, .int (nI m)), (0, .ref 0), (1, .ref 22)]) (stk' := []) (mem' := fm g tp bt a b) (fun _ _ _ => rfl) ?_
    rw [show fx_cb .ge (nI i) (nI i) = true from cb_geT (a := i) (b := i) (by omega) (by omega) (by omega)]
    exact hyes hall
  | succ r ih =>
    intro i hr hki hall
    refine fe_s 3 (pc' := cond (fx_cb .ge (nI i) (nI e)) 115 75) (lc' := [(6, .int (nI i)), (5, .int 1), (4, .int (nI e)), (3, .int (nI k)), (2, .int (nI m)), (0, .ref 0), (1, .ref 22)]) (stk' := []) (mem' := fm g tp bt a b) (fun _ _ _ => rfl) ?_
    rw [show fx_cb .ge (nI i) (nI e) = false from cb_geF (a := i) (b := e) (by omega) (by omega) (by omega)]
    dsimp only [cond]
    refine fe_s 4 (pc' := 83) (lc' := [(6, .int (nI i)), (5, .int 1), (4, .int (nI e)), (3, .int (nI k)), (2, .int (nI m)), (0, .ref 0), (1, .ref 22)]) (stk' := [.int (nI i), .ref 22]) (mem' := fm g tp bt a b) (fun _ _ _ => rfl) ?_
    refine fe_chr (i := i) (by omega) (by rfl) (by rfl) ⟨by rfl, by rfl⟩ (by rfl) ?_
    refine fe_s 7 (pc' := 96) (lc' := [(6, .int (nI i)), (5, .int 1), (4, .int (nI e)), (3, .int (nI k)), (2, .int (nI m)), (0, .ref 0), (1, .ref 22)]) (stk' := [.int (g 13 + nI i - nI k), .ref 0, .int (sk_b.getD i 0)]) (mem' := fm g tp bt a b) (fun _ _ _ => rfl) ?_
    rw [h13, nI_add, tg_sub2 (x := s + i) (y := k) (by omega)]
    refine fe_ivV (fr_byteAt (S := n) (k := s + i - k) (g := g) (tp := tp) (bt := bt) (a := a) (b := b) h11 hn (by omega)) (by omega) (by rfl) (by rfl) (by rfl) (by rfl) (by rfl) (by rfl) ?_
    have ei : sk_b.getD i 0 = sk_b.getD (k + (i - k)) 0 := by rw [show k + (i - k) = i by omega]
    have eb : fm_byte a n (s + i - k) = fm_byte a n (s + (i - k)) := by rw [show s + i - k = s + (i - k) by omega]
    refine fe_s 1 (pc' := cond (fx_cb .ne (sk_b.getD i 0) (fm_byte a n (s + i - k))) 106 102) (lc' := [(6, .int (nI i)), (5, .int 1), (4, .int (nI e)), (3, .int (nI k)), (2, .int (nI m)), (0, .ref 0), (1, .ref 22)]) (stk' := []) (mem' := fm g tp bt a b) (fun _ _ _ => rfl) ?_
    by_cases hq : sk_b.getD i 0 = fm_byte a n (s + i - k)
    · rw [show fx_cb .ne (sk_b.getD i 0) (fm_byte a n (s + i - k)) = false from by show (!decide (sk_b.getD i 0 = fm_byte a n (s + i - k))) = false; rw [decide_eq_true hq]; rfl]
      dsimp only [cond]
      refine fe_s 5 (pc' := 68) (lc' := [(6, .int (nI i + 1)), (5, .int 1), (4, .int (nI e)), (3, .int (nI k)), (2, .int (nI m)), (0, .ref 0), (1, .ref 22)]) (stk' := []) (mem' := fm g tp bt a b) (fun _ _ _ => rfl) ?_
      rw [show nI i + 1 = nI (i + 1) from nI_add i 1]
      refine ih (i + 1) (by omega) (by omega) (fun j hj => ?_)
      by_cases ej : j = i - k
      · rw [ej, ← ei, ← eb]; exact hq
      · exact hall j (by omega)
    · rw [show fx_cb .ne (sk_b.getD i 0) (fm_byte a n (s + i - k)) = true from by show (!decide (sk_b.getD i 0 = fm_byte a n (s + i - k))) = true; rw [decide_eq_false hq]; rfl]
      dsimp only [cond]
      have hne : ¬ mw_eq a n s k e := fun z => hq (by rw [ei, eb]; exact z (i - k) (by omega))
      refine fe_s 4 (pc' := 68) (lc' := [(6, .int (nI i + 1)), (5, .int 0), (4, .int (nI e)), (3, .int (nI k)), (2, .int (nI m)), (0, .ref 0), (1, .ref 22)]) (stk' := []) (mem' := fm g tp bt a b) (fun _ _ _ => rfl) ?_
      rw [show nI i + 1 = nI (i + 1) from nI_add i 1]
      refine fe_s 3 (pc' := cond (fx_cb .ge (nI (i + 1)) (nI e)) 115 75) (lc' := [(6, .int (nI (i + 1))), (5, .int 0), (4, .int (nI e)), (3, .int (nI k)), (2, .int (nI m)), (0, .ref 0), (1, .ref 22)]) (stk' := []) (mem' := fm g tp bt a b) (fun _ _ _ => rfl) ?_
      by_cases h9 : e ≤ i + 1
      · rw [show fx_cb .ge (nI (i + 1)) (nI e) = true from cb_geT (a := i + 1) (b := e) (by omega) (by omega) h9]
        exact hno (i + 1) hne
      · rw [show fx_cb .ge (nI (i + 1)) (nI e) = false from cb_geF (a := i + 1) (b := e) (by omega) (by omega) h9]
        dsimp only [cond]
        refine fe_s 2 (pc' := 115) (lc' := [(6, .int (nI (i + 1))), (5, .int 0), (4, .int (nI e)), (3, .int (nI k)), (2, .int (nI m)), (0, .ref 0), (1, .ref 22)]) (stk' := []) (mem' := fm g tp bt a b) (fun _ _ _ => rfl) ?_
        exact hno (i + 1) hne
/-- where a word ends -/
theorem mw_end {k e m : Nat} {F : Option Value × fx_M → Prop} (he : e < 117) (h32 : sk_b.getD e 0 = 32) (hall : ∀ i, i < 117 → k ≤ i → i < e → sk_b.getD i 0 ≠ 32) (kk : fe_R 1 gk_m226 42 [(4, .int (nI e)), (3, .int (nI k)), (2, .int (nI m)), (0, .ref 0), (1, .ref 22)] [] (fm g tp bt a b) F) : ∀ (r i : Nat), i + r = e → k ≤ i → fe_R 1 gk_m226 25 [(4, .int (nI i)), (3, .int (nI k)), (2, .int (nI m)), (0, .ref 0), (1, .ref 22)] [] (fm g tp bt a b) F := by
  intro r
  induction r with
  | zero =>
    intro i hr hki
    obtain rfl : i = e := by omega
    refine fe_s 2 (pc' := 28) (lc' := [(4, .int (nI i)), (3, .int (nI k)), (2, .int (nI m)), (0, .ref 0), (1, .ref 22)]) (stk' := [.int (nI i), .ref 22]) (mem' := fm g tp bt a b) (fun _ _ _ => rfl) ?_
    refine fe_chr (i := i) (by omega) (by rfl) (by rfl) ⟨by rfl, by rfl⟩ (by rfl) ?_
    rw [h32]
    refine fe_s 2 (pc' := 42) (lc' := [(4, .int (nI i)), (3, .int (nI k)), (2, .int (nI m)), (0, .ref 0), (1, .ref 22)]) (stk' := []) (mem' := fm g tp bt a b) (fun _ _ _ => rfl) kk
  | succ r ih =>
    intro i hr hki
    refine fe_s 2 (pc' := 28) (lc' := [(4, .int (nI i)), (3, .int (nI k)), (2, .int (nI m)), (0, .ref 0), (1, .ref 22)]) (stk' := [.int (nI i), .ref 22]) (mem' := fm g tp bt a b) (fun _ _ _ => rfl) ?_
    refine fe_chr (i := i) (by omega) (by rfl) (by rfl) ⟨by rfl, by rfl⟩ (by rfl) ?_
    refine fe_s 2 (pc' := cond (fx_cb .eq (sk_b.getD i 0) 32) 42 36) (lc' := [(4, .int (nI i)), (3, .int (nI k)), (2, .int (nI m)), (0, .ref 0), (1, .ref 22)]) (stk' := []) (mem' := fm g tp bt a b) (fun _ _ _ => rfl) ?_
    rw [show fx_cb .eq (sk_b.getD i 0) 32 = false from decide_eq_false (hall i (by omega) hki (by omega))]
    dsimp only [cond]
    refine fe_s 2 (pc' := 25) (lc' := [(4, .int (nI i + 1)), (3, .int (nI k)), (2, .int (nI m)), (0, .ref 0), (1, .ref 22)]) (stk' := []) (mem' := fm g tp bt a b) (fun _ _ _ => rfl) ?_
    rw [show nI i + 1 = nI (i + 1) from nI_add i 1]
    exact ih (i + 1) (by omega) (by omega)
/-- one word -/
theorem mw_one {s z k e m : Nat} {F : Option Value × fx_M → Prop} (h11 : g 11 = nI n) (hn : n ≤ 900) (h13 : g 13 = nI s) (h14 : g 14 = nI z) (hsz : s ≤ z) (hz : z ≤ n) (hk : k < e) (he : e < 117) (hm : m < 23) (h32 : sk_b.getD e 0 = 32) (hall : ∀ i, i < 117 → k ≤ i → i < e → sk_b.getD i 0 ≠ 32) (hyes : e - k = z - s → mw_eq a n s k e → F (some (.int (nI m)), fm g tp bt a b)) (hno : ¬ (e - k = z - s ∧ mw_eq a n s k e) → fe_R 1 gk_m226 14 [(3, .int (nI (e + 1))), (2, .int (nI (m + 1))), (0, .ref 0), (1, .ref 22)] [] (fm g tp bt a b) F) : fe_R 1 gk_m226 14 [(3, .int (nI k)), (2, .int (nI m)), (0, .ref 0), (1, .ref 22)] [] (fm g tp bt a b) F := by
  have next : ∀ i, ¬ (e - k = z - s ∧ mw_eq a n s k e) → fe_R 1 gk_m226 115 [(6, .int (nI i)), (5, .int 0), (4, .int (nI e)), (3, .int (nI k)), (2, .int (nI m)), (0, .ref 0), (1, .ref 22)] [] (fm g tp bt a b) F := fun i h => by
    refine fe_s 6 (pc' := 129) (lc' := [(2, .int (nI m + 1)), (6, .int (nI i)), (5, .int 0), (4, .int (nI e)), (3, .int (nI k)), (0, .ref 0), (1, .ref 22)]) (stk' := [.int (nI e + 1)]) (mem' := fm g tp bt a b) (fun _ _ _ => rfl) ?_
    rw [show nI m + 1 = nI (m + 1) from nI_add m 1, show nI e + 1 = nI (e + 1) from nI_add e 1]
    refine fe_s 1 (pc' := 130) (lc' := [(3, .int (nI (e + 1))), (2, .int (nI (m + 1))), (6, .int (nI i)), (5, .int 0), (4, .int (nI e)), (0, .ref 0), (1, .ref 22)]) (stk' := []) (mem' := fm g tp bt a b) (fun _ _ _ => rfl) ?_
    refine fe_s 1 (pc' := fx_to 130 (-116)) (lc' := [(3, .int (nI (e + 1))), (2, .int (nI (m + 1))), (6, .int (nI i)), (5, .int 0), (4, .int (nI e)), (0, .ref 0), (1, .ref 22)]) (stk' := []) (mem' := fm g tp bt a b) (fun _ _ _ => rfl) ?_
    rw [show fx_to 130 (-116) = 14 from by decide]
    refine fe_w (lc' := [(3, .int (nI (e + 1))), (2, .int (nI (m + 1))), (0, .ref 0), (1, .ref 22)]) ⟨rfl, rfl, rfl, rfl, trivial⟩ (by show List.Nodup [3, 2, 0, 1]; decide) (by show List.Nodup [3, 2, 6, 5, 4, 0, 1]; decide) ?_
    exact hno h
  refine fe_s 2 (pc' := 16) (lc' := [(3, .int (nI k)), (2, .int (nI m)), (0, .ref 0), (1, .ref 22)]) (stk' := [.ref 22, .int (nI k)]) (mem' := fm g tp bt a b) (fun _ _ _ => rfl) ?_
  refine fe_s 1 (pc' := 19) (lc' := [(3, .int (nI k)), (2, .int (nI m)), (0, .ref 0), (1, .ref 22)]) (stk' := [.int 117, .int (nI k)]) (mem' := fm g tp bt a b) (fun _ _ _ => rfl) ?_
  refine fe_s 1 (pc' := cond (fx_cb .ge (nI k) 117) 133 22) (lc' := [(3, .int (nI k)), (2, .int (nI m)), (0, .ref 0), (1, .ref 22)]) (stk' := []) (mem' := fm g tp bt a b) (fun _ _ _ => rfl) ?_
  rw [show fx_cb .ge (nI k) 117 = false from cb_geF (a := k) (b := 117) (by omega) (by omega) (by omega)]
  dsimp only [cond]
  refine fe_s 2 (pc' := 25) (lc' := [(4, .int (nI k)), (3, .int (nI k)), (2, .int (nI m)), (0, .ref 0), (1, .ref 22)]) (stk' := []) (mem' := fm g tp bt a b) (fun _ _ _ => rfl) ?_
  refine mw_end he h32 hall ?_ (e - k) k (by omega) (Nat.le_refl _)
  refine fe_s 3 (pc' := 46) (lc' := [(4, .int (nI e)), (3, .int (nI k)), (2, .int (nI m)), (0, .ref 0), (1, .ref 22)]) (stk' := [.int (nI e - nI k)]) (mem' := fm g tp bt a b) (fun _ _ _ => rfl) ?_
  rw [tg_sub2 (x := e) (y := k) (by omega)]
  refine fe_s 5 (pc' := 55) (lc' := [(4, .int (nI e)), (3, .int (nI k)), (2, .int (nI m)), (0, .ref 0), (1, .ref 22)]) (stk' := [.int (g 14 - g 13), .int (nI (e - k))]) (mem' := fm g tp bt a b) (fun _ _ _ => rfl) ?_
  rw [h14, h13, tg_sub2 (x := z) (y := s) (by omega)]
  refine fe_s 1 (pc' := cond (fx_cb .ne (nI (e - k)) (nI (z - s))) 62 58) (lc' := [(4, .int (nI e)), (3, .int (nI k)), (2, .int (nI m)), (0, .ref 0), (1, .ref 22)]) (stk' := []) (mem' := fm g tp bt a b) (fun _ _ _ => rfl) ?_
  by_cases hl : e - k = z - s
  · rw [show fx_cb .ne (nI (e - k)) (nI (z - s)) = false from cb_neF (a := e - k) (b := z - s) (by omega) (by omega) hl]
    dsimp only [cond]
    refine fe_s 5 (pc' := 68) (lc' := [(6, .int (nI k)), (5, .int 1), (4, .int (nI e)), (3, .int (nI k)), (2, .int (nI m)), (0, .ref 0), (1, .ref 22)]) (stk' := []) (mem' := fm g tp bt a b) (fun _ _ _ => rfl) ?_
    refine mw_like h11 hn h13 (by omega) (by omega) he (fun hq => ?_) (fun i hq => next i (fun y => hq y.2)) (e - k) k (by omega) (Nat.le_refl _) (fun j hj => absurd hj (by omega))
    refine fe_s 3 (pc' := 121) (lc' := [(6, .int (nI e)), (5, .int 1), (4, .int (nI e)), (3, .int (nI k)), (2, .int (nI m)), (0, .ref 0), (1, .ref 22)]) (stk' := [.int (nI m)]) (mem' := fm g tp bt a b) (fun _ _ _ => rfl) ?_
    exact fe_ret (hyes hl hq) (by rfl) (by rfl) (by rfl)
  · rw [show fx_cb .ne (nI (e - k)) (nI (z - s)) = true from cb_neT (a := e - k) (b := z - s) (by omega) (by omega) hl]
    dsimp only [cond]
    refine fe_s 6 (pc' := 72) (lc' := [(6, .int (nI k)), (5, .int 0), (4, .int (nI e)), (3, .int (nI k)), (2, .int (nI m)), (0, .ref 0), (1, .ref 22)]) (stk' := [.int (nI e), .int (nI k)]) (mem' := fm g tp bt a b) (fun _ _ _ => rfl) ?_
    refine fe_s 1 (pc' := cond (fx_cb .ge (nI k) (nI e)) 115 75) (lc' := [(6, .int (nI k)), (5, .int 0), (4, .int (nI e)), (3, .int (nI k)), (2, .int (nI m)), (0, .ref 0), (1, .ref 22)]) (stk' := []) (mem' := fm g tp bt a b) (fun _ _ _ => rfl) ?_
    rw [show fx_cb .ge (nI k) (nI e) = false from cb_geF (a := k) (b := e) (by omega) (by omega) (by omega)]
    dsimp only [cond]
    refine fe_s 2 (pc' := 115) (lc' := [(6, .int (nI k)), (5, .int 0), (4, .int (nI e)), (3, .int (nI k)), (2, .int (nI m)), (0, .ref 0), (1, .ref 22)]) (stk' := []) (mem' := fm g tp bt a b) (fun _ _ _ => rfl) ?_
    exact next k (fun y => hl y.1)
theorem fr_inWords {S E F : Nat} (hxp : fm_xp g S E F) : ∃ (v : Option Value) (mem' : fx_M), fm_FI (fm g tp bt a b) (v, mem') ∧ fr_T 2 226 [.ref 0, .ref 22] (fm g tp bt a b) v mem' := by
  obtain ⟨h11, hS9, h14, hES, h13, hFE, -, -, -⟩ := id hxp
  refine fe_meth (F := fm_FI (fm g tp bt a b)) (M := gk_m226) (by rfl) (by rfl) ?_
  refine fe_s 3 (pc' := 5) (lc' := [(0, .ref 0), (1, .ref 22)]) (stk' := [.int 2, .int (g 12)]) (mem' := fm g tp bt a b) (fun _ _ _ => rfl) ?_
  refine fe_s 1 (pc' := cond (fx_cb .eq (g 12) 2) 10 8) (lc' := [(0, .ref 0), (1, .ref 22)]) (stk' := []) (mem' := fm g tp bt a b) (fun _ _ _ => rfl) ?_
  cases h15 : fx_cb .eq (g 12) 2
  · refine fe_s 1 (pc' := 9) (lc' := [(0, .ref 0), (1, .ref 22)]) (stk' := [.int (-1)]) (mem' := fm g tp bt a b) (fun _ _ _ => rfl) ?_
    exact fe_ret ⟨_, Or.inl rfl, rfl⟩ (by rfl) (by rfl) (by rfl)
  · refine fe_s 4 (pc' := 14) (lc' := [(3, .int (nI 1)), (2, .int (nI 0)), (0, .ref 0), (1, .ref 22)]) (stk' := []) (mem' := fm g tp bt a b) (fun _ _ _ => rfl) ?_
    have main : ∀ (r j : Nat), j + r = 23 → fe_R 1 gk_m226 14 [(3, .int (nI (mw_s.getD j 0))), (2, .int (nI j)), (0, .ref 0), (1, .ref 22)] [] (fm g tp bt a b) (fm_FI (fm g tp bt a b)) := by
      intro r
      induction r with
      | zero =>
        intro j hj
        obtain rfl : j = 23 := by omega
        refine fe_s 2 (pc' := 16) (lc' := [(3, .int (nI 117)), (2, .int (nI 23)), (0, .ref 0), (1, .ref 22)]) (stk' := [.ref 22, .int (nI 117)]) (mem' := fm g tp bt a b) (fun _ _ _ => rfl) ?_
        refine fe_s 1 (pc' := 19) (lc' := [(3, .int (nI 117)), (2, .int (nI 23)), (0, .ref 0), (1, .ref 22)]) (stk' := [.int 117, .int (nI 117)]) (mem' := fm g tp bt a b) (fun _ _ _ => rfl) ?_
        refine fe_s 1 (pc' := cond (fx_cb .ge (nI 117) 117) 133 22) (lc' := [(3, .int (nI 117)), (2, .int (nI 23)), (0, .ref 0), (1, .ref 22)]) (stk' := []) (mem' := fm g tp bt a b) (fun _ _ _ => rfl) ?_
        rw [show fx_cb .ge (nI 117) 117 = true from by decide]
        dsimp only [cond]
        refine fe_s 1 (pc' := 134) (lc' := [(3, .int (nI 117)), (2, .int (nI 23)), (0, .ref 0), (1, .ref 22)]) (stk' := [.int (-1)]) (mem' := fm g tp bt a b) (fun _ _ _ => rfl) ?_
        exact fe_ret ⟨_, Or.inl rfl, rfl⟩ (by rfl) (by rfl) (by rfl)
      | succ r ih =>
        intro j hj
        obtain ⟨o1, o2, o3⟩ := mv_ok j (by omega)
        refine mw_one (n := S) (s := F) (z := E) h11 hS9 h13 h14 hFE hES o1 (by omega) (by omega) o3 (mw_sp j (by omega)) (fun _ _ => ⟨_, Or.inr ⟨j, by omega, rfl⟩, rfl⟩) (fun _ => ?_)
        have h := ih (j + 1) (by omega)
        rw [show mw_s.getD (j + 1) 0 - 1 + 1 = mw_s.getD (j + 1) 0 by omega]
        exact h
    exact main 23 0 rfl
end FIW
