/-! ===== fx: which word it is ===== -/
section FIW
variable {g : Nat → Int32} {tp bt : Int64} {a : Nat → Nat → Int32} {b : Nat → Nat → Int64}
theorem fe_chr {k : Nat} {M : rk_M2} {pc idx i : Nat} {lc : fx_L} {r : List Value} {mem : fx_M} {F : Option Value × fx_M → Prop} (hi : i < 117) (hat : tk_at M.1 pc = some (pc, .invokevirtual idx, 3)) (hlk : rk_lk M.2.2.1 idx = some (5, 378, 1)) (hm : mem[22]? = none ∧ mem.length = 22) (hsum : Nat.ble (fx_sum r) 8 = true) (kk : fe_R k M (pc + 3) lc (.int (sk_b.getD i 0) :: r) mem F) : fe_R k M pc lc (.int (nI i) :: .ref 22 :: r) mem F := by
  refine fe_s 1 (pc' := pc + 3) (lc' := lc) (stk' := .int (sk_b.getD i 0) :: r) (mem' := mem) (fun N d n => ?_) kk
  refine fx_one (z := (pc + 3, lc, .int (sk_b.getD i 0) :: r, mem)) hat rfl rfl ?_
  show (match rk_lk M.2.2.1 idx with
    | some q => cond (Nat.beq q.1 5 || Nat.beq q.1 6) (fx_cv gk_mci (fm_call (N + 100) (d + k)) (pc + 3) q.2.1 q.2.2 lc (.int (nI i) :: .ref 22 :: r) mem) none
    | none => none) = _
  rw [hlk]
  show fx_cv gk_mci (fm_call (N + 100) (d + k)) (pc + 3) 378 1 lc (.int (nI i) :: .ref 22 :: r) mem = _
  show (match mem[22]? with
    | some (.inl o) => cond (Nat.ble (fx_sum r) 8 && decide (gk_mci[378]? = some o.1)) (fx_aft (pc + 3) lc r (fm_call (N + 100) (d + k) 378 (.ref 22 :: [.int (nI i)]) mem)) none
    | none => fx_sv (pc + 3) 378 22 [.int (nI i)] r lc mem
    | _ => none) = _
  rw [hm.1]
  show fx_sv (pc + 3) 378 22 [.int (nI i)] r lc mem = _
  unfold fx_sv
  rw [show fx_sc 378 [.int (nI i)] = some (.int (sk_b.getD i 0)) from by
    show cond (Nat.beq 378 378 && fx_in (nI i) sk_n) (some (Value.int (sk_b.getD (nI i).toNatClampNeg 0))) none = _
    rw [show fx_in (nI i) sk_n = true from fx_inN hi (by decide), nI_clamp (by omega)]
    rfl]
  show cond (Nat.ble (fx_sum r) 8 && Nat.beq 22 mem.length) _ none = _
  rw [hsum, hm.2]
  rfl
def fm_FI (mem : fx_M) (R : Option Value × fx_M) : Prop := ∃ v : Int32, (v = -1 ∨ ∃ n, n < 24 ∧ v = nI n) ∧ R = (some (.int v), mem)
theorem fw_23 {S E F : Nat} (hxp : fm_xp g S E F) : fe_R 1 gk_m226 14 [(3, .int 117), (2, .int 23), (0, .ref 0), (1, .ref 22)] [] (fm g tp bt a b) (fm_FI (fm g tp bt a b)) := by
  obtain ⟨h11, hS9, h14, hES, h13, hFE, -, -, -⟩ := id hxp
  refine fe_s 2 (pc' := 16) (lc' := [(3, .int 117), (2, .int 23), (0, .ref 0), (1, .ref 22)]) (stk' := [.ref 22, .int 117]) (mem' := fm g tp bt a b) (fun _ _ _ => rfl) ?_
  refine fe_s 1 (pc' := 19) (lc' := [(3, .int 117), (2, .int 23), (0, .ref 0), (1, .ref 22)]) (stk' := [.int 117, .int 117]) (mem' := fm g tp bt a b) (fun _ _ _ => rfl) ?_
  refine fe_s 1 (pc' := cond (fx_cb .ge 117 117) 133 22) (lc' := [(3, .int 117), (2, .int 23), (0, .ref 0), (1, .ref 22)]) (stk' := []) (mem' := fm g tp bt a b) (fun _ _ _ => rfl) ?_
  rw [show (fx_cb .ge 117 117) = true from by decide]
  dsimp only [cond]
  refine fe_s 1 (pc' := 134) (lc' := [(3, .int 117), (2, .int 23), (0, .ref 0), (1, .ref 22)]) (stk' := [.int (-1)]) (mem' := fm g tp bt a b) (fun _ _ _ => rfl) ?_
  exact fe_ret ⟨_, Or.inl rfl, rfl⟩ (by rfl) (by rfl) (by rfl)
theorem fw_22 {S E F : Nat} (hxp : fm_xp g S E F) : fe_R 1 gk_m226 14 [(3, .int 113), (2, .int 22), (0, .ref 0), (1, .ref 22)] [] (fm g tp bt a b) (fm_FI (fm g tp bt a b)) := by
  obtain ⟨h11, hS9, h14, hES, h13, hFE, -, -, -⟩ := id hxp
  refine fe_s 2 (pc' := 16) (lc' := [(3, .int 113), (2, .int 22), (0, .ref 0), (1, .ref 22)]) (stk' := [.ref 22, .int 113]) (mem' := fm g tp bt a b) (fun _ _ _ => rfl) ?_
  refine fe_s 1 (pc' := 19) (lc' := [(3, .int 113), (2, .int 22), (0, .ref 0), (1, .ref 22)]) (stk' := [.int 117, .int 113]) (mem' := fm g tp bt a b) (fun _ _ _ => rfl) ?_
  refine fe_s 1 (pc' := cond (fx_cb .ge 113 117) 133 22) (lc' := [(3, .int 113), (2, .int 22), (0, .ref 0), (1, .ref 22)]) (stk' := []) (mem' := fm g tp bt a b) (fun _ _ _ => rfl) ?_
  rw [show (fx_cb .ge 113 117) = false from by decide]
  dsimp only [cond]
  refine fe_s 4 (pc' := 28) (lc' := [(4, .int 113), (3, .int 113), (2, .int 22), (0, .ref 0), (1, .ref 22)]) (stk' := [.int 113, .ref 22]) (mem' := fm g tp bt a b) (fun _ _ _ => rfl) ?_
  refine fe_chr (i := 113) (by omega) (by rfl) (by rfl) ⟨by rfl, by rfl⟩ (by rfl) ?_
  rw [show sk_b.getD 113 0 = 119 from rfl]
  refine fe_s 1 (pc' := 33) (lc' := [(4, .int 113), (3, .int 113), (2, .int 22), (0, .ref 0), (1, .ref 22)]) (stk' := [.int 32, .int 119]) (mem' := fm g tp bt a b) (fun _ _ _ => rfl) ?_
  refine fe_s 1 (pc' := cond (fx_cb .eq 119 32) 42 36) (lc' := [(4, .int 113), (3, .int 113), (2, .int 22), (0, .ref 0), (1, .ref 22)]) (stk' := []) (mem' := fm g tp bt a b) (fun _ _ _ => rfl) ?_
  rw [show (fx_cb .eq 119 32) = false from by decide]
  dsimp only [cond]
  refine fe_s 4 (pc' := 28) (lc' := [(4, .int (113 + 1)), (3, .int 113), (2, .int 22), (0, .ref 0), (1, .ref 22)]) (stk' := [.int (113 + 1), .ref 22]) (mem' := fm g tp bt a b) (fun _ _ _ => rfl) ?_
  rw [show (113 + 1 : Int32) = 114 from rfl]
  refine fe_chr (i := 114) (by omega) (by rfl) (by rfl) ⟨by rfl, by rfl⟩ (by rfl) ?_
  rw [show sk_b.getD 114 0 = 101 from rfl]
  refine fe_s 1 (pc' := 33) (lc' := [(4, .int 114), (3, .int 113), (2, .int 22), (0, .ref 0), (1, .ref 22)]) (stk' := [.int 32, .int 101]) (mem' := fm g tp bt a b) (fun _ _ _ => rfl) ?_
  refine fe_s 1 (pc' := cond (fx_cb .eq 101 32) 42 36) (lc' := [(4, .int 114), (3, .int 113), (2, .int 22), (0, .ref 0), (1, .ref 22)]) (stk' := []) (mem' := fm g tp bt a b) (fun _ _ _ => rfl) ?_
  rw [show (fx_cb .eq 101 32) = false from by decide]
  dsimp only [cond]
  refine fe_s 4 (pc' := 28) (lc' := [(4, .int (114 + 1)), (3, .int 113), (2, .int 22), (0, .ref 0), (1, .ref 22)]) (stk' := [.int (114 + 1), .ref 22]) (mem' := fm g tp bt a b) (fun _ _ _ => rfl) ?_
  rw [show (114 + 1 : Int32) = 115 from rfl]
  refine fe_chr (i := 115) (by omega) (by rfl) (by rfl) ⟨by rfl, by rfl⟩ (by rfl) ?_
  rw [show sk_b.getD 115 0 = 116 from rfl]
  refine fe_s 1 (pc' := 33) (lc' := [(4, .int 115), (3, .int 113), (2, .int 22), (0, .ref 0), (1, .ref 22)]) (stk' := [.int 32, .int 116]) (mem' := fm g tp bt a b) (fun _ _ _ => rfl) ?_
  refine fe_s 1 (pc' := cond (fx_cb .eq 116 32) 42 36) (lc' := [(4, .int 115), (3, .int 113), (2, .int 22), (0, .ref 0), (1, .ref 22)]) (stk' := []) (mem' := fm g tp bt a b) (fun _ _ _ => rfl) ?_
  rw [show (fx_cb .eq 116 32) = false from by decide]
  dsimp only [cond]
  refine fe_s 4 (pc' := 28) (lc' := [(4, .int (115 + 1)), (3, .int 113), (2, .int 22), (0, .ref 0), (1, .ref 22)]) (stk' := [.int (115 + 1), .ref 22]) (mem' := fm g tp bt a b) (fun _ _ _ => rfl) ?_
  rw [show (115 + 1 : Int32) = 116 from rfl]
  refine fe_chr (i := 116) (by omega) (by rfl) (by rfl) ⟨by rfl, by rfl⟩ (by rfl) ?_
  rw [show sk_b.getD 116 0 = 32 from rfl]
  refine fe_s 1 (pc' := 33) (lc' := [(4, .int 116), (3, .int 113), (2, .int 22), (0, .ref 0), (1, .ref 22)]) (stk' := [.int 32, .int 32]) (mem' := fm g tp bt a b) (fun _ _ _ => rfl) ?_
  refine fe_s 1 (pc' := cond (fx_cb .eq 32 32) 42 36) (lc' := [(4, .int 116), (3, .int 113), (2, .int 22), (0, .ref 0), (1, .ref 22)]) (stk' := []) (mem' := fm g tp bt a b) (fun _ _ _ => rfl) ?_
  rw [show (fx_cb .eq 32 32) = true from by decide]
  dsimp only [cond]
  refine fe_s 8 (pc' := 55) (lc' := [(4, .int 116), (3, .int 113), (2, .int 22), (0, .ref 0), (1, .ref 22)]) (stk' := [.int ((g 14) - (g 13)), .int (116 - 113)]) (mem' := fm g tp bt a b) (fun _ _ _ => rfl) ?_
  try rw [h14]
  try rw [h13]
  rw [show (116 - 113 : Int32) = 3 from rfl]
  rw [show ((nI E) - (nI F) : Int32) = nI (E - F) from by simp only [tg_sub2 (x := E) (y := F) (by omega), nI_add, fm_mul]]
  refine fe_s 1 (pc' := cond (fx_cb .ne 3 (nI (E - F))) 62 58) (lc' := [(4, .int 116), (3, .int 113), (2, .int 22), (0, .ref 0), (1, .ref 22)]) (stk' := []) (mem' := fm g tp bt a b) (fun _ _ _ => rfl) ?_
  by_cases h1 : 3 = (E - F)
  · rw [show (fx_cb .ne 3 (nI (E - F))) = false from cb_neF (a := 3) (b := E - F) (by omega) (by omega) (by omega)]
    dsimp only [cond]
    refine fe_s 7 (pc' := 72) (lc' := [(6, .int 113), (5, .int 1), (4, .int 116), (3, .int 113), (2, .int 22), (0, .ref 0), (1, .ref 22)]) (stk' := [.int 116, .int 113]) (mem' := fm g tp bt a b) (fun _ _ _ => rfl) ?_
    refine fe_s 1 (pc' := cond (fx_cb .ge 113 116) 115 75) (lc' := [(6, .int 113), (5, .int 1), (4, .int 116), (3, .int 113), (2, .int 22), (0, .ref 0), (1, .ref 22)]) (stk' := []) (mem' := fm g tp bt a b) (fun _ _ _ => rfl) ?_
    rw [show (fx_cb .ge 113 116) = false from by decide]
    dsimp only [cond]
    refine fe_s 1 (pc' := 77) (lc' := [(6, .int 113), (5, .int 1), (4, .int 116), (3, .int 113), (2, .int 22), (0, .ref 0), (1, .ref 22)]) (stk' := [.int 1]) (mem' := fm g tp bt a b) (fun _ _ _ => rfl) ?_
    refine fe_s 1 (pc' := cond (fx_cb .eq 1 0) 115 80) (lc' := [(6, .int 113), (5, .int 1), (4, .int 116), (3, .int 113), (2, .int 22), (0, .ref 0), (1, .ref 22)]) (stk' := []) (mem' := fm g tp bt a b) (fun _ _ _ => rfl) ?_
    rw [show (fx_cb .eq 1 0) = false from by decide]
    dsimp only [cond]
    refine fe_s 2 (pc' := 83) (lc' := [(6, .int 113), (5, .int 1), (4, .int 116), (3, .int 113), (2, .int 22), (0, .ref 0), (1, .ref 22)]) (stk' := [.int 113, .ref 22]) (mem' := fm g tp bt a b) (fun _ _ _ => rfl) ?_
    refine fe_chr (i := 113) (by omega) (by rfl) (by rfl) ⟨by rfl, by rfl⟩ (by rfl) ?_
    rw [show sk_b.getD 113 0 = 119 from rfl]
    refine fe_s 7 (pc' := 96) (lc' := [(6, .int 113), (5, .int 1), (4, .int 116), (3, .int 113), (2, .int 22), (0, .ref 0), (1, .ref 22)]) (stk' := [.int (((g 13) + 113) - 113), .ref 0, .int 119]) (mem' := fm g tp bt a b) (fun _ _ _ => rfl) ?_
    try rw [h13]
    rw [show (((nI F) + 113) - 113 : Int32) = nI ((F + 113) - 113) from by simp only [show (113 : Int32) = nI 113 from rfl, tg_sub2 (x := F + 113) (y := 113) (by omega), nI_add, fm_mul]]
    refine fe_ivV (fr_byteAt (S := S) (k := (F + 113) - 113) (g := g) (tp := tp) (bt := bt) (a := a) (b := b) h11 (by omega) (by omega)) (by omega) (by rfl) (by rfl) (by rfl) (by rfl) (by rfl) (by rfl) ?_
    rcases fm_byte_or a S ((F + 113) - 113) with ⟨e3, q4⟩ | ⟨q4, n2, qn2, e3⟩
    · rw [e3]
      refine fe_s 1 (pc' := cond (fx_cb .ne 119 (-1)) 106 102) (lc' := [(6, .int 113), (5, .int 1), (4, .int 116), (3, .int 113), (2, .int 22), (0, .ref 0), (1, .ref 22)]) (stk' := []) (mem' := fm g tp bt a b) (fun _ _ _ => rfl) ?_
      rw [show (fx_cb .ne 119 (-1)) = true from by decide]
      dsimp only [cond]
      refine fe_s 6 (pc' := 72) (lc' := [(6, .int (113 + 1)), (5, .int 0), (4, .int 116), (3, .int 113), (2, .int 22), (0, .ref 0), (1, .ref 22)]) (stk' := [.int 116, .int (113 + 1)]) (mem' := fm g tp bt a b) (fun _ _ _ => rfl) ?_
      rw [show (113 + 1 : Int32) = 114 from rfl]
      refine fe_s 1 (pc' := cond (fx_cb .ge 114 116) 115 75) (lc' := [(6, .int 114), (5, .int 0), (4, .int 116), (3, .int 113), (2, .int 22), (0, .ref 0), (1, .ref 22)]) (stk' := []) (mem' := fm g tp bt a b) (fun _ _ _ => rfl) ?_
      rw [show (fx_cb .ge 114 116) = false from by decide]
      dsimp only [cond]
      refine fe_s 1 (pc' := 77) (lc' := [(6, .int 114), (5, .int 0), (4, .int 116), (3, .int 113), (2, .int 22), (0, .ref 0), (1, .ref 22)]) (stk' := [.int 0]) (mem' := fm g tp bt a b) (fun _ _ _ => rfl) ?_
      refine fe_s 1 (pc' := cond (fx_cb .eq 0 0) 115 80) (lc' := [(6, .int 114), (5, .int 0), (4, .int 116), (3, .int 113), (2, .int 22), (0, .ref 0), (1, .ref 22)]) (stk' := []) (mem' := fm g tp bt a b) (fun _ _ _ => rfl) ?_
      rw [show (fx_cb .eq 0 0) = true from by decide]
      dsimp only [cond]
      refine fe_s 1 (pc' := 117) (lc' := [(6, .int 114), (5, .int 0), (4, .int 116), (3, .int 113), (2, .int 22), (0, .ref 0), (1, .ref 22)]) (stk' := [.int 0]) (mem' := fm g tp bt a b) (fun _ _ _ => rfl) ?_
      refine fe_s 1 (pc' := cond (fx_cb .eq 0 0) 122 120) (lc' := [(6, .int 114), (5, .int 0), (4, .int 116), (3, .int 113), (2, .int 22), (0, .ref 0), (1, .ref 22)]) (stk' := []) (mem' := fm g tp bt a b) (fun _ _ _ => rfl) ?_
      rw [show (fx_cb .eq 0 0) = true from by decide]
      dsimp only [cond]
      refine fe_s 6 (pc' := 14) (lc' := [(3, .int (116 + 1)), (2, .int (22 + 1)), (6, .int 114), (5, .int 0), (4, .int 116), (0, .ref 0), (1, .ref 22)]) (stk' := []) (mem' := fm g tp bt a b) (fun _ _ _ => rfl) ?_
      rw [show (22 + 1 : Int32) = 23 from rfl]
      rw [show (116 + 1 : Int32) = 117 from rfl]
      refine fe_w (lc' := [(3, .int 117), (2, .int 23), (0, .ref 0), (1, .ref 22)]) ⟨rfl, rfl, rfl, rfl, trivial⟩ (by show List.Nodup [3, 2, 0, 1]; decide) (by show List.Nodup [3, 2, 6, 5, 4, 0, 1]; decide) ?_
      exact fw_23 hxp
    · rw [e3]
      refine fe_s 1 (pc' := cond (fx_cb .ne 119 (nI n2)) 106 102) (lc' := [(6, .int 113), (5, .int 1), (4, .int 116), (3, .int 113), (2, .int 22), (0, .ref 0), (1, .ref 22)]) (stk' := []) (mem' := fm g tp bt a b) (fun _ _ _ => rfl) ?_
      by_cases h5 : 119 = n2
      · rw [show (fx_cb .ne 119 (nI n2)) = false from cb_neF (a := 119) (b := n2) (by omega) (by omega) (by omega)]
        dsimp only [cond]
        refine fe_s 7 (pc' := 72) (lc' := [(6, .int (113 + 1)), (5, .int 1), (4, .int 116), (3, .int 113), (2, .int 22), (0, .ref 0), (1, .ref 22)]) (stk' := [.int 116, .int (113 + 1)]) (mem' := fm g tp bt a b) (fun _ _ _ => rfl) ?_
        rw [show (113 + 1 : Int32) = 114 from rfl]
        refine fe_s 1 (pc' := cond (fx_cb .ge 114 116) 115 75) (lc' := [(6, .int 114), (5, .int 1), (4, .int 116), (3, .int 113), (2, .int 22), (0, .ref 0), (1, .ref 22)]) (stk' := []) (mem' := fm g tp bt a b) (fun _ _ _ => rfl) ?_
        rw [show (fx_cb .ge 114 116) = false from by decide]
        dsimp only [cond]
        refine fe_s 1 (pc' := 77) (lc' := [(6, .int 114), (5, .int 1), (4, .int 116), (3, .int 113), (2, .int 22), (0, .ref 0), (1, .ref 22)]) (stk' := [.int 1]) (mem' := fm g tp bt a b) (fun _ _ _ => rfl) ?_
        refine fe_s 1 (pc' := cond (fx_cb .eq 1 0) 115 80) (lc' := [(6, .int 114), (5, .int 1), (4, .int 116), (3, .int 113), (2, .int 22), (0, .ref 0), (1, .ref 22)]) (stk' := []) (mem' := fm g tp bt a b) (fun _ _ _ => rfl) ?_
        rw [show (fx_cb .eq 1 0) = false from by decide]
        dsimp only [cond]
        refine fe_s 2 (pc' := 83) (lc' := [(6, .int 114), (5, .int 1), (4, .int 116), (3, .int 113), (2, .int 22), (0, .ref 0), (1, .ref 22)]) (stk' := [.int 114, .ref 22]) (mem' := fm g tp bt a b) (fun _ _ _ => rfl) ?_
        refine fe_chr (i := 114) (by omega) (by rfl) (by rfl) ⟨by rfl, by rfl⟩ (by rfl) ?_
        rw [show sk_b.getD 114 0 = 101 from rfl]
        refine fe_s 7 (pc' := 96) (lc' := [(6, .int 114), (5, .int 1), (4, .int 116), (3, .int 113), (2, .int 22), (0, .ref 0), (1, .ref 22)]) (stk' := [.int (((g 13) + 114) - 113), .ref 0, .int 101]) (mem' := fm g tp bt a b) (fun _ _ _ => rfl) ?_
        try rw [h13]
        rw [show (((nI F) + 114) - 113 : Int32) = nI ((F + 114) - 113) from by simp only [show (114 : Int32) = nI 114 from rfl, show (113 : Int32) = nI 113 from rfl, tg_sub2 (x := F + 114) (y := 113) (by omega), nI_add, fm_mul]]
        refine fe_ivV (fr_byteAt (S := S) (k := (F + 114) - 113) (g := g) (tp := tp) (bt := bt) (a := a) (b := b) h11 (by omega) (by omega)) (by omega) (by rfl) (by rfl) (by rfl) (by rfl) (by rfl) (by rfl) ?_
        rcases fm_byte_or a S ((F + 114) - 113) with ⟨e7, q8⟩ | ⟨q8, n6, qn6, e7⟩
        · rw [e7]
          refine fe_s 1 (pc' := cond (fx_cb .ne 101 (-1)) 106 102) (lc' := [(6, .int 114), (5, .int 1), (4, .int 116), (3, .int 113), (2, .int 22), (0, .ref 0), (1, .ref 22)]) (stk' := []) (mem' := fm g tp bt a b) (fun _ _ _ => rfl) ?_
          rw [show (fx_cb .ne 101 (-1)) = true from by decide]
          dsimp only [cond]
          refine fe_s 6 (pc' := 72) (lc' := [(6, .int (114 + 1)), (5, .int 0), (4, .int 116), (3, .int 113), (2, .int 22), (0, .ref 0), (1, .ref 22)]) (stk' := [.int 116, .int (114 + 1)]) (mem' := fm g tp bt a b) (fun _ _ _ => rfl) ?_
          rw [show (114 + 1 : Int32) = 115 from rfl]
          refine fe_s 1 (pc' := cond (fx_cb .ge 115 116) 115 75) (lc' := [(6, .int 115), (5, .int 0), (4, .int 116), (3, .int 113), (2, .int 22), (0, .ref 0), (1, .ref 22)]) (stk' := []) (mem' := fm g tp bt a b) (fun _ _ _ => rfl) ?_
          rw [show (fx_cb .ge 115 116) = false from by decide]
          dsimp only [cond]
          refine fe_s 1 (pc' := 77) (lc' := [(6, .int 115), (5, .int 0), (4, .int 116), (3, .int 113), (2, .int 22), (0, .ref 0), (1, .ref 22)]) (stk' := [.int 0]) (mem' := fm g tp bt a b) (fun _ _ _ => rfl) ?_
          refine fe_s 1 (pc' := cond (fx_cb .eq 0 0) 115 80) (lc' := [(6, .int 115), (5, .int 0), (4, .int 116), (3, .int 113), (2, .int 22), (0, .ref 0), (1, .ref 22)]) (stk' := []) (mem' := fm g tp bt a b) (fun _ _ _ => rfl) ?_
          rw [show (fx_cb .eq 0 0) = true from by decide]
          dsimp only [cond]
          refine fe_s 1 (pc' := 117) (lc' := [(6, .int 115), (5, .int 0), (4, .int 116), (3, .int 113), (2, .int 22), (0, .ref 0), (1, .ref 22)]) (stk' := [.int 0]) (mem' := fm g tp bt a b) (fun _ _ _ => rfl) ?_
          refine fe_s 1 (pc' := cond (fx_cb .eq 0 0) 122 120) (lc' := [(6, .int 115), (5, .int 0), (4, .int 116), (3, .int 113), (2, .int 22), (0, .ref 0), (1, .ref 22)]) (stk' := []) (mem' := fm g tp bt a b) (fun _ _ _ => rfl) ?_
          rw [show (fx_cb .eq 0 0) = true from by decide]
          dsimp only [cond]
          refine fe_s 6 (pc' := 14) (lc' := [(3, .int (116 + 1)), (2, .int (22 + 1)), (6, .int 115), (5, .int 0), (4, .int 116), (0, .ref 0), (1, .ref 22)]) (stk' := []) (mem' := fm g tp bt a b) (fun _ _ _ => rfl) ?_
          rw [show (22 + 1 : Int32) = 23 from rfl]
          rw [show (116 + 1 : Int32) = 117 from rfl]
          refine fe_w (lc' := [(3, .int 117), (2, .int 23), (0, .ref 0), (1, .ref 22)]) ⟨rfl, rfl, rfl, rfl, trivial⟩ (by show List.Nodup [3, 2, 0, 1]; decide) (by show List.Nodup [3, 2, 6, 5, 4, 0, 1]; decide) ?_
          exact fw_23 hxp
        · rw [e7]
          refine fe_s 1 (pc' := cond (fx_cb .ne 101 (nI n6)) 106 102) (lc' := [(6, .int 114), (5, .int 1), (4, .int 116), (3, .int 113), (2, .int 22), (0, .ref 0), (1, .ref 22)]) (stk' := []) (mem' := fm g tp bt a b) (fun _ _ _ => rfl) ?_
          by_cases h9 : 101 = n6
          · rw [show (fx_cb .ne 101 (nI n6)) = false from cb_neF (a := 101) (b := n6) (by omega) (by omega) (by omega)]
            dsimp only [cond]
            refine fe_s 7 (pc' := 72) (lc' := [(6, .int (114 + 1)), (5, .int 1), (4, .int 116), (3, .int 113), (2, .int 22), (0, .ref 0), (1, .ref 22)]) (stk' := [.int 116, .int (114 + 1)]) (mem' := fm g tp bt a b) (fun _ _ _ => rfl) ?_
            rw [show (114 + 1 : Int32) = 115 from rfl]
            refine fe_s 1 (pc' := cond (fx_cb .ge 115 116) 115 75) (lc' := [(6, .int 115), (5, .int 1), (4, .int 116), (3, .int 113), (2, .int 22), (0, .ref 0), (1, .ref 22)]) (stk' := []) (mem' := fm g tp bt a b) (fun _ _ _ => rfl) ?_
            rw [show (fx_cb .ge 115 116) = false from by decide]
            dsimp only [cond]
            refine fe_s 1 (pc' := 77) (lc' := [(6, .int 115), (5, .int 1), (4, .int 116), (3, .int 113), (2, .int 22), (0, .ref 0), (1, .ref 22)]) (stk' := [.int 1]) (mem' := fm g tp bt a b) (fun _ _ _ => rfl) ?_
            refine fe_s 1 (pc' := cond (fx_cb .eq 1 0) 115 80) (lc' := [(6, .int 115), (5, .int 1), (4, .int 116), (3, .int 113), (2, .int 22), (0, .ref 0), (1, .ref 22)]) (stk' := []) (mem' := fm g tp bt a b) (fun _ _ _ => rfl) ?_
            rw [show (fx_cb .eq 1 0) = false from by decide]
            dsimp only [cond]
            refine fe_s 2 (pc' := 83) (lc' := [(6, .int 115), (5, .int 1), (4, .int 116), (3, .int 113), (2, .int 22), (0, .ref 0), (1, .ref 22)]) (stk' := [.int 115, .ref 22]) (mem' := fm g tp bt a b) (fun _ _ _ => rfl) ?_
            refine fe_chr (i := 115) (by omega) (by rfl) (by rfl) ⟨by rfl, by rfl⟩ (by rfl) ?_
            rw [show sk_b.getD 115 0 = 116 from rfl]
            refine fe_s 7 (pc' := 96) (lc' := [(6, .int 115), (5, .int 1), (4, .int 116), (3, .int 113), (2, .int 22), (0, .ref 0), (1, .ref 22)]) (stk' := [.int (((g 13) + 115) - 113), .ref 0, .int 116]) (mem' := fm g tp bt a b) (fun _ _ _ => rfl) ?_
            try rw [h13]
            rw [show (((nI F) + 115) - 113 : Int32) = nI ((F + 115) - 113) from by simp only [show (115 : Int32) = nI 115 from rfl, show (113 : Int32) = nI 113 from rfl, tg_sub2 (x := F + 115) (y := 113) (by omega), nI_add, fm_mul]]
            refine fe_ivV (fr_byteAt (S := S) (k := (F + 115) - 113) (g := g) (tp := tp) (bt := bt) (a := a) (b := b) h11 (by omega) (by omega)) (by omega) (by rfl) (by rfl) (by rfl) (by rfl) (by rfl) (by rfl) ?_
            rcases fm_byte_or a S ((F + 115) - 113) with ⟨e11, q12⟩ | ⟨q12, n10, qn10, e11⟩
            · rw [e11]
              refine fe_s 1 (pc' := cond (fx_cb .ne 116 (-1)) 106 102) (lc' := [(6, .int 115), (5, .int 1), (4, .int 116), (3, .int 113), (2, .int 22), (0, .ref 0), (1, .ref 22)]) (stk' := []) (mem' := fm g tp bt a b) (fun _ _ _ => rfl) ?_
              rw [show (fx_cb .ne 116 (-1)) = true from by decide]
              dsimp only [cond]
              refine fe_s 6 (pc' := 72) (lc' := [(6, .int (115 + 1)), (5, .int 0), (4, .int 116), (3, .int 113), (2, .int 22), (0, .ref 0), (1, .ref 22)]) (stk' := [.int 116, .int (115 + 1)]) (mem' := fm g tp bt a b) (fun _ _ _ => rfl) ?_
              rw [show (115 + 1 : Int32) = 116 from rfl]
              refine fe_s 1 (pc' := cond (fx_cb .ge 116 116) 115 75) (lc' := [(6, .int 116), (5, .int 0), (4, .int 116), (3, .int 113), (2, .int 22), (0, .ref 0), (1, .ref 22)]) (stk' := []) (mem' := fm g tp bt a b) (fun _ _ _ => rfl) ?_
              rw [show (fx_cb .ge 116 116) = true from by decide]
              dsimp only [cond]
              refine fe_s 1 (pc' := 117) (lc' := [(6, .int 116), (5, .int 0), (4, .int 116), (3, .int 113), (2, .int 22), (0, .ref 0), (1, .ref 22)]) (stk' := [.int 0]) (mem' := fm g tp bt a b) (fun _ _ _ => rfl) ?_
              refine fe_s 1 (pc' := cond (fx_cb .eq 0 0) 122 120) (lc' := [(6, .int 116), (5, .int 0), (4, .int 116), (3, .int 113), (2, .int 22), (0, .ref 0), (1, .ref 22)]) (stk' := []) (mem' := fm g tp bt a b) (fun _ _ _ => rfl) ?_
              rw [show (fx_cb .eq 0 0) = true from by decide]
              dsimp only [cond]
              refine fe_s 6 (pc' := 14) (lc' := [(3, .int (116 + 1)), (2, .int (22 + 1)), (6, .int 116), (5, .int 0), (4, .int 116), (0, .ref 0), (1, .ref 22)]) (stk' := []) (mem' := fm g tp bt a b) (fun _ _ _ => rfl) ?_
              rw [show (22 + 1 : Int32) = 23 from rfl]
              rw [show (116 + 1 : Int32) = 117 from rfl]
              refine fe_w (lc' := [(3, .int 117), (2, .int 23), (0, .ref 0), (1, .ref 22)]) ⟨rfl, rfl, rfl, rfl, trivial⟩ (by show List.Nodup [3, 2, 0, 1]; decide) (by show List.Nodup [3, 2, 6, 5, 4, 0, 1]; decide) ?_
              exact fw_23 hxp
            · rw [e11]
              refine fe_s 1 (pc' := cond (fx_cb .ne 116 (nI n10)) 106 102) (lc' := [(6, .int 115), (5, .int 1), (4, .int 116), (3, .int 113), (2, .int 22), (0, .ref 0), (1, .ref 22)]) (stk' := []) (mem' := fm g tp bt a b) (fun _ _ _ => rfl) ?_
              by_cases h13 : 116 = n10
              · rw [show (fx_cb .ne 116 (nI n10)) = false from cb_neF (a := 116) (b := n10) (by omega) (by omega) (by omega)]
                dsimp only [cond]
                refine fe_s 7 (pc' := 72) (lc' := [(6, .int (115 + 1)), (5, .int 1), (4, .int 116), (3, .int 113), (2, .int 22), (0, .ref 0), (1, .ref 22)]) (stk' := [.int 116, .int (115 + 1)]) (mem' := fm g tp bt a b) (fun _ _ _ => rfl) ?_
                rw [show (115 + 1 : Int32) = 116 from rfl]
                refine fe_s 1 (pc' := cond (fx_cb .ge 116 116) 115 75) (lc' := [(6, .int 116), (5, .int 1), (4, .int 116), (3, .int 113), (2, .int 22), (0, .ref 0), (1, .ref 22)]) (stk' := []) (mem' := fm g tp bt a b) (fun _ _ _ => rfl) ?_
                rw [show (fx_cb .ge 116 116) = true from by decide]
                dsimp only [cond]
                refine fe_s 1 (pc' := 117) (lc' := [(6, .int 116), (5, .int 1), (4, .int 116), (3, .int 113), (2, .int 22), (0, .ref 0), (1, .ref 22)]) (stk' := [.int 1]) (mem' := fm g tp bt a b) (fun _ _ _ => rfl) ?_
                refine fe_s 1 (pc' := cond (fx_cb .eq 1 0) 122 120) (lc' := [(6, .int 116), (5, .int 1), (4, .int 116), (3, .int 113), (2, .int 22), (0, .ref 0), (1, .ref 22)]) (stk' := []) (mem' := fm g tp bt a b) (fun _ _ _ => rfl) ?_
                rw [show (fx_cb .eq 1 0) = false from by decide]
                dsimp only [cond]
                refine fe_s 1 (pc' := 121) (lc' := [(6, .int 116), (5, .int 1), (4, .int 116), (3, .int 113), (2, .int 22), (0, .ref 0), (1, .ref 22)]) (stk' := [.int 22]) (mem' := fm g tp bt a b) (fun _ _ _ => rfl) ?_
                exact fe_ret ⟨_, Or.inr ⟨22, by omega, rfl⟩, rfl⟩ (by rfl) (by rfl) (by rfl)
              · rw [show (fx_cb .ne 116 (nI n10)) = true from cb_neT (a := 116) (b := n10) (by omega) (by omega) (by omega)]
                dsimp only [cond]
                refine fe_s 6 (pc' := 72) (lc' := [(6, .int (115 + 1)), (5, .int 0), (4, .int 116), (3, .int 113), (2, .int 22), (0, .ref 0), (1, .ref 22)]) (stk' := [.int 116, .int (115 + 1)]) (mem' := fm g tp bt a b) (fun _ _ _ => rfl) ?_
                rw [show (115 + 1 : Int32) = 116 from rfl]
                refine fe_s 1 (pc' := cond (fx_cb .ge 116 116) 115 75) (lc' := [(6, .int 116), (5, .int 0), (4, .int 116), (3, .int 113), (2, .int 22), (0, .ref 0), (1, .ref 22)]) (stk' := []) (mem' := fm g tp bt a b) (fun _ _ _ => rfl) ?_
                rw [show (fx_cb .ge 116 116) = true from by decide]
                dsimp only [cond]
                refine fe_s 1 (pc' := 117) (lc' := [(6, .int 116), (5, .int 0), (4, .int 116), (3, .int 113), (2, .int 22), (0, .ref 0), (1, .ref 22)]) (stk' := [.int 0]) (mem' := fm g tp bt a b) (fun _ _ _ => rfl) ?_
                refine fe_s 1 (pc' := cond (fx_cb .eq 0 0) 122 120) (lc' := [(6, .int 116), (5, .int 0), (4, .int 116), (3, .int 113), (2, .int 22), (0, .ref 0), (1, .ref 22)]) (stk' := []) (mem' := fm g tp bt a b) (fun _ _ _ => rfl) ?_
                rw [show (fx_cb .eq 0 0) = true from by decide]
                dsimp only [cond]
                refine fe_s 6 (pc' := 14) (lc' := [(3, .int (116 + 1)), (2, .int (22 + 1)), (6, .int 116), (5, .int 0), (4, .int 116), (0, .ref 0), (1, .ref 22)]) (stk' := []) (mem' := fm g tp bt a b) (fun _ _ _ => rfl) ?_
                rw [show (22 + 1 : Int32) = 23 from rfl]
                rw [show (116 + 1 : Int32) = 117 from rfl]
                refine fe_w (lc' := [(3, .int 117), (2, .int 23), (0, .ref 0), (1, .ref 22)]) ⟨rfl, rfl, rfl, rfl, trivial⟩ (by show List.Nodup [3, 2, 0, 1]; decide) (by show List.Nodup [3, 2, 6, 5, 4, 0, 1]; decide) ?_
                exact fw_23 hxp
          · rw [show (fx_cb .ne 101 (nI n6)) = true from cb_neT (a := 101) (b := n6) (by omega) (by omega) (by omega)]
            dsimp only [cond]
            refine fe_s 6 (pc' := 72) (lc' := [(6, .int (114 + 1)), (5, .int 0), (4, .int 116), (3, .int 113), (2, .int 22), (0, .ref 0), (1, .ref 22)]) (stk' := [.int 116, .int (114 + 1)]) (mem' := fm g tp bt a b) (fun _ _ _ => rfl) ?_
            rw [show (114 + 1 : Int32) = 115 from rfl]
            refine fe_s 1 (pc' := cond (fx_cb .ge 115 116) 115 75) (lc' := [(6, .int 115), (5, .int 0), (4, .int 116), (3, .int 113), (2, .int 22), (0, .ref 0), (1, .ref 22)]) (stk' := []) (mem' := fm g tp bt a b) (fun _ _ _ => rfl) ?_
            rw [show (fx_cb .ge 115 116) = false from by decide]
            dsimp only [cond]
            refine fe_s 1 (pc' := 77) (lc' := [(6, .int 115), (5, .int 0), (4, .int 116), (3, .int 113), (2, .int 22), (0, .ref 0), (1, .ref 22)]) (stk' := [.int 0]) (mem' := fm g tp bt a b) (fun _ _ _ => rfl) ?_
            refine fe_s 1 (pc' := cond (fx_cb .eq 0 0) 115 80) (lc' := [(6, .int 115), (5, .int 0), (4, .int 116), (3, .int 113), (2, .int 22), (0, .ref 0), (1, .ref 22)]) (stk' := []) (mem' := fm g tp bt a b) (fun _ _ _ => rfl) ?_
            rw [show (fx_cb .eq 0 0) = true from by decide]
            dsimp only [cond]
            refine fe_s 1 (pc' := 117) (lc' := [(6, .int 115), (5, .int 0), (4, .int 116), (3, .int 113), (2, .int 22), (0, .ref 0), (1, .ref 22)]) (stk' := [.int 0]) (mem' := fm g tp bt a b) (fun _ _ _ => rfl) ?_
            refine fe_s 1 (pc' := cond (fx_cb .eq 0 0) 122 120) (lc' := [(6, .int 115), (5, .int 0), (4, .int 116), (3, .int 113), (2, .int 22), (0, .ref 0), (1, .ref 22)]) (stk' := []) (mem' := fm g tp bt a b) (fun _ _ _ => rfl) ?_
            rw [show (fx_cb .eq 0 0) = true from by decide]
            dsimp only [cond]
            refine fe_s 6 (pc' := 14) (lc' := [(3, .int (116 + 1)), (2, .int (22 + 1)), (6, .int 115), (5, .int 0), (4, .int 116), (0, .ref 0), (1, .ref 22)]) (stk' := []) (mem' := fm g tp bt a b) (fun _ _ _ => rfl) ?_
            rw [show (22 + 1 : Int32) = 23 from rfl]
            rw [show (116 + 1 : Int32) = 117 from rfl]
            refine fe_w (lc' := [(3, .int 117), (2, .int 23), (0, .ref 0), (1, .ref 22)]) ⟨rfl, rfl, rfl, rfl, trivial⟩ (by show List.Nodup [3, 2, 0, 1]; decide) (by show List.Nodup [3, 2, 6, 5, 4, 0, 1]; decide) ?_
            exact fw_23 hxp
      · rw [show (fx_cb .ne 119 (nI n2)) = true from cb_neT (a := 119) (b := n2) (by omega) (by omega) (by omega)]
        dsimp only [cond]
        refine fe_s 6 (pc' := 72) (lc' := [(6, .int (113 + 1)), (5, .int 0), (4, .int 116), (3, .int 113), (2, .int 22), (0, .ref 0), (1, .ref 22)]) (stk' := [.int 116, .int (113 + 1)]) (mem' := fm g tp bt a b) (fun _ _ _ => rfl) ?_
        rw [show (113 + 1 : Int32) = 114 from rfl]
        refine fe_s 1 (pc' := cond (fx_cb .ge 114 116) 115 75) (lc' := [(6, .int 114), (5, .int 0), (4, .int 116), (3, .int 113), (2, .int 22), (0, .ref 0), (1, .ref 22)]) (stk' := []) (mem' := fm g tp bt a b) (fun _ _ _ => rfl) ?_
        rw [show (fx_cb .ge 114 116) = false from by decide]
        dsimp only [cond]
        refine fe_s 1 (pc' := 77) (lc' := [(6, .int 114), (5, .int 0), (4, .int 116), (3, .int 113), (2, .int 22), (0, .ref 0), (1, .ref 22)]) (stk' := [.int 0]) (mem' := fm g tp bt a b) (fun _ _ _ => rfl) ?_
        refine fe_s 1 (pc' := cond (fx_cb .eq 0 0) 115 80) (lc' := [(6, .int 114), (5, .int 0), (4, .int 116), (3, .int 113), (2, .int 22), (0, .ref 0), (1, .ref 22)]) (stk' := []) (mem' := fm g tp bt a b) (fun _ _ _ => rfl) ?_
        rw [show (fx_cb .eq 0 0) = true from by decide]
        dsimp only [cond]
        refine fe_s 1 (pc' := 117) (lc' := [(6, .int 114), (5, .int 0), (4, .int 116), (3, .int 113), (2, .int 22), (0, .ref 0), (1, .ref 22)]) (stk' := [.int 0]) (mem' := fm g tp bt a b) (fun _ _ _ => rfl) ?_
        refine fe_s 1 (pc' := cond (fx_cb .eq 0 0) 122 120) (lc' := [(6, .int 114), (5, .int 0), (4, .int 116), (3, .int 113), (2, .int 22), (0, .ref 0), (1, .ref 22)]) (stk' := []) (mem' := fm g tp bt a b) (fun _ _ _ => rfl) ?_
        rw [show (fx_cb .eq 0 0) = true from by decide]
        dsimp only [cond]
        refine fe_s 6 (pc' := 14) (lc' := [(3, .int (116 + 1)), (2, .int (22 + 1)), (6, .int 114), (5, .int 0), (4, .int 116), (0, .ref 0), (1, .ref 22)]) (stk' := []) (mem' := fm g tp bt a b) (fun _ _ _ => rfl) ?_
        rw [show (22 + 1 : Int32) = 23 from rfl]
        rw [show (116 + 1 : Int32) = 117 from rfl]
        refine fe_w (lc' := [(3, .int 117), (2, .int 23), (0, .ref 0), (1, .ref 22)]) ⟨rfl, rfl, rfl, rfl, trivial⟩ (by show List.Nodup [3, 2, 0, 1]; decide) (by show List.Nodup [3, 2, 6, 5, 4, 0, 1]; decide) ?_
        exact fw_23 hxp
  · rw [show (fx_cb .ne 3 (nI (E - F))) = true from cb_neT (a := 3) (b := E - F) (by omega) (by omega) (by omega)]
    dsimp only [cond]
    refine fe_s 6 (pc' := 72) (lc' := [(6, .int 113), (5, .int 0), (4, .int 116), (3, .int 113), (2, .int 22), (0, .ref 0), (1, .ref 22)]) (stk' := [.int 116, .int 113]) (mem' := fm g tp bt a b) (fun _ _ _ => rfl) ?_
    refine fe_s 1 (pc' := cond (fx_cb .ge 113 116) 115 75) (lc' := [(6, .int 113), (5, .int 0), (4, .int 116), (3, .int 113), (2, .int 22), (0, .ref 0), (1, .ref 22)]) (stk' := []) (mem' := fm g tp bt a b) (fun _ _ _ => rfl) ?_
    rw [show (fx_cb .ge 113 116) = false from by decide]
    dsimp only [cond]
    refine fe_s 1 (pc' := 77) (lc' := [(6, .int 113), (5, .int 0), (4, .int 116), (3, .int 113), (2, .int 22), (0, .ref 0), (1, .ref 22)]) (stk' := [.int 0]) (mem' := fm g tp bt a b) (fun _ _ _ => rfl) ?_
    refine fe_s 1 (pc' := cond (fx_cb .eq 0 0) 115 80) (lc' := [(6, .int 113), (5, .int 0), (4, .int 116), (3, .int 113), (2, .int 22), (0, .ref 0), (1, .ref 22)]) (stk' := []) (mem' := fm g tp bt a b) (fun _ _ _ => rfl) ?_
    rw [show (fx_cb .eq 0 0) = true from by decide]
    dsimp only [cond]
    refine fe_s 1 (pc' := 117) (lc' := [(6, .int 113), (5, .int 0), (4, .int 116), (3, .int 113), (2, .int 22), (0, .ref 0), (1, .ref 22)]) (stk' := [.int 0]) (mem' := fm g tp bt a b) (fun _ _ _ => rfl) ?_
    refine fe_s 1 (pc' := cond (fx_cb .eq 0 0) 122 120) (lc' := [(6, .int 113), (5, .int 0), (4, .int 116), (3, .int 113), (2, .int 22), (0, .ref 0), (1, .ref 22)]) (stk' := []) (mem' := fm g tp bt a b) (fun _ _ _ => rfl) ?_
    rw [show (fx_cb .eq 0 0) = true from by decide]
    dsimp only [cond]
    refine fe_s 6 (pc' := 14) (lc' := [(3, .int (116 + 1)), (2, .int (22 + 1)), (6, .int 113), (5, .int 0), (4, .int 116), (0, .ref 0), (1, .ref 22)]) (stk' := []) (mem' := fm g tp bt a b) (fun _ _ _ => rfl) ?_
    rw [show (22 + 1 : Int32) = 23 from rfl]
    rw [show (116 + 1 : Int32) = 117 from rfl]
    refine fe_w (lc' := [(3, .int 117), (2, .int 23), (0, .ref 0), (1, .ref 22)]) ⟨rfl, rfl, rfl, rfl, trivial⟩ (by show List.Nodup [3, 2, 0, 1]; decide) (by show List.Nodup [3, 2, 6, 5, 4, 0, 1]; decide) ?_
    exact fw_23 hxp
theorem fw_21 {S E F : Nat} (hxp : fm_xp g S E F) : fe_R 1 gk_m226 14 [(3, .int 108), (2, .int 21), (0, .ref 0), (1, .ref 22)] [] (fm g tp bt a b) (fm_FI (fm g tp bt a b)) := by
  obtain ⟨h11, hS9, h14, hES, h13, hFE, -, -, -⟩ := id hxp
  refine fe_s 2 (pc' := 16) (lc' := [(3, .int 108), (2, .int 21), (0, .ref 0), (1, .ref 22)]) (stk' := [.ref 22, .int 108]) (mem' := fm g tp bt a b) (fun _ _ _ => rfl) ?_
  refine fe_s 1 (pc' := 19) (lc' := [(3, .int 108), (2, .int 21), (0, .ref 0), (1, .ref 22)]) (stk' := [.int 117, .int 108]) (mem' := fm g tp bt a b) (fun _ _ _ => rfl) ?_
  refine fe_s 1 (pc' := cond (fx_cb .ge 108 117) 133 22) (lc' := [(3, .int 108), (2, .int 21), (0, .ref 0), (1, .ref 22)]) (stk' := []) (mem' := fm g tp bt a b) (fun _ _ _ => rfl) ?_
  rw [show (fx_cb .ge 108 117) = false from by decide]
  dsimp only [cond]
  refine fe_s 4 (pc' := 28) (lc' := [(4, .int 108), (3, .int 108), (2, .int 21), (0, .ref 0), (1, .ref 22)]) (stk' := [.int 108, .ref 22]) (mem' := fm g tp bt a b) (fun _ _ _ => rfl) ?_
  refine fe_chr (i := 108) (by omega) (by rfl) (by rfl) ⟨by rfl, by rfl⟩ (by rfl) ?_
  rw [show sk_b.getD 108 0 = 115 from rfl]
  refine fe_s 1 (pc' := 33) (lc' := [(4, .int 108), (3, .int 108), (2, .int 21), (0, .ref 0), (1, .ref 22)]) (stk' := [.int 32, .int 115]) (mem' := fm g tp bt a b) (fun _ _ _ => rfl) ?_
  refine fe_s 1 (pc' := cond (fx_cb .eq 115 32) 42 36) (lc' := [(4, .int 108), (3, .int 108), (2, .int 21), (0, .ref 0), (1, .ref 22)]) (stk' := []) (mem' := fm g tp bt a b) (fun _ _ _ => rfl) ?_
  rw [show (fx_cb .eq 115 32) = false from by decide]
  dsimp only [cond]
  refine fe_s 4 (pc' := 28) (lc' := [(4, .int (108 + 1)), (3, .int 108), (2, .int 21), (0, .ref 0), (1, .ref 22)]) (stk' := [.int (108 + 1), .ref 22]) (mem' := fm g tp bt a b) (fun _ _ _ => rfl) ?_
  rw [show (108 + 1 : Int32) = 109 from rfl]
  refine fe_chr (i := 109) (by omega) (by rfl) (by rfl) ⟨by rfl, by rfl⟩ (by rfl) ?_
  rw [show sk_b.getD 109 0 = 116 from rfl]
  refine fe_s 1 (pc' := 33) (lc' := [(4, .int 109), (3, .int 108), (2, .int 21), (0, .ref 0), (1, .ref 22)]) (stk' := [.int 32, .int 116]) (mem' := fm g tp bt a b) (fun _ _ _ => rfl) ?_
  refine fe_s 1 (pc' := cond (fx_cb .eq 116 32) 42 36) (lc' := [(4, .int 109), (3, .int 108), (2, .int 21), (0, .ref 0), (1, .ref 22)]) (stk' := []) (mem' := fm g tp bt a b) (fun _ _ _ => rfl) ?_
  rw [show (fx_cb .eq 116 32) = false from by decide]
  dsimp only [cond]
  refine fe_s 4 (pc' := 28) (lc' := [(4, .int (109 + 1)), (3, .int 108), (2, .int 21), (0, .ref 0), (1, .ref 22)]) (stk' := [.int (109 + 1), .ref 22]) (mem' := fm g tp bt a b) (fun _ _ _ => rfl) ?_
  rw [show (109 + 1 : Int32) = 110 from rfl]
  refine fe_chr (i := 110) (by omega) (by rfl) (by rfl) ⟨by rfl, by rfl⟩ (by rfl) ?_
  rw [show sk_b.getD 110 0 = 111 from rfl]
  refine fe_s 1 (pc' := 33) (lc' := [(4, .int 110), (3, .int 108), (2, .int 21), (0, .ref 0), (1, .ref 22)]) (stk' := [.int 32, .int 111]) (mem' := fm g tp bt a b) (fun _ _ _ => rfl) ?_
  refine fe_s 1 (pc' := cond (fx_cb .eq 111 32) 42 36) (lc' := [(4, .int 110), (3, .int 108), (2, .int 21), (0, .ref 0), (1, .ref 22)]) (stk' := []) (mem' := fm g tp bt a b) (fun _ _ _ => rfl) ?_
  rw [show (fx_cb .eq 111 32) = false from by decide]
  dsimp only [cond]
  refine fe_s 4 (pc' := 28) (lc' := [(4, .int (110 + 1)), (3, .int 108), (2, .int 21), (0, .ref 0), (1, .ref 22)]) (stk' := [.int (110 + 1), .ref 22]) (mem' := fm g tp bt a b) (fun _ _ _ => rfl) ?_
  rw [show (110 + 1 : Int32) = 111 from rfl]
  refine fe_chr (i := 111) (by omega) (by rfl) (by rfl) ⟨by rfl, by rfl⟩ (by rfl) ?_
  rw [show sk_b.getD 111 0 = 112 from rfl]
  refine fe_s 1 (pc' := 33) (lc' := [(4, .int 111), (3, .int 108), (2, .int 21), (0, .ref 0), (1, .ref 22)]) (stk' := [.int 32, .int 112]) (mem' := fm g tp bt a b) (fun _ _ _ => rfl) ?_
  refine fe_s 1 (pc' := cond (fx_cb .eq 112 32) 42 36) (lc' := [(4, .int 111), (3, .int 108), (2, .int 21), (0, .ref 0), (1, .ref 22)]) (stk' := []) (mem' := fm g tp bt a b) (fun _ _ _ => rfl) ?_
  rw [show (fx_cb .eq 112 32) = false from by decide]
  dsimp only [cond]
  refine fe_s 4 (pc' := 28) (lc' := [(4, .int (111 + 1)), (3, .int 108), (2, .int 21), (0, .ref 0), (1, .ref 22)]) (stk' := [.int (111 + 1), .ref 22]) (mem' := fm g tp bt a b) (fun _ _ _ => rfl) ?_
  rw [show (111 + 1 : Int32) = 112 from rfl]
  refine fe_chr (i := 112) (by omega) (by rfl) (by rfl) ⟨by rfl, by rfl⟩ (by rfl) ?_
  rw [show sk_b.getD 112 0 = 32 from rfl]
  refine fe_s 1 (pc' := 33) (lc' := [(4, .int 112), (3, .int 108), (2, .int 21), (0, .ref 0), (1, .ref 22)]) (stk' := [.int 32, .int 32]) (mem' := fm g tp bt a b) (fun _ _ _ => rfl) ?_
  refine fe_s 1 (pc' := cond (fx_cb .eq 32 32) 42 36) (lc' := [(4, .int 112), (3, .int 108), (2, .int 21), (0, .ref 0), (1, .ref 22)]) (stk' := []) (mem' := fm g tp bt a b) (fun _ _ _ => rfl) ?_
  rw [show (fx_cb .eq 32 32) = true from by decide]
  dsimp only [cond]
  refine fe_s 8 (pc' := 55) (lc' := [(4, .int 112), (3, .int 108), (2, .int 21), (0, .ref 0), (1, .ref 22)]) (stk' := [.int ((g 14) - (g 13)), .int (112 - 108)]) (mem' := fm g tp bt a b) (fun _ _ _ => rfl) ?_
  try rw [h14]
  try rw [h13]
  rw [show (112 - 108 : Int32) = 4 from rfl]
  rw [show ((nI E) - (nI F) : Int32) = nI (E - F) from by simp only [tg_sub2 (x := E) (y := F) (by omega), nI_add, fm_mul]]
  refine fe_s 1 (pc' := cond (fx_cb .ne 4 (nI (E - F))) 62 58) (lc' := [(4, .int 112), (3, .int 108), (2, .int 21), (0, .ref 0), (1, .ref 22)]) (stk' := []) (mem' := fm g tp bt a b) (fun _ _ _ => rfl) ?_
  by_cases h1 : 4 = (E - F)
  · rw [show (fx_cb .ne 4 (nI (E - F))) = false from cb_neF (a := 4) (b := E - F) (by omega) (by omega) (by omega)]
    dsimp only [cond]
    refine fe_s 7 (pc' := 72) (lc' := [(6, .int 108), (5, .int 1), (4, .int 112), (3, .int 108), (2, .int 21), (0, .ref 0), (1, .ref 22)]) (stk' := [.int 112, .int 108]) (mem' := fm g tp bt a b) (fun _ _ _ => rfl) ?_
    refine fe_s 1 (pc' := cond (fx_cb .ge 108 112) 115 75) (lc' := [(6, .int 108), (5, .int 1), (4, .int 112), (3, .int 108), (2, .int 21), (0, .ref 0), (1, .ref 22)]) (stk' := []) (mem' := fm g tp bt a b) (fun _ _ _ => rfl) ?_
    rw [show (fx_cb .ge 108 112) = false from by decide]
    dsimp only [cond]
    refine fe_s 1 (pc' := 77) (lc' := [(6, .int 108), (5, .int 1), (4, .int 112), (3, .int 108), (2, .int 21), (0, .ref 0), (1, .ref 22)]) (stk' := [.int 1]) (mem' := fm g tp bt a b) (fun _ _ _ => rfl) ?_
    refine fe_s 1 (pc' := cond (fx_cb .eq 1 0) 115 80) (lc' := [(6, .int 108), (5, .int 1), (4, .int 112), (3, .int 108), (2, .int 21), (0, .ref 0), (1, .ref 22)]) (stk' := []) (mem' := fm g tp bt a b) (fun _ _ _ => rfl) ?_
    rw [show (fx_cb .eq 1 0) = false from by decide]
    dsimp only [cond]
    refine fe_s 2 (pc' := 83) (lc' := [(6, .int 108), (5, .int 1), (4, .int 112), (3, .int 108), (2, .int 21), (0, .ref 0), (1, .ref 22)]) (stk' := [.int 108, .ref 22]) (mem' := fm g tp bt a b) (fun _ _ _ => rfl) ?_
    refine fe_chr (i := 108) (by omega) (by rfl) (by rfl) ⟨by rfl, by rfl⟩ (by rfl) ?_
    rw [show sk_b.getD 108 0 = 115 from rfl]
    refine fe_s 7 (pc' := 96) (lc' := [(6, .int 108), (5, .int 1), (4, .int 112), (3, .int 108), (2, .int 21), (0, .ref 0), (1, .ref 22)]) (stk' := [.int (((g 13) + 108) - 108), .ref 0, .int 115]) (mem' := fm g tp bt a b) (fun _ _ _ => rfl) ?_
    try rw [h13]
    rw [show (((nI F) + 108) - 108 : Int32) = nI ((F + 108) - 108) from by simp only [show (108 : Int32) = nI 108 from rfl, tg_sub2 (x := F + 108) (y := 108) (by omega), nI_add, fm_mul]]
    refine fe_ivV (fr_byteAt (S := S) (k := (F + 108) - 108) (g := g) (tp := tp) (bt := bt) (a := a) (b := b) h11 (by omega) (by omega)) (by omega) (by rfl) (by rfl) (by rfl) (by rfl) (by rfl) (by rfl) ?_
    rcases fm_byte_or a S ((F + 108) - 108) with ⟨e3, q4⟩ | ⟨q4, n2, qn2, e3⟩
    · rw [e3]
      refine fe_s 1 (pc' := cond (fx_cb .ne 115 (-1)) 106 102) (lc' := [(6, .int 108), (5, .int 1), (4, .int 112), (3, .int 108), (2, .int 21), (0, .ref 0), (1, .ref 22)]) (stk' := []) (mem' := fm g tp bt a b) (fun _ _ _ => rfl) ?_
      rw [show (fx_cb .ne 115 (-1)) = true from by decide]
      dsimp only [cond]
      refine fe_s 6 (pc' := 72) (lc' := [(6, .int (108 + 1)), (5, .int 0), (4, .int 112), (3, .int 108), (2, .int 21), (0, .ref 0), (1, .ref 22)]) (stk' := [.int 112, .int (108 + 1)]) (mem' := fm g tp bt a b) (fun _ _ _ => rfl) ?_
      rw [show (108 + 1 : Int32) = 109 from rfl]
      refine fe_s 1 (pc' := cond (fx_cb .ge 109 112) 115 75) (lc' := [(6, .int 109), (5, .int 0), (4, .int 112), (3, .int 108), (2, .int 21), (0, .ref 0), (1, .ref 22)]) (stk' := []) (mem' := fm g tp bt a b) (fun _ _ _ => rfl) ?_
      rw [show (fx_cb .ge 109 112) = false from by decide]
      dsimp only [cond]
      refine fe_s 1 (pc' := 77) (lc' := [(6, .int 109), (5, .int 0), (4, .int 112), (3, .int 108), (2, .int 21), (0, .ref 0), (1, .ref 22)]) (stk' := [.int 0]) (mem' := fm g tp bt a b) (fun _ _ _ => rfl) ?_
      refine fe_s 1 (pc' := cond (fx_cb .eq 0 0) 115 80) (lc' := [(6, .int 109), (5, .int 0), (4, .int 112), (3, .int 108), (2, .int 21), (0, .ref 0), (1, .ref 22)]) (stk' := []) (mem' := fm g tp bt a b) (fun _ _ _ => rfl) ?_
      rw [show (fx_cb .eq 0 0) = true from by decide]
      dsimp only [cond]
      refine fe_s 1 (pc' := 117) (lc' := [(6, .int 109), (5, .int 0), (4, .int 112), (3, .int 108), (2, .int 21), (0, .ref 0), (1, .ref 22)]) (stk' := [.int 0]) (mem' := fm g tp bt a b) (fun _ _ _ => rfl) ?_
      refine fe_s 1 (pc' := cond (fx_cb .eq 0 0) 122 120) (lc' := [(6, .int 109), (5, .int 0), (4, .int 112), (3, .int 108), (2, .int 21), (0, .ref 0), (1, .ref 22)]) (stk' := []) (mem' := fm g tp bt a b) (fun _ _ _ => rfl) ?_
      rw [show (fx_cb .eq 0 0) = true from by decide]
      dsimp only [cond]
      refine fe_s 6 (pc' := 14) (lc' := [(3, .int (112 + 1)), (2, .int (21 + 1)), (6, .int 109), (5, .int 0), (4, .int 112), (0, .ref 0), (1, .ref 22)]) (stk' := []) (mem' := fm g tp bt a b) (fun _ _ _ => rfl) ?_
      rw [show (21 + 1 : Int32) = 22 from rfl]
      rw [show (112 + 1 : Int32) = 113 from rfl]
      refine fe_w (lc' := [(3, .int 113), (2, .int 22), (0, .ref 0), (1, .ref 22)]) ⟨rfl, rfl, rfl, rfl, trivial⟩ (by show List.Nodup [3, 2, 0, 1]; decide) (by show List.Nodup [3, 2, 6, 5, 4, 0, 1]; decide) ?_
      exact fw_22 hxp
    · rw [e3]
      refine fe_s 1 (pc' := cond (fx_cb .ne 115 (nI n2)) 106 102) (lc' := [(6, .int 108), (5, .int 1), (4, .int 112), (3, .int 108), (2, .int 21), (0, .ref 0), (1, .ref 22)]) (stk' := []) (mem' := fm g tp bt a b) (fun _ _ _ => rfl) ?_
      by_cases h5 : 115 = n2
      · rw [show (fx_cb .ne 115 (nI n2)) = false from cb_neF (a := 115) (b := n2) (by omega) (by omega) (by omega)]
        dsimp only [cond]
        refine fe_s 7 (pc' := 72) (lc' := [(6, .int (108 + 1)), (5, .int 1), (4, .int 112), (3, .int 108), (2, .int 21), (0, .ref 0), (1, .ref 22)]) (stk' := [.int 112, .int (108 + 1)]) (mem' := fm g tp bt a b) (fun _ _ _ => rfl) ?_
        rw [show (108 + 1 : Int32) = 109 from rfl]
        refine fe_s 1 (pc' := cond (fx_cb .ge 109 112) 115 75) (lc' := [(6, .int 109), (5, .int 1), (4, .int 112), (3, .int 108), (2, .int 21), (0, .ref 0), (1, .ref 22)]) (stk' := []) (mem' := fm g tp bt a b) (fun _ _ _ => rfl) ?_
        rw [show (fx_cb .ge 109 112) = false from by decide]
        dsimp only [cond]
        refine fe_s 1 (pc' := 77) (lc' := [(6, .int 109), (5, .int 1), (4, .int 112), (3, .int 108), (2, .int 21), (0, .ref 0), (1, .ref 22)]) (stk' := [.int 1]) (mem' := fm g tp bt a b) (fun _ _ _ => rfl) ?_
        refine fe_s 1 (pc' := cond (fx_cb .eq 1 0) 115 80) (lc' := [(6, .int 109), (5, .int 1), (4, .int 112), (3, .int 108), (2, .int 21), (0, .ref 0), (1, .ref 22)]) (stk' := []) (mem' := fm g tp bt a b) (fun _ _ _ => rfl) ?_
        rw [show (fx_cb .eq 1 0) = false from by decide]
        dsimp only [cond]
        refine fe_s 2 (pc' := 83) (lc' := [(6, .int 109), (5, .int 1), (4, .int 112), (3, .int 108), (2, .int 21), (0, .ref 0), (1, .ref 22)]) (stk' := [.int 109, .ref 22]) (mem' := fm g tp bt a b) (fun _ _ _ => rfl) ?_
        refine fe_chr (i := 109) (by omega) (by rfl) (by rfl) ⟨by rfl, by rfl⟩ (by rfl) ?_
        rw [show sk_b.getD 109 0 = 116 from rfl]
        refine fe_s 7 (pc' := 96) (lc' := [(6, .int 109), (5, .int 1), (4, .int 112), (3, .int 108), (2, .int 21), (0, .ref 0), (1, .ref 22)]) (stk' := [.int (((g 13) + 109) - 108), .ref 0, .int 116]) (mem' := fm g tp bt a b) (fun _ _ _ => rfl) ?_
        try rw [h13]
        rw [show (((nI F) + 109) - 108 : Int32) = nI ((F + 109) - 108) from by simp only [show (109 : Int32) = nI 109 from rfl, show (108 : Int32) = nI 108 from rfl, tg_sub2 (x := F + 109) (y := 108) (by omega), nI_add, fm_mul]]
        refine fe_ivV (fr_byteAt (S := S) (k := (F + 109) - 108) (g := g) (tp := tp) (bt := bt) (a := a) (b := b) h11 (by omega) (by omega)) (by omega) (by rfl) (by rfl) (by rfl) (by rfl) (by rfl) (by rfl) ?_
        rcases fm_byte_or a S ((F + 109) - 108) with ⟨e7, q8⟩ | ⟨q8, n6, qn6, e7⟩
        · rw [e7]
          refine fe_s 1 (pc' := cond (fx_cb .ne 116 (-1)) 106 102) (lc' := [(6, .int 109), (5, .int 1), (4, .int 112), (3, .int 108), (2, .int 21), (0, .ref 0), (1, .ref 22)]) (stk' := []) (mem' := fm g tp bt a b) (fun _ _ _ => rfl) ?_
          rw [show (fx_cb .ne 116 (-1)) = true from by decide]
          dsimp only [cond]
          refine fe_s 6 (pc' := 72) (lc' := [(6, .int (109 + 1)), (5, .int 0), (4, .int 112), (3, .int 108), (2, .int 21), (0, .ref 0), (1, .ref 22)]) (stk' := [.int 112, .int (109 + 1)]) (mem' := fm g tp bt a b) (fun _ _ _ => rfl) ?_
          rw [show (109 + 1 : Int32) = 110 from rfl]
          refine fe_s 1 (pc' := cond (fx_cb .ge 110 112) 115 75) (lc' := [(6, .int 110), (5, .int 0), (4, .int 112), (3, .int 108), (2, .int 21), (0, .ref 0), (1, .ref 22)]) (stk' := []) (mem' := fm g tp bt a b) (fun _ _ _ => rfl) ?_
          rw [show (fx_cb .ge 110 112) = false from by decide]
          dsimp only [cond]
          refine fe_s 1 (pc' := 77) (lc' := [(6, .int 110), (5, .int 0), (4, .int 112), (3, .int 108), (2, .int 21), (0, .ref 0), (1, .ref 22)]) (stk' := [.int 0]) (mem' := fm g tp bt a b) (fun _ _ _ => rfl) ?_
          refine fe_s 1 (pc' := cond (fx_cb .eq 0 0) 115 80) (lc' := [(6, .int 110), (5, .int 0), (4, .int 112), (3, .int 108), (2, .int 21), (0, .ref 0), (1, .ref 22)]) (stk' := []) (mem' := fm g tp bt a b) (fun _ _ _ => rfl) ?_
          rw [show (fx_cb .eq 0 0) = true from by decide]
          dsimp only [cond]
          refine fe_s 1 (pc' := 117) (lc' := [(6, .int 110), (5, .int 0), (4, .int 112), (3, .int 108), (2, .int 21), (0, .ref 0), (1, .ref 22)]) (stk' := [.int 0]) (mem' := fm g tp bt a b) (fun _ _ _ => rfl) ?_
          refine fe_s 1 (pc' := cond (fx_cb .eq 0 0) 122 120) (lc' := [(6, .int 110), (5, .int 0), (4, .int 112), (3, .int 108), (2, .int 21), (0, .ref 0), (1, .ref 22)]) (stk' := []) (mem' := fm g tp bt a b) (fun _ _ _ => rfl) ?_
          rw [show (fx_cb .eq 0 0) = true from by decide]
          dsimp only [cond]
          refine fe_s 6 (pc' := 14) (lc' := [(3, .int (112 + 1)), (2, .int (21 + 1)), (6, .int 110), (5, .int 0), (4, .int 112), (0, .ref 0), (1, .ref 22)]) (stk' := []) (mem' := fm g tp bt a b) (fun _ _ _ => rfl) ?_
          rw [show (21 + 1 : Int32) = 22 from rfl]
          rw [show (112 + 1 : Int32) = 113 from rfl]
          refine fe_w (lc' := [(3, .int 113), (2, .int 22), (0, .ref 0), (1, .ref 22)]) ⟨rfl, rfl, rfl, rfl, trivial⟩ (by show List.Nodup [3, 2, 0, 1]; decide) (by show List.Nodup [3, 2, 6, 5, 4, 0, 1]; decide) ?_
          exact fw_22 hxp
        · rw [e7]
          refine fe_s 1 (pc' := cond (fx_cb .ne 116 (nI n6)) 106 102) (lc' := [(6, .int 109), (5, .int 1), (4, .int 112), (3, .int 108), (2, .int 21), (0, .ref 0), (1, .ref 22)]) (stk' := []) (mem' := fm g tp bt a b) (fun _ _ _ => rfl) ?_
          by_cases h9 : 116 = n6
          · rw [show (fx_cb .ne 116 (nI n6)) = false from cb_neF (a := 116) (b := n6) (by omega) (by omega) (by omega)]
            dsimp only [cond]
            refine fe_s 7 (pc' := 72) (lc' := [(6, .int (109 + 1)), (5, .int 1), (4, .int 112), (3, .int 108), (2, .int 21), (0, .ref 0), (1, .ref 22)]) (stk' := [.int 112, .int (109 + 1)]) (mem' := fm g tp bt a b) (fun _ _ _ => rfl) ?_
            rw [show (109 + 1 : Int32) = 110 from rfl]
            refine fe_s 1 (pc' := cond (fx_cb .ge 110 112) 115 75) (lc' := [(6, .int 110), (5, .int 1), (4, .int 112), (3, .int 108), (2, .int 21), (0, .ref 0), (1, .ref 22)]) (stk' := []) (mem' := fm g tp bt a b) (fun _ _ _ => rfl) ?_
            rw [show (fx_cb .ge 110 112) = false from by decide]
            dsimp only [cond]
            refine fe_s 1 (pc' := 77) (lc' := [(6, .int 110), (5, .int 1), (4, .int 112), (3, .int 108), (2, .int 21), (0, .ref 0), (1, .ref 22)]) (stk' := [.int 1]) (mem' := fm g tp bt a b) (fun _ _ _ => rfl) ?_
            refine fe_s 1 (pc' := cond (fx_cb .eq 1 0) 115 80) (lc' := [(6, .int 110), (5, .int 1), (4, .int 112), (3, .int 108), (2, .int 21), (0, .ref 0), (1, .ref 22)]) (stk' := []) (mem' := fm g tp bt a b) (fun _ _ _ => rfl) ?_
            rw [show (fx_cb .eq 1 0) = false from by decide]
            dsimp only [cond]
            refine fe_s 2 (pc' := 83) (lc' := [(6, .int 110), (5, .int 1), (4, .int 112), (3, .int 108), (2, .int 21), (0, .ref 0), (1, .ref 22)]) (stk' := [.int 110, .ref 22]) (mem' := fm g tp bt a b) (fun _ _ _ => rfl) ?_
            refine fe_chr (i := 110) (by omega) (by rfl) (by rfl) ⟨by rfl, by rfl⟩ (by rfl) ?_
            rw [show sk_b.getD 110 0 = 111 from rfl]
            refine fe_s 7 (pc' := 96) (lc' := [(6, .int 110), (5, .int 1), (4, .int 112), (3, .int 108), (2, .int 21), (0, .ref 0), (1, .ref 22)]) (stk' := [.int (((g 13) + 110) - 108), .ref 0, .int 111]) (mem' := fm g tp bt a b) (fun _ _ _ => rfl) ?_
            try rw [h13]
            rw [show (((nI F) + 110) - 108 : Int32) = nI ((F + 110) - 108) from by simp only [show (110 : Int32) = nI 110 from rfl, show (108 : Int32) = nI 108 from rfl, tg_sub2 (x := F + 110) (y := 108) (by omega), nI_add, fm_mul]]
            refine fe_ivV (fr_byteAt (S := S) (k := (F + 110) - 108) (g := g) (tp := tp) (bt := bt) (a := a) (b := b) h11 (by omega) (by omega)) (by omega) (by rfl) (by rfl) (by rfl) (by rfl) (by rfl) (by rfl) ?_
            rcases fm_byte_or a S ((F + 110) - 108) with ⟨e11, q12⟩ | ⟨q12, n10, qn10, e11⟩
            · rw [e11]
              refine fe_s 1 (pc' := cond (fx_cb .ne 111 (-1)) 106 102) (lc' := [(6, .int 110), (5, .int 1), (4, .int 112), (3, .int 108), (2, .int 21), (0, .ref 0), (1, .ref 22)]) (stk' := []) (mem' := fm g tp bt a b) (fun _ _ _ => rfl) ?_
              rw [show (fx_cb .ne 111 (-1)) = true from by decide]
              dsimp only [cond]
              refine fe_s 6 (pc' := 72) (lc' := [(6, .int (110 + 1)), (5, .int 0), (4, .int 112), (3, .int 108), (2, .int 21), (0, .ref 0), (1, .ref 22)]) (stk' := [.int 112, .int (110 + 1)]) (mem' := fm g tp bt a b) (fun _ _ _ => rfl) ?_
              rw [show (110 + 1 : Int32) = 111 from rfl]
              refine fe_s 1 (pc' := cond (fx_cb .ge 111 112) 115 75) (lc' := [(6, .int 111), (5, .int 0), (4, .int 112), (3, .int 108), (2, .int 21), (0, .ref 0), (1, .ref 22)]) (stk' := []) (mem' := fm g tp bt a b) (fun _ _ _ => rfl) ?_
              rw [show (fx_cb .ge 111 112) = false from by decide]
              dsimp only [cond]
              refine fe_s 1 (pc' := 77) (lc' := [(6, .int 111), (5, .int 0), (4, .int 112), (3, .int 108), (2, .int 21), (0, .ref 0), (1, .ref 22)]) (stk' := [.int 0]) (mem' := fm g tp bt a b) (fun _ _ _ => rfl) ?_
              refine fe_s 1 (pc' := cond (fx_cb .eq 0 0) 115 80) (lc' := [(6, .int 111), (5, .int 0), (4, .int 112), (3, .int 108), (2, .int 21), (0, .ref 0), (1, .ref 22)]) (stk' := []) (mem' := fm g tp bt a b) (fun _ _ _ => rfl) ?_
              rw [show (fx_cb .eq 0 0) = true from by decide]
              dsimp only [cond]
              refine fe_s 1 (pc' := 117) (lc' := [(6, .int 111), (5, .int 0), (4, .int 112), (3, .int 108), (2, .int 21), (0, .ref 0), (1, .ref 22)]) (stk' := [.int 0]) (mem' := fm g tp bt a b) (fun _ _ _ => rfl) ?_
              refine fe_s 1 (pc' := cond (fx_cb .eq 0 0) 122 120) (lc' := [(6, .int 111), (5, .int 0), (4, .int 112), (3, .int 108), (2, .int 21), (0, .ref 0), (1, .ref 22)]) (stk' := []) (mem' := fm g tp bt a b) (fun _ _ _ => rfl) ?_
              rw [show (fx_cb .eq 0 0) = true from by decide]
              dsimp only [cond]
              refine fe_s 6 (pc' := 14) (lc' := [(3, .int (112 + 1)), (2, .int (21 + 1)), (6, .int 111), (5, .int 0), (4, .int 112), (0, .ref 0), (1, .ref 22)]) (stk' := []) (mem' := fm g tp bt a b) (fun _ _ _ => rfl) ?_
              rw [show (21 + 1 : Int32) = 22 from rfl]
              rw [show (112 + 1 : Int32) = 113 from rfl]
              refine fe_w (lc' := [(3, .int 113), (2, .int 22), (0, .ref 0), (1, .ref 22)]) ⟨rfl, rfl, rfl, rfl, trivial⟩ (by show List.Nodup [3, 2, 0, 1]; decide) (by show List.Nodup [3, 2, 6, 5, 4, 0, 1]; decide) ?_
              exact fw_22 hxp
            · rw [e11]
              refine fe_s 1 (pc' := cond (fx_cb .ne 111 (nI n10)) 106 102) (lc' := [(6, .int 110), (5, .int 1), (4, .int 112), (3, .int 108), (2, .int 21), (0, .ref 0), (1, .ref 22)]) (stk' := []) (mem' := fm g tp bt a b) (fun _ _ _ => rfl) ?_
              by_cases h13 : 111 = n10
              · rw [show (fx_cb .ne 111 (nI n10)) = false from cb_neF (a := 111) (b := n10) (by omega) (by omega) (by omega)]
                dsimp only [cond]
                refine fe_s 7 (pc' := 72) (lc' := [(6, .int (110 + 1)), (5, .int 1), (4, .int 112), (3, .int 108), (2, .int 21), (0, .ref 0), (1, .ref 22)]) (stk' := [.int 112, .int (110 + 1)]) (mem' := fm g tp bt a b) (fun _ _ _ => rfl) ?_
                rw [show (110 + 1 : Int32) = 111 from rfl]
                refine fe_s 1 (pc' := cond (fx_cb .ge 111 112) 115 75) (lc' := [(6, .int 111), (5, .int 1), (4, .int 112), (3, .int 108), (2, .int 21), (0, .ref 0), (1, .ref 22)]) (stk' := []) (mem' := fm g tp bt a b) (fun _ _ _ => rfl) ?_
                rw [show (fx_cb .ge 111 112) = false from by decide]
                dsimp only [cond]
                refine fe_s 1 (pc' := 77) (lc' := [(6, .int 111), (5, .int 1), (4, .int 112), (3, .int 108), (2, .int 21), (0, .ref 0), (1, .ref 22)]) (stk' := [.int 1]) (mem' := fm g tp bt a b) (fun _ _ _ => rfl) ?_
                refine fe_s 1 (pc' := cond (fx_cb .eq 1 0) 115 80) (lc' := [(6, .int 111), (5, .int 1), (4, .int 112), (3, .int 108), (2, .int 21), (0, .ref 0), (1, .ref 22)]) (stk' := []) (mem' := fm g tp bt a b) (fun _ _ _ => rfl) ?_
                rw [show (fx_cb .eq 1 0) = false from by decide]
                dsimp only [cond]
                refine fe_s 2 (pc' := 83) (lc' := [(6, .int 111), (5, .int 1), (4, .int 112), (3, .int 108), (2, .int 21), (0, .ref 0), (1, .ref 22)]) (stk' := [.int 111, .ref 22]) (mem' := fm g tp bt a b) (fun _ _ _ => rfl) ?_
                refine fe_chr (i := 111) (by omega) (by rfl) (by rfl) ⟨by rfl, by rfl⟩ (by rfl) ?_
                rw [show sk_b.getD 111 0 = 112 from rfl]
                refine fe_s 7 (pc' := 96) (lc' := [(6, .int 111), (5, .int 1), (4, .int 112), (3, .int 108), (2, .int 21), (0, .ref 0), (1, .ref 22)]) (stk' := [.int (((g 13) + 111) - 108), .ref 0, .int 112]) (mem' := fm g tp bt a b) (fun _ _ _ => rfl) ?_
                try rw [h13]
                rw [show (((nI F) + 111) - 108 : Int32) = nI ((F + 111) - 108) from by simp only [show (111 : Int32) = nI 111 from rfl, show (108 : Int32) = nI 108 from rfl, tg_sub2 (x := F + 111) (y := 108) (by omega), nI_add, fm_mul]]
                refine fe_ivV (fr_byteAt (S := S) (k := (F + 111) - 108) (g := g) (tp := tp) (bt := bt) (a := a) (b := b) h11 (by omega) (by omega)) (by omega) (by rfl) (by rfl) (by rfl) (by rfl) (by rfl) (by rfl) ?_
                rcases fm_byte_or a S ((F + 111) - 108) with ⟨e15, q16⟩ | ⟨q16, n14, qn14, e15⟩
                · rw [e15]
                  refine fe_s 1 (pc' := cond (fx_cb .ne 112 (-1)) 106 102) (lc' := [(6, .int 111), (5, .int 1), (4, .int 112), (3, .int 108), (2, .int 21), (0, .ref 0), (1, .ref 22)]) (stk' := []) (mem' := fm g tp bt a b) (fun _ _ _ => rfl) ?_
                  rw [show (fx_cb .ne 112 (-1)) = true from by decide]
                  dsimp only [cond]
                  refine fe_s 6 (pc' := 72) (lc' := [(6, .int (111 + 1)), (5, .int 0), (4, .int 112), (3, .int 108), (2, .int 21), (0, .ref 0), (1, .ref 22)]) (stk' := [.int 112, .int (111 + 1)]) (mem' := fm g tp bt a b) (fun _ _ _ => rfl) ?_
                  rw [show (111 + 1 : Int32) = 112 from rfl]
                  refine fe_s 1 (pc' := cond (fx_cb .ge 112 112) 115 75) (lc' := [(6, .int 112), (5, .int 0), (4, .int 112), (3, .int 108), (2, .int 21), (0, .ref 0), (1, .ref 22)]) (stk' := []) (mem' := fm g tp bt a b) (fun _ _ _ => rfl) ?_
                  rw [show (fx_cb .ge 112 112) = true from by decide]
                  dsimp only [cond]
                  refine fe_s 1 (pc' := 117) (lc' := [(6, .int 112), (5, .int 0), (4, .int 112), (3, .int 108), (2, .int 21), (0, .ref 0), (1, .ref 22)]) (stk' := [.int 0]) (mem' := fm g tp bt a b) (fun _ _ _ => rfl) ?_
                  refine fe_s 1 (pc' := cond (fx_cb .eq 0 0) 122 120) (lc' := [(6, .int 112), (5, .int 0), (4, .int 112), (3, .int 108), (2, .int 21), (0, .ref 0), (1, .ref 22)]) (stk' := []) (mem' := fm g tp bt a b) (fun _ _ _ => rfl) ?_
                  rw [show (fx_cb .eq 0 0) = true from by decide]
                  dsimp only [cond]
                  refine fe_s 6 (pc' := 14) (lc' := [(3, .int (112 + 1)), (2, .int (21 + 1)), (6, .int 112), (5, .int 0), (4, .int 112), (0, .ref 0), (1, .ref 22)]) (stk' := []) (mem' := fm g tp bt a b) (fun _ _ _ => rfl) ?_
                  rw [show (21 + 1 : Int32) = 22 from rfl]
                  rw [show (112 + 1 : Int32) = 113 from rfl]
                  refine fe_w (lc' := [(3, .int 113), (2, .int 22), (0, .ref 0), (1, .ref 22)]) ⟨rfl, rfl, rfl, rfl, trivial⟩ (by show List.Nodup [3, 2, 0, 1]; decide) (by show List.Nodup [3, 2, 6, 5, 4, 0, 1]; decide) ?_
                  exact fw_22 hxp
                · rw [e15]
                  refine fe_s 1 (pc' := cond (fx_cb .ne 112 (nI n14)) 106 102) (lc' := [(6, .int 111), (5, .int 1), (4, .int 112), (3, .int 108), (2, .int 21), (0, .ref 0), (1, .ref 22)]) (stk' := []) (mem' := fm g tp bt a b) (fun _ _ _ => rfl) ?_
                  by_cases h17 : 112 = n14
                  · rw [show (fx_cb .ne 112 (nI n14)) = false from cb_neF (a := 112) (b := n14) (by omega) (by omega) (by omega)]
                    dsimp only [cond]
                    refine fe_s 7 (pc' := 72) (lc' := [(6, .int (111 + 1)), (5, .int 1), (4, .int 112), (3, .int 108), (2, .int 21), (0, .ref 0), (1, .ref 22)]) (stk' := [.int 112, .int (111 + 1)]) (mem' := fm g tp bt a b) (fun _ _ _ => rfl) ?_
                    rw [show (111 + 1 : Int32) = 112 from rfl]
                    refine fe_s 1 (pc' := cond (fx_cb .ge 112 112) 115 75) (lc' := [(6, .int 112), (5, .int 1), (4, .int 112), (3, .int 108), (2, .int 21), (0, .ref 0), (1, .ref 22)]) (stk' := []) (mem' := fm g tp bt a b) (fun _ _ _ => rfl) ?_
                    rw [show (fx_cb .ge 112 112) = true from by decide]
                    dsimp only [cond]
                    refine fe_s 1 (pc' := 117) (lc' := [(6, .int 112), (5, .int 1), (4, .int 112), (3, .int 108), (2, .int 21), (0, .ref 0), (1, .ref 22)]) (stk' := [.int 1]) (mem' := fm g tp bt a b) (fun _ _ _ => rfl) ?_
                    refine fe_s 1 (pc' := cond (fx_cb .eq 1 0) 122 120) (lc' := [(6, .int 112), (5, .int 1), (4, .int 112), (3, .int 108), (2, .int 21), (0, .ref 0), (1, .ref 22)]) (stk' := []) (mem' := fm g tp bt a b) (fun _ _ _ => rfl) ?_
                    rw [show (fx_cb .eq 1 0) = false from by decide]
                    dsimp only [cond]
                    refine fe_s 1 (pc' := 121) (lc' := [(6, .int 112), (5, .int 1), (4, .int 112), (3, .int 108), (2, .int 21), (0, .ref 0), (1, .ref 22)]) (stk' := [.int 21]) (mem' := fm g tp bt a b) (fun _ _ _ => rfl) ?_
                    exact fe_ret ⟨_, Or.inr ⟨21, by omega, rfl⟩, rfl⟩ (by rfl) (by rfl) (by rfl)
                  · rw [show (fx_cb .ne 112 (nI n14)) = true from cb_neT (a := 112) (b := n14) (by omega) (by omega) (by omega)]
                    dsimp only [cond]
                    refine fe_s 6 (pc' := 72) (lc' := [(6, .int (111 + 1)), (5, .int 0), (4, .int 112), (3, .int 108), (2, .int 21), (0, .ref 0), (1, .ref 22)]) (stk' := [.int 112, .int (111 + 1)]) (mem' := fm g tp bt a b) (fun _ _ _ => rfl) ?_
                    rw [show (111 + 1 : Int32) = 112 from rfl]
                    refine fe_s 1 (pc' := cond (fx_cb .ge 112 112) 115 75) (lc' := [(6, .int 112), (5, .int 0), (4, .int 112), (3, .int 108), (2, .int 21), (0, .ref 0), (1, .ref 22)]) (stk' := []) (mem' := fm g tp bt a b) (fun _ _ _ => rfl) ?_
                    rw [show (fx_cb .ge 112 112) = true from by decide]
                    dsimp only [cond]
                    refine fe_s 1 (pc' := 117) (lc' := [(6, .int 112), (5, .int 0), (4, .int 112), (3, .int 108), (2, .int 21), (0, .ref 0), (1, .ref 22)]) (stk' := [.int 0]) (mem' := fm g tp bt a b) (fun _ _ _ => rfl) ?_
                    refine fe_s 1 (pc' := cond (fx_cb .eq 0 0) 122 120) (lc' := [(6, .int 112), (5, .int 0), (4, .int 112), (3, .int 108), (2, .int 21), (0, .ref 0), (1, .ref 22)]) (stk' := []) (mem' := fm g tp bt a b) (fun _ _ _ => rfl) ?_
                    rw [show (fx_cb .eq 0 0) = true from by decide]
                    dsimp only [cond]
                    refine fe_s 6 (pc' := 14) (lc' := [(3, .int (112 + 1)), (2, .int (21 + 1)), (6, .int 112), (5, .int 0), (4, .int 112), (0, .ref 0), (1, .ref 22)]) (stk' := []) (mem' := fm g tp bt a b) (fun _ _ _ => rfl) ?_
                    rw [show (21 + 1 : Int32) = 22 from rfl]
                    rw [show (112 + 1 : Int32) = 113 from rfl]
                    refine fe_w (lc' := [(3, .int 113), (2, .int 22), (0, .ref 0), (1, .ref 22)]) ⟨rfl, rfl, rfl, rfl, trivial⟩ (by show List.Nodup [3, 2, 0, 1]; decide) (by show List.Nodup [3, 2, 6, 5, 4, 0, 1]; decide) ?_
                    exact fw_22 hxp
              · rw [show (fx_cb .ne 111 (nI n10)) = true from cb_neT (a := 111) (b := n10) (by omega) (by omega) (by omega)]
                dsimp only [cond]
                refine fe_s 6 (pc' := 72) (lc' := [(6, .int (110 + 1)), (5, .int 0), (4, .int 112), (3, .int 108), (2, .int 21), (0, .ref 0), (1, .ref 22)]) (stk' := [.int 112, .int (110 + 1)]) (mem' := fm g tp bt a b) (fun _ _ _ => rfl) ?_
                rw [show (110 + 1 : Int32) = 111 from rfl]
                refine fe_s 1 (pc' := cond (fx_cb .ge 111 112) 115 75) (lc' := [(6, .int 111), (5, .int 0), (4, .int 112), (3, .int 108), (2, .int 21), (0, .ref 0), (1, .ref 22)]) (stk' := []) (mem' := fm g tp bt a b) (fun _ _ _ => rfl) ?_
                rw [show (fx_cb .ge 111 112) = false from by decide]
                dsimp only [cond]
                refine fe_s 1 (pc' := 77) (lc' := [(6, .int 111), (5, .int 0), (4, .int 112), (3, .int 108), (2, .int 21), (0, .ref 0), (1, .ref 22)]) (stk' := [.int 0]) (mem' := fm g tp bt a b) (fun _ _ _ => rfl) ?_
                refine fe_s 1 (pc' := cond (fx_cb .eq 0 0) 115 80) (lc' := [(6, .int 111), (5, .int 0), (4, .int 112), (3, .int 108), (2, .int 21), (0, .ref 0), (1, .ref 22)]) (stk' := []) (mem' := fm g tp bt a b) (fun _ _ _ => rfl) ?_
                rw [show (fx_cb .eq 0 0) = true from by decide]
                dsimp only [cond]
                refine fe_s 1 (pc' := 117) (lc' := [(6, .int 111), (5, .int 0), (4, .int 112), (3, .int 108), (2, .int 21), (0, .ref 0), (1, .ref 22)]) (stk' := [.int 0]) (mem' := fm g tp bt a b) (fun _ _ _ => rfl) ?_
                refine fe_s 1 (pc' := cond (fx_cb .eq 0 0) 122 120) (lc' := [(6, .int 111), (5, .int 0), (4, .int 112), (3, .int 108), (2, .int 21), (0, .ref 0), (1, .ref 22)]) (stk' := []) (mem' := fm g tp bt a b) (fun _ _ _ => rfl) ?_
                rw [show (fx_cb .eq 0 0) = true from by decide]
                dsimp only [cond]
                refine fe_s 6 (pc' := 14) (lc' := [(3, .int (112 + 1)), (2, .int (21 + 1)), (6, .int 111), (5, .int 0), (4, .int 112), (0, .ref 0), (1, .ref 22)]) (stk' := []) (mem' := fm g tp bt a b) (fun _ _ _ => rfl) ?_
                rw [show (21 + 1 : Int32) = 22 from rfl]
                rw [show (112 + 1 : Int32) = 113 from rfl]
                refine fe_w (lc' := [(3, .int 113), (2, .int 22), (0, .ref 0), (1, .ref 22)]) ⟨rfl, rfl, rfl, rfl, trivial⟩ (by show List.Nodup [3, 2, 0, 1]; decide) (by show List.Nodup [3, 2, 6, 5, 4, 0, 1]; decide) ?_
                exact fw_22 hxp
          · rw [show (fx_cb .ne 116 (nI n6)) = true from cb_neT (a := 116) (b := n6) (by omega) (by omega) (by omega)]
            dsimp only [cond]
            refine fe_s 6 (pc' := 72) (lc' := [(6, .int (109 + 1)), (5, .int 0), (4, .int 112), (3, .int 108), (2, .int 21), (0, .ref 0), (1, .ref 22)]) (stk' := [.int 112, .int (109 + 1)]) (mem' := fm g tp bt a b) (fun _ _ _ => rfl) ?_
            rw [show (109 + 1 : Int32) = 110 from rfl]
            refine fe_s 1 (pc' := cond (fx_cb .ge 110 112) 115 75) (lc' := [(6, .int 110), (5, .int 0), (4, .int 112), (3, .int 108), (2, .int 21), (0, .ref 0), (1, .ref 22)]) (stk' := []) (mem' := fm g tp bt a b) (fun _ _ _ => rfl) ?_
            rw [show (fx_cb .ge 110 112) = false from by decide]
            dsimp only [cond]
            refine fe_s 1 (pc' := 77) (lc' := [(6, .int 110), (5, .int 0), (4, .int 112), (3, .int 108), (2, .int 21), (0, .ref 0), (1, .ref 22)]) (stk' := [.int 0]) (mem' := fm g tp bt a b) (fun _ _ _ => rfl) ?_
            refine fe_s 1 (pc' := cond (fx_cb .eq 0 0) 115 80) (lc' := [(6, .int 110), (5, .int 0), (4, .int 112), (3, .int 108), (2, .int 21), (0, .ref 0), (1, .ref 22)]) (stk' := []) (mem' := fm g tp bt a b) (fun _ _ _ => rfl) ?_
            rw [show (fx_cb .eq 0 0) = true from by decide]
            dsimp only [cond]
            refine fe_s 1 (pc' := 117) (lc' := [(6, .int 110), (5, .int 0), (4, .int 112), (3, .int 108), (2, .int 21), (0, .ref 0), (1, .ref 22)]) (stk' := [.int 0]) (mem' := fm g tp bt a b) (fun _ _ _ => rfl) ?_
            refine fe_s 1 (pc' := cond (fx_cb .eq 0 0) 122 120) (lc' := [(6, .int 110), (5, .int 0), (4, .int 112), (3, .int 108), (2, .int 21), (0, .ref 0), (1, .ref 22)]) (stk' := []) (mem' := fm g tp bt a b) (fun _ _ _ => rfl) ?_
            rw [show (fx_cb .eq 0 0) = true from by decide]
            dsimp only [cond]
            refine fe_s 6 (pc' := 14) (lc' := [(3, .int (112 + 1)), (2, .int (21 + 1)), (6, .int 110), (5, .int 0), (4, .int 112), (0, .ref 0), (1, .ref 22)]) (stk' := []) (mem' := fm g tp bt a b) (fun _ _ _ => rfl) ?_
            rw [show (21 + 1 : Int32) = 22 from rfl]
            rw [show (112 + 1 : Int32) = 113 from rfl]
            refine fe_w (lc' := [(3, .int 113), (2, .int 22), (0, .ref 0), (1, .ref 22)]) ⟨rfl, rfl, rfl, rfl, trivial⟩ (by show List.Nodup [3, 2, 0, 1]; decide) (by show List.Nodup [3, 2, 6, 5, 4, 0, 1]; decide) ?_
            exact fw_22 hxp
      · rw [show (fx_cb .ne 115 (nI n2)) = true from cb_neT (a := 115) (b := n2) (by omega) (by omega) (by omega)]
        dsimp only [cond]
        refine fe_s 6 (pc' := 72) (lc' := [(6, .int (108 + 1)), (5, .int 0), (4, .int 112), (3, .int 108), (2, .int 21), (0, .ref 0), (1, .ref 22)]) (stk' := [.int 112, .int (108 + 1)]) (mem' := fm g tp bt a b) (fun _ _ _ => rfl) ?_
        rw [show (108 + 1 : Int32) = 109 from rfl]
        refine fe_s 1 (pc' := cond (fx_cb .ge 109 112) 115 75) (lc' := [(6, .int 109), (5, .int 0), (4, .int 112), (3, .int 108), (2, .int 21), (0, .ref 0), (1, .ref 22)]) (stk' := []) (mem' := fm g tp bt a b) (fun _ _ _ => rfl) ?_
        rw [show (fx_cb .ge 109 112) = false from by decide]
        dsimp only [cond]
        refine fe_s 1 (pc' := 77) (lc' := [(6, .int 109), (5, .int 0), (4, .int 112), (3, .int 108), (2, .int 21), (0, .ref 0), (1, .ref 22)]) (stk' := [.int 0]) (mem' := fm g tp bt a b) (fun _ _ _ => rfl) ?_
        refine fe_s 1 (pc' := cond (fx_cb .eq 0 0) 115 80) (lc' := [(6, .int 109), (5, .int 0), (4, .int 112), (3, .int 108), (2, .int 21), (0, .ref 0), (1, .ref 22)]) (stk' := []) (mem' := fm g tp bt a b) (fun _ _ _ => rfl) ?_
        rw [show (fx_cb .eq 0 0) = true from by decide]
        dsimp only [cond]
        refine fe_s 1 (pc' := 117) (lc' := [(6, .int 109), (5, .int 0), (4, .int 112), (3, .int 108), (2, .int 21), (0, .ref 0), (1, .ref 22)]) (stk' := [.int 0]) (mem' := fm g tp bt a b) (fun _ _ _ => rfl) ?_
        refine fe_s 1 (pc' := cond (fx_cb .eq 0 0) 122 120) (lc' := [(6, .int 109), (5, .int 0), (4, .int 112), (3, .int 108), (2, .int 21), (0, .ref 0), (1, .ref 22)]) (stk' := []) (mem' := fm g tp bt a b) (fun _ _ _ => rfl) ?_
        rw [show (fx_cb .eq 0 0) = true from by decide]
        dsimp only [cond]
        refine fe_s 6 (pc' := 14) (lc' := [(3, .int (112 + 1)), (2, .int (21 + 1)), (6, .int 109), (5, .int 0), (4, .int 112), (0, .ref 0), (1, .ref 22)]) (stk' := []) (mem' := fm g tp bt a b) (fun _ _ _ => rfl) ?_
        rw [show (21 + 1 : Int32) = 22 from rfl]
        rw [show (112 + 1 : Int32) = 113 from rfl]
        refine fe_w (lc' := [(3, .int 113), (2, .int 22), (0, .ref 0), (1, .ref 22)]) ⟨rfl, rfl, rfl, rfl, trivial⟩ (by show List.Nodup [3, 2, 0, 1]; decide) (by show List.Nodup [3, 2, 6, 5, 4, 0, 1]; decide) ?_
        exact fw_22 hxp
  · rw [show (fx_cb .ne 4 (nI (E - F))) = true from cb_neT (a := 4) (b := E - F) (by omega) (by omega) (by omega)]
    dsimp only [cond]
    refine fe_s 6 (pc' := 72) (lc' := [(6, .int 108), (5, .int 0), (4, .int 112), (3, .int 108), (2, .int 21), (0, .ref 0), (1, .ref 22)]) (stk' := [.int 112, .int 108]) (mem' := fm g tp bt a b) (fun _ _ _ => rfl) ?_
    refine fe_s 1 (pc' := cond (fx_cb .ge 108 112) 115 75) (lc' := [(6, .int 108), (5, .int 0), (4, .int 112), (3, .int 108), (2, .int 21), (0, .ref 0), (1, .ref 22)]) (stk' := []) (mem' := fm g tp bt a b) (fun _ _ _ => rfl) ?_
    rw [show (fx_cb .ge 108 112) = false from by decide]
    dsimp only [cond]
    refine fe_s 1 (pc' := 77) (lc' := [(6, .int 108), (5, .int 0), (4, .int 112), (3, .int 108), (2, .int 21), (0, .ref 0), (1, .ref 22)]) (stk' := [.int 0]) (mem' := fm g tp bt a b) (fun _ _ _ => rfl) ?_
    refine fe_s 1 (pc' := cond (fx_cb .eq 0 0) 115 80) (lc' := [(6, .int 108), (5, .int 0), (4, .int 112), (3, .int 108), (2, .int 21), (0, .ref 0), (1, .ref 22)]) (stk' := []) (mem' := fm g tp bt a b) (fun _ _ _ => rfl) ?_
    rw [show (fx_cb .eq 0 0) = true from by decide]
    dsimp only [cond]
    refine fe_s 1 (pc' := 117) (lc' := [(6, .int 108), (5, .int 0), (4, .int 112), (3, .int 108), (2, .int 21), (0, .ref 0), (1, .ref 22)]) (stk' := [.int 0]) (mem' := fm g tp bt a b) (fun _ _ _ => rfl) ?_
    refine fe_s 1 (pc' := cond (fx_cb .eq 0 0) 122 120) (lc' := [(6, .int 108), (5, .int 0), (4, .int 112), (3, .int 108), (2, .int 21), (0, .ref 0), (1, .ref 22)]) (stk' := []) (mem' := fm g tp bt a b) (fun _ _ _ => rfl) ?_
    rw [show (fx_cb .eq 0 0) = true from by decide]
    dsimp only [cond]
    refine fe_s 6 (pc' := 14) (lc' := [(3, .int (112 + 1)), (2, .int (21 + 1)), (6, .int 108), (5, .int 0), (4, .int 112), (0, .ref 0), (1, .ref 22)]) (stk' := []) (mem' := fm g tp bt a b) (fun _ _ _ => rfl) ?_
    rw [show (21 + 1 : Int32) = 22 from rfl]
    rw [show (112 + 1 : Int32) = 113 from rfl]
    refine fe_w (lc' := [(3, .int 113), (2, .int 22), (0, .ref 0), (1, .ref 22)]) ⟨rfl, rfl, rfl, rfl, trivial⟩ (by show List.Nodup [3, 2, 0, 1]; decide) (by show List.Nodup [3, 2, 6, 5, 4, 0, 1]; decide) ?_
    exact fw_22 hxp
theorem fw_20 {S E F : Nat} (hxp : fm_xp g S E F) : fe_R 1 gk_m226 14 [(3, .int 104), (2, .int 20), (0, .ref 0), (1, .ref 22)] [] (fm g tp bt a b) (fm_FI (fm g tp bt a b)) := by
  obtain ⟨h11, hS9, h14, hES, h13, hFE, -, -, -⟩ := id hxp
  refine fe_s 2 (pc' := 16) (lc' := [(3, .int 104), (2, .int 20), (0, .ref 0), (1, .ref 22)]) (stk' := [.ref 22, .int 104]) (mem' := fm g tp bt a b) (fun _ _ _ => rfl) ?_
  refine fe_s 1 (pc' := 19) (lc' := [(3, .int 104), (2, .int 20), (0, .ref 0), (1, .ref 22)]) (stk' := [.int 117, .int 104]) (mem' := fm g tp bt a b) (fun _ _ _ => rfl) ?_
  refine fe_s 1 (pc' := cond (fx_cb .ge 104 117) 133 22) (lc' := [(3, .int 104), (2, .int 20), (0, .ref 0), (1, .ref 22)]) (stk' := []) (mem' := fm g tp bt a b) (fun _ _ _ => rfl) ?_
  rw [show (fx_cb .ge 104 117) = false from by decide]
  dsimp only [cond]
  refine fe_s 4 (pc' := 28) (lc' := [(4, .int 104), (3, .int 104), (2, .int 20), (0, .ref 0), (1, .ref 22)]) (stk' := [.int 104, .ref 22]) (mem' := fm g tp bt a b) (fun _ _ _ => rfl) ?_
  refine fe_chr (i := 104) (by omega) (by rfl) (by rfl) ⟨by rfl, by rfl⟩ (by rfl) ?_
  rw [show sk_b.getD 104 0 = 101 from rfl]
  refine fe_s 1 (pc' := 33) (lc' := [(4, .int 104), (3, .int 104), (2, .int 20), (0, .ref 0), (1, .ref 22)]) (stk' := [.int 32, .int 101]) (mem' := fm g tp bt a b) (fun _ _ _ => rfl) ?_
  refine fe_s 1 (pc' := cond (fx_cb .eq 101 32) 42 36) (lc' := [(4, .int 104), (3, .int 104), (2, .int 20), (0, .ref 0), (1, .ref 22)]) (stk' := []) (mem' := fm g tp bt a b) (fun _ _ _ => rfl) ?_
  rw [show (fx_cb .eq 101 32) = false from by decide]
  dsimp only [cond]
  refine fe_s 4 (pc' := 28) (lc' := [(4, .int (104 + 1)), (3, .int 104), (2, .int 20), (0, .ref 0), (1, .ref 22)]) (stk' := [.int (104 + 1), .ref 22]) (mem' := fm g tp bt a b) (fun _ _ _ => rfl) ?_
  rw [show (104 + 1 : Int32) = 105 from rfl]
  refine fe_chr (i := 105) (by omega) (by rfl) (by rfl) ⟨by rfl, by rfl⟩ (by rfl) ?_
  rw [show sk_b.getD 105 0 = 110 from rfl]
  refine fe_s 1 (pc' := 33) (lc' := [(4, .int 105), (3, .int 104), (2, .int 20), (0, .ref 0), (1, .ref 22)]) (stk' := [.int 32, .int 110]) (mem' := fm g tp bt a b) (fun _ _ _ => rfl) ?_
  refine fe_s 1 (pc' := cond (fx_cb .eq 110 32) 42 36) (lc' := [(4, .int 105), (3, .int 104), (2, .int 20), (0, .ref 0), (1, .ref 22)]) (stk' := []) (mem' := fm g tp bt a b) (fun _ _ _ => rfl) ?_
  rw [show (fx_cb .eq 110 32) = false from by decide]
  dsimp only [cond]
  refine fe_s 4 (pc' := 28) (lc' := [(4, .int (105 + 1)), (3, .int 104), (2, .int 20), (0, .ref 0), (1, .ref 22)]) (stk' := [.int (105 + 1), .ref 22]) (mem' := fm g tp bt a b) (fun _ _ _ => rfl) ?_
  rw [show (105 + 1 : Int32) = 106 from rfl]
  refine fe_chr (i := 106) (by omega) (by rfl) (by rfl) ⟨by rfl, by rfl⟩ (by rfl) ?_
  rw [show sk_b.getD 106 0 = 100 from rfl]
  refine fe_s 1 (pc' := 33) (lc' := [(4, .int 106), (3, .int 104), (2, .int 20), (0, .ref 0), (1, .ref 22)]) (stk' := [.int 32, .int 100]) (mem' := fm g tp bt a b) (fun _ _ _ => rfl) ?_
  refine fe_s 1 (pc' := cond (fx_cb .eq 100 32) 42 36) (lc' := [(4, .int 106), (3, .int 104), (2, .int 20), (0, .ref 0), (1, .ref 22)]) (stk' := []) (mem' := fm g tp bt a b) (fun _ _ _ => rfl) ?_
  rw [show (fx_cb .eq 100 32) = false from by decide]
  dsimp only [cond]
  refine fe_s 4 (pc' := 28) (lc' := [(4, .int (106 + 1)), (3, .int 104), (2, .int 20), (0, .ref 0), (1, .ref 22)]) (stk' := [.int (106 + 1), .ref 22]) (mem' := fm g tp bt a b) (fun _ _ _ => rfl) ?_
  rw [show (106 + 1 : Int32) = 107 from rfl]
  refine fe_chr (i := 107) (by omega) (by rfl) (by rfl) ⟨by rfl, by rfl⟩ (by rfl) ?_
  rw [show sk_b.getD 107 0 = 32 from rfl]
  refine fe_s 1 (pc' := 33) (lc' := [(4, .int 107), (3, .int 104), (2, .int 20), (0, .ref 0), (1, .ref 22)]) (stk' := [.int 32, .int 32]) (mem' := fm g tp bt a b) (fun _ _ _ => rfl) ?_
  refine fe_s 1 (pc' := cond (fx_cb .eq 32 32) 42 36) (lc' := [(4, .int 107), (3, .int 104), (2, .int 20), (0, .ref 0), (1, .ref 22)]) (stk' := []) (mem' := fm g tp bt a b) (fun _ _ _ => rfl) ?_
  rw [show (fx_cb .eq 32 32) = true from by decide]
  dsimp only [cond]
  refine fe_s 8 (pc' := 55) (lc' := [(4, .int 107), (3, .int 104), (2, .int 20), (0, .ref 0), (1, .ref 22)]) (stk' := [.int ((g 14) - (g 13)), .int (107 - 104)]) (mem' := fm g tp bt a b) (fun _ _ _ => rfl) ?_
  try rw [h14]
  try rw [h13]
  rw [show (107 - 104 : Int32) = 3 from rfl]
  rw [show ((nI E) - (nI F) : Int32) = nI (E - F) from by simp only [tg_sub2 (x := E) (y := F) (by omega), nI_add, fm_mul]]
  refine fe_s 1 (pc' := cond (fx_cb .ne 3 (nI (E - F))) 62 58) (lc' := [(4, .int 107), (3, .int 104), (2, .int 20), (0, .ref 0), (1, .ref 22)]) (stk' := []) (mem' := fm g tp bt a b) (fun _ _ _ => rfl) ?_
  by_cases h1 : 3 = (E - F)
  · rw [show (fx_cb .ne 3 (nI (E - F))) = false from cb_neF (a := 3) (b := E - F) (by omega) (by omega) (by omega)]
    dsimp only [cond]
    refine fe_s 7 (pc' := 72) (lc' := [(6, .int 104), (5, .int 1), (4, .int 107), (3, .int 104), (2, .int 20), (0, .ref 0), (1, .ref 22)]) (stk' := [.int 107, .int 104]) (mem' := fm g tp bt a b) (fun _ _ _ => rfl) ?_
    refine fe_s 1 (pc' := cond (fx_cb .ge 104 107) 115 75) (lc' := [(6, .int 104), (5, .int 1), (4, .int 107), (3, .int 104), (2, .int 20), (0, .ref 0), (1, .ref 22)]) (stk' := []) (mem' := fm g tp bt a b) (fun _ _ _ => rfl) ?_
    rw [show (fx_cb .ge 104 107) = false from by decide]
    dsimp only [cond]
    refine fe_s 1 (pc' := 77) (lc' := [(6, .int 104), (5, .int 1), (4, .int 107), (3, .int 104), (2, .int 20), (0, .ref 0), (1, .ref 22)]) (stk' := [.int 1]) (mem' := fm g tp bt a b) (fun _ _ _ => rfl) ?_
    refine fe_s 1 (pc' := cond (fx_cb .eq 1 0) 115 80) (lc' := [(6, .int 104), (5, .int 1), (4, .int 107), (3, .int 104), (2, .int 20), (0, .ref 0), (1, .ref 22)]) (stk' := []) (mem' := fm g tp bt a b) (fun _ _ _ => rfl) ?_
    rw [show (fx_cb .eq 1 0) = false from by decide]
    dsimp only [cond]
    refine fe_s 2 (pc' := 83) (lc' := [(6, .int 104), (5, .int 1), (4, .int 107), (3, .int 104), (2, .int 20), (0, .ref 0), (1, .ref 22)]) (stk' := [.int 104, .ref 22]) (mem' := fm g tp bt a b) (fun _ _ _ => rfl) ?_
    refine fe_chr (i := 104) (by omega) (by rfl) (by rfl) ⟨by rfl, by rfl⟩ (by rfl) ?_
    rw [show sk_b.getD 104 0 = 101 from rfl]
    refine fe_s 7 (pc' := 96) (lc' := [(6, .int 104), (5, .int 1), (4, .int 107), (3, .int 104), (2, .int 20), (0, .ref 0), (1, .ref 22)]) (stk' := [.int (((g 13) + 104) - 104), .ref 0, .int 101]) (mem' := fm g tp bt a b) (fun _ _ _ => rfl) ?_
    try rw [h13]
    rw [show (((nI F) + 104) - 104 : Int32) = nI ((F + 104) - 104) from by simp only [show (104 : Int32) = nI 104 from rfl, tg_sub2 (x := F + 104) (y := 104) (by omega), nI_add, fm_mul]]
    refine fe_ivV (fr_byteAt (S := S) (k := (F + 104) - 104) (g := g) (tp := tp) (bt := bt) (a := a) (b := b) h11 (by omega) (by omega)) (by omega) (by rfl) (by rfl) (by rfl) (by rfl) (by rfl) (by rfl) ?_
    rcases fm_byte_or a S ((F + 104) - 104) with ⟨e3, q4⟩ | ⟨q4, n2, qn2, e3⟩
    · rw [e3]
      refine fe_s 1 (pc' := cond (fx_cb .ne 101 (-1)) 106 102) (lc' := [(6, .int 104), (5, .int 1), (4, .int 107), (3, .int 104), (2, .int 20), (0, .ref 0), (1, .ref 22)]) (stk' := []) (mem' := fm g tp bt a b) (fun _ _ _ => rfl) ?_
      rw [show (fx_cb .ne 101 (-1)) = true from by decide]
      dsimp only [cond]
      refine fe_s 6 (pc' := 72) (lc' := [(6, .int (104 + 1)), (5, .int 0), (4, .int 107), (3, .int 104), (2, .int 20), (0, .ref 0), (1, .ref 22)]) (stk' := [.int 107, .int (104 + 1)]) (mem' := fm g tp bt a b) (fun _ _ _ => rfl) ?_
      rw [show (104 + 1 : Int32) = 105 from rfl]
      refine fe_s 1 (pc' := cond (fx_cb .ge 105 107) 115 75) (lc' := [(6, .int 105), (5, .int 0), (4, .int 107), (3, .int 104), (2, .int 20), (0, .ref 0), (1, .ref 22)]) (stk' := []) (mem' := fm g tp bt a b) (fun _ _ _ => rfl) ?_
      rw [show (fx_cb .ge 105 107) = false from by decide]
      dsimp only [cond]
      refine fe_s 1 (pc' := 77) (lc' := [(6, .int 105), (5, .int 0), (4, .int 107), (3, .int 104), (2, .int 20), (0, .ref 0), (1, .ref 22)]) (stk' := [.int 0]) (mem' := fm g tp bt a b) (fun _ _ _ => rfl) ?_
      refine fe_s 1 (pc' := cond (fx_cb .eq 0 0) 115 80) (lc' := [(6, .int 105), (5, .int 0), (4, .int 107), (3, .int 104), (2, .int 20), (0, .ref 0), (1, .ref 22)]) (stk' := []) (mem' := fm g tp bt a b) (fun _ _ _ => rfl) ?_
      rw [show (fx_cb .eq 0 0) = true from by decide]
      dsimp only [cond]
      refine fe_s 1 (pc' := 117) (lc' := [(6, .int 105), (5, .int 0), (4, .int 107), (3, .int 104), (2, .int 20), (0, .ref 0), (1, .ref 22)]) (stk' := [.int 0]) (mem' := fm g tp bt a b) (fun _ _ _ => rfl) ?_
      refine fe_s 1 (pc' := cond (fx_cb .eq 0 0) 122 120) (lc' := [(6, .int 105), (5, .int 0), (4, .int 107), (3, .int 104), (2, .int 20), (0, .ref 0), (1, .ref 22)]) (stk' := []) (mem' := fm g tp bt a b) (fun _ _ _ => rfl) ?_
      rw [show (fx_cb .eq 0 0) = true from by decide]
      dsimp only [cond]
      refine fe_s 6 (pc' := 14) (lc' := [(3, .int (107 + 1)), (2, .int (20 + 1)), (6, .int 105), (5, .int 0), (4, .int 107), (0, .ref 0), (1, .ref 22)]) (stk' := []) (mem' := fm g tp bt a b) (fun _ _ _ => rfl) ?_
      rw [show (20 + 1 : Int32) = 21 from rfl]
      rw [show (107 + 1 : Int32) = 108 from rfl]
      refine fe_w (lc' := [(3, .int 108), (2, .int 21), (0, .ref 0), (1, .ref 22)]) ⟨rfl, rfl, rfl, rfl, trivial⟩ (by show List.Nodup [3, 2, 0, 1]; decide) (by show List.Nodup [3, 2, 6, 5, 4, 0, 1]; decide) ?_
      exact fw_21 hxp
    · rw [e3]
      refine fe_s 1 (pc' := cond (fx_cb .ne 101 (nI n2)) 106 102) (lc' := [(6, .int 104), (5, .int 1), (4, .int 107), (3, .int 104), (2, .int 20), (0, .ref 0), (1, .ref 22)]) (stk' := []) (mem' := fm g tp bt a b) (fun _ _ _ => rfl) ?_
      by_cases h5 : 101 = n2
      · rw [show (fx_cb .ne 101 (nI n2)) = false from cb_neF (a := 101) (b := n2) (by omega) (by omega) (by omega)]
        dsimp only [cond]
        refine fe_s 7 (pc' := 72) (lc' := [(6, .int (104 + 1)), (5, .int 1), (4, .int 107), (3, .int 104), (2, .int 20), (0, .ref 0), (1, .ref 22)]) (stk' := [.int 107, .int (104 + 1)]) (mem' := fm g tp bt a b) (fun _ _ _ => rfl) ?_
        rw [show (104 + 1 : Int32) = 105 from rfl]
        refine fe_s 1 (pc' := cond (fx_cb .ge 105 107) 115 75) (lc' := [(6, .int 105), (5, .int 1), (4, .int 107), (3, .int 104), (2, .int 20), (0, .ref 0), (1, .ref 22)]) (stk' := []) (mem' := fm g tp bt a b) (fun _ _ _ => rfl) ?_
        rw [show (fx_cb .ge 105 107) = false from by decide]
        dsimp only [cond]
        refine fe_s 1 (pc' := 77) (lc' := [(6, .int 105), (5, .int 1), (4, .int 107), (3, .int 104), (2, .int 20), (0, .ref 0), (1, .ref 22)]) (stk' := [.int 1]) (mem' := fm g tp bt a b) (fun _ _ _ => rfl) ?_
        refine fe_s 1 (pc' := cond (fx_cb .eq 1 0) 115 80) (lc' := [(6, .int 105), (5, .int 1), (4, .int 107), (3, .int 104), (2, .int 20), (0, .ref 0), (1, .ref 22)]) (stk' := []) (mem' := fm g tp bt a b) (fun _ _ _ => rfl) ?_
        rw [show (fx_cb .eq 1 0) = false from by decide]
        dsimp only [cond]
        refine fe_s 2 (pc' := 83) (lc' := [(6, .int 105), (5, .int 1), (4, .int 107), (3, .int 104), (2, .int 20), (0, .ref 0), (1, .ref 22)]) (stk' := [.int 105, .ref 22]) (mem' := fm g tp bt a b) (fun _ _ _ => rfl) ?_
        refine fe_chr (i := 105) (by omega) (by rfl) (by rfl) ⟨by rfl, by rfl⟩ (by rfl) ?_
        rw [show sk_b.getD 105 0 = 110 from rfl]
        refine fe_s 7 (pc' := 96) (lc' := [(6, .int 105), (5, .int 1), (4, .int 107), (3, .int 104), (2, .int 20), (0, .ref 0), (1, .ref 22)]) (stk' := [.int (((g 13) + 105) - 104), .ref 0, .int 110]) (mem' := fm g tp bt a b) (fun _ _ _ => rfl) ?_
        try rw [h13]
        rw [show (((nI F) + 105) - 104 : Int32) = nI ((F + 105) - 104) from by simp only [show (105 : Int32) = nI 105 from rfl, show (104 : Int32) = nI 104 from rfl, tg_sub2 (x := F + 105) (y := 104) (by omega), nI_add, fm_mul]]
        refine fe_ivV (fr_byteAt (S := S) (k := (F + 105) - 104) (g := g) (tp := tp) (bt := bt) (a := a) (b := b) h11 (by omega) (by omega)) (by omega) (by rfl) (by rfl) (by rfl) (by rfl) (by rfl) (by rfl) ?_
        rcases fm_byte_or a S ((F + 105) - 104) with ⟨e7, q8⟩ | ⟨q8, n6, qn6, e7⟩
        · rw [e7]
          refine fe_s 1 (pc' := cond (fx_cb .ne 110 (-1)) 106 102) (lc' := [(6, .int 105), (5, .int 1), (4, .int 107), (3, .int 104), (2, .int 20), (0, .ref 0), (1, .ref 22)]) (stk' := []) (mem' := fm g tp bt a b) (fun _ _ _ => rfl) ?_
          rw [show (fx_cb .ne 110 (-1)) = true from by decide]
          dsimp only [cond]
          refine fe_s 6 (pc' := 72) (lc' := [(6, .int (105 + 1)), (5, .int 0), (4, .int 107), (3, .int 104), (2, .int 20), (0, .ref 0), (1, .ref 22)]) (stk' := [.int 107, .int (105 + 1)]) (mem' := fm g tp bt a b) (fun _ _ _ => rfl) ?_
          rw [show (105 + 1 : Int32) = 106 from rfl]
          refine fe_s 1 (pc' := cond (fx_cb .ge 106 107) 115 75) (lc' := [(6, .int 106), (5, .int 0), (4, .int 107), (3, .int 104), (2, .int 20), (0, .ref 0), (1, .ref 22)]) (stk' := []) (mem' := fm g tp bt a b) (fun _ _ _ => rfl) ?_
          rw [show (fx_cb .ge 106 107) = false from by decide]
          dsimp only [cond]
          refine fe_s 1 (pc' := 77) (lc' := [(6, .int 106), (5, .int 0), (4, .int 107), (3, .int 104), (2, .int 20), (0, .ref 0), (1, .ref 22)]) (stk' := [.int 0]) (mem' := fm g tp bt a b) (fun _ _ _ => rfl) ?_
          refine fe_s 1 (pc' := cond (fx_cb .eq 0 0) 115 80) (lc' := [(6, .int 106), (5, .int 0), (4, .int 107), (3, .int 104), (2, .int 20), (0, .ref 0), (1, .ref 22)]) (stk' := []) (mem' := fm g tp bt a b) (fun _ _ _ => rfl) ?_
          rw [show (fx_cb .eq 0 0) = true from by decide]
          dsimp only [cond]
          refine fe_s 1 (pc' := 117) (lc' := [(6, .int 106), (5, .int 0), (4, .int 107), (3, .int 104), (2, .int 20), (0, .ref 0), (1, .ref 22)]) (stk' := [.int 0]) (mem' := fm g tp bt a b) (fun _ _ _ => rfl) ?_
          refine fe_s 1 (pc' := cond (fx_cb .eq 0 0) 122 120) (lc' := [(6, .int 106), (5, .int 0), (4, .int 107), (3, .int 104), (2, .int 20), (0, .ref 0), (1, .ref 22)]) (stk' := []) (mem' := fm g tp bt a b) (fun _ _ _ => rfl) ?_
          rw [show (fx_cb .eq 0 0) = true from by decide]
          dsimp only [cond]
          refine fe_s 6 (pc' := 14) (lc' := [(3, .int (107 + 1)), (2, .int (20 + 1)), (6, .int 106), (5, .int 0), (4, .int 107), (0, .ref 0), (1, .ref 22)]) (stk' := []) (mem' := fm g tp bt a b) (fun _ _ _ => rfl) ?_
          rw [show (20 + 1 : Int32) = 21 from rfl]
          rw [show (107 + 1 : Int32) = 108 from rfl]
          refine fe_w (lc' := [(3, .int 108), (2, .int 21), (0, .ref 0), (1, .ref 22)]) ⟨rfl, rfl, rfl, rfl, trivial⟩ (by show List.Nodup [3, 2, 0, 1]; decide) (by show List.Nodup [3, 2, 6, 5, 4, 0, 1]; decide) ?_
          exact fw_21 hxp
        · rw [e7]
          refine fe_s 1 (pc' := cond (fx_cb .ne 110 (nI n6)) 106 102) (lc' := [(6, .int 105), (5, .int 1), (4, .int 107), (3, .int 104), (2, .int 20), (0, .ref 0), (1, .ref 22)]) (stk' := []) (mem' := fm g tp bt a b) (fun _ _ _ => rfl) ?_
          by_cases h9 : 110 = n6
          · rw [show (fx_cb .ne 110 (nI n6)) = false from cb_neF (a := 110) (b := n6) (by omega) (by omega) (by omega)]
            dsimp only [cond]
            refine fe_s 7 (pc' := 72) (lc' := [(6, .int (105 + 1)), (5, .int 1), (4, .int 107), (3, .int 104), (2, .int 20), (0, .ref 0), (1, .ref 22)]) (stk' := [.int 107, .int (105 + 1)]) (mem' := fm g tp bt a b) (fun _ _ _ => rfl) ?_
            rw [show (105 + 1 : Int32) = 106 from rfl]
            refine fe_s 1 (pc' := cond (fx_cb .ge 106 107) 115 75) (lc' := [(6, .int 106), (5, .int 1), (4, .int 107), (3, .int 104), (2, .int 20), (0, .ref 0), (1, .ref 22)]) (stk' := []) (mem' := fm g tp bt a b) (fun _ _ _ => rfl) ?_
            rw [show (fx_cb .ge 106 107) = false from by decide]
            dsimp only [cond]
            refine fe_s 1 (pc' := 77) (lc' := [(6, .int 106), (5, .int 1), (4, .int 107), (3, .int 104), (2, .int 20), (0, .ref 0), (1, .ref 22)]) (stk' := [.int 1]) (mem' := fm g tp bt a b) (fun _ _ _ => rfl) ?_
            refine fe_s 1 (pc' := cond (fx_cb .eq 1 0) 115 80) (lc' := [(6, .int 106), (5, .int 1), (4, .int 107), (3, .int 104), (2, .int 20), (0, .ref 0), (1, .ref 22)]) (stk' := []) (mem' := fm g tp bt a b) (fun _ _ _ => rfl) ?_
            rw [show (fx_cb .eq 1 0) = false from by decide]
            dsimp only [cond]
            refine fe_s 2 (pc' := 83) (lc' := [(6, .int 106), (5, .int 1), (4, .int 107), (3, .int 104), (2, .int 20), (0, .ref 0), (1, .ref 22)]) (stk' := [.int 106, .ref 22]) (mem' := fm g tp bt a b) (fun _ _ _ => rfl) ?_
            refine fe_chr (i := 106) (by omega) (by rfl) (by rfl) ⟨by rfl, by rfl⟩ (by rfl) ?_
            rw [show sk_b.getD 106 0 = 100 from rfl]
            refine fe_s 7 (pc' := 96) (lc' := [(6, .int 106), (5, .int 1), (4, .int 107), (3, .int 104), (2, .int 20), (0, .ref 0), (1, .ref 22)]) (stk' := [.int (((g 13) + 106) - 104), .ref 0, .int 100]) (mem' := fm g tp bt a b) (fun _ _ _ => rfl) ?_
            try rw [h13]
            rw [show (((nI F) + 106) - 104 : Int32) = nI ((F + 106) - 104) from by simp only [show (106 : Int32) = nI 106 from rfl, show (104 : Int32) = nI 104 from rfl, tg_sub2 (x := F + 106) (y := 104) (by omega), nI_add, fm_mul]]
            refine fe_ivV (fr_byteAt (S := S) (k := (F + 106) - 104) (g := g) (tp := tp) (bt := bt) (a := a) (b := b) h11 (by omega) (by omega)) (by omega) (by rfl) (by rfl) (by rfl) (by rfl) (by rfl) (by rfl) ?_
            rcases fm_byte_or a S ((F + 106) - 104) with ⟨e11, q12⟩ | ⟨q12, n10, qn10, e11⟩
            · rw [e11]
              refine fe_s 1 (pc' := cond (fx_cb .ne 100 (-1)) 106 102) (lc' := [(6, .int 106), (5, .int 1), (4, .int 107), (3, .int 104), (2, .int 20), (0, .ref 0), (1, .ref 22)]) (stk' := []) (mem' := fm g tp bt a b) (fun _ _ _ => rfl) ?_
              rw [show (fx_cb .ne 100 (-1)) = true from by decide]
              dsimp only [cond]
              refine fe_s 6 (pc' := 72) (lc' := [(6, .int (106 + 1)), (5, .int 0), (4, .int 107), (3, .int 104), (2, .int 20), (0, .ref 0), (1, .ref 22)]) (stk' := [.int 107, .int (106 + 1)]) (mem' := fm g tp bt a b) (fun _ _ _ => rfl) ?_
              rw [show (106 + 1 : Int32) = 107 from rfl]
              refine fe_s 1 (pc' := cond (fx_cb .ge 107 107) 115 75) (lc' := [(6, .int 107), (5, .int 0), (4, .int 107), (3, .int 104), (2, .int 20), (0, .ref 0), (1, .ref 22)]) (stk' := []) (mem' := fm g tp bt a b) (fun _ _ _ => rfl) ?_
              rw [show (fx_cb .ge 107 107) = true from by decide]
              dsimp only [cond]
              refine fe_s 1 (pc' := 117) (lc' := [(6, .int 107), (5, .int 0), (4, .int 107), (3, .int 104), (2, .int 20), (0, .ref 0), (1, .ref 22)]) (stk' := [.int 0]) (mem' := fm g tp bt a b) (fun _ _ _ => rfl) ?_
              refine fe_s 1 (pc' := cond (fx_cb .eq 0 0) 122 120) (lc' := [(6, .int 107), (5, .int 0), (4, .int 107), (3, .int 104), (2, .int 20), (0, .ref 0), (1, .ref 22)]) (stk' := []) (mem' := fm g tp bt a b) (fun _ _ _ => rfl) ?_
              rw [show (fx_cb .eq 0 0) = true from by decide]
              dsimp only [cond]
              refine fe_s 6 (pc' := 14) (lc' := [(3, .int (107 + 1)), (2, .int (20 + 1)), (6, .int 107), (5, .int 0), (4, .int 107), (0, .ref 0), (1, .ref 22)]) (stk' := []) (mem' := fm g tp bt a b) (fun _ _ _ => rfl) ?_
              rw [show (20 + 1 : Int32) = 21 from rfl]
              rw [show (107 + 1 : Int32) = 108 from rfl]
              refine fe_w (lc' := [(3, .int 108), (2, .int 21), (0, .ref 0), (1, .ref 22)]) ⟨rfl, rfl, rfl, rfl, trivial⟩ (by show List.Nodup [3, 2, 0, 1]; decide) (by show List.Nodup [3, 2, 6, 5, 4, 0, 1]; decide) ?_
              exact fw_21 hxp
            · rw [e11]
              refine fe_s 1 (pc' := cond (fx_cb .ne 100 (nI n10)) 106 102) (lc' := [(6, .int 106), (5, .int 1), (4, .int 107), (3, .int 104), (2, .int 20), (0, .ref 0), (1, .ref 22)]) (stk' := []) (mem' := fm g tp bt a b) (fun _ _ _ => rfl) ?_
              by_cases h13 : 100 = n10
              · rw [show (fx_cb .ne 100 (nI n10)) = false from cb_neF (a := 100) (b := n10) (by omega) (by omega) (by omega)]
                dsimp only [cond]
                refine fe_s 7 (pc' := 72) (lc' := [(6, .int (106 + 1)), (5, .int 1), (4, .int 107), (3, .int 104), (2, .int 20), (0, .ref 0), (1, .ref 22)]) (stk' := [.int 107, .int (106 + 1)]) (mem' := fm g tp bt a b) (fun _ _ _ => rfl) ?_
                rw [show (106 + 1 : Int32) = 107 from rfl]
                refine fe_s 1 (pc' := cond (fx_cb .ge 107 107) 115 75) (lc' := [(6, .int 107), (5, .int 1), (4, .int 107), (3, .int 104), (2, .int 20), (0, .ref 0), (1, .ref 22)]) (stk' := []) (mem' := fm g tp bt a b) (fun _ _ _ => rfl) ?_
                rw [show (fx_cb .ge 107 107) = true from by decide]
                dsimp only [cond]
                refine fe_s 1 (pc' := 117) (lc' := [(6, .int 107), (5, .int 1), (4, .int 107), (3, .int 104), (2, .int 20), (0, .ref 0), (1, .ref 22)]) (stk' := [.int 1]) (mem' := fm g tp bt a b) (fun _ _ _ => rfl) ?_
                refine fe_s 1 (pc' := cond (fx_cb .eq 1 0) 122 120) (lc' := [(6, .int 107), (5, .int 1), (4, .int 107), (3, .int 104), (2, .int 20), (0, .ref 0), (1, .ref 22)]) (stk' := []) (mem' := fm g tp bt a b) (fun _ _ _ => rfl) ?_
                rw [show (fx_cb .eq 1 0) = false from by decide]
                dsimp only [cond]
                refine fe_s 1 (pc' := 121) (lc' := [(6, .int 107), (5, .int 1), (4, .int 107), (3, .int 104), (2, .int 20), (0, .ref 0), (1, .ref 22)]) (stk' := [.int 20]) (mem' := fm g tp bt a b) (fun _ _ _ => rfl) ?_
                exact fe_ret ⟨_, Or.inr ⟨20, by omega, rfl⟩, rfl⟩ (by rfl) (by rfl) (by rfl)
              · rw [show (fx_cb .ne 100 (nI n10)) = true from cb_neT (a := 100) (b := n10) (by omega) (by omega) (by omega)]
                dsimp only [cond]
                refine fe_s 6 (pc' := 72) (lc' := [(6, .int (106 + 1)), (5, .int 0), (4, .int 107), (3, .int 104), (2, .int 20), (0, .ref 0), (1, .ref 22)]) (stk' := [.int 107, .int (106 + 1)]) (mem' := fm g tp bt a b) (fun _ _ _ => rfl) ?_
                rw [show (106 + 1 : Int32) = 107 from rfl]
                refine fe_s 1 (pc' := cond (fx_cb .ge 107 107) 115 75) (lc' := [(6, .int 107), (5, .int 0), (4, .int 107), (3, .int 104), (2, .int 20), (0, .ref 0), (1, .ref 22)]) (stk' := []) (mem' := fm g tp bt a b) (fun _ _ _ => rfl) ?_
                rw [show (fx_cb .ge 107 107) = true from by decide]
                dsimp only [cond]
                refine fe_s 1 (pc' := 117) (lc' := [(6, .int 107), (5, .int 0), (4, .int 107), (3, .int 104), (2, .int 20), (0, .ref 0), (1, .ref 22)]) (stk' := [.int 0]) (mem' := fm g tp bt a b) (fun _ _ _ => rfl) ?_
                refine fe_s 1 (pc' := cond (fx_cb .eq 0 0) 122 120) (lc' := [(6, .int 107), (5, .int 0), (4, .int 107), (3, .int 104), (2, .int 20), (0, .ref 0), (1, .ref 22)]) (stk' := []) (mem' := fm g tp bt a b) (fun _ _ _ => rfl) ?_
                rw [show (fx_cb .eq 0 0) = true from by decide]
                dsimp only [cond]
                refine fe_s 6 (pc' := 14) (lc' := [(3, .int (107 + 1)), (2, .int (20 + 1)), (6, .int 107), (5, .int 0), (4, .int 107), (0, .ref 0), (1, .ref 22)]) (stk' := []) (mem' := fm g tp bt a b) (fun _ _ _ => rfl) ?_
                rw [show (20 + 1 : Int32) = 21 from rfl]
                rw [show (107 + 1 : Int32) = 108 from rfl]
                refine fe_w (lc' := [(3, .int 108), (2, .int 21), (0, .ref 0), (1, .ref 22)]) ⟨rfl, rfl, rfl, rfl, trivial⟩ (by show List.Nodup [3, 2, 0, 1]; decide) (by show List.Nodup [3, 2, 6, 5, 4, 0, 1]; decide) ?_
                exact fw_21 hxp
          · rw [show (fx_cb .ne 110 (nI n6)) = true from cb_neT (a := 110) (b := n6) (by omega) (by omega) (by omega)]
            dsimp only [cond]
            refine fe_s 6 (pc' := 72) (lc' := [(6, .int (105 + 1)), (5, .int 0), (4, .int 107), (3, .int 104), (2, .int 20), (0, .ref 0), (1, .ref 22)]) (stk' := [.int 107, .int (105 + 1)]) (mem' := fm g tp bt a b) (fun _ _ _ => rfl) ?_
            rw [show (105 + 1 : Int32) = 106 from rfl]
            refine fe_s 1 (pc' := cond (fx_cb .ge 106 107) 115 75) (lc' := [(6, .int 106), (5, .int 0), (4, .int 107), (3, .int 104), (2, .int 20), (0, .ref 0), (1, .ref 22)]) (stk' := []) (mem' := fm g tp bt a b) (fun _ _ _ => rfl) ?_
            rw [show (fx_cb .ge 106 107) = false from by decide]
            dsimp only [cond]
            refine fe_s 1 (pc' := 77) (lc' := [(6, .int 106), (5, .int 0), (4, .int 107), (3, .int 104), (2, .int 20), (0, .ref 0), (1, .ref 22)]) (stk' := [.int 0]) (mem' := fm g tp bt a b) (fun _ _ _ => rfl) ?_
            refine fe_s 1 (pc' := cond (fx_cb .eq 0 0) 115 80) (lc' := [(6, .int 106), (5, .int 0), (4, .int 107), (3, .int 104), (2, .int 20), (0, .ref 0), (1, .ref 22)]) (stk' := []) (mem' := fm g tp bt a b) (fun _ _ _ => rfl) ?_
            rw [show (fx_cb .eq 0 0) = true from by decide]
            dsimp only [cond]
            refine fe_s 1 (pc' := 117) (lc' := [(6, .int 106), (5, .int 0), (4, .int 107), (3, .int 104), (2, .int 20), (0, .ref 0), (1, .ref 22)]) (stk' := [.int 0]) (mem' := fm g tp bt a b) (fun _ _ _ => rfl) ?_
            refine fe_s 1 (pc' := cond (fx_cb .eq 0 0) 122 120) (lc' := [(6, .int 106), (5, .int 0), (4, .int 107), (3, .int 104), (2, .int 20), (0, .ref 0), (1, .ref 22)]) (stk' := []) (mem' := fm g tp bt a b) (fun _ _ _ => rfl) ?_
            rw [show (fx_cb .eq 0 0) = true from by decide]
            dsimp only [cond]
            refine fe_s 6 (pc' := 14) (lc' := [(3, .int (107 + 1)), (2, .int (20 + 1)), (6, .int 106), (5, .int 0), (4, .int 107), (0, .ref 0), (1, .ref 22)]) (stk' := []) (mem' := fm g tp bt a b) (fun _ _ _ => rfl) ?_
            rw [show (20 + 1 : Int32) = 21 from rfl]
            rw [show (107 + 1 : Int32) = 108 from rfl]
            refine fe_w (lc' := [(3, .int 108), (2, .int 21), (0, .ref 0), (1, .ref 22)]) ⟨rfl, rfl, rfl, rfl, trivial⟩ (by show List.Nodup [3, 2, 0, 1]; decide) (by show List.Nodup [3, 2, 6, 5, 4, 0, 1]; decide) ?_
            exact fw_21 hxp
      · rw [show (fx_cb .ne 101 (nI n2)) = true from cb_neT (a := 101) (b := n2) (by omega) (by omega) (by omega)]
        dsimp only [cond]
        refine fe_s 6 (pc' := 72) (lc' := [(6, .int (104 + 1)), (5, .int 0), (4, .int 107), (3, .int 104), (2, .int 20), (0, .ref 0), (1, .ref 22)]) (stk' := [.int 107, .int (104 + 1)]) (mem' := fm g tp bt a b) (fun _ _ _ => rfl) ?_
        rw [show (104 + 1 : Int32) = 105 from rfl]
        refine fe_s 1 (pc' := cond (fx_cb .ge 105 107) 115 75) (lc' := [(6, .int 105), (5, .int 0), (4, .int 107), (3, .int 104), (2, .int 20), (0, .ref 0), (1, .ref 22)]) (stk' := []) (mem' := fm g tp bt a b) (fun _ _ _ => rfl) ?_
        rw [show (fx_cb .ge 105 107) = false from by decide]
        dsimp only [cond]
        refine fe_s 1 (pc' := 77) (lc' := [(6, .int 105), (5, .int 0), (4, .int 107), (3, .int 104), (2, .int 20), (0, .ref 0), (1, .ref 22)]) (stk' := [.int 0]) (mem' := fm g tp bt a b) (fun _ _ _ => rfl) ?_
        refine fe_s 1 (pc' := cond (fx_cb .eq 0 0) 115 80) (lc' := [(6, .int 105), (5, .int 0), (4, .int 107), (3, .int 104), (2, .int 20), (0, .ref 0), (1, .ref 22)]) (stk' := []) (mem' := fm g tp bt a b) (fun _ _ _ => rfl) ?_
        rw [show (fx_cb .eq 0 0) = true from by decide]
        dsimp only [cond]
        refine fe_s 1 (pc' := 117) (lc' := [(6, .int 105), (5, .int 0), (4, .int 107), (3, .int 104), (2, .int 20), (0, .ref 0), (1, .ref 22)]) (stk' := [.int 0]) (mem' := fm g tp bt a b) (fun _ _ _ => rfl) ?_
        refine fe_s 1 (pc' := cond (fx_cb .eq 0 0) 122 120) (lc' := [(6, .int 105), (5, .int 0), (4, .int 107), (3, .int 104), (2, .int 20), (0, .ref 0), (1, .ref 22)]) (stk' := []) (mem' := fm g tp bt a b) (fun _ _ _ => rfl) ?_
        rw [show (fx_cb .eq 0 0) = true from by decide]
        dsimp only [cond]
        refine fe_s 6 (pc' := 14) (lc' := [(3, .int (107 + 1)), (2, .int (20 + 1)), (6, .int 105), (5, .int 0), (4, .int 107), (0, .ref 0), (1, .ref 22)]) (stk' := []) (mem' := fm g tp bt a b) (fun _ _ _ => rfl) ?_
        rw [show (20 + 1 : Int32) = 21 from rfl]
        rw [show (107 + 1 : Int32) = 108 from rfl]
        refine fe_w (lc' := [(3, .int 108), (2, .int 21), (0, .ref 0), (1, .ref 22)]) ⟨rfl, rfl, rfl, rfl, trivial⟩ (by show List.Nodup [3, 2, 0, 1]; decide) (by show List.Nodup [3, 2, 6, 5, 4, 0, 1]; decide) ?_
        exact fw_21 hxp
  · rw [show (fx_cb .ne 3 (nI (E - F))) = true from cb_neT (a := 3) (b := E - F) (by omega) (by omega) (by omega)]
    dsimp only [cond]
    refine fe_s 6 (pc' := 72) (lc' := [(6, .int 104), (5, .int 0), (4, .int 107), (3, .int 104), (2, .int 20), (0, .ref 0), (1, .ref 22)]) (stk' := [.int 107, .int 104]) (mem' := fm g tp bt a b) (fun _ _ _ => rfl) ?_
    refine fe_s 1 (pc' := cond (fx_cb .ge 104 107) 115 75) (lc' := [(6, .int 104), (5, .int 0), (4, .int 107), (3, .int 104), (2, .int 20), (0, .ref 0), (1, .ref 22)]) (stk' := []) (mem' := fm g tp bt a b) (fun _ _ _ => rfl) ?_
    rw [show (fx_cb .ge 104 107) = false from by decide]
    dsimp only [cond]
    refine fe_s 1 (pc' := 77) (lc' := [(6, .int 104), (5, .int 0), (4, .int 107), (3, .int 104), (2, .int 20), (0, .ref 0), (1, .ref 22)]) (stk' := [.int 0]) (mem' := fm g tp bt a b) (fun _ _ _ => rfl) ?_
    refine fe_s 1 (pc' := cond (fx_cb .eq 0 0) 115 80) (lc' := [(6, .int 104), (5, .int 0), (4, .int 107), (3, .int 104), (2, .int 20), (0, .ref 0), (1, .ref 22)]) (stk' := []) (mem' := fm g tp bt a b) (fun _ _ _ => rfl) ?_
    rw [show (fx_cb .eq 0 0) = true from by decide]
    dsimp only [cond]
    refine fe_s 1 (pc' := 117) (lc' := [(6, .int 104), (5, .int 0), (4, .int 107), (3, .int 104), (2, .int 20), (0, .ref 0), (1, .ref 22)]) (stk' := [.int 0]) (mem' := fm g tp bt a b) (fun _ _ _ => rfl) ?_
    refine fe_s 1 (pc' := cond (fx_cb .eq 0 0) 122 120) (lc' := [(6, .int 104), (5, .int 0), (4, .int 107), (3, .int 104), (2, .int 20), (0, .ref 0), (1, .ref 22)]) (stk' := []) (mem' := fm g tp bt a b) (fun _ _ _ => rfl) ?_
    rw [show (fx_cb .eq 0 0) = true from by decide]
    dsimp only [cond]
    refine fe_s 6 (pc' := 14) (lc' := [(3, .int (107 + 1)), (2, .int (20 + 1)), (6, .int 104), (5, .int 0), (4, .int 107), (0, .ref 0), (1, .ref 22)]) (stk' := []) (mem' := fm g tp bt a b) (fun _ _ _ => rfl) ?_
    rw [show (20 + 1 : Int32) = 21 from rfl]
    rw [show (107 + 1 : Int32) = 108 from rfl]
    refine fe_w (lc' := [(3, .int 108), (2, .int 21), (0, .ref 0), (1, .ref 22)]) ⟨rfl, rfl, rfl, rfl, trivial⟩ (by show List.Nodup [3, 2, 0, 1]; decide) (by show List.Nodup [3, 2, 6, 5, 4, 0, 1]; decide) ?_
    exact fw_21 hxp
theorem fw_19 {S E F : Nat} (hxp : fm_xp g S E F) : fe_R 1 gk_m226 14 [(3, .int 99), (2, .int 19), (0, .ref 0), (1, .ref 22)] [] (fm g tp bt a b) (fm_FI (fm g tp bt a b)) := by
  obtain ⟨h11, hS9, h14, hES, h13, hFE, -, -, -⟩ := id hxp
  refine fe_s 2 (pc' := 16) (lc' := [(3, .int 99), (2, .int 19), (0, .ref 0), (1, .ref 22)]) (stk' := [.ref 22, .int 99]) (mem' := fm g tp bt a b) (fun _ _ _ => rfl) ?_
  refine fe_s 1 (pc' := 19) (lc' := [(3, .int 99), (2, .int 19), (0, .ref 0), (1, .ref 22)]) (stk' := [.int 117, .int 99]) (mem' := fm g tp bt a b) (fun _ _ _ => rfl) ?_
  refine fe_s 1 (pc' := cond (fx_cb .ge 99 117) 133 22) (lc' := [(3, .int 99), (2, .int 19), (0, .ref 0), (1, .ref 22)]) (stk' := []) (mem' := fm g tp bt a b) (fun _ _ _ => rfl) ?_
  rw [show (fx_cb .ge 99 117) = false from by decide]
  dsimp only [cond]
  refine fe_s 4 (pc' := 28) (lc' := [(4, .int 99), (3, .int 99), (2, .int 19), (0, .ref 0), (1, .ref 22)]) (stk' := [.int 99, .ref 22]) (mem' := fm g tp bt a b) (fun _ _ _ => rfl) ?_
  refine fe_chr (i := 99) (by omega) (by rfl) (by rfl) ⟨by rfl, by rfl⟩ (by rfl) ?_
  rw [show sk_b.getD 99 0 = 108 from rfl]
  refine fe_s 1 (pc' := 33) (lc' := [(4, .int 99), (3, .int 99), (2, .int 19), (0, .ref 0), (1, .ref 22)]) (stk' := [.int 32, .int 108]) (mem' := fm g tp bt a b) (fun _ _ _ => rfl) ?_
  refine fe_s 1 (pc' := cond (fx_cb .eq 108 32) 42 36) (lc' := [(4, .int 99), (3, .int 99), (2, .int 19), (0, .ref 0), (1, .ref 22)]) (stk' := []) (mem' := fm g tp bt a b) (fun _ _ _ => rfl) ?_
  rw [show (fx_cb .eq 108 32) = false from by decide]
  dsimp only [cond]
  refine fe_s 4 (pc' := 28) (lc' := [(4, .int (99 + 1)), (3, .int 99), (2, .int 19), (0, .ref 0), (1, .ref 22)]) (stk' := [.int (99 + 1), .ref 22]) (mem' := fm g tp bt a b) (fun _ _ _ => rfl) ?_
  rw [show (99 + 1 : Int32) = 100 from rfl]
  refine fe_chr (i := 100) (by omega) (by rfl) (by rfl) ⟨by rfl, by rfl⟩ (by rfl) ?_
  rw [show sk_b.getD 100 0 = 111 from rfl]
  refine fe_s 1 (pc' := 33) (lc' := [(4, .int 100), (3, .int 99), (2, .int 19), (0, .ref 0), (1, .ref 22)]) (stk' := [.int 32, .int 111]) (mem' := fm g tp bt a b) (fun _ _ _ => rfl) ?_
  refine fe_s 1 (pc' := cond (fx_cb .eq 111 32) 42 36) (lc' := [(4, .int 100), (3, .int 99), (2, .int 19), (0, .ref 0), (1, .ref 22)]) (stk' := []) (mem' := fm g tp bt a b) (fun _ _ _ => rfl) ?_
  rw [show (fx_cb .eq 111 32) = false from by decide]
  dsimp only [cond]
  refine fe_s 4 (pc' := 28) (lc' := [(4, .int (100 + 1)), (3, .int 99), (2, .int 19), (0, .ref 0), (1, .ref 22)]) (stk' := [.int (100 + 1), .ref 22]) (mem' := fm g tp bt a b) (fun _ _ _ => rfl) ?_
  rw [show (100 + 1 : Int32) = 101 from rfl]
  refine fe_chr (i := 101) (by omega) (by rfl) (by rfl) ⟨by rfl, by rfl⟩ (by rfl) ?_
  rw [show sk_b.getD 101 0 = 111 from rfl]
  refine fe_s 1 (pc' := 33) (lc' := [(4, .int 101), (3, .int 99), (2, .int 19), (0, .ref 0), (1, .ref 22)]) (stk' := [.int 32, .int 111]) (mem' := fm g tp bt a b) (fun _ _ _ => rfl) ?_
  refine fe_s 1 (pc' := cond (fx_cb .eq 111 32) 42 36) (lc' := [(4, .int 101), (3, .int 99), (2, .int 19), (0, .ref 0), (1, .ref 22)]) (stk' := []) (mem' := fm g tp bt a b) (fun _ _ _ => rfl) ?_
  rw [show (fx_cb .eq 111 32) = false from by decide]
  dsimp only [cond]
  refine fe_s 4 (pc' := 28) (lc' := [(4, .int (101 + 1)), (3, .int 99), (2, .int 19), (0, .ref 0), (1, .ref 22)]) (stk' := [.int (101 + 1), .ref 22]) (mem' := fm g tp bt a b) (fun _ _ _ => rfl) ?_
  rw [show (101 + 1 : Int32) = 102 from rfl]
  refine fe_chr (i := 102) (by omega) (by rfl) (by rfl) ⟨by rfl, by rfl⟩ (by rfl) ?_
  rw [show sk_b.getD 102 0 = 112 from rfl]
  refine fe_s 1 (pc' := 33) (lc' := [(4, .int 102), (3, .int 99), (2, .int 19), (0, .ref 0), (1, .ref 22)]) (stk' := [.int 32, .int 112]) (mem' := fm g tp bt a b) (fun _ _ _ => rfl) ?_
  refine fe_s 1 (pc' := cond (fx_cb .eq 112 32) 42 36) (lc' := [(4, .int 102), (3, .int 99), (2, .int 19), (0, .ref 0), (1, .ref 22)]) (stk' := []) (mem' := fm g tp bt a b) (fun _ _ _ => rfl) ?_
  rw [show (fx_cb .eq 112 32) = false from by decide]
  dsimp only [cond]
  refine fe_s 4 (pc' := 28) (lc' := [(4, .int (102 + 1)), (3, .int 99), (2, .int 19), (0, .ref 0), (1, .ref 22)]) (stk' := [.int (102 + 1), .ref 22]) (mem' := fm g tp bt a b) (fun _ _ _ => rfl) ?_
  rw [show (102 + 1 : Int32) = 103 from rfl]
  refine fe_chr (i := 103) (by omega) (by rfl) (by rfl) ⟨by rfl, by rfl⟩ (by rfl) ?_
  rw [show sk_b.getD 103 0 = 32 from rfl]
  refine fe_s 1 (pc' := 33) (lc' := [(4, .int 103), (3, .int 99), (2, .int 19), (0, .ref 0), (1, .ref 22)]) (stk' := [.int 32, .int 32]) (mem' := fm g tp bt a b) (fun _ _ _ => rfl) ?_
  refine fe_s 1 (pc' := cond (fx_cb .eq 32 32) 42 36) (lc' := [(4, .int 103), (3, .int 99), (2, .int 19), (0, .ref 0), (1, .ref 22)]) (stk' := []) (mem' := fm g tp bt a b) (fun _ _ _ => rfl) ?_
  rw [show (fx_cb .eq 32 32) = true from by decide]
  dsimp only [cond]
  refine fe_s 8 (pc' := 55) (lc' := [(4, .int 103), (3, .int 99), (2, .int 19), (0, .ref 0), (1, .ref 22)]) (stk' := [.int ((g 14) - (g 13)), .int (103 - 99)]) (mem' := fm g tp bt a b) (fun _ _ _ => rfl) ?_
  try rw [h14]
  try rw [h13]
  rw [show (103 - 99 : Int32) = 4 from rfl]
  rw [show ((nI E) - (nI F) : Int32) = nI (E - F) from by simp only [tg_sub2 (x := E) (y := F) (by omega), nI_add, fm_mul]]
  refine fe_s 1 (pc' := cond (fx_cb .ne 4 (nI (E - F))) 62 58) (lc' := [(4, .int 103), (3, .int 99), (2, .int 19), (0, .ref 0), (1, .ref 22)]) (stk' := []) (mem' := fm g tp bt a b) (fun _ _ _ => rfl) ?_
  by_cases h1 : 4 = (E - F)
  · rw [show (fx_cb .ne 4 (nI (E - F))) = false from cb_neF (a := 4) (b := E - F) (by omega) (by omega) (by omega)]
    dsimp only [cond]
    refine fe_s 7 (pc' := 72) (lc' := [(6, .int 99), (5, .int 1), (4, .int 103), (3, .int 99), (2, .int 19), (0, .ref 0), (1, .ref 22)]) (stk' := [.int 103, .int 99]) (mem' := fm g tp bt a b) (fun _ _ _ => rfl) ?_
    refine fe_s 1 (pc' := cond (fx_cb .ge 99 103) 115 75) (lc' := [(6, .int 99), (5, .int 1), (4, .int 103), (3, .int 99), (2, .int 19), (0, .ref 0), (1, .ref 22)]) (stk' := []) (mem' := fm g tp bt a b) (fun _ _ _ => rfl) ?_
    rw [show (fx_cb .ge 99 103) = false from by decide]
    dsimp only [cond]
    refine fe_s 1 (pc' := 77) (lc' := [(6, .int 99), (5, .int 1), (4, .int 103), (3, .int 99), (2, .int 19), (0, .ref 0), (1, .ref 22)]) (stk' := [.int 1]) (mem' := fm g tp bt a b) (fun _ _ _ => rfl) ?_
    refine fe_s 1 (pc' := cond (fx_cb .eq 1 0) 115 80) (lc' := [(6, .int 99), (5, .int 1), (4, .int 103), (3, .int 99), (2, .int 19), (0, .ref 0), (1, .ref 22)]) (stk' := []) (mem' := fm g tp bt a b) (fun _ _ _ => rfl) ?_
    rw [show (fx_cb .eq 1 0) = false from by decide]
    dsimp only [cond]
    refine fe_s 2 (pc' := 83) (lc' := [(6, .int 99), (5, .int 1), (4, .int 103), (3, .int 99), (2, .int 19), (0, .ref 0), (1, .ref 22)]) (stk' := [.int 99, .ref 22]) (mem' := fm g tp bt a b) (fun _ _ _ => rfl) ?_
    refine fe_chr (i := 99) (by omega) (by rfl) (by rfl) ⟨by rfl, by rfl⟩ (by rfl) ?_
    rw [show sk_b.getD 99 0 = 108 from rfl]
    refine fe_s 7 (pc' := 96) (lc' := [(6, .int 99), (5, .int 1), (4, .int 103), (3, .int 99), (2, .int 19), (0, .ref 0), (1, .ref 22)]) (stk' := [.int (((g 13) + 99) - 99), .ref 0, .int 108]) (mem' := fm g tp bt a b) (fun _ _ _ => rfl) ?_
    try rw [h13]
    rw [show (((nI F) + 99) - 99 : Int32) = nI ((F + 99) - 99) from by simp only [show (99 : Int32) = nI 99 from rfl, tg_sub2 (x := F + 99) (y := 99) (by omega), nI_add, fm_mul]]
    refine fe_ivV (fr_byteAt (S := S) (k := (F + 99) - 99) (g := g) (tp := tp) (bt := bt) (a := a) (b := b) h11 (by omega) (by omega)) (by omega) (by rfl) (by rfl) (by rfl) (by rfl) (by rfl) (by rfl) ?_
    rcases fm_byte_or a S ((F + 99) - 99) with ⟨e3, q4⟩ | ⟨q4, n2, qn2, e3⟩
    · rw [e3]
      refine fe_s 1 (pc' := cond (fx_cb .ne 108 (-1)) 106 102) (lc' := [(6, .int 99), (5, .int 1), (4, .int 103), (3, .int 99), (2, .int 19), (0, .ref 0), (1, .ref 22)]) (stk' := []) (mem' := fm g tp bt a b) (fun _ _ _ => rfl) ?_
      rw [show (fx_cb .ne 108 (-1)) = true from by decide]
      dsimp only [cond]
      refine fe_s 6 (pc' := 72) (lc' := [(6, .int (99 + 1)), (5, .int 0), (4, .int 103), (3, .int 99), (2, .int 19), (0, .ref 0), (1, .ref 22)]) (stk' := [.int 103, .int (99 + 1)]) (mem' := fm g tp bt a b) (fun _ _ _ => rfl) ?_
      rw [show (99 + 1 : Int32) = 100 from rfl]
      refine fe_s 1 (pc' := cond (fx_cb .ge 100 103) 115 75) (lc' := [(6, .int 100), (5, .int 0), (4, .int 103), (3, .int 99), (2, .int 19), (0, .ref 0), (1, .ref 22)]) (stk' := []) (mem' := fm g tp bt a b) (fun _ _ _ => rfl) ?_
      rw [show (fx_cb .ge 100 103) = false from by decide]
      dsimp only [cond]
      refine fe_s 1 (pc' := 77) (lc' := [(6, .int 100), (5, .int 0), (4, .int 103), (3, .int 99), (2, .int 19), (0, .ref 0), (1, .ref 22)]) (stk' := [.int 0]) (mem' := fm g tp bt a b) (fun _ _ _ => rfl) ?_
      refine fe_s 1 (pc' := cond (fx_cb .eq 0 0) 115 80) (lc' := [(6, .int 100), (5, .int 0), (4, .int 103), (3, .int 99), (2, .int 19), (0, .ref 0), (1, .ref 22)]) (stk' := []) (mem' := fm g tp bt a b) (fun _ _ _ => rfl) ?_
      rw [show (fx_cb .eq 0 0) = true from by decide]
      dsimp only [cond]
      refine fe_s 1 (pc' := 117) (lc' := [(6, .int 100), (5, .int 0), (4, .int 103), (3, .int 99), (2, .int 19), (0, .ref 0), (1, .ref 22)]) (stk' := [.int 0]) (mem' := fm g tp bt a b) (fun _ _ _ => rfl) ?_
      refine fe_s 1 (pc' := cond (fx_cb .eq 0 0) 122 120) (lc' := [(6, .int 100), (5, .int 0), (4, .int 103), (3, .int 99), (2, .int 19), (0, .ref 0), (1, .ref 22)]) (stk' := []) (mem' := fm g tp bt a b) (fun _ _ _ => rfl) ?_
      rw [show (fx_cb .eq 0 0) = true from by decide]
      dsimp only [cond]
      refine fe_s 6 (pc' := 14) (lc' := [(3, .int (103 + 1)), (2, .int (19 + 1)), (6, .int 100), (5, .int 0), (4, .int 103), (0, .ref 0), (1, .ref 22)]) (stk' := []) (mem' := fm g tp bt a b) (fun _ _ _ => rfl) ?_
      rw [show (19 + 1 : Int32) = 20 from rfl]
      rw [show (103 + 1 : Int32) = 104 from rfl]
      refine fe_w (lc' := [(3, .int 104), (2, .int 20), (0, .ref 0), (1, .ref 22)]) ⟨rfl, rfl, rfl, rfl, trivial⟩ (by show List.Nodup [3, 2, 0, 1]; decide) (by show List.Nodup [3, 2, 6, 5, 4, 0, 1]; decide) ?_
      exact fw_20 hxp
    · rw [e3]
      refine fe_s 1 (pc' := cond (fx_cb .ne 108 (nI n2)) 106 102) (lc' := [(6, .int 99), (5, .int 1), (4, .int 103), (3, .int 99), (2, .int 19), (0, .ref 0), (1, .ref 22)]) (stk' := []) (mem' := fm g tp bt a b) (fun _ _ _ => rfl) ?_
      by_cases h5 : 108 = n2
      · rw [show (fx_cb .ne 108 (nI n2)) = false from cb_neF (a := 108) (b := n2) (by omega) (by omega) (by omega)]
        dsimp only [cond]
        refine fe_s 7 (pc' := 72) (lc' := [(6, .int (99 + 1)), (5, .int 1), (4, .int 103), (3, .int 99), (2, .int 19), (0, .ref 0), (1, .ref 22)]) (stk' := [.int 103, .int (99 + 1)]) (mem' := fm g tp bt a b) (fun _ _ _ => rfl) ?_
        rw [show (99 + 1 : Int32) = 100 from rfl]
        refine fe_s 1 (pc' := cond (fx_cb .ge 100 103) 115 75) (lc' := [(6, .int 100), (5, .int 1), (4, .int 103), (3, .int 99), (2, .int 19), (0, .ref 0), (1, .ref 22)]) (stk' := []) (mem' := fm g tp bt a b) (fun _ _ _ => rfl) ?_
        rw [show (fx_cb .ge 100 103) = false from by decide]
        dsimp only [cond]
        refine fe_s 1 (pc' := 77) (lc' := [(6, .int 100), (5, .int 1), (4, .int 103), (3, .int 99), (2, .int 19), (0, .ref 0), (1, .ref 22)]) (stk' := [.int 1]) (mem' := fm g tp bt a b) (fun _ _ _ => rfl) ?_
        refine fe_s 1 (pc' := cond (fx_cb .eq 1 0) 115 80) (lc' := [(6, .int 100), (5, .int 1), (4, .int 103), (3, .int 99), (2, .int 19), (0, .ref 0), (1, .ref 22)]) (stk' := []) (mem' := fm g tp bt a b) (fun _ _ _ => rfl) ?_
        rw [show (fx_cb .eq 1 0) = false from by decide]
        dsimp only [cond]
        refine fe_s 2 (pc' := 83) (lc' := [(6, .int 100), (5, .int 1), (4, .int 103), (3, .int 99), (2, .int 19), (0, .ref 0), (1, .ref 22)]) (stk' := [.int 100, .ref 22]) (mem' := fm g tp bt a b) (fun _ _ _ => rfl) ?_
        refine fe_chr (i := 100) (by omega) (by rfl) (by rfl) ⟨by rfl, by rfl⟩ (by rfl) ?_
        rw [show sk_b.getD 100 0 = 111 from rfl]
        refine fe_s 7 (pc' := 96) (lc' := [(6, .int 100), (5, .int 1), (4, .int 103), (3, .int 99), (2, .int 19), (0, .ref 0), (1, .ref 22)]) (stk' := [.int (((g 13) + 100) - 99), .ref 0, .int 111]) (mem' := fm g tp bt a b) (fun _ _ _ => rfl) ?_
        try rw [h13]
        rw [show (((nI F) + 100) - 99 : Int32) = nI ((F + 100) - 99) from by simp only [show (100 : Int32) = nI 100 from rfl, show (99 : Int32) = nI 99 from rfl, tg_sub2 (x := F + 100) (y := 99) (by omega), nI_add, fm_mul]]
        refine fe_ivV (fr_byteAt (S := S) (k := (F + 100) - 99) (g := g) (tp := tp) (bt := bt) (a := a) (b := b) h11 (by omega) (by omega)) (by omega) (by rfl) (by rfl) (by rfl) (by rfl) (by rfl) (by rfl) ?_
        rcases fm_byte_or a S ((F + 100) - 99) with ⟨e7, q8⟩ | ⟨q8, n6, qn6, e7⟩
        · rw [e7]
          refine fe_s 1 (pc' := cond (fx_cb .ne 111 (-1)) 106 102) (lc' := [(6, .int 100), (5, .int 1), (4, .int 103), (3, .int 99), (2, .int 19), (0, .ref 0), (1, .ref 22)]) (stk' := []) (mem' := fm g tp bt a b) (fun _ _ _ => rfl) ?_
          rw [show (fx_cb .ne 111 (-1)) = true from by decide]
          dsimp only [cond]
          refine fe_s 6 (pc' := 72) (lc' := [(6, .int (100 + 1)), (5, .int 0), (4, .int 103), (3, .int 99), (2, .int 19), (0, .ref 0), (1, .ref 22)]) (stk' := [.int 103, .int (100 + 1)]) (mem' := fm g tp bt a b) (fun _ _ _ => rfl) ?_
          rw [show (100 + 1 : Int32) = 101 from rfl]
          refine fe_s 1 (pc' := cond (fx_cb .ge 101 103) 115 75) (lc' := [(6, .int 101), (5, .int 0), (4, .int 103), (3, .int 99), (2, .int 19), (0, .ref 0), (1, .ref 22)]) (stk' := []) (mem' := fm g tp bt a b) (fun _ _ _ => rfl) ?_
          rw [show (fx_cb .ge 101 103) = false from by decide]
          dsimp only [cond]
          refine fe_s 1 (pc' := 77) (lc' := [(6, .int 101), (5, .int 0), (4, .int 103), (3, .int 99), (2, .int 19), (0, .ref 0), (1, .ref 22)]) (stk' := [.int 0]) (mem' := fm g tp bt a b) (fun _ _ _ => rfl) ?_
          refine fe_s 1 (pc' := cond (fx_cb .eq 0 0) 115 80) (lc' := [(6, .int 101), (5, .int 0), (4, .int 103), (3, .int 99), (2, .int 19), (0, .ref 0), (1, .ref 22)]) (stk' := []) (mem' := fm g tp bt a b) (fun _ _ _ => rfl) ?_
          rw [show (fx_cb .eq 0 0) = true from by decide]
          dsimp only [cond]
          refine fe_s 1 (pc' := 117) (lc' := [(6, .int 101), (5, .int 0), (4, .int 103), (3, .int 99), (2, .int 19), (0, .ref 0), (1, .ref 22)]) (stk' := [.int 0]) (mem' := fm g tp bt a b) (fun _ _ _ => rfl) ?_
          refine fe_s 1 (pc' := cond (fx_cb .eq 0 0) 122 120) (lc' := [(6, .int 101), (5, .int 0), (4, .int 103), (3, .int 99), (2, .int 19), (0, .ref 0), (1, .ref 22)]) (stk' := []) (mem' := fm g tp bt a b) (fun _ _ _ => rfl) ?_
          rw [show (fx_cb .eq 0 0) = true from by decide]
          dsimp only [cond]
          refine fe_s 6 (pc' := 14) (lc' := [(3, .int (103 + 1)), (2, .int (19 + 1)), (6, .int 101), (5, .int 0), (4, .int 103), (0, .ref 0), (1, .ref 22)]) (stk' := []) (mem' := fm g tp bt a b) (fun _ _ _ => rfl) ?_
          rw [show (19 + 1 : Int32) = 20 from rfl]
          rw [show (103 + 1 : Int32) = 104 from rfl]
          refine fe_w (lc' := [(3, .int 104), (2, .int 20), (0, .ref 0), (1, .ref 22)]) ⟨rfl, rfl, rfl, rfl, trivial⟩ (by show List.Nodup [3, 2, 0, 1]; decide) (by show List.Nodup [3, 2, 6, 5, 4, 0, 1]; decide) ?_
          exact fw_20 hxp
        · rw [e7]
          refine fe_s 1 (pc' := cond (fx_cb .ne 111 (nI n6)) 106 102) (lc' := [(6, .int 100), (5, .int 1), (4, .int 103), (3, .int 99), (2, .int 19), (0, .ref 0), (1, .ref 22)]) (stk' := []) (mem' := fm g tp bt a b) (fun _ _ _ => rfl) ?_
          by_cases h9 : 111 = n6
          · rw [show (fx_cb .ne 111 (nI n6)) = false from cb_neF (a := 111) (b := n6) (by omega) (by omega) (by omega)]
            dsimp only [cond]
            refine fe_s 7 (pc' := 72) (lc' := [(6, .int (100 + 1)), (5, .int 1), (4, .int 103), (3, .int 99), (2, .int 19), (0, .ref 0), (1, .ref 22)]) (stk' := [.int 103, .int (100 + 1)]) (mem' := fm g tp bt a b) (fun _ _ _ => rfl) ?_
            rw [show (100 + 1 : Int32) = 101 from rfl]
            refine fe_s 1 (pc' := cond (fx_cb .ge 101 103) 115 75) (lc' := [(6, .int 101), (5, .int 1), (4, .int 103), (3, .int 99), (2, .int 19), (0, .ref 0), (1, .ref 22)]) (stk' := []) (mem' := fm g tp bt a b) (fun _ _ _ => rfl) ?_
            rw [show (fx_cb .ge 101 103) = false from by decide]
            dsimp only [cond]
            refine fe_s 1 (pc' := 77) (lc' := [(6, .int 101), (5, .int 1), (4, .int 103), (3, .int 99), (2, .int 19), (0, .ref 0), (1, .ref 22)]) (stk' := [.int 1]) (mem' := fm g tp bt a b) (fun _ _ _ => rfl) ?_
            refine fe_s 1 (pc' := cond (fx_cb .eq 1 0) 115 80) (lc' := [(6, .int 101), (5, .int 1), (4, .int 103), (3, .int 99), (2, .int 19), (0, .ref 0), (1, .ref 22)]) (stk' := []) (mem' := fm g tp bt a b) (fun _ _ _ => rfl) ?_
            rw [show (fx_cb .eq 1 0) = false from by decide]
            dsimp only [cond]
            refine fe_s 2 (pc' := 83) (lc' := [(6, .int 101), (5, .int 1), (4, .int 103), (3, .int 99), (2, .int 19), (0, .ref 0), (1, .ref 22)]) (stk' := [.int 101, .ref 22]) (mem' := fm g tp bt a b) (fun _ _ _ => rfl) ?_
            refine fe_chr (i := 101) (by omega) (by rfl) (by rfl) ⟨by rfl, by rfl⟩ (by rfl) ?_
            rw [show sk_b.getD 101 0 = 111 from rfl]
            refine fe_s 7 (pc' := 96) (lc' := [(6, .int 101), (5, .int 1), (4, .int 103), (3, .int 99), (2, .int 19), (0, .ref 0), (1, .ref 22)]) (stk' := [.int (((g 13) + 101) - 99), .ref 0, .int 111]) (mem' := fm g tp bt a b) (fun _ _ _ => rfl) ?_
            try rw [h13]
            rw [show (((nI F) + 101) - 99 : Int32) = nI ((F + 101) - 99) from by simp only [show (101 : Int32) = nI 101 from rfl, show (99 : Int32) = nI 99 from rfl, tg_sub2 (x := F + 101) (y := 99) (by omega), nI_add, fm_mul]]
            refine fe_ivV (fr_byteAt (S := S) (k := (F + 101) - 99) (g := g) (tp := tp) (bt := bt) (a := a) (b := b) h11 (by omega) (by omega)) (by omega) (by rfl) (by rfl) (by rfl) (by rfl) (by rfl) (by rfl) ?_
            rcases fm_byte_or a S ((F + 101) - 99) with ⟨e11, q12⟩ | ⟨q12, n10, qn10, e11⟩
            · rw [e11]
              refine fe_s 1 (pc' := cond (fx_cb .ne 111 (-1)) 106 102) (lc' := [(6, .int 101), (5, .int 1), (4, .int 103), (3, .int 99), (2, .int 19), (0, .ref 0), (1, .ref 22)]) (stk' := []) (mem' := fm g tp bt a b) (fun _ _ _ => rfl) ?_
              rw [show (fx_cb .ne 111 (-1)) = true from by decide]
              dsimp only [cond]
              refine fe_s 6 (pc' := 72) (lc' := [(6, .int (101 + 1)), (5, .int 0), (4, .int 103), (3, .int 99), (2, .int 19), (0, .ref 0), (1, .ref 22)]) (stk' := [.int 103, .int (101 + 1)]) (mem' := fm g tp bt a b) (fun _ _ _ => rfl) ?_
              rw [show (101 + 1 : Int32) = 102 from rfl]
              refine fe_s 1 (pc' := cond (fx_cb .ge 102 103) 115 75) (lc' := [(6, .int 102), (5, .int 0), (4, .int 103), (3, .int 99), (2, .int 19), (0, .ref 0), (1, .ref 22)]) (stk' := []) (mem' := fm g tp bt a b) (fun _ _ _ => rfl) ?_
              rw [show (fx_cb .ge 102 103) = false from by decide]
              dsimp only [cond]
              refine fe_s 1 (pc' := 77) (lc' := [(6, .int 102), (5, .int 0), (4, .int 103), (3, .int 99), (2, .int 19), (0, .ref 0), (1, .ref 22)]) (stk' := [.int 0]) (mem' := fm g tp bt a b) (fun _ _ _ => rfl) ?_
              refine fe_s 1 (pc' := cond (fx_cb .eq 0 0) 115 80) (lc' := [(6, .int 102), (5, .int 0), (4, .int 103), (3, .int 99), (2, .int 19), (0, .ref 0), (1, .ref 22)]) (stk' := []) (mem' := fm g tp bt a b) (fun _ _ _ => rfl) ?_
              rw [show (fx_cb .eq 0 0) = true from by decide]
              dsimp only [cond]
              refine fe_s 1 (pc' := 117) (lc' := [(6, .int 102), (5, .int 0), (4, .int 103), (3, .int 99), (2, .int 19), (0, .ref 0), (1, .ref 22)]) (stk' := [.int 0]) (mem' := fm g tp bt a b) (fun _ _ _ => rfl) ?_
              refine fe_s 1 (pc' := cond (fx_cb .eq 0 0) 122 120) (lc' := [(6, .int 102), (5, .int 0), (4, .int 103), (3, .int 99), (2, .int 19), (0, .ref 0), (1, .ref 22)]) (stk' := []) (mem' := fm g tp bt a b) (fun _ _ _ => rfl) ?_
              rw [show (fx_cb .eq 0 0) = true from by decide]
              dsimp only [cond]
              refine fe_s 6 (pc' := 14) (lc' := [(3, .int (103 + 1)), (2, .int (19 + 1)), (6, .int 102), (5, .int 0), (4, .int 103), (0, .ref 0), (1, .ref 22)]) (stk' := []) (mem' := fm g tp bt a b) (fun _ _ _ => rfl) ?_
              rw [show (19 + 1 : Int32) = 20 from rfl]
              rw [show (103 + 1 : Int32) = 104 from rfl]
              refine fe_w (lc' := [(3, .int 104), (2, .int 20), (0, .ref 0), (1, .ref 22)]) ⟨rfl, rfl, rfl, rfl, trivial⟩ (by show List.Nodup [3, 2, 0, 1]; decide) (by show List.Nodup [3, 2, 6, 5, 4, 0, 1]; decide) ?_
              exact fw_20 hxp
            · rw [e11]
              refine fe_s 1 (pc' := cond (fx_cb .ne 111 (nI n10)) 106 102) (lc' := [(6, .int 101), (5, .int 1), (4, .int 103), (3, .int 99), (2, .int 19), (0, .ref 0), (1, .ref 22)]) (stk' := []) (mem' := fm g tp bt a b) (fun _ _ _ => rfl) ?_
              by_cases h13 : 111 = n10
              · rw [show (fx_cb .ne 111 (nI n10)) = false from cb_neF (a := 111) (b := n10) (by omega) (by omega) (by omega)]
                dsimp only [cond]
                refine fe_s 7 (pc' := 72) (lc' := [(6, .int (101 + 1)), (5, .int 1), (4, .int 103), (3, .int 99), (2, .int 19), (0, .ref 0), (1, .ref 22)]) (stk' := [.int 103, .int (101 + 1)]) (mem' := fm g tp bt a b) (fun _ _ _ => rfl) ?_
                rw [show (101 + 1 : Int32) = 102 from rfl]
                refine fe_s 1 (pc' := cond (fx_cb .ge 102 103) 115 75) (lc' := [(6, .int 102), (5, .int 1), (4, .int 103), (3, .int 99), (2, .int 19), (0, .ref 0), (1, .ref 22)]) (stk' := []) (mem' := fm g tp bt a b) (fun _ _ _ => rfl) ?_
                rw [show (fx_cb .ge 102 103) = false from by decide]
                dsimp only [cond]
                refine fe_s 1 (pc' := 77) (lc' := [(6, .int 102), (5, .int 1), (4, .int 103), (3, .int 99), (2, .int 19), (0, .ref 0), (1, .ref 22)]) (stk' := [.int 1]) (mem' := fm g tp bt a b) (fun _ _ _ => rfl) ?_
                refine fe_s 1 (pc' := cond (fx_cb .eq 1 0) 115 80) (lc' := [(6, .int 102), (5, .int 1), (4, .int 103), (3, .int 99), (2, .int 19), (0, .ref 0), (1, .ref 22)]) (stk' := []) (mem' := fm g tp bt a b) (fun _ _ _ => rfl) ?_
                rw [show (fx_cb .eq 1 0) = false from by decide]
                dsimp only [cond]
                refine fe_s 2 (pc' := 83) (lc' := [(6, .int 102), (5, .int 1), (4, .int 103), (3, .int 99), (2, .int 19), (0, .ref 0), (1, .ref 22)]) (stk' := [.int 102, .ref 22]) (mem' := fm g tp bt a b) (fun _ _ _ => rfl) ?_
                refine fe_chr (i := 102) (by omega) (by rfl) (by rfl) ⟨by rfl, by rfl⟩ (by rfl) ?_
                rw [show sk_b.getD 102 0 = 112 from rfl]
                refine fe_s 7 (pc' := 96) (lc' := [(6, .int 102), (5, .int 1), (4, .int 103), (3, .int 99), (2, .int 19), (0, .ref 0), (1, .ref 22)]) (stk' := [.int (((g 13) + 102) - 99), .ref 0, .int 112]) (mem' := fm g tp bt a b) (fun _ _ _ => rfl) ?_
                try rw [h13]
                rw [show (((nI F) + 102) - 99 : Int32) = nI ((F + 102) - 99) from by simp only [show (102 : Int32) = nI 102 from rfl, show (99 : Int32) = nI 99 from rfl, tg_sub2 (x := F + 102) (y := 99) (by omega), nI_add, fm_mul]]
                refine fe_ivV (fr_byteAt (S := S) (k := (F + 102) - 99) (g := g) (tp := tp) (bt := bt) (a := a) (b := b) h11 (by omega) (by omega)) (by omega) (by rfl) (by rfl) (by rfl) (by rfl) (by rfl) (by rfl) ?_
                rcases fm_byte_or a S ((F + 102) - 99) with ⟨e15, q16⟩ | ⟨q16, n14, qn14, e15⟩
                · rw [e15]
                  refine fe_s 1 (pc' := cond (fx_cb .ne 112 (-1)) 106 102) (lc' := [(6, .int 102), (5, .int 1), (4, .int 103), (3, .int 99), (2, .int 19), (0, .ref 0), (1, .ref 22)]) (stk' := []) (mem' := fm g tp bt a b) (fun _ _ _ => rfl) ?_
                  rw [show (fx_cb .ne 112 (-1)) = true from by decide]
                  dsimp only [cond]
                  refine fe_s 6 (pc' := 72) (lc' := [(6, .int (102 + 1)), (5, .int 0), (4, .int 103), (3, .int 99), (2, .int 19), (0, .ref 0), (1, .ref 22)]) (stk' := [.int 103, .int (102 + 1)]) (mem' := fm g tp bt a b) (fun _ _ _ => rfl) ?_
                  rw [show (102 + 1 : Int32) = 103 from rfl]
                  refine fe_s 1 (pc' := cond (fx_cb .ge 103 103) 115 75) (lc' := [(6, .int 103), (5, .int 0), (4, .int 103), (3, .int 99), (2, .int 19), (0, .ref 0), (1, .ref 22)]) (stk' := []) (mem' := fm g tp bt a b) (fun _ _ _ => rfl) ?_
                  rw [show (fx_cb .ge 103 103) = true from by decide]
                  dsimp only [cond]
                  refine fe_s 1 (pc' := 117) (lc' := [(6, .int 103), (5, .int 0), (4, .int 103), (3, .int 99), (2, .int 19), (0, .ref 0), (1, .ref 22)]) (stk' := [.int 0]) (mem' := fm g tp bt a b) (fun _ _ _ => rfl) ?_
                  refine fe_s 1 (pc' := cond (fx_cb .eq 0 0) 122 120) (lc' := [(6, .int 103), (5, .int 0), (4, .int 103), (3, .int 99), (2, .int 19), (0, .ref 0), (1, .ref 22)]) (stk' := []) (mem' := fm g tp bt a b) (fun _ _ _ => rfl) ?_
                  rw [show (fx_cb .eq 0 0) = true from by decide]
                  dsimp only [cond]
                  refine fe_s 6 (pc' := 14) (lc' := [(3, .int (103 + 1)), (2, .int (19 + 1)), (6, .int 103), (5, .int 0), (4, .int 103), (0, .ref 0), (1, .ref 22)]) (stk' := []) (mem' := fm g tp bt a b) (fun _ _ _ => rfl) ?_
                  rw [show (19 + 1 : Int32) = 20 from rfl]
                  rw [show (103 + 1 : Int32) = 104 from rfl]
                  refine fe_w (lc' := [(3, .int 104), (2, .int 20), (0, .ref 0), (1, .ref 22)]) ⟨rfl, rfl, rfl, rfl, trivial⟩ (by show List.Nodup [3, 2, 0, 1]; decide) (by show List.Nodup [3, 2, 6, 5, 4, 0, 1]; decide) ?_
                  exact fw_20 hxp
                · rw [e15]
                  refine fe_s 1 (pc' := cond (fx_cb .ne 112 (nI n14)) 106 102) (lc' := [(6, .int 102), (5, .int 1), (4, .int 103), (3, .int 99), (2, .int 19), (0, .ref 0), (1, .ref 22)]) (stk' := []) (mem' := fm g tp bt a b) (fun _ _ _ => rfl) ?_
                  by_cases h17 : 112 = n14
                  · rw [show (fx_cb .ne 112 (nI n14)) = false from cb_neF (a := 112) (b := n14) (by omega) (by omega) (by omega)]
                    dsimp only [cond]
                    refine fe_s 7 (pc' := 72) (lc' := [(6, .int (102 + 1)), (5, .int 1), (4, .int 103), (3, .int 99), (2, .int 19), (0, .ref 0), (1, .ref 22)]) (stk' := [.int 103, .int (102 + 1)]) (mem' := fm g tp bt a b) (fun _ _ _ => rfl) ?_
                    rw [show (102 + 1 : Int32) = 103 from rfl]
                    refine fe_s 1 (pc' := cond (fx_cb .ge 103 103) 115 75) (lc' := [(6, .int 103), (5, .int 1), (4, .int 103), (3, .int 99), (2, .int 19), (0, .ref 0), (1, .ref 22)]) (stk' := []) (mem' := fm g tp bt a b) (fun _ _ _ => rfl) ?_
                    rw [show (fx_cb .ge 103 103) = true from by decide]
                    dsimp only [cond]
                    refine fe_s 1 (pc' := 117) (lc' := [(6, .int 103), (5, .int 1), (4, .int 103), (3, .int 99), (2, .int 19), (0, .ref 0), (1, .ref 22)]) (stk' := [.int 1]) (mem' := fm g tp bt a b) (fun _ _ _ => rfl) ?_
                    refine fe_s 1 (pc' := cond (fx_cb .eq 1 0) 122 120) (lc' := [(6, .int 103), (5, .int 1), (4, .int 103), (3, .int 99), (2, .int 19), (0, .ref 0), (1, .ref 22)]) (stk' := []) (mem' := fm g tp bt a b) (fun _ _ _ => rfl) ?_
                    rw [show (fx_cb .eq 1 0) = false from by decide]
                    dsimp only [cond]
                    refine fe_s 1 (pc' := 121) (lc' := [(6, .int 103), (5, .int 1), (4, .int 103), (3, .int 99), (2, .int 19), (0, .ref 0), (1, .ref 22)]) (stk' := [.int 19]) (mem' := fm g tp bt a b) (fun _ _ _ => rfl) ?_
                    exact fe_ret ⟨_, Or.inr ⟨19, by omega, rfl⟩, rfl⟩ (by rfl) (by rfl) (by rfl)
                  · rw [show (fx_cb .ne 112 (nI n14)) = true from cb_neT (a := 112) (b := n14) (by omega) (by omega) (by omega)]
                    dsimp only [cond]
                    refine fe_s 6 (pc' := 72) (lc' := [(6, .int (102 + 1)), (5, .int 0), (4, .int 103), (3, .int 99), (2, .int 19), (0, .ref 0), (1, .ref 22)]) (stk' := [.int 103, .int (102 + 1)]) (mem' := fm g tp bt a b) (fun _ _ _ => rfl) ?_
                    rw [show (102 + 1 : Int32) = 103 from rfl]
                    refine fe_s 1 (pc' := cond (fx_cb .ge 103 103) 115 75) (lc' := [(6, .int 103), (5, .int 0), (4, .int 103), (3, .int 99), (2, .int 19), (0, .ref 0), (1, .ref 22)]) (stk' := []) (mem' := fm g tp bt a b) (fun _ _ _ => rfl) ?_
                    rw [show (fx_cb .ge 103 103) = true from by decide]
                    dsimp only [cond]
                    refine fe_s 1 (pc' := 117) (lc' := [(6, .int 103), (5, .int 0), (4, .int 103), (3, .int 99), (2, .int 19), (0, .ref 0), (1, .ref 22)]) (stk' := [.int 0]) (mem' := fm g tp bt a b) (fun _ _ _ => rfl) ?_
                    refine fe_s 1 (pc' := cond (fx_cb .eq 0 0) 122 120) (lc' := [(6, .int 103), (5, .int 0), (4, .int 103), (3, .int 99), (2, .int 19), (0, .ref 0), (1, .ref 22)]) (stk' := []) (mem' := fm g tp bt a b) (fun _ _ _ => rfl) ?_
                    rw [show (fx_cb .eq 0 0) = true from by decide]
                    dsimp only [cond]
                    refine fe_s 6 (pc' := 14) (lc' := [(3, .int (103 + 1)), (2, .int (19 + 1)), (6, .int 103), (5, .int 0), (4, .int 103), (0, .ref 0), (1, .ref 22)]) (stk' := []) (mem' := fm g tp bt a b) (fun _ _ _ => rfl) ?_
                    rw [show (19 + 1 : Int32) = 20 from rfl]
                    rw [show (103 + 1 : Int32) = 104 from rfl]
                    refine fe_w (lc' := [(3, .int 104), (2, .int 20), (0, .ref 0), (1, .ref 22)]) ⟨rfl, rfl, rfl, rfl, trivial⟩ (by show List.Nodup [3, 2, 0, 1]; decide) (by show List.Nodup [3, 2, 6, 5, 4, 0, 1]; decide) ?_
                    exact fw_20 hxp
              · rw [show (fx_cb .ne 111 (nI n10)) = true from cb_neT (a := 111) (b := n10) (by omega) (by omega) (by omega)]
                dsimp only [cond]
                refine fe_s 6 (pc' := 72) (lc' := [(6, .int (101 + 1)), (5, .int 0), (4, .int 103), (3, .int 99), (2, .int 19), (0, .ref 0), (1, .ref 22)]) (stk' := [.int 103, .int (101 + 1)]) (mem' := fm g tp bt a b) (fun _ _ _ => rfl) ?_
                rw [show (101 + 1 : Int32) = 102 from rfl]
                refine fe_s 1 (pc' := cond (fx_cb .ge 102 103) 115 75) (lc' := [(6, .int 102), (5, .int 0), (4, .int 103), (3, .int 99), (2, .int 19), (0, .ref 0), (1, .ref 22)]) (stk' := []) (mem' := fm g tp bt a b) (fun _ _ _ => rfl) ?_
                rw [show (fx_cb .ge 102 103) = false from by decide]
                dsimp only [cond]
                refine fe_s 1 (pc' := 77) (lc' := [(6, .int 102), (5, .int 0), (4, .int 103), (3, .int 99), (2, .int 19), (0, .ref 0), (1, .ref 22)]) (stk' := [.int 0]) (mem' := fm g tp bt a b) (fun _ _ _ => rfl) ?_
                refine fe_s 1 (pc' := cond (fx_cb .eq 0 0) 115 80) (lc' := [(6, .int 102), (5, .int 0), (4, .int 103), (3, .int 99), (2, .int 19), (0, .ref 0), (1, .ref 22)]) (stk' := []) (mem' := fm g tp bt a b) (fun _ _ _ => rfl) ?_
                rw [show (fx_cb .eq 0 0) = true from by decide]
                dsimp only [cond]
                refine fe_s 1 (pc' := 117) (lc' := [(6, .int 102), (5, .int 0), (4, .int 103), (3, .int 99), (2, .int 19), (0, .ref 0), (1, .ref 22)]) (stk' := [.int 0]) (mem' := fm g tp bt a b) (fun _ _ _ => rfl) ?_
                refine fe_s 1 (pc' := cond (fx_cb .eq 0 0) 122 120) (lc' := [(6, .int 102), (5, .int 0), (4, .int 103), (3, .int 99), (2, .int 19), (0, .ref 0), (1, .ref 22)]) (stk' := []) (mem' := fm g tp bt a b) (fun _ _ _ => rfl) ?_
                rw [show (fx_cb .eq 0 0) = true from by decide]
                dsimp only [cond]
                refine fe_s 6 (pc' := 14) (lc' := [(3, .int (103 + 1)), (2, .int (19 + 1)), (6, .int 102), (5, .int 0), (4, .int 103), (0, .ref 0), (1, .ref 22)]) (stk' := []) (mem' := fm g tp bt a b) (fun _ _ _ => rfl) ?_
                rw [show (19 + 1 : Int32) = 20 from rfl]
                rw [show (103 + 1 : Int32) = 104 from rfl]
                refine fe_w (lc' := [(3, .int 104), (2, .int 20), (0, .ref 0), (1, .ref 22)]) ⟨rfl, rfl, rfl, rfl, trivial⟩ (by show List.Nodup [3, 2, 0, 1]; decide) (by show List.Nodup [3, 2, 6, 5, 4, 0, 1]; decide) ?_
                exact fw_20 hxp
          · rw [show (fx_cb .ne 111 (nI n6)) = true from cb_neT (a := 111) (b := n6) (by omega) (by omega) (by omega)]
            dsimp only [cond]
            refine fe_s 6 (pc' := 72) (lc' := [(6, .int (100 + 1)), (5, .int 0), (4, .int 103), (3, .int 99), (2, .int 19), (0, .ref 0), (1, .ref 22)]) (stk' := [.int 103, .int (100 + 1)]) (mem' := fm g tp bt a b) (fun _ _ _ => rfl) ?_
            rw [show (100 + 1 : Int32) = 101 from rfl]
            refine fe_s 1 (pc' := cond (fx_cb .ge 101 103) 115 75) (lc' := [(6, .int 101), (5, .int 0), (4, .int 103), (3, .int 99), (2, .int 19), (0, .ref 0), (1, .ref 22)]) (stk' := []) (mem' := fm g tp bt a b) (fun _ _ _ => rfl) ?_
            rw [show (fx_cb .ge 101 103) = false from by decide]
            dsimp only [cond]
            refine fe_s 1 (pc' := 77) (lc' := [(6, .int 101), (5, .int 0), (4, .int 103), (3, .int 99), (2, .int 19), (0, .ref 0), (1, .ref 22)]) (stk' := [.int 0]) (mem' := fm g tp bt a b) (fun _ _ _ => rfl) ?_
            refine fe_s 1 (pc' := cond (fx_cb .eq 0 0) 115 80) (lc' := [(6, .int 101), (5, .int 0), (4, .int 103), (3, .int 99), (2, .int 19), (0, .ref 0), (1, .ref 22)]) (stk' := []) (mem' := fm g tp bt a b) (fun _ _ _ => rfl) ?_
            rw [show (fx_cb .eq 0 0) = true from by decide]
            dsimp only [cond]
            refine fe_s 1 (pc' := 117) (lc' := [(6, .int 101), (5, .int 0), (4, .int 103), (3, .int 99), (2, .int 19), (0, .ref 0), (1, .ref 22)]) (stk' := [.int 0]) (mem' := fm g tp bt a b) (fun _ _ _ => rfl) ?_
            refine fe_s 1 (pc' := cond (fx_cb .eq 0 0) 122 120) (lc' := [(6, .int 101), (5, .int 0), (4, .int 103), (3, .int 99), (2, .int 19), (0, .ref 0), (1, .ref 22)]) (stk' := []) (mem' := fm g tp bt a b) (fun _ _ _ => rfl) ?_
            rw [show (fx_cb .eq 0 0) = true from by decide]
            dsimp only [cond]
            refine fe_s 6 (pc' := 14) (lc' := [(3, .int (103 + 1)), (2, .int (19 + 1)), (6, .int 101), (5, .int 0), (4, .int 103), (0, .ref 0), (1, .ref 22)]) (stk' := []) (mem' := fm g tp bt a b) (fun _ _ _ => rfl) ?_
            rw [show (19 + 1 : Int32) = 20 from rfl]
            rw [show (103 + 1 : Int32) = 104 from rfl]
            refine fe_w (lc' := [(3, .int 104), (2, .int 20), (0, .ref 0), (1, .ref 22)]) ⟨rfl, rfl, rfl, rfl, trivial⟩ (by show List.Nodup [3, 2, 0, 1]; decide) (by show List.Nodup [3, 2, 6, 5, 4, 0, 1]; decide) ?_
            exact fw_20 hxp
      · rw [show (fx_cb .ne 108 (nI n2)) = true from cb_neT (a := 108) (b := n2) (by omega) (by omega) (by omega)]
        dsimp only [cond]
        refine fe_s 6 (pc' := 72) (lc' := [(6, .int (99 + 1)), (5, .int 0), (4, .int 103), (3, .int 99), (2, .int 19), (0, .ref 0), (1, .ref 22)]) (stk' := [.int 103, .int (99 + 1)]) (mem' := fm g tp bt a b) (fun _ _ _ => rfl) ?_
        rw [show (99 + 1 : Int32) = 100 from rfl]
        refine fe_s 1 (pc' := cond (fx_cb .ge 100 103) 115 75) (lc' := [(6, .int 100), (5, .int 0), (4, .int 103), (3, .int 99), (2, .int 19), (0, .ref 0), (1, .ref 22)]) (stk' := []) (mem' := fm g tp bt a b) (fun _ _ _ => rfl) ?_
        rw [show (fx_cb .ge 100 103) = false from by decide]
        dsimp only [cond]
        refine fe_s 1 (pc' := 77) (lc' := [(6, .int 100), (5, .int 0), (4, .int 103), (3, .int 99), (2, .int 19), (0, .ref 0), (1, .ref 22)]) (stk' := [.int 0]) (mem' := fm g tp bt a b) (fun _ _ _ => rfl) ?_
        refine fe_s 1 (pc' := cond (fx_cb .eq 0 0) 115 80) (lc' := [(6, .int 100), (5, .int 0), (4, .int 103), (3, .int 99), (2, .int 19), (0, .ref 0), (1, .ref 22)]) (stk' := []) (mem' := fm g tp bt a b) (fun _ _ _ => rfl) ?_
        rw [show (fx_cb .eq 0 0) = true from by decide]
        dsimp only [cond]
        refine fe_s 1 (pc' := 117) (lc' := [(6, .int 100), (5, .int 0), (4, .int 103), (3, .int 99), (2, .int 19), (0, .ref 0), (1, .ref 22)]) (stk' := [.int 0]) (mem' := fm g tp bt a b) (fun _ _ _ => rfl) ?_
        refine fe_s 1 (pc' := cond (fx_cb .eq 0 0) 122 120) (lc' := [(6, .int 100), (5, .int 0), (4, .int 103), (3, .int 99), (2, .int 19), (0, .ref 0), (1, .ref 22)]) (stk' := []) (mem' := fm g tp bt a b) (fun _ _ _ => rfl) ?_
        rw [show (fx_cb .eq 0 0) = true from by decide]
        dsimp only [cond]
        refine fe_s 6 (pc' := 14) (lc' := [(3, .int (103 + 1)), (2, .int (19 + 1)), (6, .int 100), (5, .int 0), (4, .int 103), (0, .ref 0), (1, .ref 22)]) (stk' := []) (mem' := fm g tp bt a b) (fun _ _ _ => rfl) ?_
        rw [show (19 + 1 : Int32) = 20 from rfl]
        rw [show (103 + 1 : Int32) = 104 from rfl]
        refine fe_w (lc' := [(3, .int 104), (2, .int 20), (0, .ref 0), (1, .ref 22)]) ⟨rfl, rfl, rfl, rfl, trivial⟩ (by show List.Nodup [3, 2, 0, 1]; decide) (by show List.Nodup [3, 2, 6, 5, 4, 0, 1]; decide) ?_
        exact fw_20 hxp
  · rw [show (fx_cb .ne 4 (nI (E - F))) = true from cb_neT (a := 4) (b := E - F) (by omega) (by omega) (by omega)]
    dsimp only [cond]
    refine fe_s 6 (pc' := 72) (lc' := [(6, .int 99), (5, .int 0), (4, .int 103), (3, .int 99), (2, .int 19), (0, .ref 0), (1, .ref 22)]) (stk' := [.int 103, .int 99]) (mem' := fm g tp bt a b) (fun _ _ _ => rfl) ?_
    refine fe_s 1 (pc' := cond (fx_cb .ge 99 103) 115 75) (lc' := [(6, .int 99), (5, .int 0), (4, .int 103), (3, .int 99), (2, .int 19), (0, .ref 0), (1, .ref 22)]) (stk' := []) (mem' := fm g tp bt a b) (fun _ _ _ => rfl) ?_
    rw [show (fx_cb .ge 99 103) = false from by decide]
    dsimp only [cond]
    refine fe_s 1 (pc' := 77) (lc' := [(6, .int 99), (5, .int 0), (4, .int 103), (3, .int 99), (2, .int 19), (0, .ref 0), (1, .ref 22)]) (stk' := [.int 0]) (mem' := fm g tp bt a b) (fun _ _ _ => rfl) ?_
    refine fe_s 1 (pc' := cond (fx_cb .eq 0 0) 115 80) (lc' := [(6, .int 99), (5, .int 0), (4, .int 103), (3, .int 99), (2, .int 19), (0, .ref 0), (1, .ref 22)]) (stk' := []) (mem' := fm g tp bt a b) (fun _ _ _ => rfl) ?_
    rw [show (fx_cb .eq 0 0) = true from by decide]
    dsimp only [cond]
    refine fe_s 1 (pc' := 117) (lc' := [(6, .int 99), (5, .int 0), (4, .int 103), (3, .int 99), (2, .int 19), (0, .ref 0), (1, .ref 22)]) (stk' := [.int 0]) (mem' := fm g tp bt a b) (fun _ _ _ => rfl) ?_
    refine fe_s 1 (pc' := cond (fx_cb .eq 0 0) 122 120) (lc' := [(6, .int 99), (5, .int 0), (4, .int 103), (3, .int 99), (2, .int 19), (0, .ref 0), (1, .ref 22)]) (stk' := []) (mem' := fm g tp bt a b) (fun _ _ _ => rfl) ?_
    rw [show (fx_cb .eq 0 0) = true from by decide]
    dsimp only [cond]
    refine fe_s 6 (pc' := 14) (lc' := [(3, .int (103 + 1)), (2, .int (19 + 1)), (6, .int 99), (5, .int 0), (4, .int 103), (0, .ref 0), (1, .ref 22)]) (stk' := []) (mem' := fm g tp bt a b) (fun _ _ _ => rfl) ?_
    rw [show (19 + 1 : Int32) = 20 from rfl]
    rw [show (103 + 1 : Int32) = 104 from rfl]
    refine fe_w (lc' := [(3, .int 104), (2, .int 20), (0, .ref 0), (1, .ref 22)]) ⟨rfl, rfl, rfl, rfl, trivial⟩ (by show List.Nodup [3, 2, 0, 1]; decide) (by show List.Nodup [3, 2, 6, 5, 4, 0, 1]; decide) ?_
    exact fw_20 hxp
theorem fw_18 {S E F : Nat} (hxp : fm_xp g S E F) : fe_R 1 gk_m226 14 [(3, .int 94), (2, .int 18), (0, .ref 0), (1, .ref 22)] [] (fm g tp bt a b) (fm_FI (fm g tp bt a b)) := by
  obtain ⟨h11, hS9, h14, hES, h13, hFE, -, -, -⟩ := id hxp
  refine fe_s 2 (pc' := 16) (lc' := [(3, .int 94), (2, .int 18), (0, .ref 0), (1, .ref 22)]) (stk' := [.ref 22, .int 94]) (mem' := fm g tp bt a b) (fun _ _ _ => rfl) ?_
  refine fe_s 1 (pc' := 19) (lc' := [(3, .int 94), (2, .int 18), (0, .ref 0), (1, .ref 22)]) (stk' := [.int 117, .int 94]) (mem' := fm g tp bt a b) (fun _ _ _ => rfl) ?_
  refine fe_s 1 (pc' := cond (fx_cb .ge 94 117) 133 22) (lc' := [(3, .int 94), (2, .int 18), (0, .ref 0), (1, .ref 22)]) (stk' := []) (mem' := fm g tp bt a b) (fun _ _ _ => rfl) ?_
  rw [show (fx_cb .ge 94 117) = false from by decide]
  dsimp only [cond]
  refine fe_s 4 (pc' := 28) (lc' := [(4, .int 94), (3, .int 94), (2, .int 18), (0, .ref 0), (1, .ref 22)]) (stk' := [.int 94, .ref 22]) (mem' := fm g tp bt a b) (fun _ _ _ => rfl) ?_
  refine fe_chr (i := 94) (by omega) (by rfl) (by rfl) ⟨by rfl, by rfl⟩ (by rfl) ?_
  rw [show sk_b.getD 94 0 = 119 from rfl]
  refine fe_s 1 (pc' := 33) (lc' := [(4, .int 94), (3, .int 94), (2, .int 18), (0, .ref 0), (1, .ref 22)]) (stk' := [.int 32, .int 119]) (mem' := fm g tp bt a b) (fun _ _ _ => rfl) ?_
  refine fe_s 1 (pc' := cond (fx_cb .eq 119 32) 42 36) (lc' := [(4, .int 94), (3, .int 94), (2, .int 18), (0, .ref 0), (1, .ref 22)]) (stk' := []) (mem' := fm g tp bt a b) (fun _ _ _ => rfl) ?_
  rw [show (fx_cb .eq 119 32) = false from by decide]
  dsimp only [cond]
  refine fe_s 4 (pc' := 28) (lc' := [(4, .int (94 + 1)), (3, .int 94), (2, .int 18), (0, .ref 0), (1, .ref 22)]) (stk' := [.int (94 + 1), .ref 22]) (mem' := fm g tp bt a b) (fun _ _ _ => rfl) ?_
  rw [show (94 + 1 : Int32) = 95 from rfl]
  refine fe_chr (i := 95) (by omega) (by rfl) (by rfl) ⟨by rfl, by rfl⟩ (by rfl) ?_
  rw [show sk_b.getD 95 0 = 104 from rfl]
  refine fe_s 1 (pc' := 33) (lc' := [(4, .int 95), (3, .int 94), (2, .int 18), (0, .ref 0), (1, .ref 22)]) (stk' := [.int 32, .int 104]) (mem' := fm g tp bt a b) (fun _ _ _ => rfl) ?_
  refine fe_s 1 (pc' := cond (fx_cb .eq 104 32) 42 36) (lc' := [(4, .int 95), (3, .int 94), (2, .int 18), (0, .ref 0), (1, .ref 22)]) (stk' := []) (mem' := fm g tp bt a b) (fun _ _ _ => rfl) ?_
  rw [show (fx_cb .eq 104 32) = false from by decide]
  dsimp only [cond]
  refine fe_s 4 (pc' := 28) (lc' := [(4, .int (95 + 1)), (3, .int 94), (2, .int 18), (0, .ref 0), (1, .ref 22)]) (stk' := [.int (95 + 1), .ref 22]) (mem' := fm g tp bt a b) (fun _ _ _ => rfl) ?_
  rw [show (95 + 1 : Int32) = 96 from rfl]
  refine fe_chr (i := 96) (by omega) (by rfl) (by rfl) ⟨by rfl, by rfl⟩ (by rfl) ?_
  rw [show sk_b.getD 96 0 = 101 from rfl]
  refine fe_s 1 (pc' := 33) (lc' := [(4, .int 96), (3, .int 94), (2, .int 18), (0, .ref 0), (1, .ref 22)]) (stk' := [.int 32, .int 101]) (mem' := fm g tp bt a b) (fun _ _ _ => rfl) ?_
  refine fe_s 1 (pc' := cond (fx_cb .eq 101 32) 42 36) (lc' := [(4, .int 96), (3, .int 94), (2, .int 18), (0, .ref 0), (1, .ref 22)]) (stk' := []) (mem' := fm g tp bt a b) (fun _ _ _ => rfl) ?_
  rw [show (fx_cb .eq 101 32) = false from by decide]
  dsimp only [cond]
  refine fe_s 4 (pc' := 28) (lc' := [(4, .int (96 + 1)), (3, .int 94), (2, .int 18), (0, .ref 0), (1, .ref 22)]) (stk' := [.int (96 + 1), .ref 22]) (mem' := fm g tp bt a b) (fun _ _ _ => rfl) ?_
  rw [show (96 + 1 : Int32) = 97 from rfl]
  refine fe_chr (i := 97) (by omega) (by rfl) (by rfl) ⟨by rfl, by rfl⟩ (by rfl) ?_
  rw [show sk_b.getD 97 0 = 110 from rfl]
  refine fe_s 1 (pc' := 33) (lc' := [(4, .int 97), (3, .int 94), (2, .int 18), (0, .ref 0), (1, .ref 22)]) (stk' := [.int 32, .int 110]) (mem' := fm g tp bt a b) (fun _ _ _ => rfl) ?_
  refine fe_s 1 (pc' := cond (fx_cb .eq 110 32) 42 36) (lc' := [(4, .int 97), (3, .int 94), (2, .int 18), (0, .ref 0), (1, .ref 22)]) (stk' := []) (mem' := fm g tp bt a b) (fun _ _ _ => rfl) ?_
  rw [show (fx_cb .eq 110 32) = false from by decide]
  dsimp only [cond]
  refine fe_s 4 (pc' := 28) (lc' := [(4, .int (97 + 1)), (3, .int 94), (2, .int 18), (0, .ref 0), (1, .ref 22)]) (stk' := [.int (97 + 1), .ref 22]) (mem' := fm g tp bt a b) (fun _ _ _ => rfl) ?_
  rw [show (97 + 1 : Int32) = 98 from rfl]
  refine fe_chr (i := 98) (by omega) (by rfl) (by rfl) ⟨by rfl, by rfl⟩ (by rfl) ?_
  rw [show sk_b.getD 98 0 = 32 from rfl]
  refine fe_s 1 (pc' := 33) (lc' := [(4, .int 98), (3, .int 94), (2, .int 18), (0, .ref 0), (1, .ref 22)]) (stk' := [.int 32, .int 32]) (mem' := fm g tp bt a b) (fun _ _ _ => rfl) ?_
  refine fe_s 1 (pc' := cond (fx_cb .eq 32 32) 42 36) (lc' := [(4, .int 98), (3, .int 94), (2, .int 18), (0, .ref 0), (1, .ref 22)]) (stk' := []) (mem' := fm g tp bt a b) (fun _ _ _ => rfl) ?_
  rw [show (fx_cb .eq 32 32) = true from by decide]
  dsimp only [cond]
  refine fe_s 8 (pc' := 55) (lc' := [(4, .int 98), (3, .int 94), (2, .int 18), (0, .ref 0), (1, .ref 22)]) (stk' := [.int ((g 14) - (g 13)), .int (98 - 94)]) (mem' := fm g tp bt a b) (fun _ _ _ => rfl) ?_
  try rw [h14]
  try rw [h13]
  rw [show (98 - 94 : Int32) = 4 from rfl]
  rw [show ((nI E) - (nI F) : Int32) = nI (E - F) from by simp only [tg_sub2 (x := E) (y := F) (by omega), nI_add, fm_mul]]
  refine fe_s 1 (pc' := cond (fx_cb .ne 4 (nI (E - F))) 62 58) (lc' := [(4, .int 98), (3, .int 94), (2, .int 18), (0, .ref 0), (1, .ref 22)]) (stk' := []) (mem' := fm g tp bt a b) (fun _ _ _ => rfl) ?_
  by_cases h1 : 4 = (E - F)
  · rw [show (fx_cb .ne 4 (nI (E - F))) = false from cb_neF (a := 4) (b := E - F) (by omega) (by omega) (by omega)]
    dsimp only [cond]
    refine fe_s 7 (pc' := 72) (lc' := [(6, .int 94), (5, .int 1), (4, .int 98), (3, .int 94), (2, .int 18), (0, .ref 0), (1, .ref 22)]) (stk' := [.int 98, .int 94]) (mem' := fm g tp bt a b) (fun _ _ _ => rfl) ?_
    refine fe_s 1 (pc' := cond (fx_cb .ge 94 98) 115 75) (lc' := [(6, .int 94), (5, .int 1), (4, .int 98), (3, .int 94), (2, .int 18), (0, .ref 0), (1, .ref 22)]) (stk' := []) (mem' := fm g tp bt a b) (fun _ _ _ => rfl) ?_
    rw [show (fx_cb .ge 94 98) = false from by decide]
    dsimp only [cond]
    refine fe_s 1 (pc' := 77) (lc' := [(6, .int 94), (5, .int 1), (4, .int 98), (3, .int 94), (2, .int 18), (0, .ref 0), (1, .ref 22)]) (stk' := [.int 1]) (mem' := fm g tp bt a b) (fun _ _ _ => rfl) ?_
    refine fe_s 1 (pc' := cond (fx_cb .eq 1 0) 115 80) (lc' := [(6, .int 94), (5, .int 1), (4, .int 98), (3, .int 94), (2, .int 18), (0, .ref 0), (1, .ref 22)]) (stk' := []) (mem' := fm g tp bt a b) (fun _ _ _ => rfl) ?_
    rw [show (fx_cb .eq 1 0) = false from by decide]
    dsimp only [cond]
    refine fe_s 2 (pc' := 83) (lc' := [(6, .int 94), (5, .int 1), (4, .int 98), (3, .int 94), (2, .int 18), (0, .ref 0), (1, .ref 22)]) (stk' := [.int 94, .ref 22]) (mem' := fm g tp bt a b) (fun _ _ _ => rfl) ?_
    refine fe_chr (i := 94) (by omega) (by rfl) (by rfl) ⟨by rfl, by rfl⟩ (by rfl) ?_
    rw [show sk_b.getD 94 0 = 119 from rfl]
    refine fe_s 7 (pc' := 96) (lc' := [(6, .int 94), (5, .int 1), (4, .int 98), (3, .int 94), (2, .int 18), (0, .ref 0), (1, .ref 22)]) (stk' := [.int (((g 13) + 94) - 94), .ref 0, .int 119]) (mem' := fm g tp bt a b) (fun _ _ _ => rfl) ?_
    try rw [h13]
    rw [show (((nI F) + 94) - 94 : Int32) = nI ((F + 94) - 94) from by simp only [show (94 : Int32) = nI 94 from rfl, tg_sub2 (x := F + 94) (y := 94) (by omega), nI_add, fm_mul]]
    refine fe_ivV (fr_byteAt (S := S) (k := (F + 94) - 94) (g := g) (tp := tp) (bt := bt) (a := a) (b := b) h11 (by omega) (by omega)) (by omega) (by rfl) (by rfl) (by rfl) (by rfl) (by rfl) (by rfl) ?_
    rcases fm_byte_or a S ((F + 94) - 94) with ⟨e3, q4⟩ | ⟨q4, n2, qn2, e3⟩
    · rw [e3]
      refine fe_s 1 (pc' := cond (fx_cb .ne 119 (-1)) 106 102) (lc' := [(6, .int 94), (5, .int 1), (4, .int 98), (3, .int 94), (2, .int 18), (0, .ref 0), (1, .ref 22)]) (stk' := []) (mem' := fm g tp bt a b) (fun _ _ _ => rfl) ?_
      rw [show (fx_cb .ne 119 (-1)) = true from by decide]
      dsimp only [cond]
      refine fe_s 6 (pc' := 72) (lc' := [(6, .int (94 + 1)), (5, .int 0), (4, .int 98), (3, .int 94), (2, .int 18), (0, .ref 0), (1, .ref 22)]) (stk' := [.int 98, .int (94 + 1)]) (mem' := fm g tp bt a b) (fun _ _ _ => rfl) ?_
      rw [show (94 + 1 : Int32) = 95 from rfl]
      refine fe_s 1 (pc' := cond (fx_cb .ge 95 98) 115 75) (lc' := [(6, .int 95), (5, .int 0), (4, .int 98), (3, .int 94), (2, .int 18), (0, .ref 0), (1, .ref 22)]) (stk' := []) (mem' := fm g tp bt a b) (fun _ _ _ => rfl) ?_
      rw [show (fx_cb .ge 95 98) = false from by decide]
      dsimp only [cond]
      refine fe_s 1 (pc' := 77) (lc' := [(6, .int 95), (5, .int 0), (4, .int 98), (3, .int 94), (2, .int 18), (0, .ref 0), (1, .ref 22)]) (stk' := [.int 0]) (mem' := fm g tp bt a b) (fun _ _ _ => rfl) ?_
      refine fe_s 1 (pc' := cond (fx_cb .eq 0 0) 115 80) (lc' := [(6, .int 95), (5, .int 0), (4, .int 98), (3, .int 94), (2, .int 18), (0, .ref 0), (1, .ref 22)]) (stk' := []) (mem' := fm g tp bt a b) (fun _ _ _ => rfl) ?_
      rw [show (fx_cb .eq 0 0) = true from by decide]
      dsimp only [cond]
      refine fe_s 1 (pc' := 117) (lc' := [(6, .int 95), (5, .int 0), (4, .int 98), (3, .int 94), (2, .int 18), (0, .ref 0), (1, .ref 22)]) (stk' := [.int 0]) (mem' := fm g tp bt a b) (fun _ _ _ => rfl) ?_
      refine fe_s 1 (pc' := cond (fx_cb .eq 0 0) 122 120) (lc' := [(6, .int 95), (5, .int 0), (4, .int 98), (3, .int 94), (2, .int 18), (0, .ref 0), (1, .ref 22)]) (stk' := []) (mem' := fm g tp bt a b) (fun _ _ _ => rfl) ?_
      rw [show (fx_cb .eq 0 0) = true from by decide]
      dsimp only [cond]
      refine fe_s 6 (pc' := 14) (lc' := [(3, .int (98 + 1)), (2, .int (18 + 1)), (6, .int 95), (5, .int 0), (4, .int 98), (0, .ref 0), (1, .ref 22)]) (stk' := []) (mem' := fm g tp bt a b) (fun _ _ _ => rfl) ?_
      rw [show (98 + 1 : Int32) = 99 from rfl]
      rw [show (18 + 1 : Int32) = 19 from rfl]
      refine fe_w (lc' := [(3, .int 99), (2, .int 19), (0, .ref 0), (1, .ref 22)]) ⟨rfl, rfl, rfl, rfl, trivial⟩ (by show List.Nodup [3, 2, 0, 1]; decide) (by show List.Nodup [3, 2, 6, 5, 4, 0, 1]; decide) ?_
      exact fw_19 hxp
    · rw [e3]
      refine fe_s 1 (pc' := cond (fx_cb .ne 119 (nI n2)) 106 102) (lc' := [(6, .int 94), (5, .int 1), (4, .int 98), (3, .int 94), (2, .int 18), (0, .ref 0), (1, .ref 22)]) (stk' := []) (mem' := fm g tp bt a b) (fun _ _ _ => rfl) ?_
      by_cases h5 : 119 = n2
      · rw [show (fx_cb .ne 119 (nI n2)) = false from cb_neF (a := 119) (b := n2) (by omega) (by omega) (by omega)]
        dsimp only [cond]
        refine fe_s 7 (pc' := 72) (lc' := [(6, .int (94 + 1)), (5, .int 1), (4, .int 98), (3, .int 94), (2, .int 18), (0, .ref 0), (1, .ref 22)]) (stk' := [.int 98, .int (94 + 1)]) (mem' := fm g tp bt a b) (fun _ _ _ => rfl) ?_
        rw [show (94 + 1 : Int32) = 95 from rfl]
        refine fe_s 1 (pc' := cond (fx_cb .ge 95 98) 115 75) (lc' := [(6, .int 95), (5, .int 1), (4, .int 98), (3, .int 94), (2, .int 18), (0, .ref 0), (1, .ref 22)]) (stk' := []) (mem' := fm g tp bt a b) (fun _ _ _ => rfl) ?_
        rw [show (fx_cb .ge 95 98) = false from by decide]
        dsimp only [cond]
        refine fe_s 1 (pc' := 77) (lc' := [(6, .int 95), (5, .int 1), (4, .int 98), (3, .int 94), (2, .int 18), (0, .ref 0), (1, .ref 22)]) (stk' := [.int 1]) (mem' := fm g tp bt a b) (fun _ _ _ => rfl) ?_
        refine fe_s 1 (pc' := cond (fx_cb .eq 1 0) 115 80) (lc' := [(6, .int 95), (5, .int 1), (4, .int 98), (3, .int 94), (2, .int 18), (0, .ref 0), (1, .ref 22)]) (stk' := []) (mem' := fm g tp bt a b) (fun _ _ _ => rfl) ?_
        rw [show (fx_cb .eq 1 0) = false from by decide]
        dsimp only [cond]
        refine fe_s 2 (pc' := 83) (lc' := [(6, .int 95), (5, .int 1), (4, .int 98), (3, .int 94), (2, .int 18), (0, .ref 0), (1, .ref 22)]) (stk' := [.int 95, .ref 22]) (mem' := fm g tp bt a b) (fun _ _ _ => rfl) ?_
        refine fe_chr (i := 95) (by omega) (by rfl) (by rfl) ⟨by rfl, by rfl⟩ (by rfl) ?_
        rw [show sk_b.getD 95 0 = 104 from rfl]
        refine fe_s 7 (pc' := 96) (lc' := [(6, .int 95), (5, .int 1), (4, .int 98), (3, .int 94), (2, .int 18), (0, .ref 0), (1, .ref 22)]) (stk' := [.int (((g 13) + 95) - 94), .ref 0, .int 104]) (mem' := fm g tp bt a b) (fun _ _ _ => rfl) ?_
        try rw [h13]
        rw [show (((nI F) + 95) - 94 : Int32) = nI ((F + 95) - 94) from by simp only [show (95 : Int32) = nI 95 from rfl, show (94 : Int32) = nI 94 from rfl, tg_sub2 (x := F + 95) (y := 94) (by omega), nI_add, fm_mul]]
        refine fe_ivV (fr_byteAt (S := S) (k := (F + 95) - 94) (g := g) (tp := tp) (bt := bt) (a := a) (b := b) h11 (by omega) (by omega)) (by omega) (by rfl) (by rfl) (by rfl) (by rfl) (by rfl) (by rfl) ?_
        rcases fm_byte_or a S ((F + 95) - 94) with ⟨e7, q8⟩ | ⟨q8, n6, qn6, e7⟩
        · rw [e7]
          refine fe_s 1 (pc' := cond (fx_cb .ne 104 (-1)) 106 102) (lc' := [(6, .int 95), (5, .int 1), (4, .int 98), (3, .int 94), (2, .int 18), (0, .ref 0), (1, .ref 22)]) (stk' := []) (mem' := fm g tp bt a b) (fun _ _ _ => rfl) ?_
          rw [show (fx_cb .ne 104 (-1)) = true from by decide]
          dsimp only [cond]
          refine fe_s 6 (pc' := 72) (lc' := [(6, .int (95 + 1)), (5, .int 0), (4, .int 98), (3, .int 94), (2, .int 18), (0, .ref 0), (1, .ref 22)]) (stk' := [.int 98, .int (95 + 1)]) (mem' := fm g tp bt a b) (fun _ _ _ => rfl) ?_
          rw [show (95 + 1 : Int32) = 96 from rfl]
          refine fe_s 1 (pc' := cond (fx_cb .ge 96 98) 115 75) (lc' := [(6, .int 96), (5, .int 0), (4, .int 98), (3, .int 94), (2, .int 18), (0, .ref 0), (1, .ref 22)]) (stk' := []) (mem' := fm g tp bt a b) (fun _ _ _ => rfl) ?_
          rw [show (fx_cb .ge 96 98) = false from by decide]
          dsimp only [cond]
          refine fe_s 1 (pc' := 77) (lc' := [(6, .int 96), (5, .int 0), (4, .int 98), (3, .int 94), (2, .int 18), (0, .ref 0), (1, .ref 22)]) (stk' := [.int 0]) (mem' := fm g tp bt a b) (fun _ _ _ => rfl) ?_
          refine fe_s 1 (pc' := cond (fx_cb .eq 0 0) 115 80) (lc' := [(6, .int 96), (5, .int 0), (4, .int 98), (3, .int 94), (2, .int 18), (0, .ref 0), (1, .ref 22)]) (stk' := []) (mem' := fm g tp bt a b) (fun _ _ _ => rfl) ?_
          rw [show (fx_cb .eq 0 0) = true from by decide]
          dsimp only [cond]
          refine fe_s 1 (pc' := 117) (lc' := [(6, .int 96), (5, .int 0), (4, .int 98), (3, .int 94), (2, .int 18), (0, .ref 0), (1, .ref 22)]) (stk' := [.int 0]) (mem' := fm g tp bt a b) (fun _ _ _ => rfl) ?_
          refine fe_s 1 (pc' := cond (fx_cb .eq 0 0) 122 120) (lc' := [(6, .int 96), (5, .int 0), (4, .int 98), (3, .int 94), (2, .int 18), (0, .ref 0), (1, .ref 22)]) (stk' := []) (mem' := fm g tp bt a b) (fun _ _ _ => rfl) ?_
          rw [show (fx_cb .eq 0 0) = true from by decide]
          dsimp only [cond]
          refine fe_s 6 (pc' := 14) (lc' := [(3, .int (98 + 1)), (2, .int (18 + 1)), (6, .int 96), (5, .int 0), (4, .int 98), (0, .ref 0), (1, .ref 22)]) (stk' := []) (mem' := fm g tp bt a b) (fun _ _ _ => rfl) ?_
          rw [show (98 + 1 : Int32) = 99 from rfl]
          rw [show (18 + 1 : Int32) = 19 from rfl]
          refine fe_w (lc' := [(3, .int 99), (2, .int 19), (0, .ref 0), (1, .ref 22)]) ⟨rfl, rfl, rfl, rfl, trivial⟩ (by show List.Nodup [3, 2, 0, 1]; decide) (by show List.Nodup [3, 2, 6, 5, 4, 0, 1]; decide) ?_
          exact fw_19 hxp
        · rw [e7]
          refine fe_s 1 (pc' := cond (fx_cb .ne 104 (nI n6)) 106 102) (lc' := [(6, .int 95), (5, .int 1), (4, .int 98), (3, .int 94), (2, .int 18), (0, .ref 0), (1, .ref 22)]) (stk' := []) (mem' := fm g tp bt a b) (fun _ _ _ => rfl) ?_
          by_cases h9 : 104 = n6
          · rw [show (fx_cb .ne 104 (nI n6)) = false from cb_neF (a := 104) (b := n6) (by omega) (by omega) (by omega)]
            dsimp only [cond]
            refine fe_s 7 (pc' := 72) (lc' := [(6, .int (95 + 1)), (5, .int 1), (4, .int 98), (3, .int 94), (2, .int 18), (0, .ref 0), (1, .ref 22)]) (stk' := [.int 98, .int (95 + 1)]) (mem' := fm g tp bt a b) (fun _ _ _ => rfl) ?_
            rw [show (95 + 1 : Int32) = 96 from rfl]
            refine fe_s 1 (pc' := cond (fx_cb .ge 96 98) 115 75) (lc' := [(6, .int 96), (5, .int 1), (4, .int 98), (3, .int 94), (2, .int 18), (0, .ref 0), (1, .ref 22)]) (stk' := []) (mem' := fm g tp bt a b) (fun _ _ _ => rfl) ?_
            rw [show (fx_cb .ge 96 98) = false from by decide]
            dsimp only [cond]
            refine fe_s 1 (pc' := 77) (lc' := [(6, .int 96), (5, .int 1), (4, .int 98), (3, .int 94), (2, .int 18), (0, .ref 0), (1, .ref 22)]) (stk' := [.int 1]) (mem' := fm g tp bt a b) (fun _ _ _ => rfl) ?_
            refine fe_s 1 (pc' := cond (fx_cb .eq 1 0) 115 80) (lc' := [(6, .int 96), (5, .int 1), (4, .int 98), (3, .int 94), (2, .int 18), (0, .ref 0), (1, .ref 22)]) (stk' := []) (mem' := fm g tp bt a b) (fun _ _ _ => rfl) ?_
            rw [show (fx_cb .eq 1 0) = false from by decide]
            dsimp only [cond]
            refine fe_s 2 (pc' := 83) (lc' := [(6, .int 96), (5, .int 1), (4, .int 98), (3, .int 94), (2, .int 18), (0, .ref 0), (1, .ref 22)]) (stk' := [.int 96, .ref 22]) (mem' := fm g tp bt a b) (fun _ _ _ => rfl) ?_
            refine fe_chr (i := 96) (by omega) (by rfl) (by rfl) ⟨by rfl, by rfl⟩ (by rfl) ?_
            rw [show sk_b.getD 96 0 = 101 from rfl]
            refine fe_s 7 (pc' := 96) (lc' := [(6, .int 96), (5, .int 1), (4, .int 98), (3, .int 94), (2, .int 18), (0, .ref 0), (1, .ref 22)]) (stk' := [.int (((g 13) + 96) - 94), .ref 0, .int 101]) (mem' := fm g tp bt a b) (fun _ _ _ => rfl) ?_
            try rw [h13]
            rw [show (((nI F) + 96) - 94 : Int32) = nI ((F + 96) - 94) from by simp only [show (96 : Int32) = nI 96 from rfl, show (94 : Int32) = nI 94 from rfl, tg_sub2 (x := F + 96) (y := 94) (by omega), nI_add, fm_mul]]
            refine fe_ivV (fr_byteAt (S := S) (k := (F + 96) - 94) (g := g) (tp := tp) (bt := bt) (a := a) (b := b) h11 (by omega) (by omega)) (by omega) (by rfl) (by rfl) (by rfl) (by rfl) (by rfl) (by rfl) ?_
            rcases fm_byte_or a S ((F + 96) - 94) with ⟨e11, q12⟩ | ⟨q12, n10, qn10, e11⟩
            · rw [e11]
              refine fe_s 1 (pc' := cond (fx_cb .ne 101 (-1)) 106 102) (lc' := [(6, .int 96), (5, .int 1), (4, .int 98), (3, .int 94), (2, .int 18), (0, .ref 0), (1, .ref 22)]) (stk' := []) (mem' := fm g tp bt a b) (fun _ _ _ => rfl) ?_
              rw [show (fx_cb .ne 101 (-1)) = true from by decide]
              dsimp only [cond]
              refine fe_s 6 (pc' := 72) (lc' := [(6, .int (96 + 1)), (5, .int 0), (4, .int 98), (3, .int 94), (2, .int 18), (0, .ref 0), (1, .ref 22)]) (stk' := [.int 98, .int (96 + 1)]) (mem' := fm g tp bt a b) (fun _ _ _ => rfl) ?_
              rw [show (96 + 1 : Int32) = 97 from rfl]
              refine fe_s 1 (pc' := cond (fx_cb .ge 97 98) 115 75) (lc' := [(6, .int 97), (5, .int 0), (4, .int 98), (3, .int 94), (2, .int 18), (0, .ref 0), (1, .ref 22)]) (stk' := []) (mem' := fm g tp bt a b) (fun _ _ _ => rfl) ?_
              rw [show (fx_cb .ge 97 98) = false from by decide]
              dsimp only [cond]
              refine fe_s 1 (pc' := 77) (lc' := [(6, .int 97), (5, .int 0), (4, .int 98), (3, .int 94), (2, .int 18), (0, .ref 0), (1, .ref 22)]) (stk' := [.int 0]) (mem' := fm g tp bt a b) (fun _ _ _ => rfl) ?_
              refine fe_s 1 (pc' := cond (fx_cb .eq 0 0) 115 80) (lc' := [(6, .int 97), (5, .int 0), (4, .int 98), (3, .int 94), (2, .int 18), (0, .ref 0), (1, .ref 22)]) (stk' := []) (mem' := fm g tp bt a b) (fun _ _ _ => rfl) ?_
              rw [show (fx_cb .eq 0 0) = true from by decide]
              dsimp only [cond]
              refine fe_s 1 (pc' := 117) (lc' := [(6, .int 97), (5, .int 0), (4, .int 98), (3, .int 94), (2, .int 18), (0, .ref 0), (1, .ref 22)]) (stk' := [.int 0]) (mem' := fm g tp bt a b) (fun _ _ _ => rfl) ?_
              refine fe_s 1 (pc' := cond (fx_cb .eq 0 0) 122 120) (lc' := [(6, .int 97), (5, .int 0), (4, .int 98), (3, .int 94), (2, .int 18), (0, .ref 0), (1, .ref 22)]) (stk' := []) (mem' := fm g tp bt a b) (fun _ _ _ => rfl) ?_
              rw [show (fx_cb .eq 0 0) = true from by decide]
              dsimp only [cond]
              refine fe_s 6 (pc' := 14) (lc' := [(3, .int (98 + 1)), (2, .int (18 + 1)), (6, .int 97), (5, .int 0), (4, .int 98), (0, .ref 0), (1, .ref 22)]) (stk' := []) (mem' := fm g tp bt a b) (fun _ _ _ => rfl) ?_
              rw [show (98 + 1 : Int32) = 99 from rfl]
              rw [show (18 + 1 : Int32) = 19 from rfl]
              refine fe_w (lc' := [(3, .int 99), (2, .int 19), (0, .ref 0), (1, .ref 22)]) ⟨rfl, rfl, rfl, rfl, trivial⟩ (by show List.Nodup [3, 2, 0, 1]; decide) (by show List.Nodup [3, 2, 6, 5, 4, 0, 1]; decide) ?_
              exact fw_19 hxp
            · rw [e11]
              refine fe_s 1 (pc' := cond (fx_cb .ne 101 (nI n10)) 106 102) (lc' := [(6, .int 96), (5, .int 1), (4, .int 98), (3, .int 94), (2, .int 18), (0, .ref 0), (1, .ref 22)]) (stk' := []) (mem' := fm g tp bt a b) (fun _ _ _ => rfl) ?_
              by_cases h13 : 101 = n10
              · rw [show (fx_cb .ne 101 (nI n10)) = false from cb_neF (a := 101) (b := n10) (by omega) (by omega) (by omega)]
                dsimp only [cond]
                refine fe_s 7 (pc' := 72) (lc' := [(6, .int (96 + 1)), (5, .int 1), (4, .int 98), (3, .int 94), (2, .int 18), (0, .ref 0), (1, .ref 22)]) (stk' := [.int 98, .int (96 + 1)]) (mem' := fm g tp bt a b) (fun _ _ _ => rfl) ?_
                rw [show (96 + 1 : Int32) = 97 from rfl]
                refine fe_s 1 (pc' := cond (fx_cb .ge 97 98) 115 75) (lc' := [(6, .int 97), (5, .int 1), (4, .int 98), (3, .int 94), (2, .int 18), (0, .ref 0), (1, .ref 22)]) (stk' := []) (mem' := fm g tp bt a b) (fun _ _ _ => rfl) ?_
                rw [show (fx_cb .ge 97 98) = false from by decide]
                dsimp only [cond]
                refine fe_s 1 (pc' := 77) (lc' := [(6, .int 97), (5, .int 1), (4, .int 98), (3, .int 94), (2, .int 18), (0, .ref 0), (1, .ref 22)]) (stk' := [.int 1]) (mem' := fm g tp bt a b) (fun _ _ _ => rfl) ?_
                refine fe_s 1 (pc' := cond (fx_cb .eq 1 0) 115 80) (lc' := [(6, .int 97), (5, .int 1), (4, .int 98), (3, .int 94), (2, .int 18), (0, .ref 0), (1, .ref 22)]) (stk' := []) (mem' := fm g tp bt a b) (fun _ _ _ => rfl) ?_
                rw [show (fx_cb .eq 1 0) = false from by decide]
                dsimp only [cond]
                refine fe_s 2 (pc' := 83) (lc' := [(6, .int 97), (5, .int 1), (4, .int 98), (3, .int 94), (2, .int 18), (0, .ref 0), (1, .ref 22)]) (stk' := [.int 97, .ref 22]) (mem' := fm g tp bt a b) (fun _ _ _ => rfl) ?_
                refine fe_chr (i := 97) (by omega) (by rfl) (by rfl) ⟨by rfl, by rfl⟩ (by rfl) ?_
                rw [show sk_b.getD 97 0 = 110 from rfl]
                refine fe_s 7 (pc' := 96) (lc' := [(6, .int 97), (5, .int 1), (4, .int 98), (3, .int 94), (2, .int 18), (0, .ref 0), (1, .ref 22)]) (stk' := [.int (((g 13) + 97) - 94), .ref 0, .int 110]) (mem' := fm g tp bt a b) (fun _ _ _ => rfl) ?_
                try rw [h13]
                rw [show (((nI F) + 97) - 94 : Int32) = nI ((F + 97) - 94) from by simp only [show (97 : Int32) = nI 97 from rfl, show (94 : Int32) = nI 94 from rfl, tg_sub2 (x := F + 97) (y := 94) (by omega), nI_add, fm_mul]]
                refine fe_ivV (fr_byteAt (S := S) (k := (F + 97) - 94) (g := g) (tp := tp) (bt := bt) (a := a) (b := b) h11 (by omega) (by omega)) (by omega) (by rfl) (by rfl) (by rfl) (by rfl) (by rfl) (by rfl) ?_
                rcases fm_byte_or a S ((F + 97) - 94) with ⟨e15, q16⟩ | ⟨q16, n14, qn14, e15⟩
                · rw [e15]
                  refine fe_s 1 (pc' := cond (fx_cb .ne 110 (-1)) 106 102) (lc' := [(6, .int 97), (5, .int 1), (4, .int 98), (3, .int 94), (2, .int 18), (0, .ref 0), (1, .ref 22)]) (stk' := []) (mem' := fm g tp bt a b) (fun _ _ _ => rfl) ?_
                  rw [show (fx_cb .ne 110 (-1)) = true from by decide]
                  dsimp only [cond]
                  refine fe_s 6 (pc' := 72) (lc' := [(6, .int (97 + 1)), (5, .int 0), (4, .int 98), (3, .int 94), (2, .int 18), (0, .ref 0), (1, .ref 22)]) (stk' := [.int 98, .int (97 + 1)]) (mem' := fm g tp bt a b) (fun _ _ _ => rfl) ?_
                  rw [show (97 + 1 : Int32) = 98 from rfl]
                  refine fe_s 1 (pc' := cond (fx_cb .ge 98 98) 115 75) (lc' := [(6, .int 98), (5, .int 0), (4, .int 98), (3, .int 94), (2, .int 18), (0, .ref 0), (1, .ref 22)]) (stk' := []) (mem' := fm g tp bt a b) (fun _ _ _ => rfl) ?_
                  rw [show (fx_cb .ge 98 98) = true from by decide]
                  dsimp only [cond]
                  refine fe_s 1 (pc' := 117) (lc' := [(6, .int 98), (5, .int 0), (4, .int 98), (3, .int 94), (2, .int 18), (0, .ref 0), (1, .ref 22)]) (stk' := [.int 0]) (mem' := fm g tp bt a b) (fun _ _ _ => rfl) ?_
                  refine fe_s 1 (pc' := cond (fx_cb .eq 0 0) 122 120) (lc' := [(6, .int 98), (5, .int 0), (4, .int 98), (3, .int 94), (2, .int 18), (0, .ref 0), (1, .ref 22)]) (stk' := []) (mem' := fm g tp bt a b) (fun _ _ _ => rfl) ?_
                  rw [show (fx_cb .eq 0 0) = true from by decide]
                  dsimp only [cond]
                  refine fe_s 6 (pc' := 14) (lc' := [(3, .int (98 + 1)), (2, .int (18 + 1)), (6, .int 98), (5, .int 0), (4, .int 98), (0, .ref 0), (1, .ref 22)]) (stk' := []) (mem' := fm g tp bt a b) (fun _ _ _ => rfl) ?_
                  rw [show (98 + 1 : Int32) = 99 from rfl]
                  rw [show (18 + 1 : Int32) = 19 from rfl]
                  refine fe_w (lc' := [(3, .int 99), (2, .int 19), (0, .ref 0), (1, .ref 22)]) ⟨rfl, rfl, rfl, rfl, trivial⟩ (by show List.Nodup [3, 2, 0, 1]; decide) (by show List.Nodup [3, 2, 6, 5, 4, 0, 1]; decide) ?_
                  exact fw_19 hxp
                · rw [e15]
                  refine fe_s 1 (pc' := cond (fx_cb .ne 110 (nI n14)) 106 102) (lc' := [(6, .int 97), (5, .int 1), (4, .int 98), (3, .int 94), (2, .int 18), (0, .ref 0), (1, .ref 22)]) (stk' := []) (mem' := fm g tp bt a b) (fun _ _ _ => rfl) ?_
                  by_cases h17 : 110 = n14
                  · rw [show (fx_cb .ne 110 (nI n14)) = false from cb_neF (a := 110) (b := n14) (by omega) (by omega) (by omega)]
                    dsimp only [cond]
                    refine fe_s 7 (pc' := 72) (lc' := [(6, .int (97 + 1)), (5, .int 1), (4, .int 98), (3, .int 94), (2, .int 18), (0, .ref 0), (1, .ref 22)]) (stk' := [.int 98, .int (97 + 1)]) (mem' := fm g tp bt a b) (fun _ _ _ => rfl) ?_
                    rw [show (97 + 1 : Int32) = 98 from rfl]
                    refine fe_s 1 (pc' := cond (fx_cb .ge 98 98) 115 75) (lc' := [(6, .int 98), (5, .int 1), (4, .int 98), (3, .int 94), (2, .int 18), (0, .ref 0), (1, .ref 22)]) (stk' := []) (mem' := fm g tp bt a b) (fun _ _ _ => rfl) ?_
                    rw [show (fx_cb .ge 98 98) = true from by decide]
                    dsimp only [cond]
                    refine fe_s 1 (pc' := 117) (lc' := [(6, .int 98), (5, .int 1), (4, .int 98), (3, .int 94), (2, .int 18), (0, .ref 0), (1, .ref 22)]) (stk' := [.int 1]) (mem' := fm g tp bt a b) (fun _ _ _ => rfl) ?_
                    refine fe_s 1 (pc' := cond (fx_cb .eq 1 0) 122 120) (lc' := [(6, .int 98), (5, .int 1), (4, .int 98), (3, .int 94), (2, .int 18), (0, .ref 0), (1, .ref 22)]) (stk' := []) (mem' := fm g tp bt a b) (fun _ _ _ => rfl) ?_
                    rw [show (fx_cb .eq 1 0) = false from by decide]
                    dsimp only [cond]
                    refine fe_s 1 (pc' := 121) (lc' := [(6, .int 98), (5, .int 1), (4, .int 98), (3, .int 94), (2, .int 18), (0, .ref 0), (1, .ref 22)]) (stk' := [.int 18]) (mem' := fm g tp bt a b) (fun _ _ _ => rfl) ?_
                    exact fe_ret ⟨_, Or.inr ⟨18, by omega, rfl⟩, rfl⟩ (by rfl) (by rfl) (by rfl)
                  · rw [show (fx_cb .ne 110 (nI n14)) = true from cb_neT (a := 110) (b := n14) (by omega) (by omega) (by omega)]
                    dsimp only [cond]
                    refine fe_s 6 (pc' := 72) (lc' := [(6, .int (97 + 1)), (5, .int 0), (4, .int 98), (3, .int 94), (2, .int 18), (0, .ref 0), (1, .ref 22)]) (stk' := [.int 98, .int (97 + 1)]) (mem' := fm g tp bt a b) (fun _ _ _ => rfl) ?_
                    rw [show (97 + 1 : Int32) = 98 from rfl]
                    refine fe_s 1 (pc' := cond (fx_cb .ge 98 98) 115 75) (lc' := [(6, .int 98), (5, .int 0), (4, .int 98), (3, .int 94), (2, .int 18), (0, .ref 0), (1, .ref 22)]) (stk' := []) (mem' := fm g tp bt a b) (fun _ _ _ => rfl) ?_
                    rw [show (fx_cb .ge 98 98) = true from by decide]
                    dsimp only [cond]
                    refine fe_s 1 (pc' := 117) (lc' := [(6, .int 98), (5, .int 0), (4, .int 98), (3, .int 94), (2, .int 18), (0, .ref 0), (1, .ref 22)]) (stk' := [.int 0]) (mem' := fm g tp bt a b) (fun _ _ _ => rfl) ?_
                    refine fe_s 1 (pc' := cond (fx_cb .eq 0 0) 122 120) (lc' := [(6, .int 98), (5, .int 0), (4, .int 98), (3, .int 94), (2, .int 18), (0, .ref 0), (1, .ref 22)]) (stk' := []) (mem' := fm g tp bt a b) (fun _ _ _ => rfl) ?_
                    rw [show (fx_cb .eq 0 0) = true from by decide]
                    dsimp only [cond]
                    refine fe_s 6 (pc' := 14) (lc' := [(3, .int (98 + 1)), (2, .int (18 + 1)), (6, .int 98), (5, .int 0), (4, .int 98), (0, .ref 0), (1, .ref 22)]) (stk' := []) (mem' := fm g tp bt a b) (fun _ _ _ => rfl) ?_
                    rw [show (98 + 1 : Int32) = 99 from rfl]
                    rw [show (18 + 1 : Int32) = 19 from rfl]
                    refine fe_w (lc' := [(3, .int 99), (2, .int 19), (0, .ref 0), (1, .ref 22)]) ⟨rfl, rfl, rfl, rfl, trivial⟩ (by show List.Nodup [3, 2, 0, 1]; decide) (by show List.Nodup [3, 2, 6, 5, 4, 0, 1]; decide) ?_
                    exact fw_19 hxp
              · rw [show (fx_cb .ne 101 (nI n10)) = true from cb_neT (a := 101) (b := n10) (by omega) (by omega) (by omega)]
                dsimp only [cond]
                refine fe_s 6 (pc' := 72) (lc' := [(6, .int (96 + 1)), (5, .int 0), (4, .int 98), (3, .int 94), (2, .int 18), (0, .ref 0), (1, .ref 22)]) (stk' := [.int 98, .int (96 + 1)]) (mem' := fm g tp bt a b) (fun _ _ _ => rfl) ?_
                rw [show (96 + 1 : Int32) = 97 from rfl]
                refine fe_s 1 (pc' := cond (fx_cb .ge 97 98) 115 75) (lc' := [(6, .int 97), (5, .int 0), (4, .int 98), (3, .int 94), (2, .int 18), (0, .ref 0), (1, .ref 22)]) (stk' := []) (mem' := fm g tp bt a b) (fun _ _ _ => rfl) ?_
                rw [show (fx_cb .ge 97 98) = false from by decide]
                dsimp only [cond]
                refine fe_s 1 (pc' := 77) (lc' := [(6, .int 97), (5, .int 0), (4, .int 98), (3, .int 94), (2, .int 18), (0, .ref 0), (1, .ref 22)]) (stk' := [.int 0]) (mem' := fm g tp bt a b) (fun _ _ _ => rfl) ?_
                refine fe_s 1 (pc' := cond (fx_cb .eq 0 0) 115 80) (lc' := [(6, .int 97), (5, .int 0), (4, .int 98), (3, .int 94), (2, .int 18), (0, .ref 0), (1, .ref 22)]) (stk' := []) (mem' := fm g tp bt a b) (fun _ _ _ => rfl) ?_
                rw [show (fx_cb .eq 0 0) = true from by decide]
                dsimp only [cond]
                refine fe_s 1 (pc' := 117) (lc' := [(6, .int 97), (5, .int 0), (4, .int 98), (3, .int 94), (2, .int 18), (0, .ref 0), (1, .ref 22)]) (stk' := [.int 0]) (mem' := fm g tp bt a b) (fun _ _ _ => rfl) ?_
                refine fe_s 1 (pc' := cond (fx_cb .eq 0 0) 122 120) (lc' := [(6, .int 97), (5, .int 0), (4, .int 98), (3, .int 94), (2, .int 18), (0, .ref 0), (1, .ref 22)]) (stk' := []) (mem' := fm g tp bt a b) (fun _ _ _ => rfl) ?_
                rw [show (fx_cb .eq 0 0) = true from by decide]
                dsimp only [cond]
                refine fe_s 6 (pc' := 14) (lc' := [(3, .int (98 + 1)), (2, .int (18 + 1)), (6, .int 97), (5, .int 0), (4, .int 98), (0, .ref 0), (1, .ref 22)]) (stk' := []) (mem' := fm g tp bt a b) (fun _ _ _ => rfl) ?_
                rw [show (98 + 1 : Int32) = 99 from rfl]
                rw [show (18 + 1 : Int32) = 19 from rfl]
                refine fe_w (lc' := [(3, .int 99), (2, .int 19), (0, .ref 0), (1, .ref 22)]) ⟨rfl, rfl, rfl, rfl, trivial⟩ (by show List.Nodup [3, 2, 0, 1]; decide) (by show List.Nodup [3, 2, 6, 5, 4, 0, 1]; decide) ?_
                exact fw_19 hxp
          · rw [show (fx_cb .ne 104 (nI n6)) = true from cb_neT (a := 104) (b := n6) (by omega) (by omega) (by omega)]
            dsimp only [cond]
            refine fe_s 6 (pc' := 72) (lc' := [(6, .int (95 + 1)), (5, .int 0), (4, .int 98), (3, .int 94), (2, .int 18), (0, .ref 0), (1, .ref 22)]) (stk' := [.int 98, .int (95 + 1)]) (mem' := fm g tp bt a b) (fun _ _ _ => rfl) ?_
            rw [show (95 + 1 : Int32) = 96 from rfl]
            refine fe_s 1 (pc' := cond (fx_cb .ge 96 98) 115 75) (lc' := [(6, .int 96), (5, .int 0), (4, .int 98), (3, .int 94), (2, .int 18), (0, .ref 0), (1, .ref 22)]) (stk' := []) (mem' := fm g tp bt a b) (fun _ _ _ => rfl) ?_
            rw [show (fx_cb .ge 96 98) = false from by decide]
            dsimp only [cond]
            refine fe_s 1 (pc' := 77) (lc' := [(6, .int 96), (5, .int 0), (4, .int 98), (3, .int 94), (2, .int 18), (0, .ref 0), (1, .ref 22)]) (stk' := [.int 0]) (mem' := fm g tp bt a b) (fun _ _ _ => rfl) ?_
            refine fe_s 1 (pc' := cond (fx_cb .eq 0 0) 115 80) (lc' := [(6, .int 96), (5, .int 0), (4, .int 98), (3, .int 94), (2, .int 18), (0, .ref 0), (1, .ref 22)]) (stk' := []) (mem' := fm g tp bt a b) (fun _ _ _ => rfl) ?_
            rw [show (fx_cb .eq 0 0) = true from by decide]
            dsimp only [cond]
            refine fe_s 1 (pc' := 117) (lc' := [(6, .int 96), (5, .int 0), (4, .int 98), (3, .int 94), (2, .int 18), (0, .ref 0), (1, .ref 22)]) (stk' := [.int 0]) (mem' := fm g tp bt a b) (fun _ _ _ => rfl) ?_
            refine fe_s 1 (pc' := cond (fx_cb .eq 0 0) 122 120) (lc' := [(6, .int 96), (5, .int 0), (4, .int 98), (3, .int 94), (2, .int 18), (0, .ref 0), (1, .ref 22)]) (stk' := []) (mem' := fm g tp bt a b) (fun _ _ _ => rfl) ?_
            rw [show (fx_cb .eq 0 0) = true from by decide]
            dsimp only [cond]
            refine fe_s 6 (pc' := 14) (lc' := [(3, .int (98 + 1)), (2, .int (18 + 1)), (6, .int 96), (5, .int 0), (4, .int 98), (0, .ref 0), (1, .ref 22)]) (stk' := []) (mem' := fm g tp bt a b) (fun _ _ _ => rfl) ?_
            rw [show (98 + 1 : Int32) = 99 from rfl]
            rw [show (18 + 1 : Int32) = 19 from rfl]
            refine fe_w (lc' := [(3, .int 99), (2, .int 19), (0, .ref 0), (1, .ref 22)]) ⟨rfl, rfl, rfl, rfl, trivial⟩ (by show List.Nodup [3, 2, 0, 1]; decide) (by show List.Nodup [3, 2, 6, 5, 4, 0, 1]; decide) ?_
            exact fw_19 hxp
      · rw [show (fx_cb .ne 119 (nI n2)) = true from cb_neT (a := 119) (b := n2) (by omega) (by omega) (by omega)]
        dsimp only [cond]
        refine fe_s 6 (pc' := 72) (lc' := [(6, .int (94 + 1)), (5, .int 0), (4, .int 98), (3, .int 94), (2, .int 18), (0, .ref 0), (1, .ref 22)]) (stk' := [.int 98, .int (94 + 1)]) (mem' := fm g tp bt a b) (fun _ _ _ => rfl) ?_
        rw [show (94 + 1 : Int32) = 95 from rfl]
        refine fe_s 1 (pc' := cond (fx_cb .ge 95 98) 115 75) (lc' := [(6, .int 95), (5, .int 0), (4, .int 98), (3, .int 94), (2, .int 18), (0, .ref 0), (1, .ref 22)]) (stk' := []) (mem' := fm g tp bt a b) (fun _ _ _ => rfl) ?_
        rw [show (fx_cb .ge 95 98) = false from by decide]
        dsimp only [cond]
        refine fe_s 1 (pc' := 77) (lc' := [(6, .int 95), (5, .int 0), (4, .int 98), (3, .int 94), (2, .int 18), (0, .ref 0), (1, .ref 22)]) (stk' := [.int 0]) (mem' := fm g tp bt a b) (fun _ _ _ => rfl) ?_
        refine fe_s 1 (pc' := cond (fx_cb .eq 0 0) 115 80) (lc' := [(6, .int 95), (5, .int 0), (4, .int 98), (3, .int 94), (2, .int 18), (0, .ref 0), (1, .ref 22)]) (stk' := []) (mem' := fm g tp bt a b) (fun _ _ _ => rfl) ?_
        rw [show (fx_cb .eq 0 0) = true from by decide]
        dsimp only [cond]
        refine fe_s 1 (pc' := 117) (lc' := [(6, .int 95), (5, .int 0), (4, .int 98), (3, .int 94), (2, .int 18), (0, .ref 0), (1, .ref 22)]) (stk' := [.int 0]) (mem' := fm g tp bt a b) (fun _ _ _ => rfl) ?_
        refine fe_s 1 (pc' := cond (fx_cb .eq 0 0) 122 120) (lc' := [(6, .int 95), (5, .int 0), (4, .int 98), (3, .int 94), (2, .int 18), (0, .ref 0), (1, .ref 22)]) (stk' := []) (mem' := fm g tp bt a b) (fun _ _ _ => rfl) ?_
        rw [show (fx_cb .eq 0 0) = true from by decide]
        dsimp only [cond]
        refine fe_s 6 (pc' := 14) (lc' := [(3, .int (98 + 1)), (2, .int (18 + 1)), (6, .int 95), (5, .int 0), (4, .int 98), (0, .ref 0), (1, .ref 22)]) (stk' := []) (mem' := fm g tp bt a b) (fun _ _ _ => rfl) ?_
        rw [show (98 + 1 : Int32) = 99 from rfl]
        rw [show (18 + 1 : Int32) = 19 from rfl]
        refine fe_w (lc' := [(3, .int 99), (2, .int 19), (0, .ref 0), (1, .ref 22)]) ⟨rfl, rfl, rfl, rfl, trivial⟩ (by show List.Nodup [3, 2, 0, 1]; decide) (by show List.Nodup [3, 2, 6, 5, 4, 0, 1]; decide) ?_
        exact fw_19 hxp
  · rw [show (fx_cb .ne 4 (nI (E - F))) = true from cb_neT (a := 4) (b := E - F) (by omega) (by omega) (by omega)]
    dsimp only [cond]
    refine fe_s 6 (pc' := 72) (lc' := [(6, .int 94), (5, .int 0), (4, .int 98), (3, .int 94), (2, .int 18), (0, .ref 0), (1, .ref 22)]) (stk' := [.int 98, .int 94]) (mem' := fm g tp bt a b) (fun _ _ _ => rfl) ?_
    refine fe_s 1 (pc' := cond (fx_cb .ge 94 98) 115 75) (lc' := [(6, .int 94), (5, .int 0), (4, .int 98), (3, .int 94), (2, .int 18), (0, .ref 0), (1, .ref 22)]) (stk' := []) (mem' := fm g tp bt a b) (fun _ _ _ => rfl) ?_
    rw [show (fx_cb .ge 94 98) = false from by decide]
    dsimp only [cond]
    refine fe_s 1 (pc' := 77) (lc' := [(6, .int 94), (5, .int 0), (4, .int 98), (3, .int 94), (2, .int 18), (0, .ref 0), (1, .ref 22)]) (stk' := [.int 0]) (mem' := fm g tp bt a b) (fun _ _ _ => rfl) ?_
    refine fe_s 1 (pc' := cond (fx_cb .eq 0 0) 115 80) (lc' := [(6, .int 94), (5, .int 0), (4, .int 98), (3, .int 94), (2, .int 18), (0, .ref 0), (1, .ref 22)]) (stk' := []) (mem' := fm g tp bt a b) (fun _ _ _ => rfl) ?_
    rw [show (fx_cb .eq 0 0) = true from by decide]
    dsimp only [cond]
    refine fe_s 1 (pc' := 117) (lc' := [(6, .int 94), (5, .int 0), (4, .int 98), (3, .int 94), (2, .int 18), (0, .ref 0), (1, .ref 22)]) (stk' := [.int 0]) (mem' := fm g tp bt a b) (fun _ _ _ => rfl) ?_
    refine fe_s 1 (pc' := cond (fx_cb .eq 0 0) 122 120) (lc' := [(6, .int 94), (5, .int 0), (4, .int 98), (3, .int 94), (2, .int 18), (0, .ref 0), (1, .ref 22)]) (stk' := []) (mem' := fm g tp bt a b) (fun _ _ _ => rfl) ?_
    rw [show (fx_cb .eq 0 0) = true from by decide]
    dsimp only [cond]
    refine fe_s 6 (pc' := 14) (lc' := [(3, .int (98 + 1)), (2, .int (18 + 1)), (6, .int 94), (5, .int 0), (4, .int 98), (0, .ref 0), (1, .ref 22)]) (stk' := []) (mem' := fm g tp bt a b) (fun _ _ _ => rfl) ?_
    rw [show (98 + 1 : Int32) = 99 from rfl]
    rw [show (18 + 1 : Int32) = 19 from rfl]
    refine fe_w (lc' := [(3, .int 99), (2, .int 19), (0, .ref 0), (1, .ref 22)]) ⟨rfl, rfl, rfl, rfl, trivial⟩ (by show List.Nodup [3, 2, 0, 1]; decide) (by show List.Nodup [3, 2, 6, 5, 4, 0, 1]; decide) ?_
    exact fw_19 hxp
theorem fw_17 {S E F : Nat} (hxp : fm_xp g S E F) : fe_R 1 gk_m226 14 [(3, .int 91), (2, .int 17), (0, .ref 0), (1, .ref 22)] [] (fm g tp bt a b) (fm_FI (fm g tp bt a b)) := by
  obtain ⟨h11, hS9, h14, hES, h13, hFE, -, -, -⟩ := id hxp
  refine fe_s 2 (pc' := 16) (lc' := [(3, .int 91), (2, .int 17), (0, .ref 0), (1, .ref 22)]) (stk' := [.ref 22, .int 91]) (mem' := fm g tp bt a b) (fun _ _ _ => rfl) ?_
  refine fe_s 1 (pc' := 19) (lc' := [(3, .int 91), (2, .int 17), (0, .ref 0), (1, .ref 22)]) (stk' := [.int 117, .int 91]) (mem' := fm g tp bt a b) (fun _ _ _ => rfl) ?_
  refine fe_s 1 (pc' := cond (fx_cb .ge 91 117) 133 22) (lc' := [(3, .int 91), (2, .int 17), (0, .ref 0), (1, .ref 22)]) (stk' := []) (mem' := fm g tp bt a b) (fun _ _ _ => rfl) ?_
  rw [show (fx_cb .ge 91 117) = false from by decide]
  dsimp only [cond]
  refine fe_s 4 (pc' := 28) (lc' := [(4, .int 91), (3, .int 91), (2, .int 17), (0, .ref 0), (1, .ref 22)]) (stk' := [.int 91, .ref 22]) (mem' := fm g tp bt a b) (fun _ _ _ => rfl) ?_
  refine fe_chr (i := 91) (by omega) (by rfl) (by rfl) ⟨by rfl, by rfl⟩ (by rfl) ?_
  rw [show sk_b.getD 91 0 = 105 from rfl]
  refine fe_s 1 (pc' := 33) (lc' := [(4, .int 91), (3, .int 91), (2, .int 17), (0, .ref 0), (1, .ref 22)]) (stk' := [.int 32, .int 105]) (mem' := fm g tp bt a b) (fun _ _ _ => rfl) ?_
  refine fe_s 1 (pc' := cond (fx_cb .eq 105 32) 42 36) (lc' := [(4, .int 91), (3, .int 91), (2, .int 17), (0, .ref 0), (1, .ref 22)]) (stk' := []) (mem' := fm g tp bt a b) (fun _ _ _ => rfl) ?_
  rw [show (fx_cb .eq 105 32) = false from by decide]
  dsimp only [cond]
  refine fe_s 4 (pc' := 28) (lc' := [(4, .int (91 + 1)), (3, .int 91), (2, .int 17), (0, .ref 0), (1, .ref 22)]) (stk' := [.int (91 + 1), .ref 22]) (mem' := fm g tp bt a b) (fun _ _ _ => rfl) ?_
  rw [show (91 + 1 : Int32) = 92 from rfl]
  refine fe_chr (i := 92) (by omega) (by rfl) (by rfl) ⟨by rfl, by rfl⟩ (by rfl) ?_
  rw [show sk_b.getD 92 0 = 110 from rfl]
  refine fe_s 1 (pc' := 33) (lc' := [(4, .int 92), (3, .int 91), (2, .int 17), (0, .ref 0), (1, .ref 22)]) (stk' := [.int 32, .int 110]) (mem' := fm g tp bt a b) (fun _ _ _ => rfl) ?_
  refine fe_s 1 (pc' := cond (fx_cb .eq 110 32) 42 36) (lc' := [(4, .int 92), (3, .int 91), (2, .int 17), (0, .ref 0), (1, .ref 22)]) (stk' := []) (mem' := fm g tp bt a b) (fun _ _ _ => rfl) ?_
  rw [show (fx_cb .eq 110 32) = false from by decide]
  dsimp only [cond]
  refine fe_s 4 (pc' := 28) (lc' := [(4, .int (92 + 1)), (3, .int 91), (2, .int 17), (0, .ref 0), (1, .ref 22)]) (stk' := [.int (92 + 1), .ref 22]) (mem' := fm g tp bt a b) (fun _ _ _ => rfl) ?_
  rw [show (92 + 1 : Int32) = 93 from rfl]
  refine fe_chr (i := 93) (by omega) (by rfl) (by rfl) ⟨by rfl, by rfl⟩ (by rfl) ?_
  rw [show sk_b.getD 93 0 = 32 from rfl]
  refine fe_s 1 (pc' := 33) (lc' := [(4, .int 93), (3, .int 91), (2, .int 17), (0, .ref 0), (1, .ref 22)]) (stk' := [.int 32, .int 32]) (mem' := fm g tp bt a b) (fun _ _ _ => rfl) ?_
  refine fe_s 1 (pc' := cond (fx_cb .eq 32 32) 42 36) (lc' := [(4, .int 93), (3, .int 91), (2, .int 17), (0, .ref 0), (1, .ref 22)]) (stk' := []) (mem' := fm g tp bt a b) (fun _ _ _ => rfl) ?_
  rw [show (fx_cb .eq 32 32) = true from by decide]
  dsimp only [cond]
  refine fe_s 8 (pc' := 55) (lc' := [(4, .int 93), (3, .int 91), (2, .int 17), (0, .ref 0), (1, .ref 22)]) (stk' := [.int ((g 14) - (g 13)), .int (93 - 91)]) (mem' := fm g tp bt a b) (fun _ _ _ => rfl) ?_
  try rw [h14]
  try rw [h13]
  rw [show (93 - 91 : Int32) = 2 from rfl]
  rw [show ((nI E) - (nI F) : Int32) = nI (E - F) from by simp only [tg_sub2 (x := E) (y := F) (by omega), nI_add, fm_mul]]
  refine fe_s 1 (pc' := cond (fx_cb .ne 2 (nI (E - F))) 62 58) (lc' := [(4, .int 93), (3, .int 91), (2, .int 17), (0, .ref 0), (1, .ref 22)]) (stk' := []) (mem' := fm g tp bt a b) (fun _ _ _ => rfl) ?_
  by_cases h1 : 2 = (E - F)
  · rw [show (fx_cb .ne 2 (nI (E - F))) = false from cb_neF (a := 2) (b := E - F) (by omega) (by omega) (by omega)]
    dsimp only [cond]
    refine fe_s 7 (pc' := 72) (lc' := [(6, .int 91), (5, .int 1), (4, .int 93), (3, .int 91), (2, .int 17), (0, .ref 0), (1, .ref 22)]) (stk' := [.int 93, .int 91]) (mem' := fm g tp bt a b) (fun _ _ _ => rfl) ?_
    refine fe_s 1 (pc' := cond (fx_cb .ge 91 93) 115 75) (lc' := [(6, .int 91), (5, .int 1), (4, .int 93), (3, .int 91), (2, .int 17), (0, .ref 0), (1, .ref 22)]) (stk' := []) (mem' := fm g tp bt a b) (fun _ _ _ => rfl) ?_
    rw [show (fx_cb .ge 91 93) = false from by decide]
    dsimp only [cond]
    refine fe_s 1 (pc' := 77) (lc' := [(6, .int 91), (5, .int 1), (4, .int 93), (3, .int 91), (2, .int 17), (0, .ref 0), (1, .ref 22)]) (stk' := [.int 1]) (mem' := fm g tp bt a b) (fun _ _ _ => rfl) ?_
    refine fe_s 1 (pc' := cond (fx_cb .eq 1 0) 115 80) (lc' := [(6, .int 91), (5, .int 1), (4, .int 93), (3, .int 91), (2, .int 17), (0, .ref 0), (1, .ref 22)]) (stk' := []) (mem' := fm g tp bt a b) (fun _ _ _ => rfl) ?_
    rw [show (fx_cb .eq 1 0) = false from by decide]
    dsimp only [cond]
    refine fe_s 2 (pc' := 83) (lc' := [(6, .int 91), (5, .int 1), (4, .int 93), (3, .int 91), (2, .int 17), (0, .ref 0), (1, .ref 22)]) (stk' := [.int 91, .ref 22]) (mem' := fm g tp bt a b) (fun _ _ _ => rfl) ?_
    refine fe_chr (i := 91) (by omega) (by rfl) (by rfl) ⟨by rfl, by rfl⟩ (by rfl) ?_
    rw [show sk_b.getD 91 0 = 105 from rfl]
    refine fe_s 7 (pc' := 96) (lc' := [(6, .int 91), (5, .int 1), (4, .int 93), (3, .int 91), (2, .int 17), (0, .ref 0), (1, .ref 22)]) (stk' := [.int (((g 13) + 91) - 91), .ref 0, .int 105]) (mem' := fm g tp bt a b) (fun _ _ _ => rfl) ?_
    try rw [h13]
    rw [show (((nI F) + 91) - 91 : Int32) = nI ((F + 91) - 91) from by simp only [show (91 : Int32) = nI 91 from rfl, tg_sub2 (x := F + 91) (y := 91) (by omega), nI_add, fm_mul]]
    refine fe_ivV (fr_byteAt (S := S) (k := (F + 91) - 91) (g := g) (tp := tp) (bt := bt) (a := a) (b := b) h11 (by omega) (by omega)) (by omega) (by rfl) (by rfl) (by rfl) (by rfl) (by rfl) (by rfl) ?_
    rcases fm_byte_or a S ((F + 91) - 91) with ⟨e3, q4⟩ | ⟨q4, n2, qn2, e3⟩
    · rw [e3]
      refine fe_s 1 (pc' := cond (fx_cb .ne 105 (-1)) 106 102) (lc' := [(6, .int 91), (5, .int 1), (4, .int 93), (3, .int 91), (2, .int 17), (0, .ref 0), (1, .ref 22)]) (stk' := []) (mem' := fm g tp bt a b) (fun _ _ _ => rfl) ?_
      rw [show (fx_cb .ne 105 (-1)) = true from by decide]
      dsimp only [cond]
      refine fe_s 6 (pc' := 72) (lc' := [(6, .int (91 + 1)), (5, .int 0), (4, .int 93), (3, .int 91), (2, .int 17), (0, .ref 0), (1, .ref 22)]) (stk' := [.int 93, .int (91 + 1)]) (mem' := fm g tp bt a b) (fun _ _ _ => rfl) ?_
      rw [show (91 + 1 : Int32) = 92 from rfl]
      refine fe_s 1 (pc' := cond (fx_cb .ge 92 93) 115 75) (lc' := [(6, .int 92), (5, .int 0), (4, .int 93), (3, .int 91), (2, .int 17), (0, .ref 0), (1, .ref 22)]) (stk' := []) (mem' := fm g tp bt a b) (fun _ _ _ => rfl) ?_
      rw [show (fx_cb .ge 92 93) = false from by decide]
      dsimp only [cond]
      refine fe_s 1 (pc' := 77) (lc' := [(6, .int 92), (5, .int 0), (4, .int 93), (3, .int 91), (2, .int 17), (0, .ref 0), (1, .ref 22)]) (stk' := [.int 0]) (mem' := fm g tp bt a b) (fun _ _ _ => rfl) ?_
      refine fe_s 1 (pc' := cond (fx_cb .eq 0 0) 115 80) (lc' := [(6, .int 92), (5, .int 0), (4, .int 93), (3, .int 91), (2, .int 17), (0, .ref 0), (1, .ref 22)]) (stk' := []) (mem' := fm g tp bt a b) (fun _ _ _ => rfl) ?_
      rw [show (fx_cb .eq 0 0) = true from by decide]
      dsimp only [cond]
      refine fe_s 1 (pc' := 117) (lc' := [(6, .int 92), (5, .int 0), (4, .int 93), (3, .int 91), (2, .int 17), (0, .ref 0), (1, .ref 22)]) (stk' := [.int 0]) (mem' := fm g tp bt a b) (fun _ _ _ => rfl) ?_
      refine fe_s 1 (pc' := cond (fx_cb .eq 0 0) 122 120) (lc' := [(6, .int 92), (5, .int 0), (4, .int 93), (3, .int 91), (2, .int 17), (0, .ref 0), (1, .ref 22)]) (stk' := []) (mem' := fm g tp bt a b) (fun _ _ _ => rfl) ?_
      rw [show (fx_cb .eq 0 0) = true from by decide]
      dsimp only [cond]
      refine fe_s 6 (pc' := 14) (lc' := [(3, .int (93 + 1)), (2, .int (17 + 1)), (6, .int 92), (5, .int 0), (4, .int 93), (0, .ref 0), (1, .ref 22)]) (stk' := []) (mem' := fm g tp bt a b) (fun _ _ _ => rfl) ?_
      rw [show (93 + 1 : Int32) = 94 from rfl]
      rw [show (17 + 1 : Int32) = 18 from rfl]
      refine fe_w (lc' := [(3, .int 94), (2, .int 18), (0, .ref 0), (1, .ref 22)]) ⟨rfl, rfl, rfl, rfl, trivial⟩ (by show List.Nodup [3, 2, 0, 1]; decide) (by show List.Nodup [3, 2, 6, 5, 4, 0, 1]; decide) ?_
      exact fw_18 hxp
    · rw [e3]
      refine fe_s 1 (pc' := cond (fx_cb .ne 105 (nI n2)) 106 102) (lc' := [(6, .int 91), (5, .int 1), (4, .int 93), (3, .int 91), (2, .int 17), (0, .ref 0), (1, .ref 22)]) (stk' := []) (mem' := fm g tp bt a b) (fun _ _ _ => rfl) ?_
      by_cases h5 : 105 = n2
      · rw [show (fx_cb .ne 105 (nI n2)) = false from cb_neF (a := 105) (b := n2) (by omega) (by omega) (by omega)]
        dsimp only [cond]
        refine fe_s 7 (pc' := 72) (lc' := [(6, .int (91 + 1)), (5, .int 1), (4, .int 93), (3, .int 91), (2, .int 17), (0, .ref 0), (1, .ref 22)]) (stk' := [.int 93, .int (91 + 1)]) (mem' := fm g tp bt a b) (fun _ _ _ => rfl) ?_
        rw [show (91 + 1 : Int32) = 92 from rfl]
        refine fe_s 1 (pc' := cond (fx_cb .ge 92 93) 115 75) (lc' := [(6, .int 92), (5, .int 1), (4, .int 93), (3, .int 91), (2, .int 17), (0, .ref 0), (1, .ref 22)]) (stk' := []) (mem' := fm g tp bt a b) (fun _ _ _ => rfl) ?_
        rw [show (fx_cb .ge 92 93) = false from by decide]
        dsimp only [cond]
        refine fe_s 1 (pc' := 77) (lc' := [(6, .int 92), (5, .int 1), (4, .int 93), (3, .int 91), (2, .int 17), (0, .ref 0), (1, .ref 22)]) (stk' := [.int 1]) (mem' := fm g tp bt a b) (fun _ _ _ => rfl) ?_
        refine fe_s 1 (pc' := cond (fx_cb .eq 1 0) 115 80) (lc' := [(6, .int 92), (5, .int 1), (4, .int 93), (3, .int 91), (2, .int 17), (0, .ref 0), (1, .ref 22)]) (stk' := []) (mem' := fm g tp bt a b) (fun _ _ _ => rfl) ?_
        rw [show (fx_cb .eq 1 0) = false from by decide]
        dsimp only [cond]
        refine fe_s 2 (pc' := 83) (lc' := [(6, .int 92), (5, .int 1), (4, .int 93), (3, .int 91), (2, .int 17), (0, .ref 0), (1, .ref 22)]) (stk' := [.int 92, .ref 22]) (mem' := fm g tp bt a b) (fun _ _ _ => rfl) ?_
        refine fe_chr (i := 92) (by omega) (by rfl) (by rfl) ⟨by rfl, by rfl⟩ (by rfl) ?_
        rw [show sk_b.getD 92 0 = 110 from rfl]
        refine fe_s 7 (pc' := 96) (lc' := [(6, .int 92), (5, .int 1), (4, .int 93), (3, .int 91), (2, .int 17), (0, .ref 0), (1, .ref 22)]) (stk' := [.int (((g 13) + 92) - 91), .ref 0, .int 110]) (mem' := fm g tp bt a b) (fun _ _ _ => rfl) ?_
        try rw [h13]
        rw [show (((nI F) + 92) - 91 : Int32) = nI ((F + 92) - 91) from by simp only [show (92 : Int32) = nI 92 from rfl, show (91 : Int32) = nI 91 from rfl, tg_sub2 (x := F + 92) (y := 91) (by omega), nI_add, fm_mul]]
        refine fe_ivV (fr_byteAt (S := S) (k := (F + 92) - 91) (g := g) (tp := tp) (bt := bt) (a := a) (b := b) h11 (by omega) (by omega)) (by omega) (by rfl) (by rfl) (by rfl) (by rfl) (by rfl) (by rfl) ?_
        rcases fm_byte_or a S ((F + 92) - 91) with ⟨e7, q8⟩ | ⟨q8, n6, qn6, e7⟩
        · rw [e7]
          refine fe_s 1 (pc' := cond (fx_cb .ne 110 (-1)) 106 102) (lc' := [(6, .int 92), (5, .int 1), (4, .int 93), (3, .int 91), (2, .int 17), (0, .ref 0), (1, .ref 22)]) (stk' := []) (mem' := fm g tp bt a b) (fun _ _ _ => rfl) ?_
          rw [show (fx_cb .ne 110 (-1)) = true from by decide]
          dsimp only [cond]
          refine fe_s 6 (pc' := 72) (lc' := [(6, .int (92 + 1)), (5, .int 0), (4, .int 93), (3, .int 91), (2, .int 17), (0, .ref 0), (1, .ref 22)]) (stk' := [.int 93, .int (92 + 1)]) (mem' := fm g tp bt a b) (fun _ _ _ => rfl) ?_
          rw [show (92 + 1 : Int32) = 93 from rfl]
          refine fe_s 1 (pc' := cond (fx_cb .ge 93 93) 115 75) (lc' := [(6, .int 93), (5, .int 0), (4, .int 93), (3, .int 91), (2, .int 17), (0, .ref 0), (1, .ref 22)]) (stk' := []) (mem' := fm g tp bt a b) (fun _ _ _ => rfl) ?_
          rw [show (fx_cb .ge 93 93) = true from by decide]
          dsimp only [cond]
          refine fe_s 1 (pc' := 117) (lc' := [(6, .int 93), (5, .int 0), (4, .int 93), (3, .int 91), (2, .int 17), (0, .ref 0), (1, .ref 22)]) (stk' := [.int 0]) (mem' := fm g tp bt a b) (fun _ _ _ => rfl) ?_
          refine fe_s 1 (pc' := cond (fx_cb .eq 0 0) 122 120) (lc' := [(6, .int 93), (5, .int 0), (4, .int 93), (3, .int 91), (2, .int 17), (0, .ref 0), (1, .ref 22)]) (stk' := []) (mem' := fm g tp bt a b) (fun _ _ _ => rfl) ?_
          rw [show (fx_cb .eq 0 0) = true from by decide]
          dsimp only [cond]
          refine fe_s 6 (pc' := 14) (lc' := [(3, .int (93 + 1)), (2, .int (17 + 1)), (6, .int 93), (5, .int 0), (4, .int 93), (0, .ref 0), (1, .ref 22)]) (stk' := []) (mem' := fm g tp bt a b) (fun _ _ _ => rfl) ?_
          rw [show (93 + 1 : Int32) = 94 from rfl]
          rw [show (17 + 1 : Int32) = 18 from rfl]
          refine fe_w (lc' := [(3, .int 94), (2, .int 18), (0, .ref 0), (1, .ref 22)]) ⟨rfl, rfl, rfl, rfl, trivial⟩ (by show List.Nodup [3, 2, 0, 1]; decide) (by show List.Nodup [3, 2, 6, 5, 4, 0, 1]; decide) ?_
          exact fw_18 hxp
        · rw [e7]
          refine fe_s 1 (pc' := cond (fx_cb .ne 110 (nI n6)) 106 102) (lc' := [(6, .int 92), (5, .int 1), (4, .int 93), (3, .int 91), (2, .int 17), (0, .ref 0), (1, .ref 22)]) (stk' := []) (mem' := fm g tp bt a b) (fun _ _ _ => rfl) ?_
          by_cases h9 : 110 = n6
          · rw [show (fx_cb .ne 110 (nI n6)) = false from cb_neF (a := 110) (b := n6) (by omega) (by omega) (by omega)]
            dsimp only [cond]
            refine fe_s 7 (pc' := 72) (lc' := [(6, .int (92 + 1)), (5, .int 1), (4, .int 93), (3, .int 91), (2, .int 17), (0, .ref 0), (1, .ref 22)]) (stk' := [.int 93, .int (92 + 1)]) (mem' := fm g tp bt a b) (fun _ _ _ => rfl) ?_
            rw [show (92 + 1 : Int32) = 93 from rfl]
            refine fe_s 1 (pc' := cond (fx_cb .ge 93 93) 115 75) (lc' := [(6, .int 93), (5, .int 1), (4, .int 93), (3, .int 91), (2, .int 17), (0, .ref 0), (1, .ref 22)]) (stk' := []) (mem' := fm g tp bt a b) (fun _ _ _ => rfl) ?_
            rw [show (fx_cb .ge 93 93) = true from by decide]
            dsimp only [cond]
            refine fe_s 1 (pc' := 117) (lc' := [(6, .int 93), (5, .int 1), (4, .int 93), (3, .int 91), (2, .int 17), (0, .ref 0), (1, .ref 22)]) (stk' := [.int 1]) (mem' := fm g tp bt a b) (fun _ _ _ => rfl) ?_
            refine fe_s 1 (pc' := cond (fx_cb .eq 1 0) 122 120) (lc' := [(6, .int 93), (5, .int 1), (4, .int 93), (3, .int 91), (2, .int 17), (0, .ref 0), (1, .ref 22)]) (stk' := []) (mem' := fm g tp bt a b) (fun _ _ _ => rfl) ?_
            rw [show (fx_cb .eq 1 0) = false from by decide]
            dsimp only [cond]
            refine fe_s 1 (pc' := 121) (lc' := [(6, .int 93), (5, .int 1), (4, .int 93), (3, .int 91), (2, .int 17), (0, .ref 0), (1, .ref 22)]) (stk' := [.int 17]) (mem' := fm g tp bt a b) (fun _ _ _ => rfl) ?_
            exact fe_ret ⟨_, Or.inr ⟨17, by omega, rfl⟩, rfl⟩ (by rfl) (by rfl) (by rfl)
          · rw [show (fx_cb .ne 110 (nI n6)) = true from cb_neT (a := 110) (b := n6) (by omega) (by omega) (by omega)]
            dsimp only [cond]
            refine fe_s 6 (pc' := 72) (lc' := [(6, .int (92 + 1)), (5, .int 0), (4, .int 93), (3, .int 91), (2, .int 17), (0, .ref 0), (1, .ref 22)]) (stk' := [.int 93, .int (92 + 1)]) (mem' := fm g tp bt a b) (fun _ _ _ => rfl) ?_
            rw [show (92 + 1 : Int32) = 93 from rfl]
            refine fe_s 1 (pc' := cond (fx_cb .ge 93 93) 115 75) (lc' := [(6, .int 93), (5, .int 0), (4, .int 93), (3, .int 91), (2, .int 17), (0, .ref 0), (1, .ref 22)]) (stk' := []) (mem' := fm g tp bt a b) (fun _ _ _ => rfl) ?_
            rw [show (fx_cb .ge 93 93) = true from by decide]
            dsimp only [cond]
            refine fe_s 1 (pc' := 117) (lc' := [(6, .int 93), (5, .int 0), (4, .int 93), (3, .int 91), (2, .int 17), (0, .ref 0), (1, .ref 22)]) (stk' := [.int 0]) (mem' := fm g tp bt a b) (fun _ _ _ => rfl) ?_
            refine fe_s 1 (pc' := cond (fx_cb .eq 0 0) 122 120) (lc' := [(6, .int 93), (5, .int 0), (4, .int 93), (3, .int 91), (2, .int 17), (0, .ref 0), (1, .ref 22)]) (stk' := []) (mem' := fm g tp bt a b) (fun _ _ _ => rfl) ?_
            rw [show (fx_cb .eq 0 0) = true from by decide]
            dsimp only [cond]
            refine fe_s 6 (pc' := 14) (lc' := [(3, .int (93 + 1)), (2, .int (17 + 1)), (6, .int 93), (5, .int 0), (4, .int 93), (0, .ref 0), (1, .ref 22)]) (stk' := []) (mem' := fm g tp bt a b) (fun _ _ _ => rfl) ?_
            rw [show (93 + 1 : Int32) = 94 from rfl]
            rw [show (17 + 1 : Int32) = 18 from rfl]
            refine fe_w (lc' := [(3, .int 94), (2, .int 18), (0, .ref 0), (1, .ref 22)]) ⟨rfl, rfl, rfl, rfl, trivial⟩ (by show List.Nodup [3, 2, 0, 1]; decide) (by show List.Nodup [3, 2, 6, 5, 4, 0, 1]; decide) ?_
            exact fw_18 hxp
      · rw [show (fx_cb .ne 105 (nI n2)) = true from cb_neT (a := 105) (b := n2) (by omega) (by omega) (by omega)]
        dsimp only [cond]
        refine fe_s 6 (pc' := 72) (lc' := [(6, .int (91 + 1)), (5, .int 0), (4, .int 93), (3, .int 91), (2, .int 17), (0, .ref 0), (1, .ref 22)]) (stk' := [.int 93, .int (91 + 1)]) (mem' := fm g tp bt a b) (fun _ _ _ => rfl) ?_
        rw [show (91 + 1 : Int32) = 92 from rfl]
        refine fe_s 1 (pc' := cond (fx_cb .ge 92 93) 115 75) (lc' := [(6, .int 92), (5, .int 0), (4, .int 93), (3, .int 91), (2, .int 17), (0, .ref 0), (1, .ref 22)]) (stk' := []) (mem' := fm g tp bt a b) (fun _ _ _ => rfl) ?_
        rw [show (fx_cb .ge 92 93) = false from by decide]
        dsimp only [cond]
        refine fe_s 1 (pc' := 77) (lc' := [(6, .int 92), (5, .int 0), (4, .int 93), (3, .int 91), (2, .int 17), (0, .ref 0), (1, .ref 22)]) (stk' := [.int 0]) (mem' := fm g tp bt a b) (fun _ _ _ => rfl) ?_
        refine fe_s 1 (pc' := cond (fx_cb .eq 0 0) 115 80) (lc' := [(6, .int 92), (5, .int 0), (4, .int 93), (3, .int 91), (2, .int 17), (0, .ref 0), (1, .ref 22)]) (stk' := []) (mem' := fm g tp bt a b) (fun _ _ _ => rfl) ?_
        rw [show (fx_cb .eq 0 0) = true from by decide]
        dsimp only [cond]
        refine fe_s 1 (pc' := 117) (lc' := [(6, .int 92), (5, .int 0), (4, .int 93), (3, .int 91), (2, .int 17), (0, .ref 0), (1, .ref 22)]) (stk' := [.int 0]) (mem' := fm g tp bt a b) (fun _ _ _ => rfl) ?_
        refine fe_s 1 (pc' := cond (fx_cb .eq 0 0) 122 120) (lc' := [(6, .int 92), (5, .int 0), (4, .int 93), (3, .int 91), (2, .int 17), (0, .ref 0), (1, .ref 22)]) (stk' := []) (mem' := fm g tp bt a b) (fun _ _ _ => rfl) ?_
        rw [show (fx_cb .eq 0 0) = true from by decide]
        dsimp only [cond]
        refine fe_s 6 (pc' := 14) (lc' := [(3, .int (93 + 1)), (2, .int (17 + 1)), (6, .int 92), (5, .int 0), (4, .int 93), (0, .ref 0), (1, .ref 22)]) (stk' := []) (mem' := fm g tp bt a b) (fun _ _ _ => rfl) ?_
        rw [show (93 + 1 : Int32) = 94 from rfl]
        rw [show (17 + 1 : Int32) = 18 from rfl]
        refine fe_w (lc' := [(3, .int 94), (2, .int 18), (0, .ref 0), (1, .ref 22)]) ⟨rfl, rfl, rfl, rfl, trivial⟩ (by show List.Nodup [3, 2, 0, 1]; decide) (by show List.Nodup [3, 2, 6, 5, 4, 0, 1]; decide) ?_
        exact fw_18 hxp
  · rw [show (fx_cb .ne 2 (nI (E - F))) = true from cb_neT (a := 2) (b := E - F) (by omega) (by omega) (by omega)]
    dsimp only [cond]
    refine fe_s 6 (pc' := 72) (lc' := [(6, .int 91), (5, .int 0), (4, .int 93), (3, .int 91), (2, .int 17), (0, .ref 0), (1, .ref 22)]) (stk' := [.int 93, .int 91]) (mem' := fm g tp bt a b) (fun _ _ _ => rfl) ?_
    refine fe_s 1 (pc' := cond (fx_cb .ge 91 93) 115 75) (lc' := [(6, .int 91), (5, .int 0), (4, .int 93), (3, .int 91), (2, .int 17), (0, .ref 0), (1, .ref 22)]) (stk' := []) (mem' := fm g tp bt a b) (fun _ _ _ => rfl) ?_
    rw [show (fx_cb .ge 91 93) = false from by decide]
    dsimp only [cond]
    refine fe_s 1 (pc' := 77) (lc' := [(6, .int 91), (5, .int 0), (4, .int 93), (3, .int 91), (2, .int 17), (0, .ref 0), (1, .ref 22)]) (stk' := [.int 0]) (mem' := fm g tp bt a b) (fun _ _ _ => rfl) ?_
    refine fe_s 1 (pc' := cond (fx_cb .eq 0 0) 115 80) (lc' := [(6, .int 91), (5, .int 0), (4, .int 93), (3, .int 91), (2, .int 17), (0, .ref 0), (1, .ref 22)]) (stk' := []) (mem' := fm g tp bt a b) (fun _ _ _ => rfl) ?_
    rw [show (fx_cb .eq 0 0) = true from by decide]
    dsimp only [cond]
    refine fe_s 1 (pc' := 117) (lc' := [(6, .int 91), (5, .int 0), (4, .int 93), (3, .int 91), (2, .int 17), (0, .ref 0), (1, .ref 22)]) (stk' := [.int 0]) (mem' := fm g tp bt a b) (fun _ _ _ => rfl) ?_
    refine fe_s 1 (pc' := cond (fx_cb .eq 0 0) 122 120) (lc' := [(6, .int 91), (5, .int 0), (4, .int 93), (3, .int 91), (2, .int 17), (0, .ref 0), (1, .ref 22)]) (stk' := []) (mem' := fm g tp bt a b) (fun _ _ _ => rfl) ?_
    rw [show (fx_cb .eq 0 0) = true from by decide]
    dsimp only [cond]
    refine fe_s 6 (pc' := 14) (lc' := [(3, .int (93 + 1)), (2, .int (17 + 1)), (6, .int 91), (5, .int 0), (4, .int 93), (0, .ref 0), (1, .ref 22)]) (stk' := []) (mem' := fm g tp bt a b) (fun _ _ _ => rfl) ?_
    rw [show (93 + 1 : Int32) = 94 from rfl]
    rw [show (17 + 1 : Int32) = 18 from rfl]
    refine fe_w (lc' := [(3, .int 94), (2, .int 18), (0, .ref 0), (1, .ref 22)]) ⟨rfl, rfl, rfl, rfl, trivial⟩ (by show List.Nodup [3, 2, 0, 1]; decide) (by show List.Nodup [3, 2, 6, 5, 4, 0, 1]; decide) ?_
    exact fw_18 hxp
theorem fw_16 {S E F : Nat} (hxp : fm_xp g S E F) : fe_R 1 gk_m226 14 [(3, .int 88), (2, .int 16), (0, .ref 0), (1, .ref 22)] [] (fm g tp bt a b) (fm_FI (fm g tp bt a b)) := by
  obtain ⟨h11, hS9, h14, hES, h13, hFE, -, -, -⟩ := id hxp
  refine fe_s 2 (pc' := 16) (lc' := [(3, .int 88), (2, .int 16), (0, .ref 0), (1, .ref 22)]) (stk' := [.ref 22, .int 88]) (mem' := fm g tp bt a b) (fun _ _ _ => rfl) ?_
  refine fe_s 1 (pc' := 19) (lc' := [(3, .int 88), (2, .int 16), (0, .ref 0), (1, .ref 22)]) (stk' := [.int 117, .int 88]) (mem' := fm g tp bt a b) (fun _ _ _ => rfl) ?_
  refine fe_s 1 (pc' := cond (fx_cb .ge 88 117) 133 22) (lc' := [(3, .int 88), (2, .int 16), (0, .ref 0), (1, .ref 22)]) (stk' := []) (mem' := fm g tp bt a b) (fun _ _ _ => rfl) ?_
  rw [show (fx_cb .ge 88 117) = false from by decide]
  dsimp only [cond]
  refine fe_s 4 (pc' := 28) (lc' := [(4, .int 88), (3, .int 88), (2, .int 16), (0, .ref 0), (1, .ref 22)]) (stk' := [.int 88, .ref 22]) (mem' := fm g tp bt a b) (fun _ _ _ => rfl) ?_
  refine fe_chr (i := 88) (by omega) (by rfl) (by rfl) ⟨by rfl, by rfl⟩ (by rfl) ?_
  rw [show sk_b.getD 88 0 = 116 from rfl]
  refine fe_s 1 (pc' := 33) (lc' := [(4, .int 88), (3, .int 88), (2, .int 16), (0, .ref 0), (1, .ref 22)]) (stk' := [.int 32, .int 116]) (mem' := fm g tp bt a b) (fun _ _ _ => rfl) ?_
  refine fe_s 1 (pc' := cond (fx_cb .eq 116 32) 42 36) (lc' := [(4, .int 88), (3, .int 88), (2, .int 16), (0, .ref 0), (1, .ref 22)]) (stk' := []) (mem' := fm g tp bt a b) (fun _ _ _ => rfl) ?_
  rw [show (fx_cb .eq 116 32) = false from by decide]
  dsimp only [cond]
  refine fe_s 4 (pc' := 28) (lc' := [(4, .int (88 + 1)), (3, .int 88), (2, .int 16), (0, .ref 0), (1, .ref 22)]) (stk' := [.int (88 + 1), .ref 22]) (mem' := fm g tp bt a b) (fun _ _ _ => rfl) ?_
  rw [show (88 + 1 : Int32) = 89 from rfl]
  refine fe_chr (i := 89) (by omega) (by rfl) (by rfl) ⟨by rfl, by rfl⟩ (by rfl) ?_
  rw [show sk_b.getD 89 0 = 111 from rfl]
  refine fe_s 1 (pc' := 33) (lc' := [(4, .int 89), (3, .int 88), (2, .int 16), (0, .ref 0), (1, .ref 22)]) (stk' := [.int 32, .int 111]) (mem' := fm g tp bt a b) (fun _ _ _ => rfl) ?_
  refine fe_s 1 (pc' := cond (fx_cb .eq 111 32) 42 36) (lc' := [(4, .int 89), (3, .int 88), (2, .int 16), (0, .ref 0), (1, .ref 22)]) (stk' := []) (mem' := fm g tp bt a b) (fun _ _ _ => rfl) ?_
  rw [show (fx_cb .eq 111 32) = false from by decide]
  dsimp only [cond]
  refine fe_s 4 (pc' := 28) (lc' := [(4, .int (89 + 1)), (3, .int 88), (2, .int 16), (0, .ref 0), (1, .ref 22)]) (stk' := [.int (89 + 1), .ref 22]) (mem' := fm g tp bt a b) (fun _ _ _ => rfl) ?_
  rw [show (89 + 1 : Int32) = 90 from rfl]
  refine fe_chr (i := 90) (by omega) (by rfl) (by rfl) ⟨by rfl, by rfl⟩ (by rfl) ?_
  rw [show sk_b.getD 90 0 = 32 from rfl]
  refine fe_s 1 (pc' := 33) (lc' := [(4, .int 90), (3, .int 88), (2, .int 16), (0, .ref 0), (1, .ref 22)]) (stk' := [.int 32, .int 32]) (mem' := fm g tp bt a b) (fun _ _ _ => rfl) ?_
  refine fe_s 1 (pc' := cond (fx_cb .eq 32 32) 42 36) (lc' := [(4, .int 90), (3, .int 88), (2, .int 16), (0, .ref 0), (1, .ref 22)]) (stk' := []) (mem' := fm g tp bt a b) (fun _ _ _ => rfl) ?_
  rw [show (fx_cb .eq 32 32) = true from by decide]
  dsimp only [cond]
  refine fe_s 8 (pc' := 55) (lc' := [(4, .int 90), (3, .int 88), (2, .int 16), (0, .ref 0), (1, .ref 22)]) (stk' := [.int ((g 14) - (g 13)), .int (90 - 88)]) (mem' := fm g tp bt a b) (fun _ _ _ => rfl) ?_
  try rw [h14]
  try rw [h13]
  rw [show (90 - 88 : Int32) = 2 from rfl]
  rw [show ((nI E) - (nI F) : Int32) = nI (E - F) from by simp only [tg_sub2 (x := E) (y := F) (by omega), nI_add, fm_mul]]
  refine fe_s 1 (pc' := cond (fx_cb .ne 2 (nI (E - F))) 62 58) (lc' := [(4, .int 90), (3, .int 88), (2, .int 16), (0, .ref 0), (1, .ref 22)]) (stk' := []) (mem' := fm g tp bt a b) (fun _ _ _ => rfl) ?_
  by_cases h1 : 2 = (E - F)
  · rw [show (fx_cb .ne 2 (nI (E - F))) = false from cb_neF (a := 2) (b := E - F) (by omega) (by omega) (by omega)]
    dsimp only [cond]
    refine fe_s 7 (pc' := 72) (lc' := [(6, .int 88), (5, .int 1), (4, .int 90), (3, .int 88), (2, .int 16), (0, .ref 0), (1, .ref 22)]) (stk' := [.int 90, .int 88]) (mem' := fm g tp bt a b) (fun _ _ _ => rfl) ?_
    refine fe_s 1 (pc' := cond (fx_cb .ge 88 90) 115 75) (lc' := [(6, .int 88), (5, .int 1), (4, .int 90), (3, .int 88), (2, .int 16), (0, .ref 0), (1, .ref 22)]) (stk' := []) (mem' := fm g tp bt a b) (fun _ _ _ => rfl) ?_
    rw [show (fx_cb .ge 88 90) = false from by decide]
    dsimp only [cond]
    refine fe_s 1 (pc' := 77) (lc' := [(6, .int 88), (5, .int 1), (4, .int 90), (3, .int 88), (2, .int 16), (0, .ref 0), (1, .ref 22)]) (stk' := [.int 1]) (mem' := fm g tp bt a b) (fun _ _ _ => rfl) ?_
    refine fe_s 1 (pc' := cond (fx_cb .eq 1 0) 115 80) (lc' := [(6, .int 88), (5, .int 1), (4, .int 90), (3, .int 88), (2, .int 16), (0, .ref 0), (1, .ref 22)]) (stk' := []) (mem' := fm g tp bt a b) (fun _ _ _ => rfl) ?_
    rw [show (fx_cb .eq 1 0) = false from by decide]
    dsimp only [cond]
    refine fe_s 2 (pc' := 83) (lc' := [(6, .int 88), (5, .int 1), (4, .int 90), (3, .int 88), (2, .int 16), (0, .ref 0), (1, .ref 22)]) (stk' := [.int 88, .ref 22]) (mem' := fm g tp bt a b) (fun _ _ _ => rfl) ?_
    refine fe_chr (i := 88) (by omega) (by rfl) (by rfl) ⟨by rfl, by rfl⟩ (by rfl) ?_
    rw [show sk_b.getD 88 0 = 116 from rfl]
    refine fe_s 7 (pc' := 96) (lc' := [(6, .int 88), (5, .int 1), (4, .int 90), (3, .int 88), (2, .int 16), (0, .ref 0), (1, .ref 22)]) (stk' := [.int (((g 13) + 88) - 88), .ref 0, .int 116]) (mem' := fm g tp bt a b) (fun _ _ _ => rfl) ?_
    try rw [h13]
    rw [show (((nI F) + 88) - 88 : Int32) = nI ((F + 88) - 88) from by simp only [show (88 : Int32) = nI 88 from rfl, tg_sub2 (x := F + 88) (y := 88) (by omega), nI_add, fm_mul]]
    refine fe_ivV (fr_byteAt (S := S) (k := (F + 88) - 88) (g := g) (tp := tp) (bt := bt) (a := a) (b := b) h11 (by omega) (by omega)) (by omega) (by rfl) (by rfl) (by rfl) (by rfl) (by rfl) (by rfl) ?_
    rcases fm_byte_or a S ((F + 88) - 88) with ⟨e3, q4⟩ | ⟨q4, n2, qn2, e3⟩
    · rw [e3]
      refine fe_s 1 (pc' := cond (fx_cb .ne 116 (-1)) 106 102) (lc' := [(6, .int 88), (5, .int 1), (4, .int 90), (3, .int 88), (2, .int 16), (0, .ref 0), (1, .ref 22)]) (stk' := []) (mem' := fm g tp bt a b) (fun _ _ _ => rfl) ?_
      rw [show (fx_cb .ne 116 (-1)) = true from by decide]
      dsimp only [cond]
      refine fe_s 6 (pc' := 72) (lc' := [(6, .int (88 + 1)), (5, .int 0), (4, .int 90), (3, .int 88), (2, .int 16), (0, .ref 0), (1, .ref 22)]) (stk' := [.int 90, .int (88 + 1)]) (mem' := fm g tp bt a b) (fun _ _ _ => rfl) ?_
      rw [show (88 + 1 : Int32) = 89 from rfl]
      refine fe_s 1 (pc' := cond (fx_cb .ge 89 90) 115 75) (lc' := [(6, .int 89), (5, .int 0), (4, .int 90), (3, .int 88), (2, .int 16), (0, .ref 0), (1, .ref 22)]) (stk' := []) (mem' := fm g tp bt a b) (fun _ _ _ => rfl) ?_
      rw [show (fx_cb .ge 89 90) = false from by decide]
      dsimp only [cond]
      refine fe_s 1 (pc' := 77) (lc' := [(6, .int 89), (5, .int 0), (4, .int 90), (3, .int 88), (2, .int 16), (0, .ref 0), (1, .ref 22)]) (stk' := [.int 0]) (mem' := fm g tp bt a b) (fun _ _ _ => rfl) ?_
      refine fe_s 1 (pc' := cond (fx_cb .eq 0 0) 115 80) (lc' := [(6, .int 89), (5, .int 0), (4, .int 90), (3, .int 88), (2, .int 16), (0, .ref 0), (1, .ref 22)]) (stk' := []) (mem' := fm g tp bt a b) (fun _ _ _ => rfl) ?_
      rw [show (fx_cb .eq 0 0) = true from by decide]
      dsimp only [cond]
      refine fe_s 1 (pc' := 117) (lc' := [(6, .int 89), (5, .int 0), (4, .int 90), (3, .int 88), (2, .int 16), (0, .ref 0), (1, .ref 22)]) (stk' := [.int 0]) (mem' := fm g tp bt a b) (fun _ _ _ => rfl) ?_
      refine fe_s 1 (pc' := cond (fx_cb .eq 0 0) 122 120) (lc' := [(6, .int 89), (5, .int 0), (4, .int 90), (3, .int 88), (2, .int 16), (0, .ref 0), (1, .ref 22)]) (stk' := []) (mem' := fm g tp bt a b) (fun _ _ _ => rfl) ?_
      rw [show (fx_cb .eq 0 0) = true from by decide]
      dsimp only [cond]
      refine fe_s 6 (pc' := 14) (lc' := [(3, .int (90 + 1)), (2, .int (16 + 1)), (6, .int 89), (5, .int 0), (4, .int 90), (0, .ref 0), (1, .ref 22)]) (stk' := []) (mem' := fm g tp bt a b) (fun _ _ _ => rfl) ?_
      rw [show (90 + 1 : Int32) = 91 from rfl]
      rw [show (16 + 1 : Int32) = 17 from rfl]
      refine fe_w (lc' := [(3, .int 91), (2, .int 17), (0, .ref 0), (1, .ref 22)]) ⟨rfl, rfl, rfl, rfl, trivial⟩ (by show List.Nodup [3, 2, 0, 1]; decide) (by show List.Nodup [3, 2, 6, 5, 4, 0, 1]; decide) ?_
      exact fw_17 hxp
    · rw [e3]
      refine fe_s 1 (pc' := cond (fx_cb .ne 116 (nI n2)) 106 102) (lc' := [(6, .int 88), (5, .int 1), (4, .int 90), (3, .int 88), (2, .int 16), (0, .ref 0), (1, .ref 22)]) (stk' := []) (mem' := fm g tp bt a b) (fun _ _ _ => rfl) ?_
      by_cases h5 : 116 = n2
      · rw [show (fx_cb .ne 116 (nI n2)) = false from cb_neF (a := 116) (b := n2) (by omega) (by omega) (by omega)]
        dsimp only [cond]
        refine fe_s 7 (pc' := 72) (lc' := [(6, .int (88 + 1)), (5, .int 1), (4, .int 90), (3, .int 88), (2, .int 16), (0, .ref 0), (1, .ref 22)]) (stk' := [.int 90, .int (88 + 1)]) (mem' := fm g tp bt a b) (fun _ _ _ => rfl) ?_
        rw [show (88 + 1 : Int32) = 89 from rfl]
        refine fe_s 1 (pc' := cond (fx_cb .ge 89 90) 115 75) (lc' := [(6, .int 89), (5, .int 1), (4, .int 90), (3, .int 88), (2, .int 16), (0, .ref 0), (1, .ref 22)]) (stk' := []) (mem' := fm g tp bt a b) (fun _ _ _ => rfl) ?_
        rw [show (fx_cb .ge 89 90) = false from by decide]
        dsimp only [cond]
        refine fe_s 1 (pc' := 77) (lc' := [(6, .int 89), (5, .int 1), (4, .int 90), (3, .int 88), (2, .int 16), (0, .ref 0), (1, .ref 22)]) (stk' := [.int 1]) (mem' := fm g tp bt a b) (fun _ _ _ => rfl) ?_
        refine fe_s 1 (pc' := cond (fx_cb .eq 1 0) 115 80) (lc' := [(6, .int 89), (5, .int 1), (4, .int 90), (3, .int 88), (2, .int 16), (0, .ref 0), (1, .ref 22)]) (stk' := []) (mem' := fm g tp bt a b) (fun _ _ _ => rfl) ?_
        rw [show (fx_cb .eq 1 0) = false from by decide]
        dsimp only [cond]
        refine fe_s 2 (pc' := 83) (lc' := [(6, .int 89), (5, .int 1), (4, .int 90), (3, .int 88), (2, .int 16), (0, .ref 0), (1, .ref 22)]) (stk' := [.int 89, .ref 22]) (mem' := fm g tp bt a b) (fun _ _ _ => rfl) ?_
        refine fe_chr (i := 89) (by omega) (by rfl) (by rfl) ⟨by rfl, by rfl⟩ (by rfl) ?_
        rw [show sk_b.getD 89 0 = 111 from rfl]
        refine fe_s 7 (pc' := 96) (lc' := [(6, .int 89), (5, .int 1), (4, .int 90), (3, .int 88), (2, .int 16), (0, .ref 0), (1, .ref 22)]) (stk' := [.int (((g 13) + 89) - 88), .ref 0, .int 111]) (mem' := fm g tp bt a b) (fun _ _ _ => rfl) ?_
        try rw [h13]
        rw [show (((nI F) + 89) - 88 : Int32) = nI ((F + 89) - 88) from by simp only [show (89 : Int32) = nI 89 from rfl, show (88 : Int32) = nI 88 from rfl, tg_sub2 (x := F + 89) (y := 88) (by omega), nI_add, fm_mul]]
        refine fe_ivV (fr_byteAt (S := S) (k := (F + 89) - 88) (g := g) (tp := tp) (bt := bt) (a := a) (b := b) h11 (by omega) (by omega)) (by omega) (by rfl) (by rfl) (by rfl) (by rfl) (by rfl) (by rfl) ?_
        rcases fm_byte_or a S ((F + 89) - 88) with ⟨e7, q8⟩ | ⟨q8, n6, qn6, e7⟩
        · rw [e7]
          refine fe_s 1 (pc' := cond (fx_cb .ne 111 (-1)) 106 102) (lc' := [(6, .int 89), (5, .int 1), (4, .int 90), (3, .int 88), (2, .int 16), (0, .ref 0), (1, .ref 22)]) (stk' := []) (mem' := fm g tp bt a b) (fun _ _ _ => rfl) ?_
          rw [show (fx_cb .ne 111 (-1)) = true from by decide]
          dsimp only [cond]
          refine fe_s 6 (pc' := 72) (lc' := [(6, .int (89 + 1)), (5, .int 0), (4, .int 90), (3, .int 88), (2, .int 16), (0, .ref 0), (1, .ref 22)]) (stk' := [.int 90, .int (89 + 1)]) (mem' := fm g tp bt a b) (fun _ _ _ => rfl) ?_
          rw [show (89 + 1 : Int32) = 90 from rfl]
          refine fe_s 1 (pc' := cond (fx_cb .ge 90 90) 115 75) (lc' := [(6, .int 90), (5, .int 0), (4, .int 90), (3, .int 88), (2, .int 16), (0, .ref 0), (1, .ref 22)]) (stk' := []) (mem' := fm g tp bt a b) (fun _ _ _ => rfl) ?_
          rw [show (fx_cb .ge 90 90) = true from by decide]
          dsimp only [cond]
          refine fe_s 1 (pc' := 117) (lc' := [(6, .int 90), (5, .int 0), (4, .int 90), (3, .int 88), (2, .int 16), (0, .ref 0), (1, .ref 22)]) (stk' := [.int 0]) (mem' := fm g tp bt a b) (fun _ _ _ => rfl) ?_
          refine fe_s 1 (pc' := cond (fx_cb .eq 0 0) 122 120) (lc' := [(6, .int 90), (5, .int 0), (4, .int 90), (3, .int 88), (2, .int 16), (0, .ref 0), (1, .ref 22)]) (stk' := []) (mem' := fm g tp bt a b) (fun _ _ _ => rfl) ?_
          rw [show (fx_cb .eq 0 0) = true from by decide]
          dsimp only [cond]
          refine fe_s 6 (pc' := 14) (lc' := [(3, .int (90 + 1)), (2, .int (16 + 1)), (6, .int 90), (5, .int 0), (4, .int 90), (0, .ref 0), (1, .ref 22)]) (stk' := []) (mem' := fm g tp bt a b) (fun _ _ _ => rfl) ?_
          rw [show (90 + 1 : Int32) = 91 from rfl]
          rw [show (16 + 1 : Int32) = 17 from rfl]
          refine fe_w (lc' := [(3, .int 91), (2, .int 17), (0, .ref 0), (1, .ref 22)]) ⟨rfl, rfl, rfl, rfl, trivial⟩ (by show List.Nodup [3, 2, 0, 1]; decide) (by show List.Nodup [3, 2, 6, 5, 4, 0, 1]; decide) ?_
          exact fw_17 hxp
        · rw [e7]
          refine fe_s 1 (pc' := cond (fx_cb .ne 111 (nI n6)) 106 102) (lc' := [(6, .int 89), (5, .int 1), (4, .int 90), (3, .int 88), (2, .int 16), (0, .ref 0), (1, .ref 22)]) (stk' := []) (mem' := fm g tp bt a b) (fun _ _ _ => rfl) ?_
          by_cases h9 : 111 = n6
          · rw [show (fx_cb .ne 111 (nI n6)) = false from cb_neF (a := 111) (b := n6) (by omega) (by omega) (by omega)]
            dsimp only [cond]
            refine fe_s 7 (pc' := 72) (lc' := [(6, .int (89 + 1)), (5, .int 1), (4, .int 90), (3, .int 88), (2, .int 16), (0, .ref 0), (1, .ref 22)]) (stk' := [.int 90, .int (89 + 1)]) (mem' := fm g tp bt a b) (fun _ _ _ => rfl) ?_
            rw [show (89 + 1 : Int32) = 90 from rfl]
            refine fe_s 1 (pc' := cond (fx_cb .ge 90 90) 115 75) (lc' := [(6, .int 90), (5, .int 1), (4, .int 90), (3, .int 88), (2, .int 16), (0, .ref 0), (1, .ref 22)]) (stk' := []) (mem' := fm g tp bt a b) (fun _ _ _ => rfl) ?_
            rw [show (fx_cb .ge 90 90) = true from by decide]
            dsimp only [cond]
            refine fe_s 1 (pc' := 117) (lc' := [(6, .int 90), (5, .int 1), (4, .int 90), (3, .int 88), (2, .int 16), (0, .ref 0), (1, .ref 22)]) (stk' := [.int 1]) (mem' := fm g tp bt a b) (fun _ _ _ => rfl) ?_
            refine fe_s 1 (pc' := cond (fx_cb .eq 1 0) 122 120) (lc' := [(6, .int 90), (5, .int 1), (4, .int 90), (3, .int 88), (2, .int 16), (0, .ref 0), (1, .ref 22)]) (stk' := []) (mem' := fm g tp bt a b) (fun _ _ _ => rfl) ?_
            rw [show (fx_cb .eq 1 0) = false from by decide]
            dsimp only [cond]
            refine fe_s 1 (pc' := 121) (lc' := [(6, .int 90), (5, .int 1), (4, .int 90), (3, .int 88), (2, .int 16), (0, .ref 0), (1, .ref 22)]) (stk' := [.int 16]) (mem' := fm g tp bt a b) (fun _ _ _ => rfl) ?_
            exact fe_ret ⟨_, Or.inr ⟨16, by omega, rfl⟩, rfl⟩ (by rfl) (by rfl) (by rfl)
          · rw [show (fx_cb .ne 111 (nI n6)) = true from cb_neT (a := 111) (b := n6) (by omega) (by omega) (by omega)]
            dsimp only [cond]
            refine fe_s 6 (pc' := 72) (lc' := [(6, .int (89 + 1)), (5, .int 0), (4, .int 90), (3, .int 88), (2, .int 16), (0, .ref 0), (1, .ref 22)]) (stk' := [.int 90, .int (89 + 1)]) (mem' := fm g tp bt a b) (fun _ _ _ => rfl) ?_
            rw [show (89 + 1 : Int32) = 90 from rfl]
            refine fe_s 1 (pc' := cond (fx_cb .ge 90 90) 115 75) (lc' := [(6, .int 90), (5, .int 0), (4, .int 90), (3, .int 88), (2, .int 16), (0, .ref 0), (1, .ref 22)]) (stk' := []) (mem' := fm g tp bt a b) (fun _ _ _ => rfl) ?_
            rw [show (fx_cb .ge 90 90) = true from by decide]
            dsimp only [cond]
            refine fe_s 1 (pc' := 117) (lc' := [(6, .int 90), (5, .int 0), (4, .int 90), (3, .int 88), (2, .int 16), (0, .ref 0), (1, .ref 22)]) (stk' := [.int 0]) (mem' := fm g tp bt a b) (fun _ _ _ => rfl) ?_
            refine fe_s 1 (pc' := cond (fx_cb .eq 0 0) 122 120) (lc' := [(6, .int 90), (5, .int 0), (4, .int 90), (3, .int 88), (2, .int 16), (0, .ref 0), (1, .ref 22)]) (stk' := []) (mem' := fm g tp bt a b) (fun _ _ _ => rfl) ?_
            rw [show (fx_cb .eq 0 0) = true from by decide]
            dsimp only [cond]
            refine fe_s 6 (pc' := 14) (lc' := [(3, .int (90 + 1)), (2, .int (16 + 1)), (6, .int 90), (5, .int 0), (4, .int 90), (0, .ref 0), (1, .ref 22)]) (stk' := []) (mem' := fm g tp bt a b) (fun _ _ _ => rfl) ?_
            rw [show (90 + 1 : Int32) = 91 from rfl]
            rw [show (16 + 1 : Int32) = 17 from rfl]
            refine fe_w (lc' := [(3, .int 91), (2, .int 17), (0, .ref 0), (1, .ref 22)]) ⟨rfl, rfl, rfl, rfl, trivial⟩ (by show List.Nodup [3, 2, 0, 1]; decide) (by show List.Nodup [3, 2, 6, 5, 4, 0, 1]; decide) ?_
            exact fw_17 hxp
      · rw [show (fx_cb .ne 116 (nI n2)) = true from cb_neT (a := 116) (b := n2) (by omega) (by omega) (by omega)]
        dsimp only [cond]
        refine fe_s 6 (pc' := 72) (lc' := [(6, .int (88 + 1)), (5, .int 0), (4, .int 90), (3, .int 88), (2, .int 16), (0, .ref 0), (1, .ref 22)]) (stk' := [.int 90, .int (88 + 1)]) (mem' := fm g tp bt a b) (fun _ _ _ => rfl) ?_
        rw [show (88 + 1 : Int32) = 89 from rfl]
        refine fe_s 1 (pc' := cond (fx_cb .ge 89 90) 115 75) (lc' := [(6, .int 89), (5, .int 0), (4, .int 90), (3, .int 88), (2, .int 16), (0, .ref 0), (1, .ref 22)]) (stk' := []) (mem' := fm g tp bt a b) (fun _ _ _ => rfl) ?_
        rw [show (fx_cb .ge 89 90) = false from by decide]
        dsimp only [cond]
        refine fe_s 1 (pc' := 77) (lc' := [(6, .int 89), (5, .int 0), (4, .int 90), (3, .int 88), (2, .int 16), (0, .ref 0), (1, .ref 22)]) (stk' := [.int 0]) (mem' := fm g tp bt a b) (fun _ _ _ => rfl) ?_
        refine fe_s 1 (pc' := cond (fx_cb .eq 0 0) 115 80) (lc' := [(6, .int 89), (5, .int 0), (4, .int 90), (3, .int 88), (2, .int 16), (0, .ref 0), (1, .ref 22)]) (stk' := []) (mem' := fm g tp bt a b) (fun _ _ _ => rfl) ?_
        rw [show (fx_cb .eq 0 0) = true from by decide]
        dsimp only [cond]
        refine fe_s 1 (pc' := 117) (lc' := [(6, .int 89), (5, .int 0), (4, .int 90), (3, .int 88), (2, .int 16), (0, .ref 0), (1, .ref 22)]) (stk' := [.int 0]) (mem' := fm g tp bt a b) (fun _ _ _ => rfl) ?_
        refine fe_s 1 (pc' := cond (fx_cb .eq 0 0) 122 120) (lc' := [(6, .int 89), (5, .int 0), (4, .int 90), (3, .int 88), (2, .int 16), (0, .ref 0), (1, .ref 22)]) (stk' := []) (mem' := fm g tp bt a b) (fun _ _ _ => rfl) ?_
        rw [show (fx_cb .eq 0 0) = true from by decide]
        dsimp only [cond]
        refine fe_s 6 (pc' := 14) (lc' := [(3, .int (90 + 1)), (2, .int (16 + 1)), (6, .int 89), (5, .int 0), (4, .int 90), (0, .ref 0), (1, .ref 22)]) (stk' := []) (mem' := fm g tp bt a b) (fun _ _ _ => rfl) ?_
        rw [show (90 + 1 : Int32) = 91 from rfl]
        rw [show (16 + 1 : Int32) = 17 from rfl]
        refine fe_w (lc' := [(3, .int 91), (2, .int 17), (0, .ref 0), (1, .ref 22)]) ⟨rfl, rfl, rfl, rfl, trivial⟩ (by show List.Nodup [3, 2, 0, 1]; decide) (by show List.Nodup [3, 2, 6, 5, 4, 0, 1]; decide) ?_
        exact fw_17 hxp
  · rw [show (fx_cb .ne 2 (nI (E - F))) = true from cb_neT (a := 2) (b := E - F) (by omega) (by omega) (by omega)]
    dsimp only [cond]
    refine fe_s 6 (pc' := 72) (lc' := [(6, .int 88), (5, .int 0), (4, .int 90), (3, .int 88), (2, .int 16), (0, .ref 0), (1, .ref 22)]) (stk' := [.int 90, .int 88]) (mem' := fm g tp bt a b) (fun _ _ _ => rfl) ?_
    refine fe_s 1 (pc' := cond (fx_cb .ge 88 90) 115 75) (lc' := [(6, .int 88), (5, .int 0), (4, .int 90), (3, .int 88), (2, .int 16), (0, .ref 0), (1, .ref 22)]) (stk' := []) (mem' := fm g tp bt a b) (fun _ _ _ => rfl) ?_
    rw [show (fx_cb .ge 88 90) = false from by decide]
    dsimp only [cond]
    refine fe_s 1 (pc' := 77) (lc' := [(6, .int 88), (5, .int 0), (4, .int 90), (3, .int 88), (2, .int 16), (0, .ref 0), (1, .ref 22)]) (stk' := [.int 0]) (mem' := fm g tp bt a b) (fun _ _ _ => rfl) ?_
    refine fe_s 1 (pc' := cond (fx_cb .eq 0 0) 115 80) (lc' := [(6, .int 88), (5, .int 0), (4, .int 90), (3, .int 88), (2, .int 16), (0, .ref 0), (1, .ref 22)]) (stk' := []) (mem' := fm g tp bt a b) (fun _ _ _ => rfl) ?_
    rw [show (fx_cb .eq 0 0) = true from by decide]
    dsimp only [cond]
    refine fe_s 1 (pc' := 117) (lc' := [(6, .int 88), (5, .int 0), (4, .int 90), (3, .int 88), (2, .int 16), (0, .ref 0), (1, .ref 22)]) (stk' := [.int 0]) (mem' := fm g tp bt a b) (fun _ _ _ => rfl) ?_
    refine fe_s 1 (pc' := cond (fx_cb .eq 0 0) 122 120) (lc' := [(6, .int 88), (5, .int 0), (4, .int 90), (3, .int 88), (2, .int 16), (0, .ref 0), (1, .ref 22)]) (stk' := []) (mem' := fm g tp bt a b) (fun _ _ _ => rfl) ?_
    rw [show (fx_cb .eq 0 0) = true from by decide]
    dsimp only [cond]
    refine fe_s 6 (pc' := 14) (lc' := [(3, .int (90 + 1)), (2, .int (16 + 1)), (6, .int 88), (5, .int 0), (4, .int 90), (0, .ref 0), (1, .ref 22)]) (stk' := []) (mem' := fm g tp bt a b) (fun _ _ _ => rfl) ?_
    rw [show (90 + 1 : Int32) = 91 from rfl]
    rw [show (16 + 1 : Int32) = 17 from rfl]
    refine fe_w (lc' := [(3, .int 91), (2, .int 17), (0, .ref 0), (1, .ref 22)]) ⟨rfl, rfl, rfl, rfl, trivial⟩ (by show List.Nodup [3, 2, 0, 1]; decide) (by show List.Nodup [3, 2, 6, 5, 4, 0, 1]; decide) ?_
    exact fw_17 hxp
theorem fw_15 {S E F : Nat} (hxp : fm_xp g S E F) : fe_R 1 gk_m226 14 [(3, .int 84), (2, .int 15), (0, .ref 0), (1, .ref 22)] [] (fm g tp bt a b) (fm_FI (fm g tp bt a b)) := by
  obtain ⟨h11, hS9, h14, hES, h13, hFE, -, -, -⟩ := id hxp
  refine fe_s 2 (pc' := 16) (lc' := [(3, .int 84), (2, .int 15), (0, .ref 0), (1, .ref 22)]) (stk' := [.ref 22, .int 84]) (mem' := fm g tp bt a b) (fun _ _ _ => rfl) ?_
  refine fe_s 1 (pc' := 19) (lc' := [(3, .int 84), (2, .int 15), (0, .ref 0), (1, .ref 22)]) (stk' := [.int 117, .int 84]) (mem' := fm g tp bt a b) (fun _ _ _ => rfl) ?_
  refine fe_s 1 (pc' := cond (fx_cb .ge 84 117) 133 22) (lc' := [(3, .int 84), (2, .int 15), (0, .ref 0), (1, .ref 22)]) (stk' := []) (mem' := fm g tp bt a b) (fun _ _ _ => rfl) ?_
  rw [show (fx_cb .ge 84 117) = false from by decide]
  dsimp only [cond]
  refine fe_s 4 (pc' := 28) (lc' := [(4, .int 84), (3, .int 84), (2, .int 15), (0, .ref 0), (1, .ref 22)]) (stk' := [.int 84, .ref 22]) (mem' := fm g tp bt a b) (fun _ _ _ => rfl) ?_
  refine fe_chr (i := 84) (by omega) (by rfl) (by rfl) ⟨by rfl, by rfl⟩ (by rfl) ?_
  rw [show sk_b.getD 84 0 = 97 from rfl]
  refine fe_s 1 (pc' := 33) (lc' := [(4, .int 84), (3, .int 84), (2, .int 15), (0, .ref 0), (1, .ref 22)]) (stk' := [.int 32, .int 97]) (mem' := fm g tp bt a b) (fun _ _ _ => rfl) ?_
  refine fe_s 1 (pc' := cond (fx_cb .eq 97 32) 42 36) (lc' := [(4, .int 84), (3, .int 84), (2, .int 15), (0, .ref 0), (1, .ref 22)]) (stk' := []) (mem' := fm g tp bt a b) (fun _ _ _ => rfl) ?_
  rw [show (fx_cb .eq 97 32) = false from by decide]
  dsimp only [cond]
  refine fe_s 4 (pc' := 28) (lc' := [(4, .int (84 + 1)), (3, .int 84), (2, .int 15), (0, .ref 0), (1, .ref 22)]) (stk' := [.int (84 + 1), .ref 22]) (mem' := fm g tp bt a b) (fun _ _ _ => rfl) ?_
  rw [show (84 + 1 : Int32) = 85 from rfl]
  refine fe_chr (i := 85) (by omega) (by rfl) (by rfl) ⟨by rfl, by rfl⟩ (by rfl) ?_
  rw [show sk_b.getD 85 0 = 110 from rfl]
  refine fe_s 1 (pc' := 33) (lc' := [(4, .int 85), (3, .int 84), (2, .int 15), (0, .ref 0), (1, .ref 22)]) (stk' := [.int 32, .int 110]) (mem' := fm g tp bt a b) (fun _ _ _ => rfl) ?_
  refine fe_s 1 (pc' := cond (fx_cb .eq 110 32) 42 36) (lc' := [(4, .int 85), (3, .int 84), (2, .int 15), (0, .ref 0), (1, .ref 22)]) (stk' := []) (mem' := fm g tp bt a b) (fun _ _ _ => rfl) ?_
  rw [show (fx_cb .eq 110 32) = false from by decide]
  dsimp only [cond]
  refine fe_s 4 (pc' := 28) (lc' := [(4, .int (85 + 1)), (3, .int 84), (2, .int 15), (0, .ref 0), (1, .ref 22)]) (stk' := [.int (85 + 1), .ref 22]) (mem' := fm g tp bt a b) (fun _ _ _ => rfl) ?_
  rw [show (85 + 1 : Int32) = 86 from rfl]
  refine fe_chr (i := 86) (by omega) (by rfl) (by rfl) ⟨by rfl, by rfl⟩ (by rfl) ?_
  rw [show sk_b.getD 86 0 = 121 from rfl]
  refine fe_s 1 (pc' := 33) (lc' := [(4, .int 86), (3, .int 84), (2, .int 15), (0, .ref 0), (1, .ref 22)]) (stk' := [.int 32, .int 121]) (mem' := fm g tp bt a b) (fun _ _ _ => rfl) ?_
  refine fe_s 1 (pc' := cond (fx_cb .eq 121 32) 42 36) (lc' := [(4, .int 86), (3, .int 84), (2, .int 15), (0, .ref 0), (1, .ref 22)]) (stk' := []) (mem' := fm g tp bt a b) (fun _ _ _ => rfl) ?_
  rw [show (fx_cb .eq 121 32) = false from by decide]
  dsimp only [cond]
  refine fe_s 4 (pc' := 28) (lc' := [(4, .int (86 + 1)), (3, .int 84), (2, .int 15), (0, .ref 0), (1, .ref 22)]) (stk' := [.int (86 + 1), .ref 22]) (mem' := fm g tp bt a b) (fun _ _ _ => rfl) ?_
  rw [show (86 + 1 : Int32) = 87 from rfl]
  refine fe_chr (i := 87) (by omega) (by rfl) (by rfl) ⟨by rfl, by rfl⟩ (by rfl) ?_
  rw [show sk_b.getD 87 0 = 32 from rfl]
  refine fe_s 1 (pc' := 33) (lc' := [(4, .int 87), (3, .int 84), (2, .int 15), (0, .ref 0), (1, .ref 22)]) (stk' := [.int 32, .int 32]) (mem' := fm g tp bt a b) (fun _ _ _ => rfl) ?_
  refine fe_s 1 (pc' := cond (fx_cb .eq 32 32) 42 36) (lc' := [(4, .int 87), (3, .int 84), (2, .int 15), (0, .ref 0), (1, .ref 22)]) (stk' := []) (mem' := fm g tp bt a b) (fun _ _ _ => rfl) ?_
  rw [show (fx_cb .eq 32 32) = true from by decide]
  dsimp only [cond]
  refine fe_s 8 (pc' := 55) (lc' := [(4, .int 87), (3, .int 84), (2, .int 15), (0, .ref 0), (1, .ref 22)]) (stk' := [.int ((g 14) - (g 13)), .int (87 - 84)]) (mem' := fm g tp bt a b) (fun _ _ _ => rfl) ?_
  try rw [h14]
  try rw [h13]
  rw [show (87 - 84 : Int32) = 3 from rfl]
  rw [show ((nI E) - (nI F) : Int32) = nI (E - F) from by simp only [tg_sub2 (x := E) (y := F) (by omega), nI_add, fm_mul]]
  refine fe_s 1 (pc' := cond (fx_cb .ne 3 (nI (E - F))) 62 58) (lc' := [(4, .int 87), (3, .int 84), (2, .int 15), (0, .ref 0), (1, .ref 22)]) (stk' := []) (mem' := fm g tp bt a b) (fun _ _ _ => rfl) ?_
  by_cases h1 : 3 = (E - F)
  · rw [show (fx_cb .ne 3 (nI (E - F))) = false from cb_neF (a := 3) (b := E - F) (by omega) (by omega) (by omega)]
    dsimp only [cond]
    refine fe_s 7 (pc' := 72) (lc' := [(6, .int 84), (5, .int 1), (4, .int 87), (3, .int 84), (2, .int 15), (0, .ref 0), (1, .ref 22)]) (stk' := [.int 87, .int 84]) (mem' := fm g tp bt a b) (fun _ _ _ => rfl) ?_
    refine fe_s 1 (pc' := cond (fx_cb .ge 84 87) 115 75) (lc' := [(6, .int 84), (5, .int 1), (4, .int 87), (3, .int 84), (2, .int 15), (0, .ref 0), (1, .ref 22)]) (stk' := []) (mem' := fm g tp bt a b) (fun _ _ _ => rfl) ?_
    rw [show (fx_cb .ge 84 87) = false from by decide]
    dsimp only [cond]
    refine fe_s 1 (pc' := 77) (lc' := [(6, .int 84), (5, .int 1), (4, .int 87), (3, .int 84), (2, .int 15), (0, .ref 0), (1, .ref 22)]) (stk' := [.int 1]) (mem' := fm g tp bt a b) (fun _ _ _ => rfl) ?_
    refine fe_s 1 (pc' := cond (fx_cb .eq 1 0) 115 80) (lc' := [(6, .int 84), (5, .int 1), (4, .int 87), (3, .int 84), (2, .int 15), (0, .ref 0), (1, .ref 22)]) (stk' := []) (mem' := fm g tp bt a b) (fun _ _ _ => rfl) ?_
    rw [show (fx_cb .eq 1 0) = false from by decide]
    dsimp only [cond]
    refine fe_s 2 (pc' := 83) (lc' := [(6, .int 84), (5, .int 1), (4, .int 87), (3, .int 84), (2, .int 15), (0, .ref 0), (1, .ref 22)]) (stk' := [.int 84, .ref 22]) (mem' := fm g tp bt a b) (fun _ _ _ => rfl) ?_
    refine fe_chr (i := 84) (by omega) (by rfl) (by rfl) ⟨by rfl, by rfl⟩ (by rfl) ?_
    rw [show sk_b.getD 84 0 = 97 from rfl]
    refine fe_s 7 (pc' := 96) (lc' := [(6, .int 84), (5, .int 1), (4, .int 87), (3, .int 84), (2, .int 15), (0, .ref 0), (1, .ref 22)]) (stk' := [.int (((g 13) + 84) - 84), .ref 0, .int 97]) (mem' := fm g tp bt a b) (fun _ _ _ => rfl) ?_
    try rw [h13]
    rw [show (((nI F) + 84) - 84 : Int32) = nI ((F + 84) - 84) from by simp only [show (84 : Int32) = nI 84 from rfl, tg_sub2 (x := F + 84) (y := 84) (by omega), nI_add, fm_mul]]
    refine fe_ivV (fr_byteAt (S := S) (k := (F + 84) - 84) (g := g) (tp := tp) (bt := bt) (a := a) (b := b) h11 (by omega) (by omega)) (by omega) (by rfl) (by rfl) (by rfl) (by rfl) (by rfl) (by rfl) ?_
    rcases fm_byte_or a S ((F + 84) - 84) with ⟨e3, q4⟩ | ⟨q4, n2, qn2, e3⟩
    · rw [e3]
      refine fe_s 1 (pc' := cond (fx_cb .ne 97 (-1)) 106 102) (lc' := [(6, .int 84), (5, .int 1), (4, .int 87), (3, .int 84), (2, .int 15), (0, .ref 0), (1, .ref 22)]) (stk' := []) (mem' := fm g tp bt a b) (fun _ _ _ => rfl) ?_
      rw [show (fx_cb .ne 97 (-1)) = true from by decide]
      dsimp only [cond]
      refine fe_s 6 (pc' := 72) (lc' := [(6, .int (84 + 1)), (5, .int 0), (4, .int 87), (3, .int 84), (2, .int 15), (0, .ref 0), (1, .ref 22)]) (stk' := [.int 87, .int (84 + 1)]) (mem' := fm g tp bt a b) (fun _ _ _ => rfl) ?_
      rw [show (84 + 1 : Int32) = 85 from rfl]
      refine fe_s 1 (pc' := cond (fx_cb .ge 85 87) 115 75) (lc' := [(6, .int 85), (5, .int 0), (4, .int 87), (3, .int 84), (2, .int 15), (0, .ref 0), (1, .ref 22)]) (stk' := []) (mem' := fm g tp bt a b) (fun _ _ _ => rfl) ?_
      rw [show (fx_cb .ge 85 87) = false from by decide]
      dsimp only [cond]
      refine fe_s 1 (pc' := 77) (lc' := [(6, .int 85), (5, .int 0), (4, .int 87), (3, .int 84), (2, .int 15), (0, .ref 0), (1, .ref 22)]) (stk' := [.int 0]) (mem' := fm g tp bt a b) (fun _ _ _ => rfl) ?_
      refine fe_s 1 (pc' := cond (fx_cb .eq 0 0) 115 80) (lc' := [(6, .int 85), (5, .int 0), (4, .int 87), (3, .int 84), (2, .int 15), (0, .ref 0), (1, .ref 22)]) (stk' := []) (mem' := fm g tp bt a b) (fun _ _ _ => rfl) ?_
      rw [show (fx_cb .eq 0 0) = true from by decide]
      dsimp only [cond]
      refine fe_s 1 (pc' := 117) (lc' := [(6, .int 85), (5, .int 0), (4, .int 87), (3, .int 84), (2, .int 15), (0, .ref 0), (1, .ref 22)]) (stk' := [.int 0]) (mem' := fm g tp bt a b) (fun _ _ _ => rfl) ?_
      refine fe_s 1 (pc' := cond (fx_cb .eq 0 0) 122 120) (lc' := [(6, .int 85), (5, .int 0), (4, .int 87), (3, .int 84), (2, .int 15), (0, .ref 0), (1, .ref 22)]) (stk' := []) (mem' := fm g tp bt a b) (fun _ _ _ => rfl) ?_
      rw [show (fx_cb .eq 0 0) = true from by decide]
      dsimp only [cond]
      refine fe_s 6 (pc' := 14) (lc' := [(3, .int (87 + 1)), (2, .int (15 + 1)), (6, .int 85), (5, .int 0), (4, .int 87), (0, .ref 0), (1, .ref 22)]) (stk' := []) (mem' := fm g tp bt a b) (fun _ _ _ => rfl) ?_
      rw [show (87 + 1 : Int32) = 88 from rfl]
      rw [show (15 + 1 : Int32) = 16 from rfl]
      refine fe_w (lc' := [(3, .int 88), (2, .int 16), (0, .ref 0), (1, .ref 22)]) ⟨rfl, rfl, rfl, rfl, trivial⟩ (by show List.Nodup [3, 2, 0, 1]; decide) (by show List.Nodup [3, 2, 6, 5, 4, 0, 1]; decide) ?_
      exact fw_16 hxp
    · rw [e3]
      refine fe_s 1 (pc' := cond (fx_cb .ne 97 (nI n2)) 106 102) (lc' := [(6, .int 84), (5, .int 1), (4, .int 87), (3, .int 84), (2, .int 15), (0, .ref 0), (1, .ref 22)]) (stk' := []) (mem' := fm g tp bt a b) (fun _ _ _ => rfl) ?_
      by_cases h5 : 97 = n2
      · rw [show (fx_cb .ne 97 (nI n2)) = false from cb_neF (a := 97) (b := n2) (by omega) (by omega) (by omega)]
        dsimp only [cond]
        refine fe_s 7 (pc' := 72) (lc' := [(6, .int (84 + 1)), (5, .int 1), (4, .int 87), (3, .int 84), (2, .int 15), (0, .ref 0), (1, .ref 22)]) (stk' := [.int 87, .int (84 + 1)]) (mem' := fm g tp bt a b) (fun _ _ _ => rfl) ?_
        rw [show (84 + 1 : Int32) = 85 from rfl]
        refine fe_s 1 (pc' := cond (fx_cb .ge 85 87) 115 75) (lc' := [(6, .int 85), (5, .int 1), (4, .int 87), (3, .int 84), (2, .int 15), (0, .ref 0), (1, .ref 22)]) (stk' := []) (mem' := fm g tp bt a b) (fun _ _ _ => rfl) ?_
        rw [show (fx_cb .ge 85 87) = false from by decide]
        dsimp only [cond]
        refine fe_s 1 (pc' := 77) (lc' := [(6, .int 85), (5, .int 1), (4, .int 87), (3, .int 84), (2, .int 15), (0, .ref 0), (1, .ref 22)]) (stk' := [.int 1]) (mem' := fm g tp bt a b) (fun _ _ _ => rfl) ?_
        refine fe_s 1 (pc' := cond (fx_cb .eq 1 0) 115 80) (lc' := [(6, .int 85), (5, .int 1), (4, .int 87), (3, .int 84), (2, .int 15), (0, .ref 0), (1, .ref 22)]) (stk' := []) (mem' := fm g tp bt a b) (fun _ _ _ => rfl) ?_
        rw [show (fx_cb .eq 1 0) = false from by decide]
        dsimp only [cond]
        refine fe_s 2 (pc' := 83) (lc' := [(6, .int 85), (5, .int 1), (4, .int 87), (3, .int 84), (2, .int 15), (0, .ref 0), (1, .ref 22)]) (stk' := [.int 85, .ref 22]) (mem' := fm g tp bt a b) (fun _ _ _ => rfl) ?_
        refine fe_chr (i := 85) (by omega) (by rfl) (by rfl) ⟨by rfl, by rfl⟩ (by rfl) ?_
        rw [show sk_b.getD 85 0 = 110 from rfl]
        refine fe_s 7 (pc' := 96) (lc' := [(6, .int 85), (5, .int 1), (4, .int 87), (3, .int 84), (2, .int 15), (0, .ref 0), (1, .ref 22)]) (stk' := [.int (((g 13) + 85) - 84), .ref 0, .int 110]) (mem' := fm g tp bt a b) (fun _ _ _ => rfl) ?_
        try rw [h13]
        rw [show (((nI F) + 85) - 84 : Int32) = nI ((F + 85) - 84) from by simp only [show (85 : Int32) = nI 85 from rfl, show (84 : Int32) = nI 84 from rfl, tg_sub2 (x := F + 85) (y := 84) (by omega), nI_add, fm_mul]]
        refine fe_ivV (fr_byteAt (S := S) (k := (F + 85) - 84) (g := g) (tp := tp) (bt := bt) (a := a) (b := b) h11 (by omega) (by omega)) (by omega) (by rfl) (by rfl) (by rfl) (by rfl) (by rfl) (by rfl) ?_
        rcases fm_byte_or a S ((F + 85) - 84) with ⟨e7, q8⟩ | ⟨q8, n6, qn6, e7⟩
        · rw [e7]
          refine fe_s 1 (pc' := cond (fx_cb .ne 110 (-1)) 106 102) (lc' := [(6, .int 85), (5, .int 1), (4, .int 87), (3, .int 84), (2, .int 15), (0, .ref 0), (1, .ref 22)]) (stk' := []) (mem' := fm g tp bt a b) (fun _ _ _ => rfl) ?_
          rw [show (fx_cb .ne 110 (-1)) = true from by decide]
          dsimp only [cond]
          refine fe_s 6 (pc' := 72) (lc' := [(6, .int (85 + 1)), (5, .int 0), (4, .int 87), (3, .int 84), (2, .int 15), (0, .ref 0), (1, .ref 22)]) (stk' := [.int 87, .int (85 + 1)]) (mem' := fm g tp bt a b) (fun _ _ _ => rfl) ?_
          rw [show (85 + 1 : Int32) = 86 from rfl]
          refine fe_s 1 (pc' := cond (fx_cb .ge 86 87) 115 75) (lc' := [(6, .int 86), (5, .int 0), (4, .int 87), (3, .int 84), (2, .int 15), (0, .ref 0), (1, .ref 22)]) (stk' := []) (mem' := fm g tp bt a b) (fun _ _ _ => rfl) ?_
          rw [show (fx_cb .ge 86 87) = false from by decide]
          dsimp only [cond]
          refine fe_s 1 (pc' := 77) (lc' := [(6, .int 86), (5, .int 0), (4, .int 87), (3, .int 84), (2, .int 15), (0, .ref 0), (1, .ref 22)]) (stk' := [.int 0]) (mem' := fm g tp bt a b) (fun _ _ _ => rfl) ?_
          refine fe_s 1 (pc' := cond (fx_cb .eq 0 0) 115 80) (lc' := [(6, .int 86), (5, .int 0), (4, .int 87), (3, .int 84), (2, .int 15), (0, .ref 0), (1, .ref 22)]) (stk' := []) (mem' := fm g tp bt a b) (fun _ _ _ => rfl) ?_
          rw [show (fx_cb .eq 0 0) = true from by decide]
          dsimp only [cond]
          refine fe_s 1 (pc' := 117) (lc' := [(6, .int 86), (5, .int 0), (4, .int 87), (3, .int 84), (2, .int 15), (0, .ref 0), (1, .ref 22)]) (stk' := [.int 0]) (mem' := fm g tp bt a b) (fun _ _ _ => rfl) ?_
          refine fe_s 1 (pc' := cond (fx_cb .eq 0 0) 122 120) (lc' := [(6, .int 86), (5, .int 0), (4, .int 87), (3, .int 84), (2, .int 15), (0, .ref 0), (1, .ref 22)]) (stk' := []) (mem' := fm g tp bt a b) (fun _ _ _ => rfl) ?_
          rw [show (fx_cb .eq 0 0) = true from by decide]
          dsimp only [cond]
          refine fe_s 6 (pc' := 14) (lc' := [(3, .int (87 + 1)), (2, .int (15 + 1)), (6, .int 86), (5, .int 0), (4, .int 87), (0, .ref 0), (1, .ref 22)]) (stk' := []) (mem' := fm g tp bt a b) (fun _ _ _ => rfl) ?_
          rw [show (87 + 1 : Int32) = 88 from rfl]
          rw [show (15 + 1 : Int32) = 16 from rfl]
          refine fe_w (lc' := [(3, .int 88), (2, .int 16), (0, .ref 0), (1, .ref 22)]) ⟨rfl, rfl, rfl, rfl, trivial⟩ (by show List.Nodup [3, 2, 0, 1]; decide) (by show List.Nodup [3, 2, 6, 5, 4, 0, 1]; decide) ?_
          exact fw_16 hxp
        · rw [e7]
          refine fe_s 1 (pc' := cond (fx_cb .ne 110 (nI n6)) 106 102) (lc' := [(6, .int 85), (5, .int 1), (4, .int 87), (3, .int 84), (2, .int 15), (0, .ref 0), (1, .ref 22)]) (stk' := []) (mem' := fm g tp bt a b) (fun _ _ _ => rfl) ?_
          by_cases h9 : 110 = n6
          · rw [show (fx_cb .ne 110 (nI n6)) = false from cb_neF (a := 110) (b := n6) (by omega) (by omega) (by omega)]
            dsimp only [cond]
            refine fe_s 7 (pc' := 72) (lc' := [(6, .int (85 + 1)), (5, .int 1), (4, .int 87), (3, .int 84), (2, .int 15), (0, .ref 0), (1, .ref 22)]) (stk' := [.int 87, .int (85 + 1)]) (mem' := fm g tp bt a b) (fun _ _ _ => rfl) ?_
            rw [show (85 + 1 : Int32) = 86 from rfl]
            refine fe_s 1 (pc' := cond (fx_cb .ge 86 87) 115 75) (lc' := [(6, .int 86), (5, .int 1), (4, .int 87), (3, .int 84), (2, .int 15), (0, .ref 0), (1, .ref 22)]) (stk' := []) (mem' := fm g tp bt a b) (fun _ _ _ => rfl) ?_
            rw [show (fx_cb .ge 86 87) = false from by decide]
            dsimp only [cond]
            refine fe_s 1 (pc' := 77) (lc' := [(6, .int 86), (5, .int 1), (4, .int 87), (3, .int 84), (2, .int 15), (0, .ref 0), (1, .ref 22)]) (stk' := [.int 1]) (mem' := fm g tp bt a b) (fun _ _ _ => rfl) ?_
            refine fe_s 1 (pc' := cond (fx_cb .eq 1 0) 115 80) (lc' := [(6, .int 86), (5, .int 1), (4, .int 87), (3, .int 84), (2, .int 15), (0, .ref 0), (1, .ref 22)]) (stk' := []) (mem' := fm g tp bt a b) (fun _ _ _ => rfl) ?_
            rw [show (fx_cb .eq 1 0) = false from by decide]
            dsimp only [cond]
            refine fe_s 2 (pc' := 83) (lc' := [(6, .int 86), (5, .int 1), (4, .int 87), (3, .int 84), (2, .int 15), (0, .ref 0), (1, .ref 22)]) (stk' := [.int 86, .ref 22]) (mem' := fm g tp bt a b) (fun _ _ _ => rfl) ?_
            refine fe_chr (i := 86) (by omega) (by rfl) (by rfl) ⟨by rfl, by rfl⟩ (by rfl) ?_
            rw [show sk_b.getD 86 0 = 121 from rfl]
            refine fe_s 7 (pc' := 96) (lc' := [(6, .int 86), (5, .int 1), (4, .int 87), (3, .int 84), (2, .int 15), (0, .ref 0), (1, .ref 22)]) (stk' := [.int (((g 13) + 86) - 84), .ref 0, .int 121]) (mem' := fm g tp bt a b) (fun _ _ _ => rfl) ?_
            try rw [h13]
            rw [show (((nI F) + 86) - 84 : Int32) = nI ((F + 86) - 84) from by simp only [show (86 : Int32) = nI 86 from rfl, show (84 : Int32) = nI 84 from rfl, tg_sub2 (x := F + 86) (y := 84) (by omega), nI_add, fm_mul]]
            refine fe_ivV (fr_byteAt (S := S) (k := (F + 86) - 84) (g := g) (tp := tp) (bt := bt) (a := a) (b := b) h11 (by omega) (by omega)) (by omega) (by rfl) (by rfl) (by rfl) (by rfl) (by rfl) (by rfl) ?_
            rcases fm_byte_or a S ((F + 86) - 84) with ⟨e11, q12⟩ | ⟨q12, n10, qn10, e11⟩
            · rw [e11]
              refine fe_s 1 (pc' := cond (fx_cb .ne 121 (-1)) 106 102) (lc' := [(6, .int 86), (5, .int 1), (4, .int 87), (3, .int 84), (2, .int 15), (0, .ref 0), (1, .ref 22)]) (stk' := []) (mem' := fm g tp bt a b) (fun _ _ _ => rfl) ?_
              rw [show (fx_cb .ne 121 (-1)) = true from by decide]
              dsimp only [cond]
              refine fe_s 6 (pc' := 72) (lc' := [(6, .int (86 + 1)), (5, .int 0), (4, .int 87), (3, .int 84), (2, .int 15), (0, .ref 0), (1, .ref 22)]) (stk' := [.int 87, .int (86 + 1)]) (mem' := fm g tp bt a b) (fun _ _ _ => rfl) ?_
              rw [show (86 + 1 : Int32) = 87 from rfl]
              refine fe_s 1 (pc' := cond (fx_cb .ge 87 87) 115 75) (lc' := [(6, .int 87), (5, .int 0), (4, .int 87), (3, .int 84), (2, .int 15), (0, .ref 0), (1, .ref 22)]) (stk' := []) (mem' := fm g tp bt a b) (fun _ _ _ => rfl) ?_
              rw [show (fx_cb .ge 87 87) = true from by decide]
              dsimp only [cond]
              refine fe_s 1 (pc' := 117) (lc' := [(6, .int 87), (5, .int 0), (4, .int 87), (3, .int 84), (2, .int 15), (0, .ref 0), (1, .ref 22)]) (stk' := [.int 0]) (mem' := fm g tp bt a b) (fun _ _ _ => rfl) ?_
              refine fe_s 1 (pc' := cond (fx_cb .eq 0 0) 122 120) (lc' := [(6, .int 87), (5, .int 0), (4, .int 87), (3, .int 84), (2, .int 15), (0, .ref 0), (1, .ref 22)]) (stk' := []) (mem' := fm g tp bt a b) (fun _ _ _ => rfl) ?_
              rw [show (fx_cb .eq 0 0) = true from by decide]
              dsimp only [cond]
              refine fe_s 6 (pc' := 14) (lc' := [(3, .int (87 + 1)), (2, .int (15 + 1)), (6, .int 87), (5, .int 0), (4, .int 87), (0, .ref 0), (1, .ref 22)]) (stk' := []) (mem' := fm g tp bt a b) (fun _ _ _ => rfl) ?_
              rw [show (87 + 1 : Int32) = 88 from rfl]
              rw [show (15 + 1 : Int32) = 16 from rfl]
              refine fe_w (lc' := [(3, .int 88), (2, .int 16), (0, .ref 0), (1, .ref 22)]) ⟨rfl, rfl, rfl, rfl, trivial⟩ (by show List.Nodup [3, 2, 0, 1]; decide) (by show List.Nodup [3, 2, 6, 5, 4, 0, 1]; decide) ?_
              exact fw_16 hxp
            · rw [e11]
              refine fe_s 1 (pc' := cond (fx_cb .ne 121 (nI n10)) 106 102) (lc' := [(6, .int 86), (5, .int 1), (4, .int 87), (3, .int 84), (2, .int 15), (0, .ref 0), (1, .ref 22)]) (stk' := []) (mem' := fm g tp bt a b) (fun _ _ _ => rfl) ?_
              by_cases h13 : 121 = n10
              · rw [show (fx_cb .ne 121 (nI n10)) = false from cb_neF (a := 121) (b := n10) (by omega) (by omega) (by omega)]
                dsimp only [cond]
                refine fe_s 7 (pc' := 72) (lc' := [(6, .int (86 + 1)), (5, .int 1), (4, .int 87), (3, .int 84), (2, .int 15), (0, .ref 0), (1, .ref 22)]) (stk' := [.int 87, .int (86 + 1)]) (mem' := fm g tp bt a b) (fun _ _ _ => rfl) ?_
                rw [show (86 + 1 : Int32) = 87 from rfl]
                refine fe_s 1 (pc' := cond (fx_cb .ge 87 87) 115 75) (lc' := [(6, .int 87), (5, .int 1), (4, .int 87), (3, .int 84), (2, .int 15), (0, .ref 0), (1, .ref 22)]) (stk' := []) (mem' := fm g tp bt a b) (fun _ _ _ => rfl) ?_
                rw [show (fx_cb .ge 87 87) = true from by decide]
                dsimp only [cond]
                refine fe_s 1 (pc' := 117) (lc' := [(6, .int 87), (5, .int 1), (4, .int 87), (3, .int 84), (2, .int 15), (0, .ref 0), (1, .ref 22)]) (stk' := [.int 1]) (mem' := fm g tp bt a b) (fun _ _ _ => rfl) ?_
                refine fe_s 1 (pc' := cond (fx_cb .eq 1 0) 122 120) (lc' := [(6, .int 87), (5, .int 1), (4, .int 87), (3, .int 84), (2, .int 15), (0, .ref 0), (1, .ref 22)]) (stk' := []) (mem' := fm g tp bt a b) (fun _ _ _ => rfl) ?_
                rw [show (fx_cb .eq 1 0) = false from by decide]
                dsimp only [cond]
                refine fe_s 1 (pc' := 121) (lc' := [(6, .int 87), (5, .int 1), (4, .int 87), (3, .int 84), (2, .int 15), (0, .ref 0), (1, .ref 22)]) (stk' := [.int 15]) (mem' := fm g tp bt a b) (fun _ _ _ => rfl) ?_
                exact fe_ret ⟨_, Or.inr ⟨15, by omega, rfl⟩, rfl⟩ (by rfl) (by rfl) (by rfl)
              · rw [show (fx_cb .ne 121 (nI n10)) = true from cb_neT (a := 121) (b := n10) (by omega) (by omega) (by omega)]
                dsimp only [cond]
                refine fe_s 6 (pc' := 72) (lc' := [(6, .int (86 + 1)), (5, .int 0), (4, .int 87), (3, .int 84), (2, .int 15), (0, .ref 0), (1, .ref 22)]) (stk' := [.int 87, .int (86 + 1)]) (mem' := fm g tp bt a b) (fun _ _ _ => rfl) ?_
                rw [show (86 + 1 : Int32) = 87 from rfl]
                refine fe_s 1 (pc' := cond (fx_cb .ge 87 87) 115 75) (lc' := [(6, .int 87), (5, .int 0), (4, .int 87), (3, .int 84), (2, .int 15), (0, .ref 0), (1, .ref 22)]) (stk' := []) (mem' := fm g tp bt a b) (fun _ _ _ => rfl) ?_
                rw [show (fx_cb .ge 87 87) = true from by decide]
                dsimp only [cond]
                refine fe_s 1 (pc' := 117) (lc' := [(6, .int 87), (5, .int 0), (4, .int 87), (3, .int 84), (2, .int 15), (0, .ref 0), (1, .ref 22)]) (stk' := [.int 0]) (mem' := fm g tp bt a b) (fun _ _ _ => rfl) ?_
                refine fe_s 1 (pc' := cond (fx_cb .eq 0 0) 122 120) (lc' := [(6, .int 87), (5, .int 0), (4, .int 87), (3, .int 84), (2, .int 15), (0, .ref 0), (1, .ref 22)]) (stk' := []) (mem' := fm g tp bt a b) (fun _ _ _ => rfl) ?_
                rw [show (fx_cb .eq 0 0) = true from by decide]
                dsimp only [cond]
                refine fe_s 6 (pc' := 14) (lc' := [(3, .int (87 + 1)), (2, .int (15 + 1)), (6, .int 87), (5, .int 0), (4, .int 87), (0, .ref 0), (1, .ref 22)]) (stk' := []) (mem' := fm g tp bt a b) (fun _ _ _ => rfl) ?_
                rw [show (87 + 1 : Int32) = 88 from rfl]
                rw [show (15 + 1 : Int32) = 16 from rfl]
                refine fe_w (lc' := [(3, .int 88), (2, .int 16), (0, .ref 0), (1, .ref 22)]) ⟨rfl, rfl, rfl, rfl, trivial⟩ (by show List.Nodup [3, 2, 0, 1]; decide) (by show List.Nodup [3, 2, 6, 5, 4, 0, 1]; decide) ?_
                exact fw_16 hxp
          · rw [show (fx_cb .ne 110 (nI n6)) = true from cb_neT (a := 110) (b := n6) (by omega) (by omega) (by omega)]
            dsimp only [cond]
            refine fe_s 6 (pc' := 72) (lc' := [(6, .int (85 + 1)), (5, .int 0), (4, .int 87), (3, .int 84), (2, .int 15), (0, .ref 0), (1, .ref 22)]) (stk' := [.int 87, .int (85 + 1)]) (mem' := fm g tp bt a b) (fun _ _ _ => rfl) ?_
            rw [show (85 + 1 : Int32) = 86 from rfl]
            refine fe_s 1 (pc' := cond (fx_cb .ge 86 87) 115 75) (lc' := [(6, .int 86), (5, .int 0), (4, .int 87), (3, .int 84), (2, .int 15), (0, .ref 0), (1, .ref 22)]) (stk' := []) (mem' := fm g tp bt a b) (fun _ _ _ => rfl) ?_
            rw [show (fx_cb .ge 86 87) = false from by decide]
            dsimp only [cond]
            refine fe_s 1 (pc' := 77) (lc' := [(6, .int 86), (5, .int 0), (4, .int 87), (3, .int 84), (2, .int 15), (0, .ref 0), (1, .ref 22)]) (stk' := [.int 0]) (mem' := fm g tp bt a b) (fun _ _ _ => rfl) ?_
            refine fe_s 1 (pc' := cond (fx_cb .eq 0 0) 115 80) (lc' := [(6, .int 86), (5, .int 0), (4, .int 87), (3, .int 84), (2, .int 15), (0, .ref 0), (1, .ref 22)]) (stk' := []) (mem' := fm g tp bt a b) (fun _ _ _ => rfl) ?_
            rw [show (fx_cb .eq 0 0) = true from by decide]
            dsimp only [cond]
            refine fe_s 1 (pc' := 117) (lc' := [(6, .int 86), (5, .int 0), (4, .int 87), (3, .int 84), (2, .int 15), (0, .ref 0), (1, .ref 22)]) (stk' := [.int 0]) (mem' := fm g tp bt a b) (fun _ _ _ => rfl) ?_
            refine fe_s 1 (pc' := cond (fx_cb .eq 0 0) 122 120) (lc' := [(6, .int 86), (5, .int 0), (4, .int 87), (3, .int 84), (2, .int 15), (0, .ref 0), (1, .ref 22)]) (stk' := []) (mem' := fm g tp bt a b) (fun _ _ _ => rfl) ?_
            rw [show (fx_cb .eq 0 0) = true from by decide]
            dsimp only [cond]
            refine fe_s 6 (pc' := 14) (lc' := [(3, .int (87 + 1)), (2, .int (15 + 1)), (6, .int 86), (5, .int 0), (4, .int 87), (0, .ref 0), (1, .ref 22)]) (stk' := []) (mem' := fm g tp bt a b) (fun _ _ _ => rfl) ?_
            rw [show (87 + 1 : Int32) = 88 from rfl]
            rw [show (15 + 1 : Int32) = 16 from rfl]
            refine fe_w (lc' := [(3, .int 88), (2, .int 16), (0, .ref 0), (1, .ref 22)]) ⟨rfl, rfl, rfl, rfl, trivial⟩ (by show List.Nodup [3, 2, 0, 1]; decide) (by show List.Nodup [3, 2, 6, 5, 4, 0, 1]; decide) ?_
            exact fw_16 hxp
      · rw [show (fx_cb .ne 97 (nI n2)) = true from cb_neT (a := 97) (b := n2) (by omega) (by omega) (by omega)]
        dsimp only [cond]
        refine fe_s 6 (pc' := 72) (lc' := [(6, .int (84 + 1)), (5, .int 0), (4, .int 87), (3, .int 84), (2, .int 15), (0, .ref 0), (1, .ref 22)]) (stk' := [.int 87, .int (84 + 1)]) (mem' := fm g tp bt a b) (fun _ _ _ => rfl) ?_
        rw [show (84 + 1 : Int32) = 85 from rfl]
        refine fe_s 1 (pc' := cond (fx_cb .ge 85 87) 115 75) (lc' := [(6, .int 85), (5, .int 0), (4, .int 87), (3, .int 84), (2, .int 15), (0, .ref 0), (1, .ref 22)]) (stk' := []) (mem' := fm g tp bt a b) (fun _ _ _ => rfl) ?_
        rw [show (fx_cb .ge 85 87) = false from by decide]
        dsimp only [cond]
        refine fe_s 1 (pc' := 77) (lc' := [(6, .int 85), (5, .int 0), (4, .int 87), (3, .int 84), (2, .int 15), (0, .ref 0), (1, .ref 22)]) (stk' := [.int 0]) (mem' := fm g tp bt a b) (fun _ _ _ => rfl) ?_
        refine fe_s 1 (pc' := cond (fx_cb .eq 0 0) 115 80) (lc' := [(6, .int 85), (5, .int 0), (4, .int 87), (3, .int 84), (2, .int 15), (0, .ref 0), (1, .ref 22)]) (stk' := []) (mem' := fm g tp bt a b) (fun _ _ _ => rfl) ?_
        rw [show (fx_cb .eq 0 0) = true from by decide]
        dsimp only [cond]
        refine fe_s 1 (pc' := 117) (lc' := [(6, .int 85), (5, .int 0), (4, .int 87), (3, .int 84), (2, .int 15), (0, .ref 0), (1, .ref 22)]) (stk' := [.int 0]) (mem' := fm g tp bt a b) (fun _ _ _ => rfl) ?_
        refine fe_s 1 (pc' := cond (fx_cb .eq 0 0) 122 120) (lc' := [(6, .int 85), (5, .int 0), (4, .int 87), (3, .int 84), (2, .int 15), (0, .ref 0), (1, .ref 22)]) (stk' := []) (mem' := fm g tp bt a b) (fun _ _ _ => rfl) ?_
        rw [show (fx_cb .eq 0 0) = true from by decide]
        dsimp only [cond]
        refine fe_s 6 (pc' := 14) (lc' := [(3, .int (87 + 1)), (2, .int (15 + 1)), (6, .int 85), (5, .int 0), (4, .int 87), (0, .ref 0), (1, .ref 22)]) (stk' := []) (mem' := fm g tp bt a b) (fun _ _ _ => rfl) ?_
        rw [show (87 + 1 : Int32) = 88 from rfl]
        rw [show (15 + 1 : Int32) = 16 from rfl]
        refine fe_w (lc' := [(3, .int 88), (2, .int 16), (0, .ref 0), (1, .ref 22)]) ⟨rfl, rfl, rfl, rfl, trivial⟩ (by show List.Nodup [3, 2, 0, 1]; decide) (by show List.Nodup [3, 2, 6, 5, 4, 0, 1]; decide) ?_
        exact fw_16 hxp
  · rw [show (fx_cb .ne 3 (nI (E - F))) = true from cb_neT (a := 3) (b := E - F) (by omega) (by omega) (by omega)]
    dsimp only [cond]
    refine fe_s 6 (pc' := 72) (lc' := [(6, .int 84), (5, .int 0), (4, .int 87), (3, .int 84), (2, .int 15), (0, .ref 0), (1, .ref 22)]) (stk' := [.int 87, .int 84]) (mem' := fm g tp bt a b) (fun _ _ _ => rfl) ?_
    refine fe_s 1 (pc' := cond (fx_cb .ge 84 87) 115 75) (lc' := [(6, .int 84), (5, .int 0), (4, .int 87), (3, .int 84), (2, .int 15), (0, .ref 0), (1, .ref 22)]) (stk' := []) (mem' := fm g tp bt a b) (fun _ _ _ => rfl) ?_
    rw [show (fx_cb .ge 84 87) = false from by decide]
    dsimp only [cond]
    refine fe_s 1 (pc' := 77) (lc' := [(6, .int 84), (5, .int 0), (4, .int 87), (3, .int 84), (2, .int 15), (0, .ref 0), (1, .ref 22)]) (stk' := [.int 0]) (mem' := fm g tp bt a b) (fun _ _ _ => rfl) ?_
    refine fe_s 1 (pc' := cond (fx_cb .eq 0 0) 115 80) (lc' := [(6, .int 84), (5, .int 0), (4, .int 87), (3, .int 84), (2, .int 15), (0, .ref 0), (1, .ref 22)]) (stk' := []) (mem' := fm g tp bt a b) (fun _ _ _ => rfl) ?_
    rw [show (fx_cb .eq 0 0) = true from by decide]
    dsimp only [cond]
    refine fe_s 1 (pc' := 117) (lc' := [(6, .int 84), (5, .int 0), (4, .int 87), (3, .int 84), (2, .int 15), (0, .ref 0), (1, .ref 22)]) (stk' := [.int 0]) (mem' := fm g tp bt a b) (fun _ _ _ => rfl) ?_
    refine fe_s 1 (pc' := cond (fx_cb .eq 0 0) 122 120) (lc' := [(6, .int 84), (5, .int 0), (4, .int 87), (3, .int 84), (2, .int 15), (0, .ref 0), (1, .ref 22)]) (stk' := []) (mem' := fm g tp bt a b) (fun _ _ _ => rfl) ?_
    rw [show (fx_cb .eq 0 0) = true from by decide]
    dsimp only [cond]
    refine fe_s 6 (pc' := 14) (lc' := [(3, .int (87 + 1)), (2, .int (15 + 1)), (6, .int 84), (5, .int 0), (4, .int 87), (0, .ref 0), (1, .ref 22)]) (stk' := []) (mem' := fm g tp bt a b) (fun _ _ _ => rfl) ?_
    rw [show (87 + 1 : Int32) = 88 from rfl]
    rw [show (15 + 1 : Int32) = 16 from rfl]
    refine fe_w (lc' := [(3, .int 88), (2, .int 16), (0, .ref 0), (1, .ref 22)]) ⟨rfl, rfl, rfl, rfl, trivial⟩ (by show List.Nodup [3, 2, 0, 1]; decide) (by show List.Nodup [3, 2, 6, 5, 4, 0, 1]; decide) ?_
    exact fw_16 hxp
theorem fw_14 {S E F : Nat} (hxp : fm_xp g S E F) : fe_R 1 gk_m226 14 [(3, .int 79), (2, .int 14), (0, .ref 0), (1, .ref 22)] [] (fm g tp bt a b) (fm_FI (fm g tp bt a b)) := by
  obtain ⟨h11, hS9, h14, hES, h13, hFE, -, -, -⟩ := id hxp
  refine fe_s 2 (pc' := 16) (lc' := [(3, .int 79), (2, .int 14), (0, .ref 0), (1, .ref 22)]) (stk' := [.ref 22, .int 79]) (mem' := fm g tp bt a b) (fun _ _ _ => rfl) ?_
  refine fe_s 1 (pc' := 19) (lc' := [(3, .int 79), (2, .int 14), (0, .ref 0), (1, .ref 22)]) (stk' := [.int 117, .int 79]) (mem' := fm g tp bt a b) (fun _ _ _ => rfl) ?_
  refine fe_s 1 (pc' := cond (fx_cb .ge 79 117) 133 22) (lc' := [(3, .int 79), (2, .int 14), (0, .ref 0), (1, .ref 22)]) (stk' := []) (mem' := fm g tp bt a b) (fun _ _ _ => rfl) ?_
  rw [show (fx_cb .ge 79 117) = false from by decide]
  dsimp only [cond]
  refine fe_s 4 (pc' := 28) (lc' := [(4, .int 79), (3, .int 79), (2, .int 14), (0, .ref 0), (1, .ref 22)]) (stk' := [.int 79, .ref 22]) (mem' := fm g tp bt a b) (fun _ _ _ => rfl) ?_
  refine fe_chr (i := 79) (by omega) (by rfl) (by rfl) ⟨by rfl, by rfl⟩ (by rfl) ?_
  rw [show sk_b.getD 79 0 = 116 from rfl]
  refine fe_s 1 (pc' := 33) (lc' := [(4, .int 79), (3, .int 79), (2, .int 14), (0, .ref 0), (1, .ref 22)]) (stk' := [.int 32, .int 116]) (mem' := fm g tp bt a b) (fun _ _ _ => rfl) ?_
  refine fe_s 1 (pc' := cond (fx_cb .eq 116 32) 42 36) (lc' := [(4, .int 79), (3, .int 79), (2, .int 14), (0, .ref 0), (1, .ref 22)]) (stk' := []) (mem' := fm g tp bt a b) (fun _ _ _ => rfl) ?_
  rw [show (fx_cb .eq 116 32) = false from by decide]
  dsimp only [cond]
  refine fe_s 4 (pc' := 28) (lc' := [(4, .int (79 + 1)), (3, .int 79), (2, .int 14), (0, .ref 0), (1, .ref 22)]) (stk' := [.int (79 + 1), .ref 22]) (mem' := fm g tp bt a b) (fun _ _ _ => rfl) ?_
  rw [show (79 + 1 : Int32) = 80 from rfl]
  refine fe_chr (i := 80) (by omega) (by rfl) (by rfl) ⟨by rfl, by rfl⟩ (by rfl) ?_
  rw [show sk_b.getD 80 0 = 104 from rfl]
  refine fe_s 1 (pc' := 33) (lc' := [(4, .int 80), (3, .int 79), (2, .int 14), (0, .ref 0), (1, .ref 22)]) (stk' := [.int 32, .int 104]) (mem' := fm g tp bt a b) (fun _ _ _ => rfl) ?_
  refine fe_s 1 (pc' := cond (fx_cb .eq 104 32) 42 36) (lc' := [(4, .int 80), (3, .int 79), (2, .int 14), (0, .ref 0), (1, .ref 22)]) (stk' := []) (mem' := fm g tp bt a b) (fun _ _ _ => rfl) ?_
  rw [show (fx_cb .eq 104 32) = false from by decide]
  dsimp only [cond]
  refine fe_s 4 (pc' := 28) (lc' := [(4, .int (80 + 1)), (3, .int 79), (2, .int 14), (0, .ref 0), (1, .ref 22)]) (stk' := [.int (80 + 1), .ref 22]) (mem' := fm g tp bt a b) (fun _ _ _ => rfl) ?_
  rw [show (80 + 1 : Int32) = 81 from rfl]
  refine fe_chr (i := 81) (by omega) (by rfl) (by rfl) ⟨by rfl, by rfl⟩ (by rfl) ?_
  rw [show sk_b.getD 81 0 = 97 from rfl]
  refine fe_s 1 (pc' := 33) (lc' := [(4, .int 81), (3, .int 79), (2, .int 14), (0, .ref 0), (1, .ref 22)]) (stk' := [.int 32, .int 97]) (mem' := fm g tp bt a b) (fun _ _ _ => rfl) ?_
  refine fe_s 1 (pc' := cond (fx_cb .eq 97 32) 42 36) (lc' := [(4, .int 81), (3, .int 79), (2, .int 14), (0, .ref 0), (1, .ref 22)]) (stk' := []) (mem' := fm g tp bt a b) (fun _ _ _ => rfl) ?_
  rw [show (fx_cb .eq 97 32) = false from by decide]
  dsimp only [cond]
  refine fe_s 4 (pc' := 28) (lc' := [(4, .int (81 + 1)), (3, .int 79), (2, .int 14), (0, .ref 0), (1, .ref 22)]) (stk' := [.int (81 + 1), .ref 22]) (mem' := fm g tp bt a b) (fun _ _ _ => rfl) ?_
  rw [show (81 + 1 : Int32) = 82 from rfl]
  refine fe_chr (i := 82) (by omega) (by rfl) (by rfl) ⟨by rfl, by rfl⟩ (by rfl) ?_
  rw [show sk_b.getD 82 0 = 119 from rfl]
  refine fe_s 1 (pc' := 33) (lc' := [(4, .int 82), (3, .int 79), (2, .int 14), (0, .ref 0), (1, .ref 22)]) (stk' := [.int 32, .int 119]) (mem' := fm g tp bt a b) (fun _ _ _ => rfl) ?_
  refine fe_s 1 (pc' := cond (fx_cb .eq 119 32) 42 36) (lc' := [(4, .int 82), (3, .int 79), (2, .int 14), (0, .ref 0), (1, .ref 22)]) (stk' := []) (mem' := fm g tp bt a b) (fun _ _ _ => rfl) ?_
  rw [show (fx_cb .eq 119 32) = false from by decide]
  dsimp only [cond]
  refine fe_s 4 (pc' := 28) (lc' := [(4, .int (82 + 1)), (3, .int 79), (2, .int 14), (0, .ref 0), (1, .ref 22)]) (stk' := [.int (82 + 1), .ref 22]) (mem' := fm g tp bt a b) (fun _ _ _ => rfl) ?_
  rw [show (82 + 1 : Int32) = 83 from rfl]
  refine fe_chr (i := 83) (by omega) (by rfl) (by rfl) ⟨by rfl, by rfl⟩ (by rfl) ?_
  rw [show sk_b.getD 83 0 = 32 from rfl]
  refine fe_s 1 (pc' := 33) (lc' := [(4, .int 83), (3, .int 79), (2, .int 14), (0, .ref 0), (1, .ref 22)]) (stk' := [.int 32, .int 32]) (mem' := fm g tp bt a b) (fun _ _ _ => rfl) ?_
  refine fe_s 1 (pc' := cond (fx_cb .eq 32 32) 42 36) (lc' := [(4, .int 83), (3, .int 79), (2, .int 14), (0, .ref 0), (1, .ref 22)]) (stk' := []) (mem' := fm g tp bt a b) (fun _ _ _ => rfl) ?_
  rw [show (fx_cb .eq 32 32) = true from by decide]
  dsimp only [cond]
  refine fe_s 8 (pc' := 55) (lc' := [(4, .int 83), (3, .int 79), (2, .int 14), (0, .ref 0), (1, .ref 22)]) (stk' := [.int ((g 14) - (g 13)), .int (83 - 79)]) (mem' := fm g tp bt a b) (fun _ _ _ => rfl) ?_
  try rw [h14]
  try rw [h13]
  rw [show (83 - 79 : Int32) = 4 from rfl]
  rw [show ((nI E) - (nI F) : Int32) = nI (E - F) from by simp only [tg_sub2 (x := E) (y := F) (by omega), nI_add, fm_mul]]
  refine fe_s 1 (pc' := cond (fx_cb .ne 4 (nI (E - F))) 62 58) (lc' := [(4, .int 83), (3, .int 79), (2, .int 14), (0, .ref 0), (1, .ref 22)]) (stk' := []) (mem' := fm g tp bt a b) (fun _ _ _ => rfl) ?_
  by_cases h1 : 4 = (E - F)
  · rw [show (fx_cb .ne 4 (nI (E - F))) = false from cb_neF (a := 4) (b := E - F) (by omega) (by omega) (by omega)]
    dsimp only [cond]
    refine fe_s 7 (pc' := 72) (lc' := [(6, .int 79), (5, .int 1), (4, .int 83), (3, .int 79), (2, .int 14), (0, .ref 0), (1, .ref 22)]) (stk' := [.int 83, .int 79]) (mem' := fm g tp bt a b) (fun _ _ _ => rfl) ?_
    refine fe_s 1 (pc' := cond (fx_cb .ge 79 83) 115 75) (lc' := [(6, .int 79), (5, .int 1), (4, .int 83), (3, .int 79), (2, .int 14), (0, .ref 0), (1, .ref 22)]) (stk' := []) (mem' := fm g tp bt a b) (fun _ _ _ => rfl) ?_
    rw [show (fx_cb .ge 79 83) = false from by decide]
    dsimp only [cond]
    refine fe_s 1 (pc' := 77) (lc' := [(6, .int 79), (5, .int 1), (4, .int 83), (3, .int 79), (2, .int 14), (0, .ref 0), (1, .ref 22)]) (stk' := [.int 1]) (mem' := fm g tp bt a b) (fun _ _ _ => rfl) ?_
    refine fe_s 1 (pc' := cond (fx_cb .eq 1 0) 115 80) (lc' := [(6, .int 79), (5, .int 1), (4, .int 83), (3, .int 79), (2, .int 14), (0, .ref 0), (1, .ref 22)]) (stk' := []) (mem' := fm g tp bt a b) (fun _ _ _ => rfl) ?_
    rw [show (fx_cb .eq 1 0) = false from by decide]
    dsimp only [cond]
    refine fe_s 2 (pc' := 83) (lc' := [(6, .int 79), (5, .int 1), (4, .int 83), (3, .int 79), (2, .int 14), (0, .ref 0), (1, .ref 22)]) (stk' := [.int 79, .ref 22]) (mem' := fm g tp bt a b) (fun _ _ _ => rfl) ?_
    refine fe_chr (i := 79) (by omega) (by rfl) (by rfl) ⟨by rfl, by rfl⟩ (by rfl) ?_
    rw [show sk_b.getD 79 0 = 116 from rfl]
    refine fe_s 7 (pc' := 96) (lc' := [(6, .int 79), (5, .int 1), (4, .int 83), (3, .int 79), (2, .int 14), (0, .ref 0), (1, .ref 22)]) (stk' := [.int (((g 13) + 79) - 79), .ref 0, .int 116]) (mem' := fm g tp bt a b) (fun _ _ _ => rfl) ?_
    try rw [h13]
    rw [show (((nI F) + 79) - 79 : Int32) = nI ((F + 79) - 79) from by simp only [show (79 : Int32) = nI 79 from rfl, tg_sub2 (x := F + 79) (y := 79) (by omega), nI_add, fm_mul]]
    refine fe_ivV (fr_byteAt (S := S) (k := (F + 79) - 79) (g := g) (tp := tp) (bt := bt) (a := a) (b := b) h11 (by omega) (by omega)) (by omega) (by rfl) (by rfl) (by rfl) (by rfl) (by rfl) (by rfl) ?_
    rcases fm_byte_or a S ((F + 79) - 79) with ⟨e3, q4⟩ | ⟨q4, n2, qn2, e3⟩
    · rw [e3]
      refine fe_s 1 (pc' := cond (fx_cb .ne 116 (-1)) 106 102) (lc' := [(6, .int 79), (5, .int 1), (4, .int 83), (3, .int 79), (2, .int 14), (0, .ref 0), (1, .ref 22)]) (stk' := []) (mem' := fm g tp bt a b) (fun _ _ _ => rfl) ?_
      rw [show (fx_cb .ne 116 (-1)) = true from by decide]
      dsimp only [cond]
      refine fe_s 6 (pc' := 72) (lc' := [(6, .int (79 + 1)), (5, .int 0), (4, .int 83), (3, .int 79), (2, .int 14), (0, .ref 0), (1, .ref 22)]) (stk' := [.int 83, .int (79 + 1)]) (mem' := fm g tp bt a b) (fun _ _ _ => rfl) ?_
      rw [show (79 + 1 : Int32) = 80 from rfl]
      refine fe_s 1 (pc' := cond (fx_cb .ge 80 83) 115 75) (lc' := [(6, .int 80), (5, .int 0), (4, .int 83), (3, .int 79), (2, .int 14), (0, .ref 0), (1, .ref 22)]) (stk' := []) (mem' := fm g tp bt a b) (fun _ _ _ => rfl) ?_
      rw [show (fx_cb .ge 80 83) = false from by decide]
      dsimp only [cond]
      refine fe_s 1 (pc' := 77) (lc' := [(6, .int 80), (5, .int 0), (4, .int 83), (3, .int 79), (2, .int 14), (0, .ref 0), (1, .ref 22)]) (stk' := [.int 0]) (mem' := fm g tp bt a b) (fun _ _ _ => rfl) ?_
      refine fe_s 1 (pc' := cond (fx_cb .eq 0 0) 115 80) (lc' := [(6, .int 80), (5, .int 0), (4, .int 83), (3, .int 79), (2, .int 14), (0, .ref 0), (1, .ref 22)]) (stk' := []) (mem' := fm g tp bt a b) (fun _ _ _ => rfl) ?_
      rw [show (fx_cb .eq 0 0) = true from by decide]
      dsimp only [cond]
      refine fe_s 1 (pc' := 117) (lc' := [(6, .int 80), (5, .int 0), (4, .int 83), (3, .int 79), (2, .int 14), (0, .ref 0), (1, .ref 22)]) (stk' := [.int 0]) (mem' := fm g tp bt a b) (fun _ _ _ => rfl) ?_
      refine fe_s 1 (pc' := cond (fx_cb .eq 0 0) 122 120) (lc' := [(6, .int 80), (5, .int 0), (4, .int 83), (3, .int 79), (2, .int 14), (0, .ref 0), (1, .ref 22)]) (stk' := []) (mem' := fm g tp bt a b) (fun _ _ _ => rfl) ?_
      rw [show (fx_cb .eq 0 0) = true from by decide]
      dsimp only [cond]
      refine fe_s 6 (pc' := 14) (lc' := [(3, .int (83 + 1)), (2, .int (14 + 1)), (6, .int 80), (5, .int 0), (4, .int 83), (0, .ref 0), (1, .ref 22)]) (stk' := []) (mem' := fm g tp bt a b) (fun _ _ _ => rfl) ?_
      rw [show (83 + 1 : Int32) = 84 from rfl]
      rw [show (14 + 1 : Int32) = 15 from rfl]
      refine fe_w (lc' := [(3, .int 84), (2, .int 15), (0, .ref 0), (1, .ref 22)]) ⟨rfl, rfl, rfl, rfl, trivial⟩ (by show List.Nodup [3, 2, 0, 1]; decide) (by show List.Nodup [3, 2, 6, 5, 4, 0, 1]; decide) ?_
      exact fw_15 hxp
    · rw [e3]
      refine fe_s 1 (pc' := cond (fx_cb .ne 116 (nI n2)) 106 102) (lc' := [(6, .int 79), (5, .int 1), (4, .int 83), (3, .int 79), (2, .int 14), (0, .ref 0), (1, .ref 22)]) (stk' := []) (mem' := fm g tp bt a b) (fun _ _ _ => rfl) ?_
      by_cases h5 : 116 = n2
      · rw [show (fx_cb .ne 116 (nI n2)) = false from cb_neF (a := 116) (b := n2) (by omega) (by omega) (by omega)]
        dsimp only [cond]
        refine fe_s 7 (pc' := 72) (lc' := [(6, .int (79 + 1)), (5, .int 1), (4, .int 83), (3, .int 79), (2, .int 14), (0, .ref 0), (1, .ref 22)]) (stk' := [.int 83, .int (79 + 1)]) (mem' := fm g tp bt a b) (fun _ _ _ => rfl) ?_
        rw [show (79 + 1 : Int32) = 80 from rfl]
        refine fe_s 1 (pc' := cond (fx_cb .ge 80 83) 115 75) (lc' := [(6, .int 80), (5, .int 1), (4, .int 83), (3, .int 79), (2, .int 14), (0, .ref 0), (1, .ref 22)]) (stk' := []) (mem' := fm g tp bt a b) (fun _ _ _ => rfl) ?_
        rw [show (fx_cb .ge 80 83) = false from by decide]
        dsimp only [cond]
        refine fe_s 1 (pc' := 77) (lc' := [(6, .int 80), (5, .int 1), (4, .int 83), (3, .int 79), (2, .int 14), (0, .ref 0), (1, .ref 22)]) (stk' := [.int 1]) (mem' := fm g tp bt a b) (fun _ _ _ => rfl) ?_
        refine fe_s 1 (pc' := cond (fx_cb .eq 1 0) 115 80) (lc' := [(6, .int 80), (5, .int 1), (4, .int 83), (3, .int 79), (2, .int 14), (0, .ref 0), (1, .ref 22)]) (stk' := []) (mem' := fm g tp bt a b) (fun _ _ _ => rfl) ?_
        rw [show (fx_cb .eq 1 0) = false from by decide]
        dsimp only [cond]
        refine fe_s 2 (pc' := 83) (lc' := [(6, .int 80), (5, .int 1), (4, .int 83), (3, .int 79), (2, .int 14), (0, .ref 0), (1, .ref 22)]) (stk' := [.int 80, .ref 22]) (mem' := fm g tp bt a b) (fun _ _ _ => rfl) ?_
        refine fe_chr (i := 80) (by omega) (by rfl) (by rfl) ⟨by rfl, by rfl⟩ (by rfl) ?_
        rw [show sk_b.getD 80 0 = 104 from rfl]
        refine fe_s 7 (pc' := 96) (lc' := [(6, .int 80), (5, .int 1), (4, .int 83), (3, .int 79), (2, .int 14), (0, .ref 0), (1, .ref 22)]) (stk' := [.int (((g 13) + 80) - 79), .ref 0, .int 104]) (mem' := fm g tp bt a b) (fun _ _ _ => rfl) ?_
        try rw [h13]
        rw [show (((nI F) + 80) - 79 : Int32) = nI ((F + 80) - 79) from by simp only [show (80 : Int32) = nI 80 from rfl, show (79 : Int32) = nI 79 from rfl, tg_sub2 (x := F + 80) (y := 79) (by omega), nI_add, fm_mul]]
        refine fe_ivV (fr_byteAt (S := S) (k := (F + 80) - 79) (g := g) (tp := tp) (bt := bt) (a := a) (b := b) h11 (by omega) (by omega)) (by omega) (by rfl) (by rfl) (by rfl) (by rfl) (by rfl) (by rfl) ?_
        rcases fm_byte_or a S ((F + 80) - 79) with ⟨e7, q8⟩ | ⟨q8, n6, qn6, e7⟩
        · rw [e7]
          refine fe_s 1 (pc' := cond (fx_cb .ne 104 (-1)) 106 102) (lc' := [(6, .int 80), (5, .int 1), (4, .int 83), (3, .int 79), (2, .int 14), (0, .ref 0), (1, .ref 22)]) (stk' := []) (mem' := fm g tp bt a b) (fun _ _ _ => rfl) ?_
          rw [show (fx_cb .ne 104 (-1)) = true from by decide]
          dsimp only [cond]
          refine fe_s 6 (pc' := 72) (lc' := [(6, .int (80 + 1)), (5, .int 0), (4, .int 83), (3, .int 79), (2, .int 14), (0, .ref 0), (1, .ref 22)]) (stk' := [.int 83, .int (80 + 1)]) (mem' := fm g tp bt a b) (fun _ _ _ => rfl) ?_
          rw [show (80 + 1 : Int32) = 81 from rfl]
          refine fe_s 1 (pc' := cond (fx_cb .ge 81 83) 115 75) (lc' := [(6, .int 81), (5, .int 0), (4, .int 83), (3, .int 79), (2, .int 14), (0, .ref 0), (1, .ref 22)]) (stk' := []) (mem' := fm g tp bt a b) (fun _ _ _ => rfl) ?_
          rw [show (fx_cb .ge 81 83) = false from by decide]
          dsimp only [cond]
          refine fe_s 1 (pc' := 77) (lc' := [(6, .int 81), (5, .int 0), (4, .int 83), (3, .int 79), (2, .int 14), (0, .ref 0), (1, .ref 22)]) (stk' := [.int 0]) (mem' := fm g tp bt a b) (fun _ _ _ => rfl) ?_
          refine fe_s 1 (pc' := cond (fx_cb .eq 0 0) 115 80) (lc' := [(6, .int 81), (5, .int 0), (4, .int 83), (3, .int 79), (2, .int 14), (0, .ref 0), (1, .ref 22)]) (stk' := []) (mem' := fm g tp bt a b) (fun _ _ _ => rfl) ?_
          rw [show (fx_cb .eq 0 0) = true from by decide]
          dsimp only [cond]
          refine fe_s 1 (pc' := 117) (lc' := [(6, .int 81), (5, .int 0), (4, .int 83), (3, .int 79), (2, .int 14), (0, .ref 0), (1, .ref 22)]) (stk' := [.int 0]) (mem' := fm g tp bt a b) (fun _ _ _ => rfl) ?_
          refine fe_s 1 (pc' := cond (fx_cb .eq 0 0) 122 120) (lc' := [(6, .int 81), (5, .int 0), (4, .int 83), (3, .int 79), (2, .int 14), (0, .ref 0), (1, .ref 22)]) (stk' := []) (mem' := fm g tp bt a b) (fun _ _ _ => rfl) ?_
          rw [show (fx_cb .eq 0 0) = true from by decide]
          dsimp only [cond]
          refine fe_s 6 (pc' := 14) (lc' := [(3, .int (83 + 1)), (2, .int (14 + 1)), (6, .int 81), (5, .int 0), (4, .int 83), (0, .ref 0), (1, .ref 22)]) (stk' := []) (mem' := fm g tp bt a b) (fun _ _ _ => rfl) ?_
          rw [show (83 + 1 : Int32) = 84 from rfl]
          rw [show (14 + 1 : Int32) = 15 from rfl]
          refine fe_w (lc' := [(3, .int 84), (2, .int 15), (0, .ref 0), (1, .ref 22)]) ⟨rfl, rfl, rfl, rfl, trivial⟩ (by show List.Nodup [3, 2, 0, 1]; decide) (by show List.Nodup [3, 2, 6, 5, 4, 0, 1]; decide) ?_
          exact fw_15 hxp
        · rw [e7]
          refine fe_s 1 (pc' := cond (fx_cb .ne 104 (nI n6)) 106 102) (lc' := [(6, .int 80), (5, .int 1), (4, .int 83), (3, .int 79), (2, .int 14), (0, .ref 0), (1, .ref 22)]) (stk' := []) (mem' := fm g tp bt a b) (fun _ _ _ => rfl) ?_
          by_cases h9 : 104 = n6
          · rw [show (fx_cb .ne 104 (nI n6)) = false from cb_neF (a := 104) (b := n6) (by omega) (by omega) (by omega)]
            dsimp only [cond]
            refine fe_s 7 (pc' := 72) (lc' := [(6, .int (80 + 1)), (5, .int 1), (4, .int 83), (3, .int 79), (2, .int 14), (0, .ref 0), (1, .ref 22)]) (stk' := [.int 83, .int (80 + 1)]) (mem' := fm g tp bt a b) (fun _ _ _ => rfl) ?_
            rw [show (80 + 1 : Int32) = 81 from rfl]
            refine fe_s 1 (pc' := cond (fx_cb .ge 81 83) 115 75) (lc' := [(6, .int 81), (5, .int 1), (4, .int 83), (3, .int 79), (2, .int 14), (0, .ref 0), (1, .ref 22)]) (stk' := []) (mem' := fm g tp bt a b) (fun _ _ _ => rfl) ?_
            rw [show (fx_cb .ge 81 83) = false from by decide]
            dsimp only [cond]
            refine fe_s 1 (pc' := 77) (lc' := [(6, .int 81), (5, .int 1), (4, .int 83), (3, .int 79), (2, .int 14), (0, .ref 0), (1, .ref 22)]) (stk' := [.int 1]) (mem' := fm g tp bt a b) (fun _ _ _ => rfl) ?_
            refine fe_s 1 (pc' := cond (fx_cb .eq 1 0) 115 80) (lc' := [(6, .int 81), (5, .int 1), (4, .int 83), (3, .int 79), (2, .int 14), (0, .ref 0), (1, .ref 22)]) (stk' := []) (mem' := fm g tp bt a b) (fun _ _ _ => rfl) ?_
            rw [show (fx_cb .eq 1 0) = false from by decide]
            dsimp only [cond]
            refine fe_s 2 (pc' := 83) (lc' := [(6, .int 81), (5, .int 1), (4, .int 83), (3, .int 79), (2, .int 14), (0, .ref 0), (1, .ref 22)]) (stk' := [.int 81, .ref 22]) (mem' := fm g tp bt a b) (fun _ _ _ => rfl) ?_
            refine fe_chr (i := 81) (by omega) (by rfl) (by rfl) ⟨by rfl, by rfl⟩ (by rfl) ?_
            rw [show sk_b.getD 81 0 = 97 from rfl]
            refine fe_s 7 (pc' := 96) (lc' := [(6, .int 81), (5, .int 1), (4, .int 83), (3, .int 79), (2, .int 14), (0, .ref 0), (1, .ref 22)]) (stk' := [.int (((g 13) + 81) - 79), .ref 0, .int 97]) (mem' := fm g tp bt a b) (fun _ _ _ => rfl) ?_
            try rw [h13]
            rw [show (((nI F) + 81) - 79 : Int32) = nI ((F + 81) - 79) from by simp only [show (81 : Int32) = nI 81 from rfl, show (79 : Int32) = nI 79 from rfl, tg_sub2 (x := F + 81) (y := 79) (by omega), nI_add, fm_mul]]
            refine fe_ivV (fr_byteAt (S := S) (k := (F + 81) - 79) (g := g) (tp := tp) (bt := bt) (a := a) (b := b) h11 (by omega) (by omega)) (by omega) (by rfl) (by rfl) (by rfl) (by rfl) (by rfl) (by rfl) ?_
            rcases fm_byte_or a S ((F + 81) - 79) with ⟨e11, q12⟩ | ⟨q12, n10, qn10, e11⟩
            · rw [e11]
              refine fe_s 1 (pc' := cond (fx_cb .ne 97 (-1)) 106 102) (lc' := [(6, .int 81), (5, .int 1), (4, .int 83), (3, .int 79), (2, .int 14), (0, .ref 0), (1, .ref 22)]) (stk' := []) (mem' := fm g tp bt a b) (fun _ _ _ => rfl) ?_
              rw [show (fx_cb .ne 97 (-1)) = true from by decide]
              dsimp only [cond]
              refine fe_s 6 (pc' := 72) (lc' := [(6, .int (81 + 1)), (5, .int 0), (4, .int 83), (3, .int 79), (2, .int 14), (0, .ref 0), (1, .ref 22)]) (stk' := [.int 83, .int (81 + 1)]) (mem' := fm g tp bt a b) (fun _ _ _ => rfl) ?_
              rw [show (81 + 1 : Int32) = 82 from rfl]
              refine fe_s 1 (pc' := cond (fx_cb .ge 82 83) 115 75) (lc' := [(6, .int 82), (5, .int 0), (4, .int 83), (3, .int 79), (2, .int 14), (0, .ref 0), (1, .ref 22)]) (stk' := []) (mem' := fm g tp bt a b) (fun _ _ _ => rfl) ?_
              rw [show (fx_cb .ge 82 83) = false from by decide]
              dsimp only [cond]
              refine fe_s 1 (pc' := 77) (lc' := [(6, .int 82), (5, .int 0), (4, .int 83), (3, .int 79), (2, .int 14), (0, .ref 0), (1, .ref 22)]) (stk' := [.int 0]) (mem' := fm g tp bt a b) (fun _ _ _ => rfl) ?_
              refine fe_s 1 (pc' := cond (fx_cb .eq 0 0) 115 80) (lc' := [(6, .int 82), (5, .int 0), (4, .int 83), (3, .int 79), (2, .int 14), (0, .ref 0), (1, .ref 22)]) (stk' := []) (mem' := fm g tp bt a b) (fun _ _ _ => rfl) ?_
              rw [show (fx_cb .eq 0 0) = true from by decide]
              dsimp only [cond]
              refine fe_s 1 (pc' := 117) (lc' := [(6, .int 82), (5, .int 0), (4, .int 83), (3, .int 79), (2, .int 14), (0, .ref 0), (1, .ref 22)]) (stk' := [.int 0]) (mem' := fm g tp bt a b) (fun _ _ _ => rfl) ?_
              refine fe_s 1 (pc' := cond (fx_cb .eq 0 0) 122 120) (lc' := [(6, .int 82), (5, .int 0), (4, .int 83), (3, .int 79), (2, .int 14), (0, .ref 0), (1, .ref 22)]) (stk' := []) (mem' := fm g tp bt a b) (fun _ _ _ => rfl) ?_
              rw [show (fx_cb .eq 0 0) = true from by decide]
              dsimp only [cond]
              refine fe_s 6 (pc' := 14) (lc' := [(3, .int (83 + 1)), (2, .int (14 + 1)), (6, .int 82), (5, .int 0), (4, .int 83), (0, .ref 0), (1, .ref 22)]) (stk' := []) (mem' := fm g tp bt a b) (fun _ _ _ => rfl) ?_
              rw [show (83 + 1 : Int32) = 84 from rfl]
              rw [show (14 + 1 : Int32) = 15 from rfl]
              refine fe_w (lc' := [(3, .int 84), (2, .int 15), (0, .ref 0), (1, .ref 22)]) ⟨rfl, rfl, rfl, rfl, trivial⟩ (by show List.Nodup [3, 2, 0, 1]; decide) (by show List.Nodup [3, 2, 6, 5, 4, 0, 1]; decide) ?_
              exact fw_15 hxp
            · rw [e11]
              refine fe_s 1 (pc' := cond (fx_cb .ne 97 (nI n10)) 106 102) (lc' := [(6, .int 81), (5, .int 1), (4, .int 83), (3, .int 79), (2, .int 14), (0, .ref 0), (1, .ref 22)]) (stk' := []) (mem' := fm g tp bt a b) (fun _ _ _ => rfl) ?_
              by_cases h13 : 97 = n10
              · rw [show (fx_cb .ne 97 (nI n10)) = false from cb_neF (a := 97) (b := n10) (by omega) (by omega) (by omega)]
                dsimp only [cond]
                refine fe_s 7 (pc' := 72) (lc' := [(6, .int (81 + 1)), (5, .int 1), (4, .int 83), (3, .int 79), (2, .int 14), (0, .ref 0), (1, .ref 22)]) (stk' := [.int 83, .int (81 + 1)]) (mem' := fm g tp bt a b) (fun _ _ _ => rfl) ?_
                rw [show (81 + 1 : Int32) = 82 from rfl]
                refine fe_s 1 (pc' := cond (fx_cb .ge 82 83) 115 75) (lc' := [(6, .int 82), (5, .int 1), (4, .int 83), (3, .int 79), (2, .int 14), (0, .ref 0), (1, .ref 22)]) (stk' := []) (mem' := fm g tp bt a b) (fun _ _ _ => rfl) ?_
                rw [show (fx_cb .ge 82 83) = false from by decide]
                dsimp only [cond]
                refine fe_s 1 (pc' := 77) (lc' := [(6, .int 82), (5, .int 1), (4, .int 83), (3, .int 79), (2, .int 14), (0, .ref 0), (1, .ref 22)]) (stk' := [.int 1]) (mem' := fm g tp bt a b) (fun _ _ _ => rfl) ?_
                refine fe_s 1 (pc' := cond (fx_cb .eq 1 0) 115 80) (lc' := [(6, .int 82), (5, .int 1), (4, .int 83), (3, .int 79), (2, .int 14), (0, .ref 0), (1, .ref 22)]) (stk' := []) (mem' := fm g tp bt a b) (fun _ _ _ => rfl) ?_
                rw [show (fx_cb .eq 1 0) = false from by decide]
                dsimp only [cond]
                refine fe_s 2 (pc' := 83) (lc' := [(6, .int 82), (5, .int 1), (4, .int 83), (3, .int 79), (2, .int 14), (0, .ref 0), (1, .ref 22)]) (stk' := [.int 82, .ref 22]) (mem' := fm g tp bt a b) (fun _ _ _ => rfl) ?_
                refine fe_chr (i := 82) (by omega) (by rfl) (by rfl) ⟨by rfl, by rfl⟩ (by rfl) ?_
                rw [show sk_b.getD 82 0 = 119 from rfl]
                refine fe_s 7 (pc' := 96) (lc' := [(6, .int 82), (5, .int 1), (4, .int 83), (3, .int 79), (2, .int 14), (0, .ref 0), (1, .ref 22)]) (stk' := [.int (((g 13) + 82) - 79), .ref 0, .int 119]) (mem' := fm g tp bt a b) (fun _ _ _ => rfl) ?_
                try rw [h13]
                rw [show (((nI F) + 82) - 79 : Int32) = nI ((F + 82) - 79) from by simp only [show (82 : Int32) = nI 82 from rfl, show (79 : Int32) = nI 79 from rfl, tg_sub2 (x := F + 82) (y := 79) (by omega), nI_add, fm_mul]]
                refine fe_ivV (fr_byteAt (S := S) (k := (F + 82) - 79) (g := g) (tp := tp) (bt := bt) (a := a) (b := b) h11 (by omega) (by omega)) (by omega) (by rfl) (by rfl) (by rfl) (by rfl) (by rfl) (by rfl) ?_
                rcases fm_byte_or a S ((F + 82) - 79) with ⟨e15, q16⟩ | ⟨q16, n14, qn14, e15⟩
                · rw [e15]
                  refine fe_s 1 (pc' := cond (fx_cb .ne 119 (-1)) 106 102) (lc' := [(6, .int 82), (5, .int 1), (4, .int 83), (3, .int 79), (2, .int 14), (0, .ref 0), (1, .ref 22)]) (stk' := []) (mem' := fm g tp bt a b) (fun _ _ _ => rfl) ?_
                  rw [show (fx_cb .ne 119 (-1)) = true from by decide]
                  dsimp only [cond]
                  refine fe_s 6 (pc' := 72) (lc' := [(6, .int (82 + 1)), (5, .int 0), (4, .int 83), (3, .int 79), (2, .int 14), (0, .ref 0), (1, .ref 22)]) (stk' := [.int 83, .int (82 + 1)]) (mem' := fm g tp bt a b) (fun _ _ _ => rfl) ?_
                  rw [show (82 + 1 : Int32) = 83 from rfl]
                  refine fe_s 1 (pc' := cond (fx_cb .ge 83 83) 115 75) (lc' := [(6, .int 83), (5, .int 0), (4, .int 83), (3, .int 79), (2, .int 14), (0, .ref 0), (1, .ref 22)]) (stk' := []) (mem' := fm g tp bt a b) (fun _ _ _ => rfl) ?_
                  rw [show (fx_cb .ge 83 83) = true from by decide]
                  dsimp only [cond]
                  refine fe_s 1 (pc' := 117) (lc' := [(6, .int 83), (5, .int 0), (4, .int 83), (3, .int 79), (2, .int 14), (0, .ref 0), (1, .ref 22)]) (stk' := [.int 0]) (mem' := fm g tp bt a b) (fun _ _ _ => rfl) ?_
                  refine fe_s 1 (pc' := cond (fx_cb .eq 0 0) 122 120) (lc' := [(6, .int 83), (5, .int 0), (4, .int 83), (3, .int 79), (2, .int 14), (0, .ref 0), (1, .ref 22)]) (stk' := []) (mem' := fm g tp bt a b) (fun _ _ _ => rfl) ?_
                  rw [show (fx_cb .eq 0 0) = true from by decide]
                  dsimp only [cond]
                  refine fe_s 6 (pc' := 14) (lc' := [(3, .int (83 + 1)), (2, .int (14 + 1)), (6, .int 83), (5, .int 0), (4, .int 83), (0, .ref 0), (1, .ref 22)]) (stk' := []) (mem' := fm g tp bt a b) (fun _ _ _ => rfl) ?_
                  rw [show (83 + 1 : Int32) = 84 from rfl]
                  rw [show (14 + 1 : Int32) = 15 from rfl]
                  refine fe_w (lc' := [(3, .int 84), (2, .int 15), (0, .ref 0), (1, .ref 22)]) ⟨rfl, rfl, rfl, rfl, trivial⟩ (by show List.Nodup [3, 2, 0, 1]; decide) (by show List.Nodup [3, 2, 6, 5, 4, 0, 1]; decide) ?_
                  exact fw_15 hxp
                · rw [e15]
                  refine fe_s 1 (pc' := cond (fx_cb .ne 119 (nI n14)) 106 102) (lc' := [(6, .int 82), (5, .int 1), (4, .int 83), (3, .int 79), (2, .int 14), (0, .ref 0), (1, .ref 22)]) (stk' := []) (mem' := fm g tp bt a b) (fun _ _ _ => rfl) ?_
                  by_cases h17 : 119 = n14
                  · rw [show (fx_cb .ne 119 (nI n14)) = false from cb_neF (a := 119) (b := n14) (by omega) (by omega) (by omega)]
                    dsimp only [cond]
                    refine fe_s 7 (pc' := 72) (lc' := [(6, .int (82 + 1)), (5, .int 1), (4, .int 83), (3, .int 79), (2, .int 14), (0, .ref 0), (1, .ref 22)]) (stk' := [.int 83, .int (82 + 1)]) (mem' := fm g tp bt a b) (fun _ _ _ => rfl) ?_
                    rw [show (82 + 1 : Int32) = 83 from rfl]
                    refine fe_s 1 (pc' := cond (fx_cb .ge 83 83) 115 75) (lc' := [(6, .int 83), (5, .int 1), (4, .int 83), (3, .int 79), (2, .int 14), (0, .ref 0), (1, .ref 22)]) (stk' := []) (mem' := fm g tp bt a b) (fun _ _ _ => rfl) ?_
                    rw [show (fx_cb .ge 83 83) = true from by decide]
                    dsimp only [cond]
                    refine fe_s 1 (pc' := 117) (lc' := [(6, .int 83), (5, .int 1), (4, .int 83), (3, .int 79), (2, .int 14), (0, .ref 0), (1, .ref 22)]) (stk' := [.int 1]) (mem' := fm g tp bt a b) (fun _ _ _ => rfl) ?_
                    refine fe_s 1 (pc' := cond (fx_cb .eq 1 0) 122 120) (lc' := [(6, .int 83), (5, .int 1), (4, .int 83), (3, .int 79), (2, .int 14), (0, .ref 0), (1, .ref 22)]) (stk' := []) (mem' := fm g tp bt a b) (fun _ _ _ => rfl) ?_
                    rw [show (fx_cb .eq 1 0) = false from by decide]
                    dsimp only [cond]
                    refine fe_s 1 (pc' := 121) (lc' := [(6, .int 83), (5, .int 1), (4, .int 83), (3, .int 79), (2, .int 14), (0, .ref 0), (1, .ref 22)]) (stk' := [.int 14]) (mem' := fm g tp bt a b) (fun _ _ _ => rfl) ?_
                    exact fe_ret ⟨_, Or.inr ⟨14, by omega, rfl⟩, rfl⟩ (by rfl) (by rfl) (by rfl)
                  · rw [show (fx_cb .ne 119 (nI n14)) = true from cb_neT (a := 119) (b := n14) (by omega) (by omega) (by omega)]
                    dsimp only [cond]
                    refine fe_s 6 (pc' := 72) (lc' := [(6, .int (82 + 1)), (5, .int 0), (4, .int 83), (3, .int 79), (2, .int 14), (0, .ref 0), (1, .ref 22)]) (stk' := [.int 83, .int (82 + 1)]) (mem' := fm g tp bt a b) (fun _ _ _ => rfl) ?_
                    rw [show (82 + 1 : Int32) = 83 from rfl]
                    refine fe_s 1 (pc' := cond (fx_cb .ge 83 83) 115 75) (lc' := [(6, .int 83), (5, .int 0), (4, .int 83), (3, .int 79), (2, .int 14), (0, .ref 0), (1, .ref 22)]) (stk' := []) (mem' := fm g tp bt a b) (fun _ _ _ => rfl) ?_
                    rw [show (fx_cb .ge 83 83) = true from by decide]
                    dsimp only [cond]
                    refine fe_s 1 (pc' := 117) (lc' := [(6, .int 83), (5, .int 0), (4, .int 83), (3, .int 79), (2, .int 14), (0, .ref 0), (1, .ref 22)]) (stk' := [.int 0]) (mem' := fm g tp bt a b) (fun _ _ _ => rfl) ?_
                    refine fe_s 1 (pc' := cond (fx_cb .eq 0 0) 122 120) (lc' := [(6, .int 83), (5, .int 0), (4, .int 83), (3, .int 79), (2, .int 14), (0, .ref 0), (1, .ref 22)]) (stk' := []) (mem' := fm g tp bt a b) (fun _ _ _ => rfl) ?_
                    rw [show (fx_cb .eq 0 0) = true from by decide]
                    dsimp only [cond]
                    refine fe_s 6 (pc' := 14) (lc' := [(3, .int (83 + 1)), (2, .int (14 + 1)), (6, .int 83), (5, .int 0), (4, .int 83), (0, .ref 0), (1, .ref 22)]) (stk' := []) (mem' := fm g tp bt a b) (fun _ _ _ => rfl) ?_
                    rw [show (83 + 1 : Int32) = 84 from rfl]
                    rw [show (14 + 1 : Int32) = 15 from rfl]
                    refine fe_w (lc' := [(3, .int 84), (2, .int 15), (0, .ref 0), (1, .ref 22)]) ⟨rfl, rfl, rfl, rfl, trivial⟩ (by show List.Nodup [3, 2, 0, 1]; decide) (by show List.Nodup [3, 2, 6, 5, 4, 0, 1]; decide) ?_
                    exact fw_15 hxp
              · rw [show (fx_cb .ne 97 (nI n10)) = true from cb_neT (a := 97) (b := n10) (by omega) (by omega) (by omega)]
                dsimp only [cond]
                refine fe_s 6 (pc' := 72) (lc' := [(6, .int (81 + 1)), (5, .int 0), (4, .int 83), (3, .int 79), (2, .int 14), (0, .ref 0), (1, .ref 22)]) (stk' := [.int 83, .int (81 + 1)]) (mem' := fm g tp bt a b) (fun _ _ _ => rfl) ?_
                rw [show (81 + 1 : Int32) = 82 from rfl]
                refine fe_s 1 (pc' := cond (fx_cb .ge 82 83) 115 75) (lc' := [(6, .int 82), (5, .int 0), (4, .int 83), (3, .int 79), (2, .int 14), (0, .ref 0), (1, .ref 22)]) (stk' := []) (mem' := fm g tp bt a b) (fun _ _ _ => rfl) ?_
                rw [show (fx_cb .ge 82 83) = false from by decide]
                dsimp only [cond]
                refine fe_s 1 (pc' := 77) (lc' := [(6, .int 82), (5, .int 0), (4, .int 83), (3, .int 79), (2, .int 14), (0, .ref 0), (1, .ref 22)]) (stk' := [.int 0]) (mem' := fm g tp bt a b) (fun _ _ _ => rfl) ?_
                refine fe_s 1 (pc' := cond (fx_cb .eq 0 0) 115 80) (lc' := [(6, .int 82), (5, .int 0), (4, .int 83), (3, .int 79), (2, .int 14), (0, .ref 0), (1, .ref 22)]) (stk' := []) (mem' := fm g tp bt a b) (fun _ _ _ => rfl) ?_
                rw [show (fx_cb .eq 0 0) = true from by decide]
                dsimp only [cond]
                refine fe_s 1 (pc' := 117) (lc' := [(6, .int 82), (5, .int 0), (4, .int 83), (3, .int 79), (2, .int 14), (0, .ref 0), (1, .ref 22)]) (stk' := [.int 0]) (mem' := fm g tp bt a b) (fun _ _ _ => rfl) ?_
                refine fe_s 1 (pc' := cond (fx_cb .eq 0 0) 122 120) (lc' := [(6, .int 82), (5, .int 0), (4, .int 83), (3, .int 79), (2, .int 14), (0, .ref 0), (1, .ref 22)]) (stk' := []) (mem' := fm g tp bt a b) (fun _ _ _ => rfl) ?_
                rw [show (fx_cb .eq 0 0) = true from by decide]
                dsimp only [cond]
                refine fe_s 6 (pc' := 14) (lc' := [(3, .int (83 + 1)), (2, .int (14 + 1)), (6, .int 82), (5, .int 0), (4, .int 83), (0, .ref 0), (1, .ref 22)]) (stk' := []) (mem' := fm g tp bt a b) (fun _ _ _ => rfl) ?_
                rw [show (83 + 1 : Int32) = 84 from rfl]
                rw [show (14 + 1 : Int32) = 15 from rfl]
                refine fe_w (lc' := [(3, .int 84), (2, .int 15), (0, .ref 0), (1, .ref 22)]) ⟨rfl, rfl, rfl, rfl, trivial⟩ (by show List.Nodup [3, 2, 0, 1]; decide) (by show List.Nodup [3, 2, 6, 5, 4, 0, 1]; decide) ?_
                exact fw_15 hxp
          · rw [show (fx_cb .ne 104 (nI n6)) = true from cb_neT (a := 104) (b := n6) (by omega) (by omega) (by omega)]
            dsimp only [cond]
            refine fe_s 6 (pc' := 72) (lc' := [(6, .int (80 + 1)), (5, .int 0), (4, .int 83), (3, .int 79), (2, .int 14), (0, .ref 0), (1, .ref 22)]) (stk' := [.int 83, .int (80 + 1)]) (mem' := fm g tp bt a b) (fun _ _ _ => rfl) ?_
            rw [show (80 + 1 : Int32) = 81 from rfl]
            refine fe_s 1 (pc' := cond (fx_cb .ge 81 83) 115 75) (lc' := [(6, .int 81), (5, .int 0), (4, .int 83), (3, .int 79), (2, .int 14), (0, .ref 0), (1, .ref 22)]) (stk' := []) (mem' := fm g tp bt a b) (fun _ _ _ => rfl) ?_
            rw [show (fx_cb .ge 81 83) = false from by decide]
            dsimp only [cond]
            refine fe_s 1 (pc' := 77) (lc' := [(6, .int 81), (5, .int 0), (4, .int 83), (3, .int 79), (2, .int 14), (0, .ref 0), (1, .ref 22)]) (stk' := [.int 0]) (mem' := fm g tp bt a b) (fun _ _ _ => rfl) ?_
            refine fe_s 1 (pc' := cond (fx_cb .eq 0 0) 115 80) (lc' := [(6, .int 81), (5, .int 0), (4, .int 83), (3, .int 79), (2, .int 14), (0, .ref 0), (1, .ref 22)]) (stk' := []) (mem' := fm g tp bt a b) (fun _ _ _ => rfl) ?_
            rw [show (fx_cb .eq 0 0) = true from by decide]
            dsimp only [cond]
            refine fe_s 1 (pc' := 117) (lc' := [(6, .int 81), (5, .int 0), (4, .int 83), (3, .int 79), (2, .int 14), (0, .ref 0), (1, .ref 22)]) (stk' := [.int 0]) (mem' := fm g tp bt a b) (fun _ _ _ => rfl) ?_
            refine fe_s 1 (pc' := cond (fx_cb .eq 0 0) 122 120) (lc' := [(6, .int 81), (5, .int 0), (4, .int 83), (3, .int 79), (2, .int 14), (0, .ref 0), (1, .ref 22)]) (stk' := []) (mem' := fm g tp bt a b) (fun _ _ _ => rfl) ?_
            rw [show (fx_cb .eq 0 0) = true from by decide]
            dsimp only [cond]
            refine fe_s 6 (pc' := 14) (lc' := [(3, .int (83 + 1)), (2, .int (14 + 1)), (6, .int 81), (5, .int 0), (4, .int 83), (0, .ref 0), (1, .ref 22)]) (stk' := []) (mem' := fm g tp bt a b) (fun _ _ _ => rfl) ?_
            rw [show (83 + 1 : Int32) = 84 from rfl]
            rw [show (14 + 1 : Int32) = 15 from rfl]
            refine fe_w (lc' := [(3, .int 84), (2, .int 15), (0, .ref 0), (1, .ref 22)]) ⟨rfl, rfl, rfl, rfl, trivial⟩ (by show List.Nodup [3, 2, 0, 1]; decide) (by show List.Nodup [3, 2, 6, 5, 4, 0, 1]; decide) ?_
            exact fw_15 hxp
      · rw [show (fx_cb .ne 116 (nI n2)) = true from cb_neT (a := 116) (b := n2) (by omega) (by omega) (by omega)]
        dsimp only [cond]
        refine fe_s 6 (pc' := 72) (lc' := [(6, .int (79 + 1)), (5, .int 0), (4, .int 83), (3, .int 79), (2, .int 14), (0, .ref 0), (1, .ref 22)]) (stk' := [.int 83, .int (79 + 1)]) (mem' := fm g tp bt a b) (fun _ _ _ => rfl) ?_
        rw [show (79 + 1 : Int32) = 80 from rfl]
        refine fe_s 1 (pc' := cond (fx_cb .ge 80 83) 115 75) (lc' := [(6, .int 80), (5, .int 0), (4, .int 83), (3, .int 79), (2, .int 14), (0, .ref 0), (1, .ref 22)]) (stk' := []) (mem' := fm g tp bt a b) (fun _ _ _ => rfl) ?_
        rw [show (fx_cb .ge 80 83) = false from by decide]
        dsimp only [cond]
        refine fe_s 1 (pc' := 77) (lc' := [(6, .int 80), (5, .int 0), (4, .int 83), (3, .int 79), (2, .int 14), (0, .ref 0), (1, .ref 22)]) (stk' := [.int 0]) (mem' := fm g tp bt a b) (fun _ _ _ => rfl) ?_
        refine fe_s 1 (pc' := cond (fx_cb .eq 0 0) 115 80) (lc' := [(6, .int 80), (5, .int 0), (4, .int 83), (3, .int 79), (2, .int 14), (0, .ref 0), (1, .ref 22)]) (stk' := []) (mem' := fm g tp bt a b) (fun _ _ _ => rfl) ?_
        rw [show (fx_cb .eq 0 0) = true from by decide]
        dsimp only [cond]
        refine fe_s 1 (pc' := 117) (lc' := [(6, .int 80), (5, .int 0), (4, .int 83), (3, .int 79), (2, .int 14), (0, .ref 0), (1, .ref 22)]) (stk' := [.int 0]) (mem' := fm g tp bt a b) (fun _ _ _ => rfl) ?_
        refine fe_s 1 (pc' := cond (fx_cb .eq 0 0) 122 120) (lc' := [(6, .int 80), (5, .int 0), (4, .int 83), (3, .int 79), (2, .int 14), (0, .ref 0), (1, .ref 22)]) (stk' := []) (mem' := fm g tp bt a b) (fun _ _ _ => rfl) ?_
        rw [show (fx_cb .eq 0 0) = true from by decide]
        dsimp only [cond]
        refine fe_s 6 (pc' := 14) (lc' := [(3, .int (83 + 1)), (2, .int (14 + 1)), (6, .int 80), (5, .int 0), (4, .int 83), (0, .ref 0), (1, .ref 22)]) (stk' := []) (mem' := fm g tp bt a b) (fun _ _ _ => rfl) ?_
        rw [show (83 + 1 : Int32) = 84 from rfl]
        rw [show (14 + 1 : Int32) = 15 from rfl]
        refine fe_w (lc' := [(3, .int 84), (2, .int 15), (0, .ref 0), (1, .ref 22)]) ⟨rfl, rfl, rfl, rfl, trivial⟩ (by show List.Nodup [3, 2, 0, 1]; decide) (by show List.Nodup [3, 2, 6, 5, 4, 0, 1]; decide) ?_
        exact fw_15 hxp
  · rw [show (fx_cb .ne 4 (nI (E - F))) = true from cb_neT (a := 4) (b := E - F) (by omega) (by omega) (by omega)]
    dsimp only [cond]
    refine fe_s 6 (pc' := 72) (lc' := [(6, .int 79), (5, .int 0), (4, .int 83), (3, .int 79), (2, .int 14), (0, .ref 0), (1, .ref 22)]) (stk' := [.int 83, .int 79]) (mem' := fm g tp bt a b) (fun _ _ _ => rfl) ?_
    refine fe_s 1 (pc' := cond (fx_cb .ge 79 83) 115 75) (lc' := [(6, .int 79), (5, .int 0), (4, .int 83), (3, .int 79), (2, .int 14), (0, .ref 0), (1, .ref 22)]) (stk' := []) (mem' := fm g tp bt a b) (fun _ _ _ => rfl) ?_
    rw [show (fx_cb .ge 79 83) = false from by decide]
    dsimp only [cond]
    refine fe_s 1 (pc' := 77) (lc' := [(6, .int 79), (5, .int 0), (4, .int 83), (3, .int 79), (2, .int 14), (0, .ref 0), (1, .ref 22)]) (stk' := [.int 0]) (mem' := fm g tp bt a b) (fun _ _ _ => rfl) ?_
    refine fe_s 1 (pc' := cond (fx_cb .eq 0 0) 115 80) (lc' := [(6, .int 79), (5, .int 0), (4, .int 83), (3, .int 79), (2, .int 14), (0, .ref 0), (1, .ref 22)]) (stk' := []) (mem' := fm g tp bt a b) (fun _ _ _ => rfl) ?_
    rw [show (fx_cb .eq 0 0) = true from by decide]
    dsimp only [cond]
    refine fe_s 1 (pc' := 117) (lc' := [(6, .int 79), (5, .int 0), (4, .int 83), (3, .int 79), (2, .int 14), (0, .ref 0), (1, .ref 22)]) (stk' := [.int 0]) (mem' := fm g tp bt a b) (fun _ _ _ => rfl) ?_
    refine fe_s 1 (pc' := cond (fx_cb .eq 0 0) 122 120) (lc' := [(6, .int 79), (5, .int 0), (4, .int 83), (3, .int 79), (2, .int 14), (0, .ref 0), (1, .ref 22)]) (stk' := []) (mem' := fm g tp bt a b) (fun _ _ _ => rfl) ?_
    rw [show (fx_cb .eq 0 0) = true from by decide]
    dsimp only [cond]
    refine fe_s 6 (pc' := 14) (lc' := [(3, .int (83 + 1)), (2, .int (14 + 1)), (6, .int 79), (5, .int 0), (4, .int 83), (0, .ref 0), (1, .ref 22)]) (stk' := []) (mem' := fm g tp bt a b) (fun _ _ _ => rfl) ?_
    rw [show (83 + 1 : Int32) = 84 from rfl]
    rw [show (14 + 1 : Int32) = 15 from rfl]
    refine fe_w (lc' := [(3, .int 84), (2, .int 15), (0, .ref 0), (1, .ref 22)]) ⟨rfl, rfl, rfl, rfl, trivial⟩ (by show List.Nodup [3, 2, 0, 1]; decide) (by show List.Nodup [3, 2, 6, 5, 4, 0, 1]; decide) ?_
    exact fw_15 hxp
theorem fw_13 {S E F : Nat} (hxp : fm_xp g S E F) : fe_R 1 gk_m226 14 [(3, .int 73), (2, .int 13), (0, .ref 0), (1, .ref 22)] [] (fm g tp bt a b) (fm_FI (fm g tp bt a b)) := by
  obtain ⟨h11, hS9, h14, hES, h13, hFE, -, -, -⟩ := id hxp
  refine fe_s 2 (pc' := 16) (lc' := [(3, .int 73), (2, .int 13), (0, .ref 0), (1, .ref 22)]) (stk' := [.ref 22, .int 73]) (mem' := fm g tp bt a b) (fun _ _ _ => rfl) ?_
  refine fe_s 1 (pc' := 19) (lc' := [(3, .int 73), (2, .int 13), (0, .ref 0), (1, .ref 22)]) (stk' := [.int 117, .int 73]) (mem' := fm g tp bt a b) (fun _ _ _ => rfl) ?_
  refine fe_s 1 (pc' := cond (fx_cb .ge 73 117) 133 22) (lc' := [(3, .int 73), (2, .int 13), (0, .ref 0), (1, .ref 22)]) (stk' := []) (mem' := fm g tp bt a b) (fun _ _ _ => rfl) ?_
  rw [show (fx_cb .ge 73 117) = false from by decide]
  dsimp only [cond]
  refine fe_s 4 (pc' := 28) (lc' := [(4, .int 73), (3, .int 73), (2, .int 13), (0, .ref 0), (1, .ref 22)]) (stk' := [.int 73, .ref 22]) (mem' := fm g tp bt a b) (fun _ _ _ => rfl) ?_
  refine fe_chr (i := 73) (by omega) (by rfl) (by rfl) ⟨by rfl, by rfl⟩ (by rfl) ?_
  rw [show sk_b.getD 73 0 = 102 from rfl]
  refine fe_s 1 (pc' := 33) (lc' := [(4, .int 73), (3, .int 73), (2, .int 13), (0, .ref 0), (1, .ref 22)]) (stk' := [.int 32, .int 102]) (mem' := fm g tp bt a b) (fun _ _ _ => rfl) ?_
  refine fe_s 1 (pc' := cond (fx_cb .eq 102 32) 42 36) (lc' := [(4, .int 73), (3, .int 73), (2, .int 13), (0, .ref 0), (1, .ref 22)]) (stk' := []) (mem' := fm g tp bt a b) (fun _ _ _ => rfl) ?_
  rw [show (fx_cb .eq 102 32) = false from by decide]
  dsimp only [cond]
  refine fe_s 4 (pc' := 28) (lc' := [(4, .int (73 + 1)), (3, .int 73), (2, .int 13), (0, .ref 0), (1, .ref 22)]) (stk' := [.int (73 + 1), .ref 22]) (mem' := fm g tp bt a b) (fun _ _ _ => rfl) ?_
  rw [show (73 + 1 : Int32) = 74 from rfl]
  refine fe_chr (i := 74) (by omega) (by rfl) (by rfl) ⟨by rfl, by rfl⟩ (by rfl) ?_
  rw [show sk_b.getD 74 0 = 114 from rfl]
  refine fe_s 1 (pc' := 33) (lc' := [(4, .int 74), (3, .int 73), (2, .int 13), (0, .ref 0), (1, .ref 22)]) (stk' := [.int 32, .int 114]) (mem' := fm g tp bt a b) (fun _ _ _ => rfl) ?_
  refine fe_s 1 (pc' := cond (fx_cb .eq 114 32) 42 36) (lc' := [(4, .int 74), (3, .int 73), (2, .int 13), (0, .ref 0), (1, .ref 22)]) (stk' := []) (mem' := fm g tp bt a b) (fun _ _ _ => rfl) ?_
  rw [show (fx_cb .eq 114 32) = false from by decide]
  dsimp only [cond]
  refine fe_s 4 (pc' := 28) (lc' := [(4, .int (74 + 1)), (3, .int 73), (2, .int 13), (0, .ref 0), (1, .ref 22)]) (stk' := [.int (74 + 1), .ref 22]) (mem' := fm g tp bt a b) (fun _ _ _ => rfl) ?_
  rw [show (74 + 1 : Int32) = 75 from rfl]
  refine fe_chr (i := 75) (by omega) (by rfl) (by rfl) ⟨by rfl, by rfl⟩ (by rfl) ?_
  rw [show sk_b.getD 75 0 = 111 from rfl]
  refine fe_s 1 (pc' := 33) (lc' := [(4, .int 75), (3, .int 73), (2, .int 13), (0, .ref 0), (1, .ref 22)]) (stk' := [.int 32, .int 111]) (mem' := fm g tp bt a b) (fun _ _ _ => rfl) ?_
  refine fe_s 1 (pc' := cond (fx_cb .eq 111 32) 42 36) (lc' := [(4, .int 75), (3, .int 73), (2, .int 13), (0, .ref 0), (1, .ref 22)]) (stk' := []) (mem' := fm g tp bt a b) (fun _ _ _ => rfl) ?_
  rw [show (fx_cb .eq 111 32) = false from by decide]
  dsimp only [cond]
  refine fe_s 4 (pc' := 28) (lc' := [(4, .int (75 + 1)), (3, .int 73), (2, .int 13), (0, .ref 0), (1, .ref 22)]) (stk' := [.int (75 + 1), .ref 22]) (mem' := fm g tp bt a b) (fun _ _ _ => rfl) ?_
  rw [show (75 + 1 : Int32) = 76 from rfl]
  refine fe_chr (i := 76) (by omega) (by rfl) (by rfl) ⟨by rfl, by rfl⟩ (by rfl) ?_
  rw [show sk_b.getD 76 0 = 115 from rfl]
  refine fe_s 1 (pc' := 33) (lc' := [(4, .int 76), (3, .int 73), (2, .int 13), (0, .ref 0), (1, .ref 22)]) (stk' := [.int 32, .int 115]) (mem' := fm g tp bt a b) (fun _ _ _ => rfl) ?_
  refine fe_s 1 (pc' := cond (fx_cb .eq 115 32) 42 36) (lc' := [(4, .int 76), (3, .int 73), (2, .int 13), (0, .ref 0), (1, .ref 22)]) (stk' := []) (mem' := fm g tp bt a b) (fun _ _ _ => rfl) ?_
  rw [show (fx_cb .eq 115 32) = false from by decide]
  dsimp only [cond]
  refine fe_s 4 (pc' := 28) (lc' := [(4, .int (76 + 1)), (3, .int 73), (2, .int 13), (0, .ref 0), (1, .ref 22)]) (stk' := [.int (76 + 1), .ref 22]) (mem' := fm g tp bt a b) (fun _ _ _ => rfl) ?_
  rw [show (76 + 1 : Int32) = 77 from rfl]
  refine fe_chr (i := 77) (by omega) (by rfl) (by rfl) ⟨by rfl, by rfl⟩ (by rfl) ?_
  rw [show sk_b.getD 77 0 = 116 from rfl]
  refine fe_s 1 (pc' := 33) (lc' := [(4, .int 77), (3, .int 73), (2, .int 13), (0, .ref 0), (1, .ref 22)]) (stk' := [.int 32, .int 116]) (mem' := fm g tp bt a b) (fun _ _ _ => rfl) ?_
  refine fe_s 1 (pc' := cond (fx_cb .eq 116 32) 42 36) (lc' := [(4, .int 77), (3, .int 73), (2, .int 13), (0, .ref 0), (1, .ref 22)]) (stk' := []) (mem' := fm g tp bt a b) (fun _ _ _ => rfl) ?_
  rw [show (fx_cb .eq 116 32) = false from by decide]
  dsimp only [cond]
  refine fe_s 4 (pc' := 28) (lc' := [(4, .int (77 + 1)), (3, .int 73), (2, .int 13), (0, .ref 0), (1, .ref 22)]) (stk' := [.int (77 + 1), .ref 22]) (mem' := fm g tp bt a b) (fun _ _ _ => rfl) ?_
  rw [show (77 + 1 : Int32) = 78 from rfl]
  refine fe_chr (i := 78) (by omega) (by rfl) (by rfl) ⟨by rfl, by rfl⟩ (by rfl) ?_
  rw [show sk_b.getD 78 0 = 32 from rfl]
  refine fe_s 1 (pc' := 33) (lc' := [(4, .int 78), (3, .int 73), (2, .int 13), (0, .ref 0), (1, .ref 22)]) (stk' := [.int 32, .int 32]) (mem' := fm g tp bt a b) (fun _ _ _ => rfl) ?_
  refine fe_s 1 (pc' := cond (fx_cb .eq 32 32) 42 36) (lc' := [(4, .int 78), (3, .int 73), (2, .int 13), (0, .ref 0), (1, .ref 22)]) (stk' := []) (mem' := fm g tp bt a b) (fun _ _ _ => rfl) ?_
  rw [show (fx_cb .eq 32 32) = true from by decide]
  dsimp only [cond]
  refine fe_s 8 (pc' := 55) (lc' := [(4, .int 78), (3, .int 73), (2, .int 13), (0, .ref 0), (1, .ref 22)]) (stk' := [.int ((g 14) - (g 13)), .int (78 - 73)]) (mem' := fm g tp bt a b) (fun _ _ _ => rfl) ?_
  try rw [h14]
  try rw [h13]
  rw [show (78 - 73 : Int32) = 5 from rfl]
  rw [show ((nI E) - (nI F) : Int32) = nI (E - F) from by simp only [tg_sub2 (x := E) (y := F) (by omega), nI_add, fm_mul]]
  refine fe_s 1 (pc' := cond (fx_cb .ne 5 (nI (E - F))) 62 58) (lc' := [(4, .int 78), (3, .int 73), (2, .int 13), (0, .ref 0), (1, .ref 22)]) (stk' := []) (mem' := fm g tp bt a b) (fun _ _ _ => rfl) ?_
  by_cases h1 : 5 = (E - F)
  · rw [show (fx_cb .ne 5 (nI (E - F))) = false from cb_neF (a := 5) (b := E - F) (by omega) (by omega) (by omega)]
    dsimp only [cond]
    refine fe_s 7 (pc' := 72) (lc' := [(6, .int 73), (5, .int 1), (4, .int 78), (3, .int 73), (2, .int 13), (0, .ref 0), (1, .ref 22)]) (stk' := [.int 78, .int 73]) (mem' := fm g tp bt a b) (fun _ _ _ => rfl) ?_
    refine fe_s 1 (pc' := cond (fx_cb .ge 73 78) 115 75) (lc' := [(6, .int 73), (5, .int 1), (4, .int 78), (3, .int 73), (2, .int 13), (0, .ref 0), (1, .ref 22)]) (stk' := []) (mem' := fm g tp bt a b) (fun _ _ _ => rfl) ?_
    rw [show (fx_cb .ge 73 78) = false from by decide]
    dsimp only [cond]
    refine fe_s 1 (pc' := 77) (lc' := [(6, .int 73), (5, .int 1), (4, .int 78), (3, .int 73), (2, .int 13), (0, .ref 0), (1, .ref 22)]) (stk' := [.int 1]) (mem' := fm g tp bt a b) (fun _ _ _ => rfl) ?_
    refine fe_s 1 (pc' := cond (fx_cb .eq 1 0) 115 80) (lc' := [(6, .int 73), (5, .int 1), (4, .int 78), (3, .int 73), (2, .int 13), (0, .ref 0), (1, .ref 22)]) (stk' := []) (mem' := fm g tp bt a b) (fun _ _ _ => rfl) ?_
    rw [show (fx_cb .eq 1 0) = false from by decide]
    dsimp only [cond]
    refine fe_s 2 (pc' := 83) (lc' := [(6, .int 73), (5, .int 1), (4, .int 78), (3, .int 73), (2, .int 13), (0, .ref 0), (1, .ref 22)]) (stk' := [.int 73, .ref 22]) (mem' := fm g tp bt a b) (fun _ _ _ => rfl) ?_
    refine fe_chr (i := 73) (by omega) (by rfl) (by rfl) ⟨by rfl, by rfl⟩ (by rfl) ?_
    rw [show sk_b.getD 73 0 = 102 from rfl]
    refine fe_s 7 (pc' := 96) (lc' := [(6, .int 73), (5, .int 1), (4, .int 78), (3, .int 73), (2, .int 13), (0, .ref 0), (1, .ref 22)]) (stk' := [.int (((g 13) + 73) - 73), .ref 0, .int 102]) (mem' := fm g tp bt a b) (fun _ _ _ => rfl) ?_
    try rw [h13]
    rw [show (((nI F) + 73) - 73 : Int32) = nI ((F + 73) - 73) from by simp only [show (73 : Int32) = nI 73 from rfl, tg_sub2 (x := F + 73) (y := 73) (by omega), nI_add, fm_mul]]
    refine fe_ivV (fr_byteAt (S := S) (k := (F + 73) - 73) (g := g) (tp := tp) (bt := bt) (a := a) (b := b) h11 (by omega) (by omega)) (by omega) (by rfl) (by rfl) (by rfl) (by rfl) (by rfl) (by rfl) ?_
    rcases fm_byte_or a S ((F + 73) - 73) with ⟨e3, q4⟩ | ⟨q4, n2, qn2, e3⟩
    · rw [e3]
      refine fe_s 1 (pc' := cond (fx_cb .ne 102 (-1)) 106 102) (lc' := [(6, .int 73), (5, .int 1), (4, .int 78), (3, .int 73), (2, .int 13), (0, .ref 0), (1, .ref 22)]) (stk' := []) (mem' := fm g tp bt a b) (fun _ _ _ => rfl) ?_
      rw [show (fx_cb .ne 102 (-1)) = true from by decide]
      dsimp only [cond]
      refine fe_s 6 (pc' := 72) (lc' := [(6, .int (73 + 1)), (5, .int 0), (4, .int 78), (3, .int 73), (2, .int 13), (0, .ref 0), (1, .ref 22)]) (stk' := [.int 78, .int (73 + 1)]) (mem' := fm g tp bt a b) (fun _ _ _ => rfl) ?_
      rw [show (73 + 1 : Int32) = 74 from rfl]
      refine fe_s 1 (pc' := cond (fx_cb .ge 74 78) 115 75) (lc' := [(6, .int 74), (5, .int 0), (4, .int 78), (3, .int 73), (2, .int 13), (0, .ref 0), (1, .ref 22)]) (stk' := []) (mem' := fm g tp bt a b) (fun _ _ _ => rfl) ?_
      rw [show (fx_cb .ge 74 78) = false from by decide]
      dsimp only [cond]
      refine fe_s 1 (pc' := 77) (lc' := [(6, .int 74), (5, .int 0), (4, .int 78), (3, .int 73), (2, .int 13), (0, .ref 0), (1, .ref 22)]) (stk' := [.int 0]) (mem' := fm g tp bt a b) (fun _ _ _ => rfl) ?_
      refine fe_s 1 (pc' := cond (fx_cb .eq 0 0) 115 80) (lc' := [(6, .int 74), (5, .int 0), (4, .int 78), (3, .int 73), (2, .int 13), (0, .ref 0), (1, .ref 22)]) (stk' := []) (mem' := fm g tp bt a b) (fun _ _ _ => rfl) ?_
      rw [show (fx_cb .eq 0 0) = true from by decide]
      dsimp only [cond]
      refine fe_s 1 (pc' := 117) (lc' := [(6, .int 74), (5, .int 0), (4, .int 78), (3, .int 73), (2, .int 13), (0, .ref 0), (1, .ref 22)]) (stk' := [.int 0]) (mem' := fm g tp bt a b) (fun _ _ _ => rfl) ?_
      refine fe_s 1 (pc' := cond (fx_cb .eq 0 0) 122 120) (lc' := [(6, .int 74), (5, .int 0), (4, .int 78), (3, .int 73), (2, .int 13), (0, .ref 0), (1, .ref 22)]) (stk' := []) (mem' := fm g tp bt a b) (fun _ _ _ => rfl) ?_
      rw [show (fx_cb .eq 0 0) = true from by decide]
      dsimp only [cond]
      refine fe_s 6 (pc' := 14) (lc' := [(3, .int (78 + 1)), (2, .int (13 + 1)), (6, .int 74), (5, .int 0), (4, .int 78), (0, .ref 0), (1, .ref 22)]) (stk' := []) (mem' := fm g tp bt a b) (fun _ _ _ => rfl) ?_
      rw [show (78 + 1 : Int32) = 79 from rfl]
      rw [show (13 + 1 : Int32) = 14 from rfl]
      refine fe_w (lc' := [(3, .int 79), (2, .int 14), (0, .ref 0), (1, .ref 22)]) ⟨rfl, rfl, rfl, rfl, trivial⟩ (by show List.Nodup [3, 2, 0, 1]; decide) (by show List.Nodup [3, 2, 6, 5, 4, 0, 1]; decide) ?_
      exact fw_14 hxp
    · rw [e3]
      refine fe_s 1 (pc' := cond (fx_cb .ne 102 (nI n2)) 106 102) (lc' := [(6, .int 73), (5, .int 1), (4, .int 78), (3, .int 73), (2, .int 13), (0, .ref 0), (1, .ref 22)]) (stk' := []) (mem' := fm g tp bt a b) (fun _ _ _ => rfl) ?_
      by_cases h5 : 102 = n2
      · rw [show (fx_cb .ne 102 (nI n2)) = false from cb_neF (a := 102) (b := n2) (by omega) (by omega) (by omega)]
        dsimp only [cond]
        refine fe_s 7 (pc' := 72) (lc' := [(6, .int (73 + 1)), (5, .int 1), (4, .int 78), (3, .int 73), (2, .int 13), (0, .ref 0), (1, .ref 22)]) (stk' := [.int 78, .int (73 + 1)]) (mem' := fm g tp bt a b) (fun _ _ _ => rfl) ?_
        rw [show (73 + 1 : Int32) = 74 from rfl]
        refine fe_s 1 (pc' := cond (fx_cb .ge 74 78) 115 75) (lc' := [(6, .int 74), (5, .int 1), (4, .int 78), (3, .int 73), (2, .int 13), (0, .ref 0), (1, .ref 22)]) (stk' := []) (mem' := fm g tp bt a b) (fun _ _ _ => rfl) ?_
        rw [show (fx_cb .ge 74 78) = false from by decide]
        dsimp only [cond]
        refine fe_s 1 (pc' := 77) (lc' := [(6, .int 74), (5, .int 1), (4, .int 78), (3, .int 73), (2, .int 13), (0, .ref 0), (1, .ref 22)]) (stk' := [.int 1]) (mem' := fm g tp bt a b) (fun _ _ _ => rfl) ?_
        refine fe_s 1 (pc' := cond (fx_cb .eq 1 0) 115 80) (lc' := [(6, .int 74), (5, .int 1), (4, .int 78), (3, .int 73), (2, .int 13), (0, .ref 0), (1, .ref 22)]) (stk' := []) (mem' := fm g tp bt a b) (fun _ _ _ => rfl) ?_
        rw [show (fx_cb .eq 1 0) = false from by decide]
        dsimp only [cond]
        refine fe_s 2 (pc' := 83) (lc' := [(6, .int 74), (5, .int 1), (4, .int 78), (3, .int 73), (2, .int 13), (0, .ref 0), (1, .ref 22)]) (stk' := [.int 74, .ref 22]) (mem' := fm g tp bt a b) (fun _ _ _ => rfl) ?_
        refine fe_chr (i := 74) (by omega) (by rfl) (by rfl) ⟨by rfl, by rfl⟩ (by rfl) ?_
        rw [show sk_b.getD 74 0 = 114 from rfl]
        refine fe_s 7 (pc' := 96) (lc' := [(6, .int 74), (5, .int 1), (4, .int 78), (3, .int 73), (2, .int 13), (0, .ref 0), (1, .ref 22)]) (stk' := [.int (((g 13) + 74) - 73), .ref 0, .int 114]) (mem' := fm g tp bt a b) (fun _ _ _ => rfl) ?_
        try rw [h13]
        rw [show (((nI F) + 74) - 73 : Int32) = nI ((F + 74) - 73) from by simp only [show (74 : Int32) = nI 74 from rfl, show (73 : Int32) = nI 73 from rfl, tg_sub2 (x := F + 74) (y := 73) (by omega), nI_add, fm_mul]]
        refine fe_ivV (fr_byteAt (S := S) (k := (F + 74) - 73) (g := g) (tp := tp) (bt := bt) (a := a) (b := b) h11 (by omega) (by omega)) (by omega) (by rfl) (by rfl) (by rfl) (by rfl) (by rfl) (by rfl) ?_
        rcases fm_byte_or a S ((F + 74) - 73) with ⟨e7, q8⟩ | ⟨q8, n6, qn6, e7⟩
        · rw [e7]
          refine fe_s 1 (pc' := cond (fx_cb .ne 114 (-1)) 106 102) (lc' := [(6, .int 74), (5, .int 1), (4, .int 78), (3, .int 73), (2, .int 13), (0, .ref 0), (1, .ref 22)]) (stk' := []) (mem' := fm g tp bt a b) (fun _ _ _ => rfl) ?_
          rw [show (fx_cb .ne 114 (-1)) = true from by decide]
          dsimp only [cond]
          refine fe_s 6 (pc' := 72) (lc' := [(6, .int (74 + 1)), (5, .int 0), (4, .int 78), (3, .int 73), (2, .int 13), (0, .ref 0), (1, .ref 22)]) (stk' := [.int 78, .int (74 + 1)]) (mem' := fm g tp bt a b) (fun _ _ _ => rfl) ?_
          rw [show (74 + 1 : Int32) = 75 from rfl]
          refine fe_s 1 (pc' := cond (fx_cb .ge 75 78) 115 75) (lc' := [(6, .int 75), (5, .int 0), (4, .int 78), (3, .int 73), (2, .int 13), (0, .ref 0), (1, .ref 22)]) (stk' := []) (mem' := fm g tp bt a b) (fun _ _ _ => rfl) ?_
          rw [show (fx_cb .ge 75 78) = false from by decide]
          dsimp only [cond]
          refine fe_s 1 (pc' := 77) (lc' := [(6, .int 75), (5, .int 0), (4, .int 78), (3, .int 73), (2, .int 13), (0, .ref 0), (1, .ref 22)]) (stk' := [.int 0]) (mem' := fm g tp bt a b) (fun _ _ _ => rfl) ?_
          refine fe_s 1 (pc' := cond (fx_cb .eq 0 0) 115 80) (lc' := [(6, .int 75), (5, .int 0), (4, .int 78), (3, .int 73), (2, .int 13), (0, .ref 0), (1, .ref 22)]) (stk' := []) (mem' := fm g tp bt a b) (fun _ _ _ => rfl) ?_
          rw [show (fx_cb .eq 0 0) = true from by decide]
          dsimp only [cond]
          refine fe_s 1 (pc' := 117) (lc' := [(6, .int 75), (5, .int 0), (4, .int 78), (3, .int 73), (2, .int 13), (0, .ref 0), (1, .ref 22)]) (stk' := [.int 0]) (mem' := fm g tp bt a b) (fun _ _ _ => rfl) ?_
          refine fe_s 1 (pc' := cond (fx_cb .eq 0 0) 122 120) (lc' := [(6, .int 75), (5, .int 0), (4, .int 78), (3, .int 73), (2, .int 13), (0, .ref 0), (1, .ref 22)]) (stk' := []) (mem' := fm g tp bt a b) (fun _ _ _ => rfl) ?_
          rw [show (fx_cb .eq 0 0) = true from by decide]
          dsimp only [cond]
          refine fe_s 6 (pc' := 14) (lc' := [(3, .int (78 + 1)), (2, .int (13 + 1)), (6, .int 75), (5, .int 0), (4, .int 78), (0, .ref 0), (1, .ref 22)]) (stk' := []) (mem' := fm g tp bt a b) (fun _ _ _ => rfl) ?_
          rw [show (78 + 1 : Int32) = 79 from rfl]
          rw [show (13 + 1 : Int32) = 14 from rfl]
          refine fe_w (lc' := [(3, .int 79), (2, .int 14), (0, .ref 0), (1, .ref 22)]) ⟨rfl, rfl, rfl, rfl, trivial⟩ (by show List.Nodup [3, 2, 0, 1]; decide) (by show List.Nodup [3, 2, 6, 5, 4, 0, 1]; decide) ?_
          exact fw_14 hxp
        · rw [e7]
          refine fe_s 1 (pc' := cond (fx_cb .ne 114 (nI n6)) 106 102) (lc' := [(6, .int 74), (5, .int 1), (4, .int 78), (3, .int 73), (2, .int 13), (0, .ref 0), (1, .ref 22)]) (stk' := []) (mem' := fm g tp bt a b) (fun _ _ _ => rfl) ?_
          by_cases h9 : 114 = n6
          · rw [show (fx_cb .ne 114 (nI n6)) = false from cb_neF (a := 114) (b := n6) (by omega) (by omega) (by omega)]
            dsimp only [cond]
            refine fe_s 7 (pc' := 72) (lc' := [(6, .int (74 + 1)), (5, .int 1), (4, .int 78), (3, .int 73), (2, .int 13), (0, .ref 0), (1, .ref 22)]) (stk' := [.int 78, .int (74 + 1)]) (mem' := fm g tp bt a b) (fun _ _ _ => rfl) ?_
            rw [show (74 + 1 : Int32) = 75 from rfl]
            refine fe_s 1 (pc' := cond (fx_cb .ge 75 78) 115 75) (lc' := [(6, .int 75), (5, .int 1), (4, .int 78), (3, .int 73), (2, .int 13), (0, .ref 0), (1, .ref 22)]) (stk' := []) (mem' := fm g tp bt a b) (fun _ _ _ => rfl) ?_
            rw [show (fx_cb .ge 75 78) = false from by decide]
            dsimp only [cond]
            refine fe_s 1 (pc' := 77) (lc' := [(6, .int 75), (5, .int 1), (4, .int 78), (3, .int 73), (2, .int 13), (0, .ref 0), (1, .ref 22)]) (stk' := [.int 1]) (mem' := fm g tp bt a b) (fun _ _ _ => rfl) ?_
            refine fe_s 1 (pc' := cond (fx_cb .eq 1 0) 115 80) (lc' := [(6, .int 75), (5, .int 1), (4, .int 78), (3, .int 73), (2, .int 13), (0, .ref 0), (1, .ref 22)]) (stk' := []) (mem' := fm g tp bt a b) (fun _ _ _ => rfl) ?_
            rw [show (fx_cb .eq 1 0) = false from by decide]
            dsimp only [cond]
            refine fe_s 2 (pc' := 83) (lc' := [(6, .int 75), (5, .int 1), (4, .int 78), (3, .int 73), (2, .int 13), (0, .ref 0), (1, .ref 22)]) (stk' := [.int 75, .ref 22]) (mem' := fm g tp bt a b) (fun _ _ _ => rfl) ?_
            refine fe_chr (i := 75) (by omega) (by rfl) (by rfl) ⟨by rfl, by rfl⟩ (by rfl) ?_
            rw [show sk_b.getD 75 0 = 111 from rfl]
            refine fe_s 7 (pc' := 96) (lc' := [(6, .int 75), (5, .int 1), (4, .int 78), (3, .int 73), (2, .int 13), (0, .ref 0), (1, .ref 22)]) (stk' := [.int (((g 13) + 75) - 73), .ref 0, .int 111]) (mem' := fm g tp bt a b) (fun _ _ _ => rfl) ?_
            try rw [h13]
            rw [show (((nI F) + 75) - 73 : Int32) = nI ((F + 75) - 73) from by simp only [show (75 : Int32) = nI 75 from rfl, show (73 : Int32) = nI 73 from rfl, tg_sub2 (x := F + 75) (y := 73) (by omega), nI_add, fm_mul]]
            refine fe_ivV (fr_byteAt (S := S) (k := (F + 75) - 73) (g := g) (tp := tp) (bt := bt) (a := a) (b := b) h11 (by omega) (by omega)) (by omega) (by rfl) (by rfl) (by rfl) (by rfl) (by rfl) (by rfl) ?_
            rcases fm_byte_or a S ((F + 75) - 73) with ⟨e11, q12⟩ | ⟨q12, n10, qn10, e11⟩
            · rw [e11]
              refine fe_s 1 (pc' := cond (fx_cb .ne 111 (-1)) 106 102) (lc' := [(6, .int 75), (5, .int 1), (4, .int 78), (3, .int 73), (2, .int 13), (0, .ref 0), (1, .ref 22)]) (stk' := []) (mem' := fm g tp bt a b) (fun _ _ _ => rfl) ?_
              rw [show (fx_cb .ne 111 (-1)) = true from by decide]
              dsimp only [cond]
              refine fe_s 6 (pc' := 72) (lc' := [(6, .int (75 + 1)), (5, .int 0), (4, .int 78), (3, .int 73), (2, .int 13), (0, .ref 0), (1, .ref 22)]) (stk' := [.int 78, .int (75 + 1)]) (mem' := fm g tp bt a b) (fun _ _ _ => rfl) ?_
              rw [show (75 + 1 : Int32) = 76 from rfl]
              refine fe_s 1 (pc' := cond (fx_cb .ge 76 78) 115 75) (lc' := [(6, .int 76), (5, .int 0), (4, .int 78), (3, .int 73), (2, .int 13), (0, .ref 0), (1, .ref 22)]) (stk' := []) (mem' := fm g tp bt a b) (fun _ _ _ => rfl) ?_
              rw [show (fx_cb .ge 76 78) = false from by decide]
              dsimp only [cond]
              refine fe_s 1 (pc' := 77) (lc' := [(6, .int 76), (5, .int 0), (4, .int 78), (3, .int 73), (2, .int 13), (0, .ref 0), (1, .ref 22)]) (stk' := [.int 0]) (mem' := fm g tp bt a b) (fun _ _ _ => rfl) ?_
              refine fe_s 1 (pc' := cond (fx_cb .eq 0 0) 115 80) (lc' := [(6, .int 76), (5, .int 0), (4, .int 78), (3, .int 73), (2, .int 13), (0, .ref 0), (1, .ref 22)]) (stk' := []) (mem' := fm g tp bt a b) (fun _ _ _ => rfl) ?_
              rw [show (fx_cb .eq 0 0) = true from by decide]
              dsimp only [cond]
              refine fe_s 1 (pc' := 117) (lc' := [(6, .int 76), (5, .int 0), (4, .int 78), (3, .int 73), (2, .int 13), (0, .ref 0), (1, .ref 22)]) (stk' := [.int 0]) (mem' := fm g tp bt a b) (fun _ _ _ => rfl) ?_
              refine fe_s 1 (pc' := cond (fx_cb .eq 0 0) 122 120) (lc' := [(6, .int 76), (5, .int 0), (4, .int 78), (3, .int 73), (2, .int 13), (0, .ref 0), (1, .ref 22)]) (stk' := []) (mem' := fm g tp bt a b) (fun _ _ _ => rfl) ?_
              rw [show (fx_cb .eq 0 0) = true from by decide]
              dsimp only [cond]
              refine fe_s 6 (pc' := 14) (lc' := [(3, .int (78 + 1)), (2, .int (13 + 1)), (6, .int 76), (5, .int 0), (4, .int 78), (0, .ref 0), (1, .ref 22)]) (stk' := []) (mem' := fm g tp bt a b) (fun _ _ _ => rfl) ?_
              rw [show (78 + 1 : Int32) = 79 from rfl]
              rw [show (13 + 1 : Int32) = 14 from rfl]
              refine fe_w (lc' := [(3, .int 79), (2, .int 14), (0, .ref 0), (1, .ref 22)]) ⟨rfl, rfl, rfl, rfl, trivial⟩ (by show List.Nodup [3, 2, 0, 1]; decide) (by show List.Nodup [3, 2, 6, 5, 4, 0, 1]; decide) ?_
              exact fw_14 hxp
            · rw [e11]
              refine fe_s 1 (pc' := cond (fx_cb .ne 111 (nI n10)) 106 102) (lc' := [(6, .int 75), (5, .int 1), (4, .int 78), (3, .int 73), (2, .int 13), (0, .ref 0), (1, .ref 22)]) (stk' := []) (mem' := fm g tp bt a b) (fun _ _ _ => rfl) ?_
              by_cases h13 : 111 = n10
              · rw [show (fx_cb .ne 111 (nI n10)) = false from cb_neF (a := 111) (b := n10) (by omega) (by omega) (by omega)]
                dsimp only [cond]
                refine fe_s 7 (pc' := 72) (lc' := [(6, .int (75 + 1)), (5, .int 1), (4, .int 78), (3, .int 73), (2, .int 13), (0, .ref 0), (1, .ref 22)]) (stk' := [.int 78, .int (75 + 1)]) (mem' := fm g tp bt a b) (fun _ _ _ => rfl) ?_
                rw [show (75 + 1 : Int32) = 76 from rfl]
                refine fe_s 1 (pc' := cond (fx_cb .ge 76 78) 115 75) (lc' := [(6, .int 76), (5, .int 1), (4, .int 78), (3, .int 73), (2, .int 13), (0, .ref 0), (1, .ref 22)]) (stk' := []) (mem' := fm g tp bt a b) (fun _ _ _ => rfl) ?_
                rw [show (fx_cb .ge 76 78) = false from by decide]
                dsimp only [cond]
                refine fe_s 1 (pc' := 77) (lc' := [(6, .int 76), (5, .int 1), (4, .int 78), (3, .int 73), (2, .int 13), (0, .ref 0), (1, .ref 22)]) (stk' := [.int 1]) (mem' := fm g tp bt a b) (fun _ _ _ => rfl) ?_
                refine fe_s 1 (pc' := cond (fx_cb .eq 1 0) 115 80) (lc' := [(6, .int 76), (5, .int 1), (4, .int 78), (3, .int 73), (2, .int 13), (0, .ref 0), (1, .ref 22)]) (stk' := []) (mem' := fm g tp bt a b) (fun _ _ _ => rfl) ?_
                rw [show (fx_cb .eq 1 0) = false from by decide]
                dsimp only [cond]
                refine fe_s 2 (pc' := 83) (lc' := [(6, .int 76), (5, .int 1), (4, .int 78), (3, .int 73), (2, .int 13), (0, .ref 0), (1, .ref 22)]) (stk' := [.int 76, .ref 22]) (mem' := fm g tp bt a b) (fun _ _ _ => rfl) ?_
                refine fe_chr (i := 76) (by omega) (by rfl) (by rfl) ⟨by rfl, by rfl⟩ (by rfl) ?_
                rw [show sk_b.getD 76 0 = 115 from rfl]
                refine fe_s 7 (pc' := 96) (lc' := [(6, .int 76), (5, .int 1), (4, .int 78), (3, .int 73), (2, .int 13), (0, .ref 0), (1, .ref 22)]) (stk' := [.int (((g 13) + 76) - 73), .ref 0, .int 115]) (mem' := fm g tp bt a b) (fun _ _ _ => rfl) ?_
                try rw [h13]
                rw [show (((nI F) + 76) - 73 : Int32) = nI ((F + 76) - 73) from by simp only [show (76 : Int32) = nI 76 from rfl, show (73 : Int32) = nI 73 from rfl, tg_sub2 (x := F + 76) (y := 73) (by omega), nI_add, fm_mul]]
                refine fe_ivV (fr_byteAt (S := S) (k := (F + 76) - 73) (g := g) (tp := tp) (bt := bt) (a := a) (b := b) h11 (by omega) (by omega)) (by omega) (by rfl) (by rfl) (by rfl) (by rfl) (by rfl) (by rfl) ?_
                rcases fm_byte_or a S ((F + 76) - 73) with ⟨e15, q16⟩ | ⟨q16, n14, qn14, e15⟩
                · rw [e15]
                  refine fe_s 1 (pc' := cond (fx_cb .ne 115 (-1)) 106 102) (lc' := [(6, .int 76), (5, .int 1), (4, .int 78), (3, .int 73), (2, .int 13), (0, .ref 0), (1, .ref 22)]) (stk' := []) (mem' := fm g tp bt a b) (fun _ _ _ => rfl) ?_
                  rw [show (fx_cb .ne 115 (-1)) = true from by decide]
                  dsimp only [cond]
                  refine fe_s 6 (pc' := 72) (lc' := [(6, .int (76 + 1)), (5, .int 0), (4, .int 78), (3, .int 73), (2, .int 13), (0, .ref 0), (1, .ref 22)]) (stk' := [.int 78, .int (76 + 1)]) (mem' := fm g tp bt a b) (fun _ _ _ => rfl) ?_
                  rw [show (76 + 1 : Int32) = 77 from rfl]
                  refine fe_s 1 (pc' := cond (fx_cb .ge 77 78) 115 75) (lc' := [(6, .int 77), (5, .int 0), (4, .int 78), (3, .int 73), (2, .int 13), (0, .ref 0), (1, .ref 22)]) (stk' := []) (mem' := fm g tp bt a b) (fun _ _ _ => rfl) ?_
                  rw [show (fx_cb .ge 77 78) = false from by decide]
                  dsimp only [cond]
                  refine fe_s 1 (pc' := 77) (lc' := [(6, .int 77), (5, .int 0), (4, .int 78), (3, .int 73), (2, .int 13), (0, .ref 0), (1, .ref 22)]) (stk' := [.int 0]) (mem' := fm g tp bt a b) (fun _ _ _ => rfl) ?_
                  refine fe_s 1 (pc' := cond (fx_cb .eq 0 0) 115 80) (lc' := [(6, .int 77), (5, .int 0), (4, .int 78), (3, .int 73), (2, .int 13), (0, .ref 0), (1, .ref 22)]) (stk' := []) (mem' := fm g tp bt a b) (fun _ _ _ => rfl) ?_
                  rw [show (fx_cb .eq 0 0) = true from by decide]
                  dsimp only [cond]
                  refine fe_s 1 (pc' := 117) (lc' := [(6, .int 77), (5, .int 0), (4, .int 78), (3, .int 73), (2, .int 13), (0, .ref 0), (1, .ref 22)]) (stk' := [.int 0]) (mem' := fm g tp bt a b) (fun _ _ _ => rfl) ?_
                  refine fe_s 1 (pc' := cond (fx_cb .eq 0 0) 122 120) (lc' := [(6, .int 77), (5, .int 0), (4, .int 78), (3, .int 73), (2, .int 13), (0, .ref 0), (1, .ref 22)]) (stk' := []) (mem' := fm g tp bt a b) (fun _ _ _ => rfl) ?_
                  rw [show (fx_cb .eq 0 0) = true from by decide]
                  dsimp only [cond]
                  refine fe_s 6 (pc' := 14) (lc' := [(3, .int (78 + 1)), (2, .int (13 + 1)), (6, .int 77), (5, .int 0), (4, .int 78), (0, .ref 0), (1, .ref 22)]) (stk' := []) (mem' := fm g tp bt a b) (fun _ _ _ => rfl) ?_
                  rw [show (78 + 1 : Int32) = 79 from rfl]
                  rw [show (13 + 1 : Int32) = 14 from rfl]
                  refine fe_w (lc' := [(3, .int 79), (2, .int 14), (0, .ref 0), (1, .ref 22)]) ⟨rfl, rfl, rfl, rfl, trivial⟩ (by show List.Nodup [3, 2, 0, 1]; decide) (by show List.Nodup [3, 2, 6, 5, 4, 0, 1]; decide) ?_
                  exact fw_14 hxp
                · rw [e15]
                  refine fe_s 1 (pc' := cond (fx_cb .ne 115 (nI n14)) 106 102) (lc' := [(6, .int 76), (5, .int 1), (4, .int 78), (3, .int 73), (2, .int 13), (0, .ref 0), (1, .ref 22)]) (stk' := []) (mem' := fm g tp bt a b) (fun _ _ _ => rfl) ?_
                  by_cases h17 : 115 = n14
                  · rw [show (fx_cb .ne 115 (nI n14)) = false from cb_neF (a := 115) (b := n14) (by omega) (by omega) (by omega)]
                    dsimp only [cond]
                    refine fe_s 7 (pc' := 72) (lc' := [(6, .int (76 + 1)), (5, .int 1), (4, .int 78), (3, .int 73), (2, .int 13), (0, .ref 0), (1, .ref 22)]) (stk' := [.int 78, .int (76 + 1)]) (mem' := fm g tp bt a b) (fun _ _ _ => rfl) ?_
                    rw [show (76 + 1 : Int32) = 77 from rfl]
                    refine fe_s 1 (pc' := cond (fx_cb .ge 77 78) 115 75) (lc' := [(6, .int 77), (5, .int 1), (4, .int 78), (3, .int 73), (2, .int 13), (0, .ref 0), (1, .ref 22)]) (stk' := []) (mem' := fm g tp bt a b) (fun _ _ _ => rfl) ?_
                    rw [show (fx_cb .ge 77 78) = false from by decide]
                    dsimp only [cond]
                    refine fe_s 1 (pc' := 77) (lc' := [(6, .int 77), (5, .int 1), (4, .int 78), (3, .int 73), (2, .int 13), (0, .ref 0), (1, .ref 22)]) (stk' := [.int 1]) (mem' := fm g tp bt a b) (fun _ _ _ => rfl) ?_
                    refine fe_s 1 (pc' := cond (fx_cb .eq 1 0) 115 80) (lc' := [(6, .int 77), (5, .int 1), (4, .int 78), (3, .int 73), (2, .int 13), (0, .ref 0), (1, .ref 22)]) (stk' := []) (mem' := fm g tp bt a b) (fun _ _ _ => rfl) ?_
                    rw [show (fx_cb .eq 1 0) = false from by decide]
                    dsimp only [cond]
                    refine fe_s 2 (pc' := 83) (lc' := [(6, .int 77), (5, .int 1), (4, .int 78), (3, .int 73), (2, .int 13), (0, .ref 0), (1, .ref 22)]) (stk' := [.int 77, .ref 22]) (mem' := fm g tp bt a b) (fun _ _ _ => rfl) ?_
                    refine fe_chr (i := 77) (by omega) (by rfl) (by rfl) ⟨by rfl, by rfl⟩ (by rfl) ?_
                    rw [show sk_b.getD 77 0 = 116 from rfl]
                    refine fe_s 7 (pc' := 96) (lc' := [(6, .int 77), (5, .int 1), (4, .int 78), (3, .int 73), (2, .int 13), (0, .ref 0), (1, .ref 22)]) (stk' := [.int (((g 13) + 77) - 73), .ref 0, .int 116]) (mem' := fm g tp bt a b) (fun _ _ _ => rfl) ?_
                    try rw [h13]
                    rw [show (((nI F) + 77) - 73 : Int32) = nI ((F + 77) - 73) from by simp only [show (77 : Int32) = nI 77 from rfl, show (73 : Int32) = nI 73 from rfl, tg_sub2 (x := F + 77) (y := 73) (by omega), nI_add, fm_mul]]
                    refine fe_ivV (fr_byteAt (S := S) (k := (F + 77) - 73) (g := g) (tp := tp) (bt := bt) (a := a) (b := b) h11 (by omega) (by omega)) (by omega) (by rfl) (by rfl) (by rfl) (by rfl) (by rfl) (by rfl) ?_
                    rcases fm_byte_or a S ((F + 77) - 73) with ⟨e19, q20⟩ | ⟨q20, n18, qn18, e19⟩
                    · rw [e19]
                      refine fe_s 1 (pc' := cond (fx_cb .ne 116 (-1)) 106 102) (lc' := [(6, .int 77), (5, .int 1), (4, .int 78), (3, .int 73), (2, .int 13), (0, .ref 0), (1, .ref 22)]) (stk' := []) (mem' := fm g tp bt a b) (fun _ _ _ => rfl) ?_
                      rw [show (fx_cb .ne 116 (-1)) = true from by decide]
                      dsimp only [cond]
                      refine fe_s 6 (pc' := 72) (lc' := [(6, .int (77 + 1)), (5, .int 0), (4, .int 78), (3, .int 73), (2, .int 13), (0, .ref 0), (1, .ref 22)]) (stk' := [.int 78, .int (77 + 1)]) (mem' := fm g tp bt a b) (fun _ _ _ => rfl) ?_
                      rw [show (77 + 1 : Int32) = 78 from rfl]
                      refine fe_s 1 (pc' := cond (fx_cb .ge 78 78) 115 75) (lc' := [(6, .int 78), (5, .int 0), (4, .int 78), (3, .int 73), (2, .int 13), (0, .ref 0), (1, .ref 22)]) (stk' := []) (mem' := fm g tp bt a b) (fun _ _ _ => rfl) ?_
                      rw [show (fx_cb .ge 78 78) = true from by decide]
                      dsimp only [cond]
                      refine fe_s 1 (pc' := 117) (lc' := [(6, .int 78), (5, .int 0), (4, .int 78), (3, .int 73), (2, .int 13), (0, .ref 0), (1, .ref 22)]) (stk' := [.int 0]) (mem' := fm g tp bt a b) (fun _ _ _ => rfl) ?_
                      refine fe_s 1 (pc' := cond (fx_cb .eq 0 0) 122 120) (lc' := [(6, .int 78), (5, .int 0), (4, .int 78), (3, .int 73), (2, .int 13), (0, .ref 0), (1, .ref 22)]) (stk' := []) (mem' := fm g tp bt a b) (fun _ _ _ => rfl) ?_
                      rw [show (fx_cb .eq 0 0) = true from by decide]
                      dsimp only [cond]
                      refine fe_s 6 (pc' := 14) (lc' := [(3, .int (78 + 1)), (2, .int (13 + 1)), (6, .int 78), (5, .int 0), (4, .int 78), (0, .ref 0), (1, .ref 22)]) (stk' := []) (mem' := fm g tp bt a b) (fun _ _ _ => rfl) ?_
                      rw [show (78 + 1 : Int32) = 79 from rfl]
                      rw [show (13 + 1 : Int32) = 14 from rfl]
                      refine fe_w (lc' := [(3, .int 79), (2, .int 14), (0, .ref 0), (1, .ref 22)]) ⟨rfl, rfl, rfl, rfl, trivial⟩ (by show List.Nodup [3, 2, 0, 1]; decide) (by show List.Nodup [3, 2, 6, 5, 4, 0, 1]; decide) ?_
                      exact fw_14 hxp
                    · rw [e19]
                      refine fe_s 1 (pc' := cond (fx_cb .ne 116 (nI n18)) 106 102) (lc' := [(6, .int 77), (5, .int 1), (4, .int 78), (3, .int 73), (2, .int 13), (0, .ref 0), (1, .ref 22)]) (stk' := []) (mem' := fm g tp bt a b) (fun _ _ _ => rfl) ?_
                      by_cases h21 : 116 = n18
                      · rw [show (fx_cb .ne 116 (nI n18)) = false from cb_neF (a := 116) (b := n18) (by omega) (by omega) (by omega)]
                        dsimp only [cond]
                        refine fe_s 7 (pc' := 72) (lc' := [(6, .int (77 + 1)), (5, .int 1), (4, .int 78), (3, .int 73), (2, .int 13), (0, .ref 0), (1, .ref 22)]) (stk' := [.int 78, .int (77 + 1)]) (mem' := fm g tp bt a b) (fun _ _ _ => rfl) ?_
                        rw [show (77 + 1 : Int32) = 78 from rfl]
                        refine fe_s 1 (pc' := cond (fx_cb .ge 78 78) 115 75) (lc' := [(6, .int 78), (5, .int 1), (4, .int 78), (3, .int 73), (2, .int 13), (0, .ref 0), (1, .ref 22)]) (stk' := []) (mem' := fm g tp bt a b) (fun _ _ _ => rfl) ?_
                        rw [show (fx_cb .ge 78 78) = true from by decide]
                        dsimp only [cond]
                        refine fe_s 1 (pc' := 117) (lc' := [(6, .int 78), (5, .int 1), (4, .int 78), (3, .int 73), (2, .int 13), (0, .ref 0), (1, .ref 22)]) (stk' := [.int 1]) (mem' := fm g tp bt a b) (fun _ _ _ => rfl) ?_
                        refine fe_s 1 (pc' := cond (fx_cb .eq 1 0) 122 120) (lc' := [(6, .int 78), (5, .int 1), (4, .int 78), (3, .int 73), (2, .int 13), (0, .ref 0), (1, .ref 22)]) (stk' := []) (mem' := fm g tp bt a b) (fun _ _ _ => rfl) ?_
                        rw [show (fx_cb .eq 1 0) = false from by decide]
                        dsimp only [cond]
                        refine fe_s 1 (pc' := 121) (lc' := [(6, .int 78), (5, .int 1), (4, .int 78), (3, .int 73), (2, .int 13), (0, .ref 0), (1, .ref 22)]) (stk' := [.int 13]) (mem' := fm g tp bt a b) (fun _ _ _ => rfl) ?_
                        exact fe_ret ⟨_, Or.inr ⟨13, by omega, rfl⟩, rfl⟩ (by rfl) (by rfl) (by rfl)
                      · rw [show (fx_cb .ne 116 (nI n18)) = true from cb_neT (a := 116) (b := n18) (by omega) (by omega) (by omega)]
                        dsimp only [cond]
                        refine fe_s 6 (pc' := 72) (lc' := [(6, .int (77 + 1)), (5, .int 0), (4, .int 78), (3, .int 73), (2, .int 13), (0, .ref 0), (1, .ref 22)]) (stk' := [.int 78, .int (77 + 1)]) (mem' := fm g tp bt a b) (fun _ _ _ => rfl) ?_
                        rw [show (77 + 1 : Int32) = 78 from rfl]
                        refine fe_s 1 (pc' := cond (fx_cb .ge 78 78) 115 75) (lc' := [(6, .int 78), (5, .int 0), (4, .int 78), (3, .int 73), (2, .int 13), (0, .ref 0), (1, .ref 22)]) (stk' := []) (mem' := fm g tp bt a b) (fun _ _ _ => rfl) ?_
                        rw [show (fx_cb .ge 78 78) = true from by decide]
                        dsimp only [cond]
                        refine fe_s 1 (pc' := 117) (lc' := [(6, .int 78), (5, .int 0), (4, .int 78), (3, .int 73), (2, .int 13), (0, .ref 0), (1, .ref 22)]) (stk' := [.int 0]) (mem' := fm g tp bt a b) (fun _ _ _ => rfl) ?_
                        refine fe_s 1 (pc' := cond (fx_cb .eq 0 0) 122 120) (lc' := [(6, .int 78), (5, .int 0), (4, .int 78), (3, .int 73), (2, .int 13), (0, .ref 0), (1, .ref 22)]) (stk' := []) (mem' := fm g tp bt a b) (fun _ _ _ => rfl) ?_
                        rw [show (fx_cb .eq 0 0) = true from by decide]
                        dsimp only [cond]
                        refine fe_s 6 (pc' := 14) (lc' := [(3, .int (78 + 1)), (2, .int (13 + 1)), (6, .int 78), (5, .int 0), (4, .int 78), (0, .ref 0), (1, .ref 22)]) (stk' := []) (mem' := fm g tp bt a b) (fun _ _ _ => rfl) ?_
                        rw [show (78 + 1 : Int32) = 79 from rfl]
                        rw [show (13 + 1 : Int32) = 14 from rfl]
                        refine fe_w (lc' := [(3, .int 79), (2, .int 14), (0, .ref 0), (1, .ref 22)]) ⟨rfl, rfl, rfl, rfl, trivial⟩ (by show List.Nodup [3, 2, 0, 1]; decide) (by show List.Nodup [3, 2, 6, 5, 4, 0, 1]; decide) ?_
                        exact fw_14 hxp
                  · rw [show (fx_cb .ne 115 (nI n14)) = true from cb_neT (a := 115) (b := n14) (by omega) (by omega) (by omega)]
                    dsimp only [cond]
                    refine fe_s 6 (pc' := 72) (lc' := [(6, .int (76 + 1)), (5, .int 0), (4, .int 78), (3, .int 73), (2, .int 13), (0, .ref 0), (1, .ref 22)]) (stk' := [.int 78, .int (76 + 1)]) (mem' := fm g tp bt a b) (fun _ _ _ => rfl) ?_
                    rw [show (76 + 1 : Int32) = 77 from rfl]
                    refine fe_s 1 (pc' := cond (fx_cb .ge 77 78) 115 75) (lc' := [(6, .int 77), (5, .int 0), (4, .int 78), (3, .int 73), (2, .int 13), (0, .ref 0), (1, .ref 22)]) (stk' := []) (mem' := fm g tp bt a b) (fun _ _ _ => rfl) ?_
                    rw [show (fx_cb .ge 77 78) = false from by decide]
                    dsimp only [cond]
                    refine fe_s 1 (pc' := 77) (lc' := [(6, .int 77), (5, .int 0), (4, .int 78), (3, .int 73), (2, .int 13), (0, .ref 0), (1, .ref 22)]) (stk' := [.int 0]) (mem' := fm g tp bt a b) (fun _ _ _ => rfl) ?_
                    refine fe_s 1 (pc' := cond (fx_cb .eq 0 0) 115 80) (lc' := [(6, .int 77), (5, .int 0), (4, .int 78), (3, .int 73), (2, .int 13), (0, .ref 0), (1, .ref 22)]) (stk' := []) (mem' := fm g tp bt a b) (fun _ _ _ => rfl) ?_
                    rw [show (fx_cb .eq 0 0) = true from by decide]
                    dsimp only [cond]
                    refine fe_s 1 (pc' := 117) (lc' := [(6, .int 77), (5, .int 0), (4, .int 78), (3, .int 73), (2, .int 13), (0, .ref 0), (1, .ref 22)]) (stk' := [.int 0]) (mem' := fm g tp bt a b) (fun _ _ _ => rfl) ?_
                    refine fe_s 1 (pc' := cond (fx_cb .eq 0 0) 122 120) (lc' := [(6, .int 77), (5, .int 0), (4, .int 78), (3, .int 73), (2, .int 13), (0, .ref 0), (1, .ref 22)]) (stk' := []) (mem' := fm g tp bt a b) (fun _ _ _ => rfl) ?_
                    rw [show (fx_cb .eq 0 0) = true from by decide]
                    dsimp only [cond]
                    refine fe_s 6 (pc' := 14) (lc' := [(3, .int (78 + 1)), (2, .int (13 + 1)), (6, .int 77), (5, .int 0), (4, .int 78), (0, .ref 0), (1, .ref 22)]) (stk' := []) (mem' := fm g tp bt a b) (fun _ _ _ => rfl) ?_
                    rw [show (78 + 1 : Int32) = 79 from rfl]
                    rw [show (13 + 1 : Int32) = 14 from rfl]
                    refine fe_w (lc' := [(3, .int 79), (2, .int 14), (0, .ref 0), (1, .ref 22)]) ⟨rfl, rfl, rfl, rfl, trivial⟩ (by show List.Nodup [3, 2, 0, 1]; decide) (by show List.Nodup [3, 2, 6, 5, 4, 0, 1]; decide) ?_
                    exact fw_14 hxp
              · rw [show (fx_cb .ne 111 (nI n10)) = true from cb_neT (a := 111) (b := n10) (by omega) (by omega) (by omega)]
                dsimp only [cond]
                refine fe_s 6 (pc' := 72) (lc' := [(6, .int (75 + 1)), (5, .int 0), (4, .int 78), (3, .int 73), (2, .int 13), (0, .ref 0), (1, .ref 22)]) (stk' := [.int 78, .int (75 + 1)]) (mem' := fm g tp bt a b) (fun _ _ _ => rfl) ?_
                rw [show (75 + 1 : Int32) = 76 from rfl]
                refine fe_s 1 (pc' := cond (fx_cb .ge 76 78) 115 75) (lc' := [(6, .int 76), (5, .int 0), (4, .int 78), (3, .int 73), (2, .int 13), (0, .ref 0), (1, .ref 22)]) (stk' := []) (mem' := fm g tp bt a b) (fun _ _ _ => rfl) ?_
                rw [show (fx_cb .ge 76 78) = false from by decide]
                dsimp only [cond]
                refine fe_s 1 (pc' := 77) (lc' := [(6, .int 76), (5, .int 0), (4, .int 78), (3, .int 73), (2, .int 13), (0, .ref 0), (1, .ref 22)]) (stk' := [.int 0]) (mem' := fm g tp bt a b) (fun _ _ _ => rfl) ?_
                refine fe_s 1 (pc' := cond (fx_cb .eq 0 0) 115 80) (lc' := [(6, .int 76), (5, .int 0), (4, .int 78), (3, .int 73), (2, .int 13), (0, .ref 0), (1, .ref 22)]) (stk' := []) (mem' := fm g tp bt a b) (fun _ _ _ => rfl) ?_
                rw [show (fx_cb .eq 0 0) = true from by decide]
                dsimp only [cond]
                refine fe_s 1 (pc' := 117) (lc' := [(6, .int 76), (5, .int 0), (4, .int 78), (3, .int 73), (2, .int 13), (0, .ref 0), (1, .ref 22)]) (stk' := [.int 0]) (mem' := fm g tp bt a b) (fun _ _ _ => rfl) ?_
                refine fe_s 1 (pc' := cond (fx_cb .eq 0 0) 122 120) (lc' := [(6, .int 76), (5, .int 0), (4, .int 78), (3, .int 73), (2, .int 13), (0, .ref 0), (1, .ref 22)]) (stk' := []) (mem' := fm g tp bt a b) (fun _ _ _ => rfl) ?_
                rw [show (fx_cb .eq 0 0) = true from by decide]
                dsimp only [cond]
                refine fe_s 6 (pc' := 14) (lc' := [(3, .int (78 + 1)), (2, .int (13 + 1)), (6, .int 76), (5, .int 0), (4, .int 78), (0, .ref 0), (1, .ref 22)]) (stk' := []) (mem' := fm g tp bt a b) (fun _ _ _ => rfl) ?_
                rw [show (78 + 1 : Int32) = 79 from rfl]
                rw [show (13 + 1 : Int32) = 14 from rfl]
                refine fe_w (lc' := [(3, .int 79), (2, .int 14), (0, .ref 0), (1, .ref 22)]) ⟨rfl, rfl, rfl, rfl, trivial⟩ (by show List.Nodup [3, 2, 0, 1]; decide) (by show List.Nodup [3, 2, 6, 5, 4, 0, 1]; decide) ?_
                exact fw_14 hxp
          · rw [show (fx_cb .ne 114 (nI n6)) = true from cb_neT (a := 114) (b := n6) (by omega) (by omega) (by omega)]
            dsimp only [cond]
            refine fe_s 6 (pc' := 72) (lc' := [(6, .int (74 + 1)), (5, .int 0), (4, .int 78), (3, .int 73), (2, .int 13), (0, .ref 0), (1, .ref 22)]) (stk' := [.int 78, .int (74 + 1)]) (mem' := fm g tp bt a b) (fun _ _ _ => rfl) ?_
            rw [show (74 + 1 : Int32) = 75 from rfl]
            refine fe_s 1 (pc' := cond (fx_cb .ge 75 78) 115 75) (lc' := [(6, .int 75), (5, .int 0), (4, .int 78), (3, .int 73), (2, .int 13), (0, .ref 0), (1, .ref 22)]) (stk' := []) (mem' := fm g tp bt a b) (fun _ _ _ => rfl) ?_
            rw [show (fx_cb .ge 75 78) = false from by decide]
            dsimp only [cond]
            refine fe_s 1 (pc' := 77) (lc' := [(6, .int 75), (5, .int 0), (4, .int 78), (3, .int 73), (2, .int 13), (0, .ref 0), (1, .ref 22)]) (stk' := [.int 0]) (mem' := fm g tp bt a b) (fun _ _ _ => rfl) ?_
            refine fe_s 1 (pc' := cond (fx_cb .eq 0 0) 115 80) (lc' := [(6, .int 75), (5, .int 0), (4, .int 78), (3, .int 73), (2, .int 13), (0, .ref 0), (1, .ref 22)]) (stk' := []) (mem' := fm g tp bt a b) (fun _ _ _ => rfl) ?_
            rw [show (fx_cb .eq 0 0) = true from by decide]
            dsimp only [cond]
            refine fe_s 1 (pc' := 117) (lc' := [(6, .int 75), (5, .int 0), (4, .int 78), (3, .int 73), (2, .int 13), (0, .ref 0), (1, .ref 22)]) (stk' := [.int 0]) (mem' := fm g tp bt a b) (fun _ _ _ => rfl) ?_
            refine fe_s 1 (pc' := cond (fx_cb .eq 0 0) 122 120) (lc' := [(6, .int 75), (5, .int 0), (4, .int 78), (3, .int 73), (2, .int 13), (0, .ref 0), (1, .ref 22)]) (stk' := []) (mem' := fm g tp bt a b) (fun _ _ _ => rfl) ?_
            rw [show (fx_cb .eq 0 0) = true from by decide]
            dsimp only [cond]
            refine fe_s 6 (pc' := 14) (lc' := [(3, .int (78 + 1)), (2, .int (13 + 1)), (6, .int 75), (5, .int 0), (4, .int 78), (0, .ref 0), (1, .ref 22)]) (stk' := []) (mem' := fm g tp bt a b) (fun _ _ _ => rfl) ?_
            rw [show (78 + 1 : Int32) = 79 from rfl]
            rw [show (13 + 1 : Int32) = 14 from rfl]
            refine fe_w (lc' := [(3, .int 79), (2, .int 14), (0, .ref 0), (1, .ref 22)]) ⟨rfl, rfl, rfl, rfl, trivial⟩ (by show List.Nodup [3, 2, 0, 1]; decide) (by show List.Nodup [3, 2, 6, 5, 4, 0, 1]; decide) ?_
            exact fw_14 hxp
      · rw [show (fx_cb .ne 102 (nI n2)) = true from cb_neT (a := 102) (b := n2) (by omega) (by omega) (by omega)]
        dsimp only [cond]
        refine fe_s 6 (pc' := 72) (lc' := [(6, .int (73 + 1)), (5, .int 0), (4, .int 78), (3, .int 73), (2, .int 13), (0, .ref 0), (1, .ref 22)]) (stk' := [.int 78, .int (73 + 1)]) (mem' := fm g tp bt a b) (fun _ _ _ => rfl) ?_
        rw [show (73 + 1 : Int32) = 74 from rfl]
        refine fe_s 1 (pc' := cond (fx_cb .ge 74 78) 115 75) (lc' := [(6, .int 74), (5, .int 0), (4, .int 78), (3, .int 73), (2, .int 13), (0, .ref 0), (1, .ref 22)]) (stk' := []) (mem' := fm g tp bt a b) (fun _ _ _ => rfl) ?_
        rw [show (fx_cb .ge 74 78) = false from by decide]
        dsimp only [cond]
        refine fe_s 1 (pc' := 77) (lc' := [(6, .int 74), (5, .int 0), (4, .int 78), (3, .int 73), (2, .int 13), (0, .ref 0), (1, .ref 22)]) (stk' := [.int 0]) (mem' := fm g tp bt a b) (fun _ _ _ => rfl) ?_
        refine fe_s 1 (pc' := cond (fx_cb .eq 0 0) 115 80) (lc' := [(6, .int 74), (5, .int 0), (4, .int 78), (3, .int 73), (2, .int 13), (0, .ref 0), (1, .ref 22)]) (stk' := []) (mem' := fm g tp bt a b) (fun _ _ _ => rfl) ?_
        rw [show (fx_cb .eq 0 0) = true from by decide]
        dsimp only [cond]
        refine fe_s 1 (pc' := 117) (lc' := [(6, .int 74), (5, .int 0), (4, .int 78), (3, .int 73), (2, .int 13), (0, .ref 0), (1, .ref 22)]) (stk' := [.int 0]) (mem' := fm g tp bt a b) (fun _ _ _ => rfl) ?_
        refine fe_s 1 (pc' := cond (fx_cb .eq 0 0) 122 120) (lc' := [(6, .int 74), (5, .int 0), (4, .int 78), (3, .int 73), (2, .int 13), (0, .ref 0), (1, .ref 22)]) (stk' := []) (mem' := fm g tp bt a b) (fun _ _ _ => rfl) ?_
        rw [show (fx_cb .eq 0 0) = true from by decide]
        dsimp only [cond]
        refine fe_s 6 (pc' := 14) (lc' := [(3, .int (78 + 1)), (2, .int (13 + 1)), (6, .int 74), (5, .int 0), (4, .int 78), (0, .ref 0), (1, .ref 22)]) (stk' := []) (mem' := fm g tp bt a b) (fun _ _ _ => rfl) ?_
        rw [show (78 + 1 : Int32) = 79 from rfl]
        rw [show (13 + 1 : Int32) = 14 from rfl]
        refine fe_w (lc' := [(3, .int 79), (2, .int 14), (0, .ref 0), (1, .ref 22)]) ⟨rfl, rfl, rfl, rfl, trivial⟩ (by show List.Nodup [3, 2, 0, 1]; decide) (by show List.Nodup [3, 2, 6, 5, 4, 0, 1]; decide) ?_
        exact fw_14 hxp
  · rw [show (fx_cb .ne 5 (nI (E - F))) = true from cb_neT (a := 5) (b := E - F) (by omega) (by omega) (by omega)]
    dsimp only [cond]
    refine fe_s 6 (pc' := 72) (lc' := [(6, .int 73), (5, .int 0), (4, .int 78), (3, .int 73), (2, .int 13), (0, .ref 0), (1, .ref 22)]) (stk' := [.int 78, .int 73]) (mem' := fm g tp bt a b) (fun _ _ _ => rfl) ?_
    refine fe_s 1 (pc' := cond (fx_cb .ge 73 78) 115 75) (lc' := [(6, .int 73), (5, .int 0), (4, .int 78), (3, .int 73), (2, .int 13), (0, .ref 0), (1, .ref 22)]) (stk' := []) (mem' := fm g tp bt a b) (fun _ _ _ => rfl) ?_
    rw [show (fx_cb .ge 73 78) = false from by decide]
    dsimp only [cond]
    refine fe_s 1 (pc' := 77) (lc' := [(6, .int 73), (5, .int 0), (4, .int 78), (3, .int 73), (2, .int 13), (0, .ref 0), (1, .ref 22)]) (stk' := [.int 0]) (mem' := fm g tp bt a b) (fun _ _ _ => rfl) ?_
    refine fe_s 1 (pc' := cond (fx_cb .eq 0 0) 115 80) (lc' := [(6, .int 73), (5, .int 0), (4, .int 78), (3, .int 73), (2, .int 13), (0, .ref 0), (1, .ref 22)]) (stk' := []) (mem' := fm g tp bt a b) (fun _ _ _ => rfl) ?_
    rw [show (fx_cb .eq 0 0) = true from by decide]
    dsimp only [cond]
    refine fe_s 1 (pc' := 117) (lc' := [(6, .int 73), (5, .int 0), (4, .int 78), (3, .int 73), (2, .int 13), (0, .ref 0), (1, .ref 22)]) (stk' := [.int 0]) (mem' := fm g tp bt a b) (fun _ _ _ => rfl) ?_
    refine fe_s 1 (pc' := cond (fx_cb .eq 0 0) 122 120) (lc' := [(6, .int 73), (5, .int 0), (4, .int 78), (3, .int 73), (2, .int 13), (0, .ref 0), (1, .ref 22)]) (stk' := []) (mem' := fm g tp bt a b) (fun _ _ _ => rfl) ?_
    rw [show (fx_cb .eq 0 0) = true from by decide]
    dsimp only [cond]
    refine fe_s 6 (pc' := 14) (lc' := [(3, .int (78 + 1)), (2, .int (13 + 1)), (6, .int 73), (5, .int 0), (4, .int 78), (0, .ref 0), (1, .ref 22)]) (stk' := []) (mem' := fm g tp bt a b) (fun _ _ _ => rfl) ?_
    rw [show (78 + 1 : Int32) = 79 from rfl]
    rw [show (13 + 1 : Int32) = 14 from rfl]
    refine fe_w (lc' := [(3, .int 79), (2, .int 14), (0, .ref 0), (1, .ref 22)]) ⟨rfl, rfl, rfl, rfl, trivial⟩ (by show List.Nodup [3, 2, 0, 1]; decide) (by show List.Nodup [3, 2, 6, 5, 4, 0, 1]; decide) ?_
    exact fw_14 hxp
theorem fw_12 {S E F : Nat} (hxp : fm_xp g S E F) : fe_R 1 gk_m226 14 [(3, .int 68), (2, .int 12), (0, .ref 0), (1, .ref 22)] [] (fm g tp bt a b) (fm_FI (fm g tp bt a b)) := by
  obtain ⟨h11, hS9, h14, hES, h13, hFE, -, -, -⟩ := id hxp
  refine fe_s 2 (pc' := 16) (lc' := [(3, .int 68), (2, .int 12), (0, .ref 0), (1, .ref 22)]) (stk' := [.ref 22, .int 68]) (mem' := fm g tp bt a b) (fun _ _ _ => rfl) ?_
  refine fe_s 1 (pc' := 19) (lc' := [(3, .int 68), (2, .int 12), (0, .ref 0), (1, .ref 22)]) (stk' := [.int 117, .int 68]) (mem' := fm g tp bt a b) (fun _ _ _ => rfl) ?_
  refine fe_s 1 (pc' := cond (fx_cb .ge 68 117) 133 22) (lc' := [(3, .int 68), (2, .int 12), (0, .ref 0), (1, .ref 22)]) (stk' := []) (mem' := fm g tp bt a b) (fun _ _ _ => rfl) ?_
  rw [show (fx_cb .ge 68 117) = false from by decide]
  dsimp only [cond]
  refine fe_s 4 (pc' := 28) (lc' := [(4, .int 68), (3, .int 68), (2, .int 12), (0, .ref 0), (1, .ref 22)]) (stk' := [.int 68, .ref 22]) (mem' := fm g tp bt a b) (fun _ _ _ => rfl) ?_
  refine fe_chr (i := 68) (by omega) (by rfl) (by rfl) ⟨by rfl, by rfl⟩ (by rfl) ?_
  rw [show sk_b.getD 68 0 = 115 from rfl]
  refine fe_s 1 (pc' := 33) (lc' := [(4, .int 68), (3, .int 68), (2, .int 12), (0, .ref 0), (1, .ref 22)]) (stk' := [.int 32, .int 115]) (mem' := fm g tp bt a b) (fun _ _ _ => rfl) ?_
  refine fe_s 1 (pc' := cond (fx_cb .eq 115 32) 42 36) (lc' := [(4, .int 68), (3, .int 68), (2, .int 12), (0, .ref 0), (1, .ref 22)]) (stk' := []) (mem' := fm g tp bt a b) (fun _ _ _ => rfl) ?_
  rw [show (fx_cb .eq 115 32) = false from by decide]
  dsimp only [cond]
  refine fe_s 4 (pc' := 28) (lc' := [(4, .int (68 + 1)), (3, .int 68), (2, .int 12), (0, .ref 0), (1, .ref 22)]) (stk' := [.int (68 + 1), .ref 22]) (mem' := fm g tp bt a b) (fun _ _ _ => rfl) ?_
  rw [show (68 + 1 : Int32) = 69 from rfl]
  refine fe_chr (i := 69) (by omega) (by rfl) (by rfl) ⟨by rfl, by rfl⟩ (by rfl) ?_
  rw [show sk_b.getD 69 0 = 116 from rfl]
  refine fe_s 1 (pc' := 33) (lc' := [(4, .int 69), (3, .int 68), (2, .int 12), (0, .ref 0), (1, .ref 22)]) (stk' := [.int 32, .int 116]) (mem' := fm g tp bt a b) (fun _ _ _ => rfl) ?_
  refine fe_s 1 (pc' := cond (fx_cb .eq 116 32) 42 36) (lc' := [(4, .int 69), (3, .int 68), (2, .int 12), (0, .ref 0), (1, .ref 22)]) (stk' := []) (mem' := fm g tp bt a b) (fun _ _ _ => rfl) ?_
  rw [show (fx_cb .eq 116 32) = false from by decide]
  dsimp only [cond]
  refine fe_s 4 (pc' := 28) (lc' := [(4, .int (69 + 1)), (3, .int 68), (2, .int 12), (0, .ref 0), (1, .ref 22)]) (stk' := [.int (69 + 1), .ref 22]) (mem' := fm g tp bt a b) (fun _ _ _ => rfl) ?_
  rw [show (69 + 1 : Int32) = 70 from rfl]
  refine fe_chr (i := 70) (by omega) (by rfl) (by rfl) ⟨by rfl, by rfl⟩ (by rfl) ?_
  rw [show sk_b.getD 70 0 = 101 from rfl]
  refine fe_s 1 (pc' := 33) (lc' := [(4, .int 70), (3, .int 68), (2, .int 12), (0, .ref 0), (1, .ref 22)]) (stk' := [.int 32, .int 101]) (mem' := fm g tp bt a b) (fun _ _ _ => rfl) ?_
  refine fe_s 1 (pc' := cond (fx_cb .eq 101 32) 42 36) (lc' := [(4, .int 70), (3, .int 68), (2, .int 12), (0, .ref 0), (1, .ref 22)]) (stk' := []) (mem' := fm g tp bt a b) (fun _ _ _ => rfl) ?_
  rw [show (fx_cb .eq 101 32) = false from by decide]
  dsimp only [cond]
  refine fe_s 4 (pc' := 28) (lc' := [(4, .int (70 + 1)), (3, .int 68), (2, .int 12), (0, .ref 0), (1, .ref 22)]) (stk' := [.int (70 + 1), .ref 22]) (mem' := fm g tp bt a b) (fun _ _ _ => rfl) ?_
  rw [show (70 + 1 : Int32) = 71 from rfl]
  refine fe_chr (i := 71) (by omega) (by rfl) (by rfl) ⟨by rfl, by rfl⟩ (by rfl) ?_
  rw [show sk_b.getD 71 0 = 112 from rfl]
  refine fe_s 1 (pc' := 33) (lc' := [(4, .int 71), (3, .int 68), (2, .int 12), (0, .ref 0), (1, .ref 22)]) (stk' := [.int 32, .int 112]) (mem' := fm g tp bt a b) (fun _ _ _ => rfl) ?_
  refine fe_s 1 (pc' := cond (fx_cb .eq 112 32) 42 36) (lc' := [(4, .int 71), (3, .int 68), (2, .int 12), (0, .ref 0), (1, .ref 22)]) (stk' := []) (mem' := fm g tp bt a b) (fun _ _ _ => rfl) ?_
  rw [show (fx_cb .eq 112 32) = false from by decide]
  dsimp only [cond]
  refine fe_s 4 (pc' := 28) (lc' := [(4, .int (71 + 1)), (3, .int 68), (2, .int 12), (0, .ref 0), (1, .ref 22)]) (stk' := [.int (71 + 1), .ref 22]) (mem' := fm g tp bt a b) (fun _ _ _ => rfl) ?_
  rw [show (71 + 1 : Int32) = 72 from rfl]
  refine fe_chr (i := 72) (by omega) (by rfl) (by rfl) ⟨by rfl, by rfl⟩ (by rfl) ?_
  rw [show sk_b.getD 72 0 = 32 from rfl]
  refine fe_s 1 (pc' := 33) (lc' := [(4, .int 72), (3, .int 68), (2, .int 12), (0, .ref 0), (1, .ref 22)]) (stk' := [.int 32, .int 32]) (mem' := fm g tp bt a b) (fun _ _ _ => rfl) ?_
  refine fe_s 1 (pc' := cond (fx_cb .eq 32 32) 42 36) (lc' := [(4, .int 72), (3, .int 68), (2, .int 12), (0, .ref 0), (1, .ref 22)]) (stk' := []) (mem' := fm g tp bt a b) (fun _ _ _ => rfl) ?_
  rw [show (fx_cb .eq 32 32) = true from by decide]
  dsimp only [cond]
  refine fe_s 8 (pc' := 55) (lc' := [(4, .int 72), (3, .int 68), (2, .int 12), (0, .ref 0), (1, .ref 22)]) (stk' := [.int ((g 14) - (g 13)), .int (72 - 68)]) (mem' := fm g tp bt a b) (fun _ _ _ => rfl) ?_
  try rw [h14]
  try rw [h13]
  rw [show (72 - 68 : Int32) = 4 from rfl]
  rw [show ((nI E) - (nI F) : Int32) = nI (E - F) from by simp only [tg_sub2 (x := E) (y := F) (by omega), nI_add, fm_mul]]
  refine fe_s 1 (pc' := cond (fx_cb .ne 4 (nI (E - F))) 62 58) (lc' := [(4, .int 72), (3, .int 68), (2, .int 12), (0, .ref 0), (1, .ref 22)]) (stk' := []) (mem' := fm g tp bt a b) (fun _ _ _ => rfl) ?_
  by_cases h1 : 4 = (E - F)
  · rw [show (fx_cb .ne 4 (nI (E - F))) = false from cb_neF (a := 4) (b := E - F) (by omega) (by omega) (by omega)]
    dsimp only [cond]
    refine fe_s 7 (pc' := 72) (lc' := [(6, .int 68), (5, .int 1), (4, .int 72), (3, .int 68), (2, .int 12), (0, .ref 0), (1, .ref 22)]) (stk' := [.int 72, .int 68]) (mem' := fm g tp bt a b) (fun _ _ _ => rfl) ?_
    refine fe_s 1 (pc' := cond (fx_cb .ge 68 72) 115 75) (lc' := [(6, .int 68), (5, .int 1), (4, .int 72), (3, .int 68), (2, .int 12), (0, .ref 0), (1, .ref 22)]) (stk' := []) (mem' := fm g tp bt a b) (fun _ _ _ => rfl) ?_
    rw [show (fx_cb .ge 68 72) = false from by decide]
    dsimp only [cond]
    refine fe_s 1 (pc' := 77) (lc' := [(6, .int 68), (5, .int 1), (4, .int 72), (3, .int 68), (2, .int 12), (0, .ref 0), (1, .ref 22)]) (stk' := [.int 1]) (mem' := fm g tp bt a b) (fun _ _ _ => rfl) ?_
    refine fe_s 1 (pc' := cond (fx_cb .eq 1 0) 115 80) (lc' := [(6, .int 68), (5, .int 1), (4, .int 72), (3, .int 68), (2, .int 12), (0, .ref 0), (1, .ref 22)]) (stk' := []) (mem' := fm g tp bt a b) (fun _ _ _ => rfl) ?_
    rw [show (fx_cb .eq 1 0) = false from by decide]
    dsimp only [cond]
    refine fe_s 2 (pc' := 83) (lc' := [(6, .int 68), (5, .int 1), (4, .int 72), (3, .int 68), (2, .int 12), (0, .ref 0), (1, .ref 22)]) (stk' := [.int 68, .ref 22]) (mem' := fm g tp bt a b) (fun _ _ _ => rfl) ?_
    refine fe_chr (i := 68) (by omega) (by rfl) (by rfl) ⟨by rfl, by rfl⟩ (by rfl) ?_
    rw [show sk_b.getD 68 0 = 115 from rfl]
    refine fe_s 7 (pc' := 96) (lc' := [(6, .int 68), (5, .int 1), (4, .int 72), (3, .int 68), (2, .int 12), (0, .ref 0), (1, .ref 22)]) (stk' := [.int (((g 13) + 68) - 68), .ref 0, .int 115]) (mem' := fm g tp bt a b) (fun _ _ _ => rfl) ?_
    try rw [h13]
    rw [show (((nI F) + 68) - 68 : Int32) = nI ((F + 68) - 68) from by simp only [show (68 : Int32) = nI 68 from rfl, tg_sub2 (x := F + 68) (y := 68) (by omega), nI_add, fm_mul]]
    refine fe_ivV (fr_byteAt (S := S) (k := (F + 68) - 68) (g := g) (tp := tp) (bt := bt) (a := a) (b := b) h11 (by omega) (by omega)) (by omega) (by rfl) (by rfl) (by rfl) (by rfl) (by rfl) (by rfl) ?_
    rcases fm_byte_or a S ((F + 68) - 68) with ⟨e3, q4⟩ | ⟨q4, n2, qn2, e3⟩
    · rw [e3]
      refine fe_s 1 (pc' := cond (fx_cb .ne 115 (-1)) 106 102) (lc' := [(6, .int 68), (5, .int 1), (4, .int 72), (3, .int 68), (2, .int 12), (0, .ref 0), (1, .ref 22)]) (stk' := []) (mem' := fm g tp bt a b) (fun _ _ _ => rfl) ?_
      rw [show (fx_cb .ne 115 (-1)) = true from by decide]
      dsimp only [cond]
      refine fe_s 6 (pc' := 72) (lc' := [(6, .int (68 + 1)), (5, .int 0), (4, .int 72), (3, .int 68), (2, .int 12), (0, .ref 0), (1, .ref 22)]) (stk' := [.int 72, .int (68 + 1)]) (mem' := fm g tp bt a b) (fun _ _ _ => rfl) ?_
      rw [show (68 + 1 : Int32) = 69 from rfl]
      refine fe_s 1 (pc' := cond (fx_cb .ge 69 72) 115 75) (lc' := [(6, .int 69), (5, .int 0), (4, .int 72), (3, .int 68), (2, .int 12), (0, .ref 0), (1, .ref 22)]) (stk' := []) (mem' := fm g tp bt a b) (fun _ _ _ => rfl) ?_
      rw [show (fx_cb .ge 69 72) = false from by decide]
      dsimp only [cond]
      refine fe_s 1 (pc' := 77) (lc' := [(6, .int 69), (5, .int 0), (4, .int 72), (3, .int 68), (2, .int 12), (0, .ref 0), (1, .ref 22)]) (stk' := [.int 0]) (mem' := fm g tp bt a b) (fun _ _ _ => rfl) ?_
      refine fe_s 1 (pc' := cond (fx_cb .eq 0 0) 115 80) (lc' := [(6, .int 69), (5, .int 0), (4, .int 72), (3, .int 68), (2, .int 12), (0, .ref 0), (1, .ref 22)]) (stk' := []) (mem' := fm g tp bt a b) (fun _ _ _ => rfl) ?_
      rw [show (fx_cb .eq 0 0) = true from by decide]
      dsimp only [cond]
      refine fe_s 1 (pc' := 117) (lc' := [(6, .int 69), (5, .int 0), (4, .int 72), (3, .int 68), (2, .int 12), (0, .ref 0), (1, .ref 22)]) (stk' := [.int 0]) (mem' := fm g tp bt a b) (fun _ _ _ => rfl) ?_
      refine fe_s 1 (pc' := cond (fx_cb .eq 0 0) 122 120) (lc' := [(6, .int 69), (5, .int 0), (4, .int 72), (3, .int 68), (2, .int 12), (0, .ref 0), (1, .ref 22)]) (stk' := []) (mem' := fm g tp bt a b) (fun _ _ _ => rfl) ?_
      rw [show (fx_cb .eq 0 0) = true from by decide]
      dsimp only [cond]
      refine fe_s 6 (pc' := 14) (lc' := [(3, .int (72 + 1)), (2, .int (12 + 1)), (6, .int 69), (5, .int 0), (4, .int 72), (0, .ref 0), (1, .ref 22)]) (stk' := []) (mem' := fm g tp bt a b) (fun _ _ _ => rfl) ?_
      rw [show (72 + 1 : Int32) = 73 from rfl]
      rw [show (12 + 1 : Int32) = 13 from rfl]
      refine fe_w (lc' := [(3, .int 73), (2, .int 13), (0, .ref 0), (1, .ref 22)]) ⟨rfl, rfl, rfl, rfl, trivial⟩ (by show List.Nodup [3, 2, 0, 1]; decide) (by show List.Nodup [3, 2, 6, 5, 4, 0, 1]; decide) ?_
      exact fw_13 hxp
    · rw [e3]
      refine fe_s 1 (pc' := cond (fx_cb .ne 115 (nI n2)) 106 102) (lc' := [(6, .int 68), (5, .int 1), (4, .int 72), (3, .int 68), (2, .int 12), (0, .ref 0), (1, .ref 22)]) (stk' := []) (mem' := fm g tp bt a b) (fun _ _ _ => rfl) ?_
      by_cases h5 : 115 = n2
      · rw [show (fx_cb .ne 115 (nI n2)) = false from cb_neF (a := 115) (b := n2) (by omega) (by omega) (by omega)]
        dsimp only [cond]
        refine fe_s 7 (pc' := 72) (lc' := [(6, .int (68 + 1)), (5, .int 1), (4, .int 72), (3, .int 68), (2, .int 12), (0, .ref 0), (1, .ref 22)]) (stk' := [.int 72, .int (68 + 1)]) (mem' := fm g tp bt a b) (fun _ _ _ => rfl) ?_
        rw [show (68 + 1 : Int32) = 69 from rfl]
        refine fe_s 1 (pc' := cond (fx_cb .ge 69 72) 115 75) (lc' := [(6, .int 69), (5, .int 1), (4, .int 72), (3, .int 68), (2, .int 12), (0, .ref 0), (1, .ref 22)]) (stk' := []) (mem' := fm g tp bt a b) (fun _ _ _ => rfl) ?_
        rw [show (fx_cb .ge 69 72) = false from by decide]
        dsimp only [cond]
        refine fe_s 1 (pc' := 77) (lc' := [(6, .int 69), (5, .int 1), (4, .int 72), (3, .int 68), (2, .int 12), (0, .ref 0), (1, .ref 22)]) (stk' := [.int 1]) (mem' := fm g tp bt a b) (fun _ _ _ => rfl) ?_
        refine fe_s 1 (pc' := cond (fx_cb .eq 1 0) 115 80) (lc' := [(6, .int 69), (5, .int 1), (4, .int 72), (3, .int 68), (2, .int 12), (0, .ref 0), (1, .ref 22)]) (stk' := []) (mem' := fm g tp bt a b) (fun _ _ _ => rfl) ?_
        rw [show (fx_cb .eq 1 0) = false from by decide]
        dsimp only [cond]
        refine fe_s 2 (pc' := 83) (lc' := [(6, .int 69), (5, .int 1), (4, .int 72), (3, .int 68), (2, .int 12), (0, .ref 0), (1, .ref 22)]) (stk' := [.int 69, .ref 22]) (mem' := fm g tp bt a b) (fun _ _ _ => rfl) ?_
        refine fe_chr (i := 69) (by omega) (by rfl) (by rfl) ⟨by rfl, by rfl⟩ (by rfl) ?_
        rw [show sk_b.getD 69 0 = 116 from rfl]
        refine fe_s 7 (pc' := 96) (lc' := [(6, .int 69), (5, .int 1), (4, .int 72), (3, .int 68), (2, .int 12), (0, .ref 0), (1, .ref 22)]) (stk' := [.int (((g 13) + 69) - 68), .ref 0, .int 116]) (mem' := fm g tp bt a b) (fun _ _ _ => rfl) ?_
        try rw [h13]
        rw [show (((nI F) + 69) - 68 : Int32) = nI ((F + 69) - 68) from by simp only [show (69 : Int32) = nI 69 from rfl, show (68 : Int32) = nI 68 from rfl, tg_sub2 (x := F + 69) (y := 68) (by omega), nI_add, fm_mul]]
        refine fe_ivV (fr_byteAt (S := S) (k := (F + 69) - 68) (g := g) (tp := tp) (bt := bt) (a := a) (b := b) h11 (by omega) (by omega)) (by omega) (by rfl) (by rfl) (by rfl) (by rfl) (by rfl) (by rfl) ?_
        rcases fm_byte_or a S ((F + 69) - 68) with ⟨e7, q8⟩ | ⟨q8, n6, qn6, e7⟩
        · rw [e7]
          refine fe_s 1 (pc' := cond (fx_cb .ne 116 (-1)) 106 102) (lc' := [(6, .int 69), (5, .int 1), (4, .int 72), (3, .int 68), (2, .int 12), (0, .ref 0), (1, .ref 22)]) (stk' := []) (mem' := fm g tp bt a b) (fun _ _ _ => rfl) ?_
          rw [show (fx_cb .ne 116 (-1)) = true from by decide]
          dsimp only [cond]
          refine fe_s 6 (pc' := 72) (lc' := [(6, .int (69 + 1)), (5, .int 0), (4, .int 72), (3, .int 68), (2, .int 12), (0, .ref 0), (1, .ref 22)]) (stk' := [.int 72, .int (69 + 1)]) (mem' := fm g tp bt a b) (fun _ _ _ => rfl) ?_
          rw [show (69 + 1 : Int32) = 70 from rfl]
          refine fe_s 1 (pc' := cond (fx_cb .ge 70 72) 115 75) (lc' := [(6, .int 70), (5, .int 0), (4, .int 72), (3, .int 68), (2, .int 12), (0, .ref 0), (1, .ref 22)]) (stk' := []) (mem' := fm g tp bt a b) (fun _ _ _ => rfl) ?_
          rw [show (fx_cb .ge 70 72) = false from by decide]
          dsimp only [cond]
          refine fe_s 1 (pc' := 77) (lc' := [(6, .int 70), (5, .int 0), (4, .int 72), (3, .int 68), (2, .int 12), (0, .ref 0), (1, .ref 22)]) (stk' := [.int 0]) (mem' := fm g tp bt a b) (fun _ _ _ => rfl) ?_
          refine fe_s 1 (pc' := cond (fx_cb .eq 0 0) 115 80) (lc' := [(6, .int 70), (5, .int 0), (4, .int 72), (3, .int 68), (2, .int 12), (0, .ref 0), (1, .ref 22)]) (stk' := []) (mem' := fm g tp bt a b) (fun _ _ _ => rfl) ?_
          rw [show (fx_cb .eq 0 0) = true from by decide]
          dsimp only [cond]
          refine fe_s 1 (pc' := 117) (lc' := [(6, .int 70), (5, .int 0), (4, .int 72), (3, .int 68), (2, .int 12), (0, .ref 0), (1, .ref 22)]) (stk' := [.int 0]) (mem' := fm g tp bt a b) (fun _ _ _ => rfl) ?_
          refine fe_s 1 (pc' := cond (fx_cb .eq 0 0) 122 120) (lc' := [(6, .int 70), (5, .int 0), (4, .int 72), (3, .int 68), (2, .int 12), (0, .ref 0), (1, .ref 22)]) (stk' := []) (mem' := fm g tp bt a b) (fun _ _ _ => rfl) ?_
          rw [show (fx_cb .eq 0 0) = true from by decide]
          dsimp only [cond]
          refine fe_s 6 (pc' := 14) (lc' := [(3, .int (72 + 1)), (2, .int (12 + 1)), (6, .int 70), (5, .int 0), (4, .int 72), (0, .ref 0), (1, .ref 22)]) (stk' := []) (mem' := fm g tp bt a b) (fun _ _ _ => rfl) ?_
          rw [show (72 + 1 : Int32) = 73 from rfl]
          rw [show (12 + 1 : Int32) = 13 from rfl]
          refine fe_w (lc' := [(3, .int 73), (2, .int 13), (0, .ref 0), (1, .ref 22)]) ⟨rfl, rfl, rfl, rfl, trivial⟩ (by show List.Nodup [3, 2, 0, 1]; decide) (by show List.Nodup [3, 2, 6, 5, 4, 0, 1]; decide) ?_
          exact fw_13 hxp
        · rw [e7]
          refine fe_s 1 (pc' := cond (fx_cb .ne 116 (nI n6)) 106 102) (lc' := [(6, .int 69), (5, .int 1), (4, .int 72), (3, .int 68), (2, .int 12), (0, .ref 0), (1, .ref 22)]) (stk' := []) (mem' := fm g tp bt a b) (fun _ _ _ => rfl) ?_
          by_cases h9 : 116 = n6
          · rw [show (fx_cb .ne 116 (nI n6)) = false from cb_neF (a := 116) (b := n6) (by omega) (by omega) (by omega)]
            dsimp only [cond]
            refine fe_s 7 (pc' := 72) (lc' := [(6, .int (69 + 1)), (5, .int 1), (4, .int 72), (3, .int 68), (2, .int 12), (0, .ref 0), (1, .ref 22)]) (stk' := [.int 72, .int (69 + 1)]) (mem' := fm g tp bt a b) (fun _ _ _ => rfl) ?_
            rw [show (69 + 1 : Int32) = 70 from rfl]
            refine fe_s 1 (pc' := cond (fx_cb .ge 70 72) 115 75) (lc' := [(6, .int 70), (5, .int 1), (4, .int 72), (3, .int 68), (2, .int 12), (0, .ref 0), (1, .ref 22)]) (stk' := []) (mem' := fm g tp bt a b) (fun _ _ _ => rfl) ?_
            rw [show (fx_cb .ge 70 72) = false from by decide]
            dsimp only [cond]
            refine fe_s 1 (pc' := 77) (lc' := [(6, .int 70), (5, .int 1), (4, .int 72), (3, .int 68), (2, .int 12), (0, .ref 0), (1, .ref 22)]) (stk' := [.int 1]) (mem' := fm g tp bt a b) (fun _ _ _ => rfl) ?_
            refine fe_s 1 (pc' := cond (fx_cb .eq 1 0) 115 80) (lc' := [(6, .int 70), (5, .int 1), (4, .int 72), (3, .int 68), (2, .int 12), (0, .ref 0), (1, .ref 22)]) (stk' := []) (mem' := fm g tp bt a b) (fun _ _ _ => rfl) ?_
            rw [show (fx_cb .eq 1 0) = false from by decide]
            dsimp only [cond]
            refine fe_s 2 (pc' := 83) (lc' := [(6, .int 70), (5, .int 1), (4, .int 72), (3, .int 68), (2, .int 12), (0, .ref 0), (1, .ref 22)]) (stk' := [.int 70, .ref 22]) (mem' := fm g tp bt a b) (fun _ _ _ => rfl) ?_
            refine fe_chr (i := 70) (by omega) (by rfl) (by rfl) ⟨by rfl, by rfl⟩ (by rfl) ?_
            rw [show sk_b.getD 70 0 = 101 from rfl]
            refine fe_s 7 (pc' := 96) (lc' := [(6, .int 70), (5, .int 1), (4, .int 72), (3, .int 68), (2, .int 12), (0, .ref 0), (1, .ref 22)]) (stk' := [.int (((g 13) + 70) - 68), .ref 0, .int 101]) (mem' := fm g tp bt a b) (fun _ _ _ => rfl) ?_
            try rw [h13]
            rw [show (((nI F) + 70) - 68 : Int32) = nI ((F + 70) - 68) from by simp only [show (70 : Int32) = nI 70 from rfl, show (68 : Int32) = nI 68 from rfl, tg_sub2 (x := F + 70) (y := 68) (by omega), nI_add, fm_mul]]
            refine fe_ivV (fr_byteAt (S := S) (k := (F + 70) - 68) (g := g) (tp := tp) (bt := bt) (a := a) (b := b) h11 (by omega) (by omega)) (by omega) (by rfl) (by rfl) (by rfl) (by rfl) (by rfl) (by rfl) ?_
            rcases fm_byte_or a S ((F + 70) - 68) with ⟨e11, q12⟩ | ⟨q12, n10, qn10, e11⟩
            · rw [e11]
              refine fe_s 1 (pc' := cond (fx_cb .ne 101 (-1)) 106 102) (lc' := [(6, .int 70), (5, .int 1), (4, .int 72), (3, .int 68), (2, .int 12), (0, .ref 0), (1, .ref 22)]) (stk' := []) (mem' := fm g tp bt a b) (fun _ _ _ => rfl) ?_
              rw [show (fx_cb .ne 101 (-1)) = true from by decide]
              dsimp only [cond]
              refine fe_s 6 (pc' := 72) (lc' := [(6, .int (70 + 1)), (5, .int 0), (4, .int 72), (3, .int 68), (2, .int 12), (0, .ref 0), (1, .ref 22)]) (stk' := [.int 72, .int (70 + 1)]) (mem' := fm g tp bt a b) (fun _ _ _ => rfl) ?_
              rw [show (70 + 1 : Int32) = 71 from rfl]
              refine fe_s 1 (pc' := cond (fx_cb .ge 71 72) 115 75) (lc' := [(6, .int 71), (5, .int 0), (4, .int 72), (3, .int 68), (2, .int 12), (0, .ref 0), (1, .ref 22)]) (stk' := []) (mem' := fm g tp bt a b) (fun _ _ _ => rfl) ?_
              rw [show (fx_cb .ge 71 72) = false from by decide]
              dsimp only [cond]
              refine fe_s 1 (pc' := 77) (lc' := [(6, .int 71), (5, .int 0), (4, .int 72), (3, .int 68), (2, .int 12), (0, .ref 0), (1, .ref 22)]) (stk' := [.int 0]) (mem' := fm g tp bt a b) (fun _ _ _ => rfl) ?_
              refine fe_s 1 (pc' := cond (fx_cb .eq 0 0) 115 80) (lc' := [(6, .int 71), (5, .int 0), (4, .int 72), (3, .int 68), (2, .int 12), (0, .ref 0), (1, .ref 22)]) (stk' := []) (mem' := fm g tp bt a b) (fun _ _ _ => rfl) ?_
              rw [show (fx_cb .eq 0 0) = true from by decide]
              dsimp only [cond]
              refine fe_s 1 (pc' := 117) (lc' := [(6, .int 71), (5, .int 0), (4, .int 72), (3, .int 68), (2, .int 12), (0, .ref 0), (1, .ref 22)]) (stk' := [.int 0]) (mem' := fm g tp bt a b) (fun _ _ _ => rfl) ?_
              refine fe_s 1 (pc' := cond (fx_cb .eq 0 0) 122 120) (lc' := [(6, .int 71), (5, .int 0), (4, .int 72), (3, .int 68), (2, .int 12), (0, .ref 0), (1, .ref 22)]) (stk' := []) (mem' := fm g tp bt a b) (fun _ _ _ => rfl) ?_
              rw [show (fx_cb .eq 0 0) = true from by decide]
              dsimp only [cond]
              refine fe_s 6 (pc' := 14) (lc' := [(3, .int (72 + 1)), (2, .int (12 + 1)), (6, .int 71), (5, .int 0), (4, .int 72), (0, .ref 0), (1, .ref 22)]) (stk' := []) (mem' := fm g tp bt a b) (fun _ _ _ => rfl) ?_
              rw [show (72 + 1 : Int32) = 73 from rfl]
              rw [show (12 + 1 : Int32) = 13 from rfl]
              refine fe_w (lc' := [(3, .int 73), (2, .int 13), (0, .ref 0), (1, .ref 22)]) ⟨rfl, rfl, rfl, rfl, trivial⟩ (by show List.Nodup [3, 2, 0, 1]; decide) (by show List.Nodup [3, 2, 6, 5, 4, 0, 1]; decide) ?_
              exact fw_13 hxp
            · rw [e11]
              refine fe_s 1 (pc' := cond (fx_cb .ne 101 (nI n10)) 106 102) (lc' := [(6, .int 70), (5, .int 1), (4, .int 72), (3, .int 68), (2, .int 12), (0, .ref 0), (1, .ref 22)]) (stk' := []) (mem' := fm g tp bt a b) (fun _ _ _ => rfl) ?_
              by_cases h13 : 101 = n10
              · rw [show (fx_cb .ne 101 (nI n10)) = false from cb_neF (a := 101) (b := n10) (by omega) (by omega) (by omega)]
                dsimp only [cond]
                refine fe_s 7 (pc' := 72) (lc' := [(6, .int (70 + 1)), (5, .int 1), (4, .int 72), (3, .int 68), (2, .int 12), (0, .ref 0), (1, .ref 22)]) (stk' := [.int 72, .int (70 + 1)]) (mem' := fm g tp bt a b) (fun _ _ _ => rfl) ?_
                rw [show (70 + 1 : Int32) = 71 from rfl]
                refine fe_s 1 (pc' := cond (fx_cb .ge 71 72) 115 75) (lc' := [(6, .int 71), (5, .int 1), (4, .int 72), (3, .int 68), (2, .int 12), (0, .ref 0), (1, .ref 22)]) (stk' := []) (mem' := fm g tp bt a b) (fun _ _ _ => rfl) ?_
                rw [show (fx_cb .ge 71 72) = false from by decide]
                dsimp only [cond]
                refine fe_s 1 (pc' := 77) (lc' := [(6, .int 71), (5, .int 1), (4, .int 72), (3, .int 68), (2, .int 12), (0, .ref 0), (1, .ref 22)]) (stk' := [.int 1]) (mem' := fm g tp bt a b) (fun _ _ _ => rfl) ?_
                refine fe_s 1 (pc' := cond (fx_cb .eq 1 0) 115 80) (lc' := [(6, .int 71), (5, .int 1), (4, .int 72), (3, .int 68), (2, .int 12), (0, .ref 0), (1, .ref 22)]) (stk' := []) (mem' := fm g tp bt a b) (fun _ _ _ => rfl) ?_
                rw [show (fx_cb .eq 1 0) = false from by decide]
                dsimp only [cond]
                refine fe_s 2 (pc' := 83) (lc' := [(6, .int 71), (5, .int 1), (4, .int 72), (3, .int 68), (2, .int 12), (0, .ref 0), (1, .ref 22)]) (stk' := [.int 71, .ref 22]) (mem' := fm g tp bt a b) (fun _ _ _ => rfl) ?_
                refine fe_chr (i := 71) (by omega) (by rfl) (by rfl) ⟨by rfl, by rfl⟩ (by rfl) ?_
                rw [show sk_b.getD 71 0 = 112 from rfl]
                refine fe_s 7 (pc' := 96) (lc' := [(6, .int 71), (5, .int 1), (4, .int 72), (3, .int 68), (2, .int 12), (0, .ref 0), (1, .ref 22)]) (stk' := [.int (((g 13) + 71) - 68), .ref 0, .int 112]) (mem' := fm g tp bt a b) (fun _ _ _ => rfl) ?_
                try rw [h13]
                rw [show (((nI F) + 71) - 68 : Int32) = nI ((F + 71) - 68) from by simp only [show (71 : Int32) = nI 71 from rfl, show (68 : Int32) = nI 68 from rfl, tg_sub2 (x := F + 71) (y := 68) (by omega), nI_add, fm_mul]]
                refine fe_ivV (fr_byteAt (S := S) (k := (F + 71) - 68) (g := g) (tp := tp) (bt := bt) (a := a) (b := b) h11 (by omega) (by omega)) (by omega) (by rfl) (by rfl) (by rfl) (by rfl) (by rfl) (by rfl) ?_
                rcases fm_byte_or a S ((F + 71) - 68) with ⟨e15, q16⟩ | ⟨q16, n14, qn14, e15⟩
                · rw [e15]
                  refine fe_s 1 (pc' := cond (fx_cb .ne 112 (-1)) 106 102) (lc' := [(6, .int 71), (5, .int 1), (4, .int 72), (3, .int 68), (2, .int 12), (0, .ref 0), (1, .ref 22)]) (stk' := []) (mem' := fm g tp bt a b) (fun _ _ _ => rfl) ?_
                  rw [show (fx_cb .ne 112 (-1)) = true from by decide]
                  dsimp only [cond]
                  refine fe_s 6 (pc' := 72) (lc' := [(6, .int (71 + 1)), (5, .int 0), (4, .int 72), (3, .int 68), (2, .int 12), (0, .ref 0), (1, .ref 22)]) (stk' := [.int 72, .int (71 + 1)]) (mem' := fm g tp bt a b) (fun _ _ _ => rfl) ?_
                  rw [show (71 + 1 : Int32) = 72 from rfl]
                  refine fe_s 1 (pc' := cond (fx_cb .ge 72 72) 115 75) (lc' := [(6, .int 72), (5, .int 0), (4, .int 72), (3, .int 68), (2, .int 12), (0, .ref 0), (1, .ref 22)]) (stk' := []) (mem' := fm g tp bt a b) (fun _ _ _ => rfl) ?_
                  rw [show (fx_cb .ge 72 72) = true from by decide]
                  dsimp only [cond]
                  refine fe_s 1 (pc' := 117) (lc' := [(6, .int 72), (5, .int 0), (4, .int 72), (3, .int 68), (2, .int 12), (0, .ref 0), (1, .ref 22)]) (stk' := [.int 0]) (mem' := fm g tp bt a b) (fun _ _ _ => rfl) ?_
                  refine fe_s 1 (pc' := cond (fx_cb .eq 0 0) 122 120) (lc' := [(6, .int 72), (5, .int 0), (4, .int 72), (3, .int 68), (2, .int 12), (0, .ref 0), (1, .ref 22)]) (stk' := []) (mem' := fm g tp bt a b) (fun _ _ _ => rfl) ?_
                  rw [show (fx_cb .eq 0 0) = true from by decide]
                  dsimp only [cond]
                  refine fe_s 6 (pc' := 14) (lc' := [(3, .int (72 + 1)), (2, .int (12 + 1)), (6, .int 72), (5, .int 0), (4, .int 72), (0, .ref 0), (1, .ref 22)]) (stk' := []) (mem' := fm g tp bt a b) (fun _ _ _ => rfl) ?_
                  rw [show (72 + 1 : Int32) = 73 from rfl]
                  rw [show (12 + 1 : Int32) = 13 from rfl]
                  refine fe_w (lc' := [(3, .int 73), (2, .int 13), (0, .ref 0), (1, .ref 22)]) ⟨rfl, rfl, rfl, rfl, trivial⟩ (by show List.Nodup [3, 2, 0, 1]; decide) (by show List.Nodup [3, 2, 6, 5, 4, 0, 1]; decide) ?_
                  exact fw_13 hxp
                · rw [e15]
                  refine fe_s 1 (pc' := cond (fx_cb .ne 112 (nI n14)) 106 102) (lc' := [(6, .int 71), (5, .int 1), (4, .int 72), (3, .int 68), (2, .int 12), (0, .ref 0), (1, .ref 22)]) (stk' := []) (mem' := fm g tp bt a b) (fun _ _ _ => rfl) ?_
                  by_cases h17 : 112 = n14
                  · rw [show (fx_cb .ne 112 (nI n14)) = false from cb_neF (a := 112) (b := n14) (by omega) (by omega) (by omega)]
                    dsimp only [cond]
                    refine fe_s 7 (pc' := 72) (lc' := [(6, .int (71 + 1)), (5, .int 1), (4, .int 72), (3, .int 68), (2, .int 12), (0, .ref 0), (1, .ref 22)]) (stk' := [.int 72, .int (71 + 1)]) (mem' := fm g tp bt a b) (fun _ _ _ => rfl) ?_
                    rw [show (71 + 1 : Int32) = 72 from rfl]
                    refine fe_s 1 (pc' := cond (fx_cb .ge 72 72) 115 75) (lc' := [(6, .int 72), (5, .int 1), (4, .int 72), (3, .int 68), (2, .int 12), (0, .ref 0), (1, .ref 22)]) (stk' := []) (mem' := fm g tp bt a b) (fun _ _ _ => rfl) ?_
                    rw [show (fx_cb .ge 72 72) = true from by decide]
                    dsimp only [cond]
                    refine fe_s 1 (pc' := 117) (lc' := [(6, .int 72), (5, .int 1), (4, .int 72), (3, .int 68), (2, .int 12), (0, .ref 0), (1, .ref 22)]) (stk' := [.int 1]) (mem' := fm g tp bt a b) (fun _ _ _ => rfl) ?_
                    refine fe_s 1 (pc' := cond (fx_cb .eq 1 0) 122 120) (lc' := [(6, .int 72), (5, .int 1), (4, .int 72), (3, .int 68), (2, .int 12), (0, .ref 0), (1, .ref 22)]) (stk' := []) (mem' := fm g tp bt a b) (fun _ _ _ => rfl) ?_
                    rw [show (fx_cb .eq 1 0) = false from by decide]
                    dsimp only [cond]
                    refine fe_s 1 (pc' := 121) (lc' := [(6, .int 72), (5, .int 1), (4, .int 72), (3, .int 68), (2, .int 12), (0, .ref 0), (1, .ref 22)]) (stk' := [.int 12]) (mem' := fm g tp bt a b) (fun _ _ _ => rfl) ?_
                    exact fe_ret ⟨_, Or.inr ⟨12, by omega, rfl⟩, rfl⟩ (by rfl) (by rfl) (by rfl)
                  · rw [show (fx_cb .ne 112 (nI n14)) = true from cb_neT (a := 112) (b := n14) (by omega) (by omega) (by omega)]
                    dsimp only [cond]
                    refine fe_s 6 (pc' := 72) (lc' := [(6, .int (71 + 1)), (5, .int 0), (4, .int 72), (3, .int 68), (2, .int 12), (0, .ref 0), (1, .ref 22)]) (stk' := [.int 72, .int (71 + 1)]) (mem' := fm g tp bt a b) (fun _ _ _ => rfl) ?_
                    rw [show (71 + 1 : Int32) = 72 from rfl]
                    refine fe_s 1 (pc' := cond (fx_cb .ge 72 72) 115 75) (lc' := [(6, .int 72), (5, .int 0), (4, .int 72), (3, .int 68), (2, .int 12), (0, .ref 0), (1, .ref 22)]) (stk' := []) (mem' := fm g tp bt a b) (fun _ _ _ => rfl) ?_
                    rw [show (fx_cb .ge 72 72) = true from by decide]
                    dsimp only [cond]
                    refine fe_s 1 (pc' := 117) (lc' := [(6, .int 72), (5, .int 0), (4, .int 72), (3, .int 68), (2, .int 12), (0, .ref 0), (1, .ref 22)]) (stk' := [.int 0]) (mem' := fm g tp bt a b) (fun _ _ _ => rfl) ?_
                    refine fe_s 1 (pc' := cond (fx_cb .eq 0 0) 122 120) (lc' := [(6, .int 72), (5, .int 0), (4, .int 72), (3, .int 68), (2, .int 12), (0, .ref 0), (1, .ref 22)]) (stk' := []) (mem' := fm g tp bt a b) (fun _ _ _ => rfl) ?_
                    rw [show (fx_cb .eq 0 0) = true from by decide]
                    dsimp only [cond]
                    refine fe_s 6 (pc' := 14) (lc' := [(3, .int (72 + 1)), (2, .int (12 + 1)), (6, .int 72), (5, .int 0), (4, .int 72), (0, .ref 0), (1, .ref 22)]) (stk' := []) (mem' := fm g tp bt a b) (fun _ _ _ => rfl) ?_
                    rw [show (72 + 1 : Int32) = 73 from rfl]
                    rw [show (12 + 1 : Int32) = 13 from rfl]
                    refine fe_w (lc' := [(3, .int 73), (2, .int 13), (0, .ref 0), (1, .ref 22)]) ⟨rfl, rfl, rfl, rfl, trivial⟩ (by show List.Nodup [3, 2, 0, 1]; decide) (by show List.Nodup [3, 2, 6, 5, 4, 0, 1]; decide) ?_
                    exact fw_13 hxp
              · rw [show (fx_cb .ne 101 (nI n10)) = true from cb_neT (a := 101) (b := n10) (by omega) (by omega) (by omega)]
                dsimp only [cond]
                refine fe_s 6 (pc' := 72) (lc' := [(6, .int (70 + 1)), (5, .int 0), (4, .int 72), (3, .int 68), (2, .int 12), (0, .ref 0), (1, .ref 22)]) (stk' := [.int 72, .int (70 + 1)]) (mem' := fm g tp bt a b) (fun _ _ _ => rfl) ?_
                rw [show (70 + 1 : Int32) = 71 from rfl]
                refine fe_s 1 (pc' := cond (fx_cb .ge 71 72) 115 75) (lc' := [(6, .int 71), (5, .int 0), (4, .int 72), (3, .int 68), (2, .int 12), (0, .ref 0), (1, .ref 22)]) (stk' := []) (mem' := fm g tp bt a b) (fun _ _ _ => rfl) ?_
                rw [show (fx_cb .ge 71 72) = false from by decide]
                dsimp only [cond]
                refine fe_s 1 (pc' := 77) (lc' := [(6, .int 71), (5, .int 0), (4, .int 72), (3, .int 68), (2, .int 12), (0, .ref 0), (1, .ref 22)]) (stk' := [.int 0]) (mem' := fm g tp bt a b) (fun _ _ _ => rfl) ?_
                refine fe_s 1 (pc' := cond (fx_cb .eq 0 0) 115 80) (lc' := [(6, .int 71), (5, .int 0), (4, .int 72), (3, .int 68), (2, .int 12), (0, .ref 0), (1, .ref 22)]) (stk' := []) (mem' := fm g tp bt a b) (fun _ _ _ => rfl) ?_
                rw [show (fx_cb .eq 0 0) = true from by decide]
                dsimp only [cond]
                refine fe_s 1 (pc' := 117) (lc' := [(6, .int 71), (5, .int 0), (4, .int 72), (3, .int 68), (2, .int 12), (0, .ref 0), (1, .ref 22)]) (stk' := [.int 0]) (mem' := fm g tp bt a b) (fun _ _ _ => rfl) ?_
                refine fe_s 1 (pc' := cond (fx_cb .eq 0 0) 122 120) (lc' := [(6, .int 71), (5, .int 0), (4, .int 72), (3, .int 68), (2, .int 12), (0, .ref 0), (1, .ref 22)]) (stk' := []) (mem' := fm g tp bt a b) (fun _ _ _ => rfl) ?_
                rw [show (fx_cb .eq 0 0) = true from by decide]
                dsimp only [cond]
                refine fe_s 6 (pc' := 14) (lc' := [(3, .int (72 + 1)), (2, .int (12 + 1)), (6, .int 71), (5, .int 0), (4, .int 72), (0, .ref 0), (1, .ref 22)]) (stk' := []) (mem' := fm g tp bt a b) (fun _ _ _ => rfl) ?_
                rw [show (72 + 1 : Int32) = 73 from rfl]
                rw [show (12 + 1 : Int32) = 13 from rfl]
                refine fe_w (lc' := [(3, .int 73), (2, .int 13), (0, .ref 0), (1, .ref 22)]) ⟨rfl, rfl, rfl, rfl, trivial⟩ (by show List.Nodup [3, 2, 0, 1]; decide) (by show List.Nodup [3, 2, 6, 5, 4, 0, 1]; decide) ?_
                exact fw_13 hxp
          · rw [show (fx_cb .ne 116 (nI n6)) = true from cb_neT (a := 116) (b := n6) (by omega) (by omega) (by omega)]
            dsimp only [cond]
            refine fe_s 6 (pc' := 72) (lc' := [(6, .int (69 + 1)), (5, .int 0), (4, .int 72), (3, .int 68), (2, .int 12), (0, .ref 0), (1, .ref 22)]) (stk' := [.int 72, .int (69 + 1)]) (mem' := fm g tp bt a b) (fun _ _ _ => rfl) ?_
            rw [show (69 + 1 : Int32) = 70 from rfl]
            refine fe_s 1 (pc' := cond (fx_cb .ge 70 72) 115 75) (lc' := [(6, .int 70), (5, .int 0), (4, .int 72), (3, .int 68), (2, .int 12), (0, .ref 0), (1, .ref 22)]) (stk' := []) (mem' := fm g tp bt a b) (fun _ _ _ => rfl) ?_
            rw [show (fx_cb .ge 70 72) = false from by decide]
            dsimp only [cond]
            refine fe_s 1 (pc' := 77) (lc' := [(6, .int 70), (5, .int 0), (4, .int 72), (3, .int 68), (2, .int 12), (0, .ref 0), (1, .ref 22)]) (stk' := [.int 0]) (mem' := fm g tp bt a b) (fun _ _ _ => rfl) ?_
            refine fe_s 1 (pc' := cond (fx_cb .eq 0 0) 115 80) (lc' := [(6, .int 70), (5, .int 0), (4, .int 72), (3, .int 68), (2, .int 12), (0, .ref 0), (1, .ref 22)]) (stk' := []) (mem' := fm g tp bt a b) (fun _ _ _ => rfl) ?_
            rw [show (fx_cb .eq 0 0) = true from by decide]
            dsimp only [cond]
            refine fe_s 1 (pc' := 117) (lc' := [(6, .int 70), (5, .int 0), (4, .int 72), (3, .int 68), (2, .int 12), (0, .ref 0), (1, .ref 22)]) (stk' := [.int 0]) (mem' := fm g tp bt a b) (fun _ _ _ => rfl) ?_
            refine fe_s 1 (pc' := cond (fx_cb .eq 0 0) 122 120) (lc' := [(6, .int 70), (5, .int 0), (4, .int 72), (3, .int 68), (2, .int 12), (0, .ref 0), (1, .ref 22)]) (stk' := []) (mem' := fm g tp bt a b) (fun _ _ _ => rfl) ?_
            rw [show (fx_cb .eq 0 0) = true from by decide]
            dsimp only [cond]
            refine fe_s 6 (pc' := 14) (lc' := [(3, .int (72 + 1)), (2, .int (12 + 1)), (6, .int 70), (5, .int 0), (4, .int 72), (0, .ref 0), (1, .ref 22)]) (stk' := []) (mem' := fm g tp bt a b) (fun _ _ _ => rfl) ?_
            rw [show (72 + 1 : Int32) = 73 from rfl]
            rw [show (12 + 1 : Int32) = 13 from rfl]
            refine fe_w (lc' := [(3, .int 73), (2, .int 13), (0, .ref 0), (1, .ref 22)]) ⟨rfl, rfl, rfl, rfl, trivial⟩ (by show List.Nodup [3, 2, 0, 1]; decide) (by show List.Nodup [3, 2, 6, 5, 4, 0, 1]; decide) ?_
            exact fw_13 hxp
      · rw [show (fx_cb .ne 115 (nI n2)) = true from cb_neT (a := 115) (b := n2) (by omega) (by omega) (by omega)]
        dsimp only [cond]
        refine fe_s 6 (pc' := 72) (lc' := [(6, .int (68 + 1)), (5, .int 0), (4, .int 72), (3, .int 68), (2, .int 12), (0, .ref 0), (1, .ref 22)]) (stk' := [.int 72, .int (68 + 1)]) (mem' := fm g tp bt a b) (fun _ _ _ => rfl) ?_
        rw [show (68 + 1 : Int32) = 69 from rfl]
        refine fe_s 1 (pc' := cond (fx_cb .ge 69 72) 115 75) (lc' := [(6, .int 69), (5, .int 0), (4, .int 72), (3, .int 68), (2, .int 12), (0, .ref 0), (1, .ref 22)]) (stk' := []) (mem' := fm g tp bt a b) (fun _ _ _ => rfl) ?_
        rw [show (fx_cb .ge 69 72) = false from by decide]
        dsimp only [cond]
        refine fe_s 1 (pc' := 77) (lc' := [(6, .int 69), (5, .int 0), (4, .int 72), (3, .int 68), (2, .int 12), (0, .ref 0), (1, .ref 22)]) (stk' := [.int 0]) (mem' := fm g tp bt a b) (fun _ _ _ => rfl) ?_
        refine fe_s 1 (pc' := cond (fx_cb .eq 0 0) 115 80) (lc' := [(6, .int 69), (5, .int 0), (4, .int 72), (3, .int 68), (2, .int 12), (0, .ref 0), (1, .ref 22)]) (stk' := []) (mem' := fm g tp bt a b) (fun _ _ _ => rfl) ?_
        rw [show (fx_cb .eq 0 0) = true from by decide]
        dsimp only [cond]
        refine fe_s 1 (pc' := 117) (lc' := [(6, .int 69), (5, .int 0), (4, .int 72), (3, .int 68), (2, .int 12), (0, .ref 0), (1, .ref 22)]) (stk' := [.int 0]) (mem' := fm g tp bt a b) (fun _ _ _ => rfl) ?_
        refine fe_s 1 (pc' := cond (fx_cb .eq 0 0) 122 120) (lc' := [(6, .int 69), (5, .int 0), (4, .int 72), (3, .int 68), (2, .int 12), (0, .ref 0), (1, .ref 22)]) (stk' := []) (mem' := fm g tp bt a b) (fun _ _ _ => rfl) ?_
        rw [show (fx_cb .eq 0 0) = true from by decide]
        dsimp only [cond]
        refine fe_s 6 (pc' := 14) (lc' := [(3, .int (72 + 1)), (2, .int (12 + 1)), (6, .int 69), (5, .int 0), (4, .int 72), (0, .ref 0), (1, .ref 22)]) (stk' := []) (mem' := fm g tp bt a b) (fun _ _ _ => rfl) ?_
        rw [show (72 + 1 : Int32) = 73 from rfl]
        rw [show (12 + 1 : Int32) = 13 from rfl]
        refine fe_w (lc' := [(3, .int 73), (2, .int 13), (0, .ref 0), (1, .ref 22)]) ⟨rfl, rfl, rfl, rfl, trivial⟩ (by show List.Nodup [3, 2, 0, 1]; decide) (by show List.Nodup [3, 2, 6, 5, 4, 0, 1]; decide) ?_
        exact fw_13 hxp
  · rw [show (fx_cb .ne 4 (nI (E - F))) = true from cb_neT (a := 4) (b := E - F) (by omega) (by omega) (by omega)]
    dsimp only [cond]
    refine fe_s 6 (pc' := 72) (lc' := [(6, .int 68), (5, .int 0), (4, .int 72), (3, .int 68), (2, .int 12), (0, .ref 0), (1, .ref 22)]) (stk' := [.int 72, .int 68]) (mem' := fm g tp bt a b) (fun _ _ _ => rfl) ?_
    refine fe_s 1 (pc' := cond (fx_cb .ge 68 72) 115 75) (lc' := [(6, .int 68), (5, .int 0), (4, .int 72), (3, .int 68), (2, .int 12), (0, .ref 0), (1, .ref 22)]) (stk' := []) (mem' := fm g tp bt a b) (fun _ _ _ => rfl) ?_
    rw [show (fx_cb .ge 68 72) = false from by decide]
    dsimp only [cond]
    refine fe_s 1 (pc' := 77) (lc' := [(6, .int 68), (5, .int 0), (4, .int 72), (3, .int 68), (2, .int 12), (0, .ref 0), (1, .ref 22)]) (stk' := [.int 0]) (mem' := fm g tp bt a b) (fun _ _ _ => rfl) ?_
    refine fe_s 1 (pc' := cond (fx_cb .eq 0 0) 115 80) (lc' := [(6, .int 68), (5, .int 0), (4, .int 72), (3, .int 68), (2, .int 12), (0, .ref 0), (1, .ref 22)]) (stk' := []) (mem' := fm g tp bt a b) (fun _ _ _ => rfl) ?_
    rw [show (fx_cb .eq 0 0) = true from by decide]
    dsimp only [cond]
    refine fe_s 1 (pc' := 117) (lc' := [(6, .int 68), (5, .int 0), (4, .int 72), (3, .int 68), (2, .int 12), (0, .ref 0), (1, .ref 22)]) (stk' := [.int 0]) (mem' := fm g tp bt a b) (fun _ _ _ => rfl) ?_
    refine fe_s 1 (pc' := cond (fx_cb .eq 0 0) 122 120) (lc' := [(6, .int 68), (5, .int 0), (4, .int 72), (3, .int 68), (2, .int 12), (0, .ref 0), (1, .ref 22)]) (stk' := []) (mem' := fm g tp bt a b) (fun _ _ _ => rfl) ?_
    rw [show (fx_cb .eq 0 0) = true from by decide]
    dsimp only [cond]
    refine fe_s 6 (pc' := 14) (lc' := [(3, .int (72 + 1)), (2, .int (12 + 1)), (6, .int 68), (5, .int 0), (4, .int 72), (0, .ref 0), (1, .ref 22)]) (stk' := []) (mem' := fm g tp bt a b) (fun _ _ _ => rfl) ?_
    rw [show (72 + 1 : Int32) = 73 from rfl]
    rw [show (12 + 1 : Int32) = 13 from rfl]
    refine fe_w (lc' := [(3, .int 73), (2, .int 13), (0, .ref 0), (1, .ref 22)]) ⟨rfl, rfl, rfl, rfl, trivial⟩ (by show List.Nodup [3, 2, 0, 1]; decide) (by show List.Nodup [3, 2, 6, 5, 4, 0, 1]; decide) ?_
    exact fw_13 hxp
theorem fw_11 {S E F : Nat} (hxp : fm_xp g S E F) : fe_R 1 gk_m226 14 [(3, .int 63), (2, .int 11), (0, .ref 0), (1, .ref 22)] [] (fm g tp bt a b) (fm_FI (fm g tp bt a b)) := by
  obtain ⟨h11, hS9, h14, hES, h13, hFE, -, -, -⟩ := id hxp
  refine fe_s 2 (pc' := 16) (lc' := [(3, .int 63), (2, .int 11), (0, .ref 0), (1, .ref 22)]) (stk' := [.ref 22, .int 63]) (mem' := fm g tp bt a b) (fun _ _ _ => rfl) ?_
  refine fe_s 1 (pc' := 19) (lc' := [(3, .int 63), (2, .int 11), (0, .ref 0), (1, .ref 22)]) (stk' := [.int 117, .int 63]) (mem' := fm g tp bt a b) (fun _ _ _ => rfl) ?_
  refine fe_s 1 (pc' := cond (fx_cb .ge 63 117) 133 22) (lc' := [(3, .int 63), (2, .int 11), (0, .ref 0), (1, .ref 22)]) (stk' := []) (mem' := fm g tp bt a b) (fun _ _ _ => rfl) ?_
  rw [show (fx_cb .ge 63 117) = false from by decide]
  dsimp only [cond]
  refine fe_s 4 (pc' := 28) (lc' := [(4, .int 63), (3, .int 63), (2, .int 11), (0, .ref 0), (1, .ref 22)]) (stk' := [.int 63, .ref 22]) (mem' := fm g tp bt a b) (fun _ _ _ => rfl) ?_
  refine fe_chr (i := 63) (by omega) (by rfl) (by rfl) ⟨by rfl, by rfl⟩ (by rfl) ?_
  rw [show sk_b.getD 63 0 = 115 from rfl]
  refine fe_s 1 (pc' := 33) (lc' := [(4, .int 63), (3, .int 63), (2, .int 11), (0, .ref 0), (1, .ref 22)]) (stk' := [.int 32, .int 115]) (mem' := fm g tp bt a b) (fun _ _ _ => rfl) ?_
  refine fe_s 1 (pc' := cond (fx_cb .eq 115 32) 42 36) (lc' := [(4, .int 63), (3, .int 63), (2, .int 11), (0, .ref 0), (1, .ref 22)]) (stk' := []) (mem' := fm g tp bt a b) (fun _ _ _ => rfl) ?_
  rw [show (fx_cb .eq 115 32) = false from by decide]
  dsimp only [cond]
  refine fe_s 4 (pc' := 28) (lc' := [(4, .int (63 + 1)), (3, .int 63), (2, .int 11), (0, .ref 0), (1, .ref 22)]) (stk' := [.int (63 + 1), .ref 22]) (mem' := fm g tp bt a b) (fun _ _ _ => rfl) ?_
  rw [show (63 + 1 : Int32) = 64 from rfl]
  refine fe_chr (i := 64) (by omega) (by rfl) (by rfl) ⟨by rfl, by rfl⟩ (by rfl) ?_
  rw [show sk_b.getD 64 0 = 101 from rfl]
  refine fe_s 1 (pc' := 33) (lc' := [(4, .int 64), (3, .int 63), (2, .int 11), (0, .ref 0), (1, .ref 22)]) (stk' := [.int 32, .int 101]) (mem' := fm g tp bt a b) (fun _ _ _ => rfl) ?_
  refine fe_s 1 (pc' := cond (fx_cb .eq 101 32) 42 36) (lc' := [(4, .int 64), (3, .int 63), (2, .int 11), (0, .ref 0), (1, .ref 22)]) (stk' := []) (mem' := fm g tp bt a b) (fun _ _ _ => rfl) ?_
  rw [show (fx_cb .eq 101 32) = false from by decide]
  dsimp only [cond]
  refine fe_s 4 (pc' := 28) (lc' := [(4, .int (64 + 1)), (3, .int 63), (2, .int 11), (0, .ref 0), (1, .ref 22)]) (stk' := [.int (64 + 1), .ref 22]) (mem' := fm g tp bt a b) (fun _ _ _ => rfl) ?_
  rw [show (64 + 1 : Int32) = 65 from rfl]
  refine fe_chr (i := 65) (by omega) (by rfl) (by rfl) ⟨by rfl, by rfl⟩ (by rfl) ?_
  rw [show sk_b.getD 65 0 = 110 from rfl]
  refine fe_s 1 (pc' := 33) (lc' := [(4, .int 65), (3, .int 63), (2, .int 11), (0, .ref 0), (1, .ref 22)]) (stk' := [.int 32, .int 110]) (mem' := fm g tp bt a b) (fun _ _ _ => rfl) ?_
  refine fe_s 1 (pc' := cond (fx_cb .eq 110 32) 42 36) (lc' := [(4, .int 65), (3, .int 63), (2, .int 11), (0, .ref 0), (1, .ref 22)]) (stk' := []) (mem' := fm g tp bt a b) (fun _ _ _ => rfl) ?_
  rw [show (fx_cb .eq 110 32) = false from by decide]
  dsimp only [cond]
  refine fe_s 4 (pc' := 28) (lc' := [(4, .int (65 + 1)), (3, .int 63), (2, .int 11), (0, .ref 0), (1, .ref 22)]) (stk' := [.int (65 + 1), .ref 22]) (mem' := fm g tp bt a b) (fun _ _ _ => rfl) ?_
  rw [show (65 + 1 : Int32) = 66 from rfl]
  refine fe_chr (i := 66) (by omega) (by rfl) (by rfl) ⟨by rfl, by rfl⟩ (by rfl) ?_
  rw [show sk_b.getD 66 0 = 100 from rfl]
  refine fe_s 1 (pc' := 33) (lc' := [(4, .int 66), (3, .int 63), (2, .int 11), (0, .ref 0), (1, .ref 22)]) (stk' := [.int 32, .int 100]) (mem' := fm g tp bt a b) (fun _ _ _ => rfl) ?_
  refine fe_s 1 (pc' := cond (fx_cb .eq 100 32) 42 36) (lc' := [(4, .int 66), (3, .int 63), (2, .int 11), (0, .ref 0), (1, .ref 22)]) (stk' := []) (mem' := fm g tp bt a b) (fun _ _ _ => rfl) ?_
  rw [show (fx_cb .eq 100 32) = false from by decide]
  dsimp only [cond]
  refine fe_s 4 (pc' := 28) (lc' := [(4, .int (66 + 1)), (3, .int 63), (2, .int 11), (0, .ref 0), (1, .ref 22)]) (stk' := [.int (66 + 1), .ref 22]) (mem' := fm g tp bt a b) (fun _ _ _ => rfl) ?_
  rw [show (66 + 1 : Int32) = 67 from rfl]
  refine fe_chr (i := 67) (by omega) (by rfl) (by rfl) ⟨by rfl, by rfl⟩ (by rfl) ?_
  rw [show sk_b.getD 67 0 = 32 from rfl]
  refine fe_s 1 (pc' := 33) (lc' := [(4, .int 67), (3, .int 63), (2, .int 11), (0, .ref 0), (1, .ref 22)]) (stk' := [.int 32, .int 32]) (mem' := fm g tp bt a b) (fun _ _ _ => rfl) ?_
  refine fe_s 1 (pc' := cond (fx_cb .eq 32 32) 42 36) (lc' := [(4, .int 67), (3, .int 63), (2, .int 11), (0, .ref 0), (1, .ref 22)]) (stk' := []) (mem' := fm g tp bt a b) (fun _ _ _ => rfl) ?_
  rw [show (fx_cb .eq 32 32) = true from by decide]
  dsimp only [cond]
  refine fe_s 8 (pc' := 55) (lc' := [(4, .int 67), (3, .int 63), (2, .int 11), (0, .ref 0), (1, .ref 22)]) (stk' := [.int ((g 14) - (g 13)), .int (67 - 63)]) (mem' := fm g tp bt a b) (fun _ _ _ => rfl) ?_
  try rw [h14]
  try rw [h13]
  rw [show (67 - 63 : Int32) = 4 from rfl]
  rw [show ((nI E) - (nI F) : Int32) = nI (E - F) from by simp only [tg_sub2 (x := E) (y := F) (by omega), nI_add, fm_mul]]
  refine fe_s 1 (pc' := cond (fx_cb .ne 4 (nI (E - F))) 62 58) (lc' := [(4, .int 67), (3, .int 63), (2, .int 11), (0, .ref 0), (1, .ref 22)]) (stk' := []) (mem' := fm g tp bt a b) (fun _ _ _ => rfl) ?_
  by_cases h1 : 4 = (E - F)
  · rw [show (fx_cb .ne 4 (nI (E - F))) = false from cb_neF (a := 4) (b := E - F) (by omega) (by omega) (by omega)]
    dsimp only [cond]
    refine fe_s 7 (pc' := 72) (lc' := [(6, .int 63), (5, .int 1), (4, .int 67), (3, .int 63), (2, .int 11), (0, .ref 0), (1, .ref 22)]) (stk' := [.int 67, .int 63]) (mem' := fm g tp bt a b) (fun _ _ _ => rfl) ?_
    refine fe_s 1 (pc' := cond (fx_cb .ge 63 67) 115 75) (lc' := [(6, .int 63), (5, .int 1), (4, .int 67), (3, .int 63), (2, .int 11), (0, .ref 0), (1, .ref 22)]) (stk' := []) (mem' := fm g tp bt a b) (fun _ _ _ => rfl) ?_
    rw [show (fx_cb .ge 63 67) = false from by decide]
    dsimp only [cond]
    refine fe_s 1 (pc' := 77) (lc' := [(6, .int 63), (5, .int 1), (4, .int 67), (3, .int 63), (2, .int 11), (0, .ref 0), (1, .ref 22)]) (stk' := [.int 1]) (mem' := fm g tp bt a b) (fun _ _ _ => rfl) ?_
    refine fe_s 1 (pc' := cond (fx_cb .eq 1 0) 115 80) (lc' := [(6, .int 63), (5, .int 1), (4, .int 67), (3, .int 63), (2, .int 11), (0, .ref 0), (1, .ref 22)]) (stk' := []) (mem' := fm g tp bt a b) (fun _ _ _ => rfl) ?_
    rw [show (fx_cb .eq 1 0) = false from by decide]
    dsimp only [cond]
    refine fe_s 2 (pc' := 83) (lc' := [(6, .int 63), (5, .int 1), (4, .int 67), (3, .int 63), (2, .int 11), (0, .ref 0), (1, .ref 22)]) (stk' := [.int 63, .ref 22]) (mem' := fm g tp bt a b) (fun _ _ _ => rfl) ?_
    refine fe_chr (i := 63) (by omega) (by rfl) (by rfl) ⟨by rfl, by rfl⟩ (by rfl) ?_
    rw [show sk_b.getD 63 0 = 115 from rfl]
    refine fe_s 7 (pc' := 96) (lc' := [(6, .int 63), (5, .int 1), (4, .int 67), (3, .int 63), (2, .int 11), (0, .ref 0), (1, .ref 22)]) (stk' := [.int (((g 13) + 63) - 63), .ref 0, .int 115]) (mem' := fm g tp bt a b) (fun _ _ _ => rfl) ?_
    try rw [h13]
    rw [show (((nI F) + 63) - 63 : Int32) = nI ((F + 63) - 63) from by simp only [show (63 : Int32) = nI 63 from rfl, tg_sub2 (x := F + 63) (y := 63) (by omega), nI_add, fm_mul]]
    refine fe_ivV (fr_byteAt (S := S) (k := (F + 63) - 63) (g := g) (tp := tp) (bt := bt) (a := a) (b := b) h11 (by omega) (by omega)) (by omega) (by rfl) (by rfl) (by rfl) (by rfl) (by rfl) (by rfl) ?_
    rcases fm_byte_or a S ((F + 63) - 63) with ⟨e3, q4⟩ | ⟨q4, n2, qn2, e3⟩
    · rw [e3]
      refine fe_s 1 (pc' := cond (fx_cb .ne 115 (-1)) 106 102) (lc' := [(6, .int 63), (5, .int 1), (4, .int 67), (3, .int 63), (2, .int 11), (0, .ref 0), (1, .ref 22)]) (stk' := []) (mem' := fm g tp bt a b) (fun _ _ _ => rfl) ?_
      rw [show (fx_cb .ne 115 (-1)) = true from by decide]
      dsimp only [cond]
      refine fe_s 6 (pc' := 72) (lc' := [(6, .int (63 + 1)), (5, .int 0), (4, .int 67), (3, .int 63), (2, .int 11), (0, .ref 0), (1, .ref 22)]) (stk' := [.int 67, .int (63 + 1)]) (mem' := fm g tp bt a b) (fun _ _ _ => rfl) ?_
      rw [show (63 + 1 : Int32) = 64 from rfl]
      refine fe_s 1 (pc' := cond (fx_cb .ge 64 67) 115 75) (lc' := [(6, .int 64), (5, .int 0), (4, .int 67), (3, .int 63), (2, .int 11), (0, .ref 0), (1, .ref 22)]) (stk' := []) (mem' := fm g tp bt a b) (fun _ _ _ => rfl) ?_
      rw [show (fx_cb .ge 64 67) = false from by decide]
      dsimp only [cond]
      refine fe_s 1 (pc' := 77) (lc' := [(6, .int 64), (5, .int 0), (4, .int 67), (3, .int 63), (2, .int 11), (0, .ref 0), (1, .ref 22)]) (stk' := [.int 0]) (mem' := fm g tp bt a b) (fun _ _ _ => rfl) ?_
      refine fe_s 1 (pc' := cond (fx_cb .eq 0 0) 115 80) (lc' := [(6, .int 64), (5, .int 0), (4, .int 67), (3, .int 63), (2, .int 11), (0, .ref 0), (1, .ref 22)]) (stk' := []) (mem' := fm g tp bt a b) (fun _ _ _ => rfl) ?_
      rw [show (fx_cb .eq 0 0) = true from by decide]
      dsimp only [cond]
      refine fe_s 1 (pc' := 117) (lc' := [(6, .int 64), (5, .int 0), (4, .int 67), (3, .int 63), (2, .int 11), (0, .ref 0), (1, .ref 22)]) (stk' := [.int 0]) (mem' := fm g tp bt a b) (fun _ _ _ => rfl) ?_
      refine fe_s 1 (pc' := cond (fx_cb .eq 0 0) 122 120) (lc' := [(6, .int 64), (5, .int 0), (4, .int 67), (3, .int 63), (2, .int 11), (0, .ref 0), (1, .ref 22)]) (stk' := []) (mem' := fm g tp bt a b) (fun _ _ _ => rfl) ?_
      rw [show (fx_cb .eq 0 0) = true from by decide]
      dsimp only [cond]
      refine fe_s 6 (pc' := 14) (lc' := [(3, .int (67 + 1)), (2, .int (11 + 1)), (6, .int 64), (5, .int 0), (4, .int 67), (0, .ref 0), (1, .ref 22)]) (stk' := []) (mem' := fm g tp bt a b) (fun _ _ _ => rfl) ?_
      rw [show (67 + 1 : Int32) = 68 from rfl]
      rw [show (11 + 1 : Int32) = 12 from rfl]
      refine fe_w (lc' := [(3, .int 68), (2, .int 12), (0, .ref 0), (1, .ref 22)]) ⟨rfl, rfl, rfl, rfl, trivial⟩ (by show List.Nodup [3, 2, 0, 1]; decide) (by show List.Nodup [3, 2, 6, 5, 4, 0, 1]; decide) ?_
      exact fw_12 hxp
    · rw [e3]
      refine fe_s 1 (pc' := cond (fx_cb .ne 115 (nI n2)) 106 102) (lc' := [(6, .int 63), (5, .int 1), (4, .int 67), (3, .int 63), (2, .int 11), (0, .ref 0), (1, .ref 22)]) (stk' := []) (mem' := fm g tp bt a b) (fun _ _ _ => rfl) ?_
      by_cases h5 : 115 = n2
      · rw [show (fx_cb .ne 115 (nI n2)) = false from cb_neF (a := 115) (b := n2) (by omega) (by omega) (by omega)]
        dsimp only [cond]
        refine fe_s 7 (pc' := 72) (lc' := [(6, .int (63 + 1)), (5, .int 1), (4, .int 67), (3, .int 63), (2, .int 11), (0, .ref 0), (1, .ref 22)]) (stk' := [.int 67, .int (63 + 1)]) (mem' := fm g tp bt a b) (fun _ _ _ => rfl) ?_
        rw [show (63 + 1 : Int32) = 64 from rfl]
        refine fe_s 1 (pc' := cond (fx_cb .ge 64 67) 115 75) (lc' := [(6, .int 64), (5, .int 1), (4, .int 67), (3, .int 63), (2, .int 11), (0, .ref 0), (1, .ref 22)]) (stk' := []) (mem' := fm g tp bt a b) (fun _ _ _ => rfl) ?_
        rw [show (fx_cb .ge 64 67) = false from by decide]
        dsimp only [cond]
        refine fe_s 1 (pc' := 77) (lc' := [(6, .int 64), (5, .int 1), (4, .int 67), (3, .int 63), (2, .int 11), (0, .ref 0), (1, .ref 22)]) (stk' := [.int 1]) (mem' := fm g tp bt a b) (fun _ _ _ => rfl) ?_
        refine fe_s 1 (pc' := cond (fx_cb .eq 1 0) 115 80) (lc' := [(6, .int 64), (5, .int 1), (4, .int 67), (3, .int 63), (2, .int 11), (0, .ref 0), (1, .ref 22)]) (stk' := []) (mem' := fm g tp bt a b) (fun _ _ _ => rfl) ?_
        rw [show (fx_cb .eq 1 0) = false from by decide]
        dsimp only [cond]
        refine fe_s 2 (pc' := 83) (lc' := [(6, .int 64), (5, .int 1), (4, .int 67), (3, .int 63), (2, .int 11), (0, .ref 0), (1, .ref 22)]) (stk' := [.int 64, .ref 22]) (mem' := fm g tp bt a b) (fun _ _ _ => rfl) ?_
        refine fe_chr (i := 64) (by omega) (by rfl) (by rfl) ⟨by rfl, by rfl⟩ (by rfl) ?_
        rw [show sk_b.getD 64 0 = 101 from rfl]
        refine fe_s 7 (pc' := 96) (lc' := [(6, .int 64), (5, .int 1), (4, .int 67), (3, .int 63), (2, .int 11), (0, .ref 0), (1, .ref 22)]) (stk' := [.int (((g 13) + 64) - 63), .ref 0, .int 101]) (mem' := fm g tp bt a b) (fun _ _ _ => rfl) ?_
        try rw [h13]
        rw [show (((nI F) + 64) - 63 : Int32) = nI ((F + 64) - 63) from by simp only [show (64 : Int32) = nI 64 from rfl, show (63 : Int32) = nI 63 from rfl, tg_sub2 (x := F + 64) (y := 63) (by omega), nI_add, fm_mul]]
        refine fe_ivV (fr_byteAt (S := S) (k := (F + 64) - 63) (g := g) (tp := tp) (bt := bt) (a := a) (b := b) h11 (by omega) (by omega)) (by omega) (by rfl) (by rfl) (by rfl) (by rfl) (by rfl) (by rfl) ?_
        rcases fm_byte_or a S ((F + 64) - 63) with ⟨e7, q8⟩ | ⟨q8, n6, qn6, e7⟩
        · rw [e7]
          refine fe_s 1 (pc' := cond (fx_cb .ne 101 (-1)) 106 102) (lc' := [(6, .int 64), (5, .int 1), (4, .int 67), (3, .int 63), (2, .int 11), (0, .ref 0), (1, .ref 22)]) (stk' := []) (mem' := fm g tp bt a b) (fun _ _ _ => rfl) ?_
          rw [show (fx_cb .ne 101 (-1)) = true from by decide]
          dsimp only [cond]
          refine fe_s 6 (pc' := 72) (lc' := [(6, .int (64 + 1)), (5, .int 0), (4, .int 67), (3, .int 63), (2, .int 11), (0, .ref 0), (1, .ref 22)]) (stk' := [.int 67, .int (64 + 1)]) (mem' := fm g tp bt a b) (fun _ _ _ => rfl) ?_
          rw [show (64 + 1 : Int32) = 65 from rfl]
          refine fe_s 1 (pc' := cond (fx_cb .ge 65 67) 115 75) (lc' := [(6, .int 65), (5, .int 0), (4, .int 67), (3, .int 63), (2, .int 11), (0, .ref 0), (1, .ref 22)]) (stk' := []) (mem' := fm g tp bt a b) (fun _ _ _ => rfl) ?_
          rw [show (fx_cb .ge 65 67) = false from by decide]
          dsimp only [cond]
          refine fe_s 1 (pc' := 77) (lc' := [(6, .int 65), (5, .int 0), (4, .int 67), (3, .int 63), (2, .int 11), (0, .ref 0), (1, .ref 22)]) (stk' := [.int 0]) (mem' := fm g tp bt a b) (fun _ _ _ => rfl) ?_
          refine fe_s 1 (pc' := cond (fx_cb .eq 0 0) 115 80) (lc' := [(6, .int 65), (5, .int 0), (4, .int 67), (3, .int 63), (2, .int 11), (0, .ref 0), (1, .ref 22)]) (stk' := []) (mem' := fm g tp bt a b) (fun _ _ _ => rfl) ?_
          rw [show (fx_cb .eq 0 0) = true from by decide]
          dsimp only [cond]
          refine fe_s 1 (pc' := 117) (lc' := [(6, .int 65), (5, .int 0), (4, .int 67), (3, .int 63), (2, .int 11), (0, .ref 0), (1, .ref 22)]) (stk' := [.int 0]) (mem' := fm g tp bt a b) (fun _ _ _ => rfl) ?_
          refine fe_s 1 (pc' := cond (fx_cb .eq 0 0) 122 120) (lc' := [(6, .int 65), (5, .int 0), (4, .int 67), (3, .int 63), (2, .int 11), (0, .ref 0), (1, .ref 22)]) (stk' := []) (mem' := fm g tp bt a b) (fun _ _ _ => rfl) ?_
          rw [show (fx_cb .eq 0 0) = true from by decide]
          dsimp only [cond]
          refine fe_s 6 (pc' := 14) (lc' := [(3, .int (67 + 1)), (2, .int (11 + 1)), (6, .int 65), (5, .int 0), (4, .int 67), (0, .ref 0), (1, .ref 22)]) (stk' := []) (mem' := fm g tp bt a b) (fun _ _ _ => rfl) ?_
          rw [show (67 + 1 : Int32) = 68 from rfl]
          rw [show (11 + 1 : Int32) = 12 from rfl]
          refine fe_w (lc' := [(3, .int 68), (2, .int 12), (0, .ref 0), (1, .ref 22)]) ⟨rfl, rfl, rfl, rfl, trivial⟩ (by show List.Nodup [3, 2, 0, 1]; decide) (by show List.Nodup [3, 2, 6, 5, 4, 0, 1]; decide) ?_
          exact fw_12 hxp
        · rw [e7]
          refine fe_s 1 (pc' := cond (fx_cb .ne 101 (nI n6)) 106 102) (lc' := [(6, .int 64), (5, .int 1), (4, .int 67), (3, .int 63), (2, .int 11), (0, .ref 0), (1, .ref 22)]) (stk' := []) (mem' := fm g tp bt a b) (fun _ _ _ => rfl) ?_
          by_cases h9 : 101 = n6
          · rw [show (fx_cb .ne 101 (nI n6)) = false from cb_neF (a := 101) (b := n6) (by omega) (by omega) (by omega)]
            dsimp only [cond]
            refine fe_s 7 (pc' := 72) (lc' := [(6, .int (64 + 1)), (5, .int 1), (4, .int 67), (3, .int 63), (2, .int 11), (0, .ref 0), (1, .ref 22)]) (stk' := [.int 67, .int (64 + 1)]) (mem' := fm g tp bt a b) (fun _ _ _ => rfl) ?_
            rw [show (64 + 1 : Int32) = 65 from rfl]
            refine fe_s 1 (pc' := cond (fx_cb .ge 65 67) 115 75) (lc' := [(6, .int 65), (5, .int 1), (4, .int 67), (3, .int 63), (2, .int 11), (0, .ref 0), (1, .ref 22)]) (stk' := []) (mem' := fm g tp bt a b) (fun _ _ _ => rfl) ?_
            rw [show (fx_cb .ge 65 67) = false from by decide]
            dsimp only [cond]
            refine fe_s 1 (pc' := 77) (lc' := [(6, .int 65), (5, .int 1), (4, .int 67), (3, .int 63), (2, .int 11), (0, .ref 0), (1, .ref 22)]) (stk' := [.int 1]) (mem' := fm g tp bt a b) (fun _ _ _ => rfl) ?_
            refine fe_s 1 (pc' := cond (fx_cb .eq 1 0) 115 80) (lc' := [(6, .int 65), (5, .int 1), (4, .int 67), (3, .int 63), (2, .int 11), (0, .ref 0), (1, .ref 22)]) (stk' := []) (mem' := fm g tp bt a b) (fun _ _ _ => rfl) ?_
            rw [show (fx_cb .eq 1 0) = false from by decide]
            dsimp only [cond]
            refine fe_s 2 (pc' := 83) (lc' := [(6, .int 65), (5, .int 1), (4, .int 67), (3, .int 63), (2, .int 11), (0, .ref 0), (1, .ref 22)]) (stk' := [.int 65, .ref 22]) (mem' := fm g tp bt a b) (fun _ _ _ => rfl) ?_
            refine fe_chr (i := 65) (by omega) (by rfl) (by rfl) ⟨by rfl, by rfl⟩ (by rfl) ?_
            rw [show sk_b.getD 65 0 = 110 from rfl]
            refine fe_s 7 (pc' := 96) (lc' := [(6, .int 65), (5, .int 1), (4, .int 67), (3, .int 63), (2, .int 11), (0, .ref 0), (1, .ref 22)]) (stk' := [.int (((g 13) + 65) - 63), .ref 0, .int 110]) (mem' := fm g tp bt a b) (fun _ _ _ => rfl) ?_
            try rw [h13]
            rw [show (((nI F) + 65) - 63 : Int32) = nI ((F + 65) - 63) from by simp only [show (65 : Int32) = nI 65 from rfl, show (63 : Int32) = nI 63 from rfl, tg_sub2 (x := F + 65) (y := 63) (by omega), nI_add, fm_mul]]
            refine fe_ivV (fr_byteAt (S := S) (k := (F + 65) - 63) (g := g) (tp := tp) (bt := bt) (a := a) (b := b) h11 (by omega) (by omega)) (by omega) (by rfl) (by rfl) (by rfl) (by rfl) (by rfl) (by rfl) ?_
            rcases fm_byte_or a S ((F + 65) - 63) with ⟨e11, q12⟩ | ⟨q12, n10, qn10, e11⟩
            · rw [e11]
              refine fe_s 1 (pc' := cond (fx_cb .ne 110 (-1)) 106 102) (lc' := [(6, .int 65), (5, .int 1), (4, .int 67), (3, .int 63), (2, .int 11), (0, .ref 0), (1, .ref 22)]) (stk' := []) (mem' := fm g tp bt a b) (fun _ _ _ => rfl) ?_
              rw [show (fx_cb .ne 110 (-1)) = true from by decide]
              dsimp only [cond]
              refine fe_s 6 (pc' := 72) (lc' := [(6, .int (65 + 1)), (5, .int 0), (4, .int 67), (3, .int 63), (2, .int 11), (0, .ref 0), (1, .ref 22)]) (stk' := [.int 67, .int (65 + 1)]) (mem' := fm g tp bt a b) (fun _ _ _ => rfl) ?_
              rw [show (65 + 1 : Int32) = 66 from rfl]
              refine fe_s 1 (pc' := cond (fx_cb .ge 66 67) 115 75) (lc' := [(6, .int 66), (5, .int 0), (4, .int 67), (3, .int 63), (2, .int 11), (0, .ref 0), (1, .ref 22)]) (stk' := []) (mem' := fm g tp bt a b) (fun _ _ _ => rfl) ?_
              rw [show (fx_cb .ge 66 67) = false from by decide]
              dsimp only [cond]
              refine fe_s 1 (pc' := 77) (lc' := [(6, .int 66), (5, .int 0), (4, .int 67), (3, .int 63), (2, .int 11), (0, .ref 0), (1, .ref 22)]) (stk' := [.int 0]) (mem' := fm g tp bt a b) (fun _ _ _ => rfl) ?_
              refine fe_s 1 (pc' := cond (fx_cb .eq 0 0) 115 80) (lc' := [(6, .int 66), (5, .int 0), (4, .int 67), (3, .int 63), (2, .int 11), (0, .ref 0), (1, .ref 22)]) (stk' := []) (mem' := fm g tp bt a b) (fun _ _ _ => rfl) ?_
              rw [show (fx_cb .eq 0 0) = true from by decide]
              dsimp only [cond]
              refine fe_s 1 (pc' := 117) (lc' := [(6, .int 66), (5, .int 0), (4, .int 67), (3, .int 63), (2, .int 11), (0, .ref 0), (1, .ref 22)]) (stk' := [.int 0]) (mem' := fm g tp bt a b) (fun _ _ _ => rfl) ?_
              refine fe_s 1 (pc' := cond (fx_cb .eq 0 0) 122 120) (lc' := [(6, .int 66), (5, .int 0), (4, .int 67), (3, .int 63), (2, .int 11), (0, .ref 0), (1, .ref 22)]) (stk' := []) (mem' := fm g tp bt a b) (fun _ _ _ => rfl) ?_
              rw [show (fx_cb .eq 0 0) = true from by decide]
              dsimp only [cond]
              refine fe_s 6 (pc' := 14) (lc' := [(3, .int (67 + 1)), (2, .int (11 + 1)), (6, .int 66), (5, .int 0), (4, .int 67), (0, .ref 0), (1, .ref 22)]) (stk' := []) (mem' := fm g tp bt a b) (fun _ _ _ => rfl) ?_
              rw [show (67 + 1 : Int32) = 68 from rfl]
              rw [show (11 + 1 : Int32) = 12 from rfl]
              refine fe_w (lc' := [(3, .int 68), (2, .int 12), (0, .ref 0), (1, .ref 22)]) ⟨rfl, rfl, rfl, rfl, trivial⟩ (by show List.Nodup [3, 2, 0, 1]; decide) (by show List.Nodup [3, 2, 6, 5, 4, 0, 1]; decide) ?_
              exact fw_12 hxp
            · rw [e11]
              refine fe_s 1 (pc' := cond (fx_cb .ne 110 (nI n10)) 106 102) (lc' := [(6, .int 65), (5, .int 1), (4, .int 67), (3, .int 63), (2, .int 11), (0, .ref 0), (1, .ref 22)]) (stk' := []) (mem' := fm g tp bt a b) (fun _ _ _ => rfl) ?_
              by_cases h13 : 110 = n10
              · rw [show (fx_cb .ne 110 (nI n10)) = false from cb_neF (a := 110) (b := n10) (by omega) (by omega) (by omega)]
                dsimp only [cond]
                refine fe_s 7 (pc' := 72) (lc' := [(6, .int (65 + 1)), (5, .int 1), (4, .int 67), (3, .int 63), (2, .int 11), (0, .ref 0), (1, .ref 22)]) (stk' := [.int 67, .int (65 + 1)]) (mem' := fm g tp bt a b) (fun _ _ _ => rfl) ?_
                rw [show (65 + 1 : Int32) = 66 from rfl]
                refine fe_s 1 (pc' := cond (fx_cb .ge 66 67) 115 75) (lc' := [(6, .int 66), (5, .int 1), (4, .int 67), (3, .int 63), (2, .int 11), (0, .ref 0), (1, .ref 22)]) (stk' := []) (mem' := fm g tp bt a b) (fun _ _ _ => rfl) ?_
                rw [show (fx_cb .ge 66 67) = false from by decide]
                dsimp only [cond]
                refine fe_s 1 (pc' := 77) (lc' := [(6, .int 66), (5, .int 1), (4, .int 67), (3, .int 63), (2, .int 11), (0, .ref 0), (1, .ref 22)]) (stk' := [.int 1]) (mem' := fm g tp bt a b) (fun _ _ _ => rfl) ?_
                refine fe_s 1 (pc' := cond (fx_cb .eq 1 0) 115 80) (lc' := [(6, .int 66), (5, .int 1), (4, .int 67), (3, .int 63), (2, .int 11), (0, .ref 0), (1, .ref 22)]) (stk' := []) (mem' := fm g tp bt a b) (fun _ _ _ => rfl) ?_
                rw [show (fx_cb .eq 1 0) = false from by decide]
                dsimp only [cond]
                refine fe_s 2 (pc' := 83) (lc' := [(6, .int 66), (5, .int 1), (4, .int 67), (3, .int 63), (2, .int 11), (0, .ref 0), (1, .ref 22)]) (stk' := [.int 66, .ref 22]) (mem' := fm g tp bt a b) (fun _ _ _ => rfl) ?_
                refine fe_chr (i := 66) (by omega) (by rfl) (by rfl) ⟨by rfl, by rfl⟩ (by rfl) ?_
                rw [show sk_b.getD 66 0 = 100 from rfl]
                refine fe_s 7 (pc' := 96) (lc' := [(6, .int 66), (5, .int 1), (4, .int 67), (3, .int 63), (2, .int 11), (0, .ref 0), (1, .ref 22)]) (stk' := [.int (((g 13) + 66) - 63), .ref 0, .int 100]) (mem' := fm g tp bt a b) (fun _ _ _ => rfl) ?_
                try rw [h13]
                rw [show (((nI F) + 66) - 63 : Int32) = nI ((F + 66) - 63) from by simp only [show (66 : Int32) = nI 66 from rfl, show (63 : Int32) = nI 63 from rfl, tg_sub2 (x := F + 66) (y := 63) (by omega), nI_add, fm_mul]]
                refine fe_ivV (fr_byteAt (S := S) (k := (F + 66) - 63) (g := g) (tp := tp) (bt := bt) (a := a) (b := b) h11 (by omega) (by omega)) (by omega) (by rfl) (by rfl) (by rfl) (by rfl) (by rfl) (by rfl) ?_
                rcases fm_byte_or a S ((F + 66) - 63) with ⟨e15, q16⟩ | ⟨q16, n14, qn14, e15⟩
                · rw [e15]
                  refine fe_s 1 (pc' := cond (fx_cb .ne 100 (-1)) 106 102) (lc' := [(6, .int 66), (5, .int 1), (4, .int 67), (3, .int 63), (2, .int 11), (0, .ref 0), (1, .ref 22)]) (stk' := []) (mem' := fm g tp bt a b) (fun _ _ _ => rfl) ?_
                  rw [show (fx_cb .ne 100 (-1)) = true from by decide]
                  dsimp only [cond]
                  refine fe_s 6 (pc' := 72) (lc' := [(6, .int (66 + 1)), (5, .int 0), (4, .int 67), (3, .int 63), (2, .int 11), (0, .ref 0), (1, .ref 22)]) (stk' := [.int 67, .int (66 + 1)]) (mem' := fm g tp bt a b) (fun _ _ _ => rfl) ?_
                  rw [show (66 + 1 : Int32) = 67 from rfl]
                  refine fe_s 1 (pc' := cond (fx_cb .ge 67 67) 115 75) (lc' := [(6, .int 67), (5, .int 0), (4, .int 67), (3, .int 63), (2, .int 11), (0, .ref 0), (1, .ref 22)]) (stk' := []) (mem' := fm g tp bt a b) (fun _ _ _ => rfl) ?_
                  rw [show (fx_cb .ge 67 67) = true from by decide]
                  dsimp only [cond]
                  refine fe_s 1 (pc' := 117) (lc' := [(6, .int 67), (5, .int 0), (4, .int 67), (3, .int 63), (2, .int 11), (0, .ref 0), (1, .ref 22)]) (stk' := [.int 0]) (mem' := fm g tp bt a b) (fun _ _ _ => rfl) ?_
                  refine fe_s 1 (pc' := cond (fx_cb .eq 0 0) 122 120) (lc' := [(6, .int 67), (5, .int 0), (4, .int 67), (3, .int 63), (2, .int 11), (0, .ref 0), (1, .ref 22)]) (stk' := []) (mem' := fm g tp bt a b) (fun _ _ _ => rfl) ?_
                  rw [show (fx_cb .eq 0 0) = true from by decide]
                  dsimp only [cond]
                  refine fe_s 6 (pc' := 14) (lc' := [(3, .int (67 + 1)), (2, .int (11 + 1)), (6, .int 67), (5, .int 0), (4, .int 67), (0, .ref 0), (1, .ref 22)]) (stk' := []) (mem' := fm g tp bt a b) (fun _ _ _ => rfl) ?_
                  rw [show (67 + 1 : Int32) = 68 from rfl]
                  rw [show (11 + 1 : Int32) = 12 from rfl]
                  refine fe_w (lc' := [(3, .int 68), (2, .int 12), (0, .ref 0), (1, .ref 22)]) ⟨rfl, rfl, rfl, rfl, trivial⟩ (by show List.Nodup [3, 2, 0, 1]; decide) (by show List.Nodup [3, 2, 6, 5, 4, 0, 1]; decide) ?_
                  exact fw_12 hxp
                · rw [e15]
                  refine fe_s 1 (pc' := cond (fx_cb .ne 100 (nI n14)) 106 102) (lc' := [(6, .int 66), (5, .int 1), (4, .int 67), (3, .int 63), (2, .int 11), (0, .ref 0), (1, .ref 22)]) (stk' := []) (mem' := fm g tp bt a b) (fun _ _ _ => rfl) ?_
                  by_cases h17 : 100 = n14
                  · rw [show (fx_cb .ne 100 (nI n14)) = false from cb_neF (a := 100) (b := n14) (by omega) (by omega) (by omega)]
                    dsimp only [cond]
                    refine fe_s 7 (pc' := 72) (lc' := [(6, .int (66 + 1)), (5, .int 1), (4, .int 67), (3, .int 63), (2, .int 11), (0, .ref 0), (1, .ref 22)]) (stk' := [.int 67, .int (66 + 1)]) (mem' := fm g tp bt a b) (fun _ _ _ => rfl) ?_
                    rw [show (66 + 1 : Int32) = 67 from rfl]
                    refine fe_s 1 (pc' := cond (fx_cb .ge 67 67) 115 75) (lc' := [(6, .int 67), (5, .int 1), (4, .int 67), (3, .int 63), (2, .int 11), (0, .ref 0), (1, .ref 22)]) (stk' := []) (mem' := fm g tp bt a b) (fun _ _ _ => rfl) ?_
                    rw [show (fx_cb .ge 67 67) = true from by decide]
                    dsimp only [cond]
                    refine fe_s 1 (pc' := 117) (lc' := [(6, .int 67), (5, .int 1), (4, .int 67), (3, .int 63), (2, .int 11), (0, .ref 0), (1, .ref 22)]) (stk' := [.int 1]) (mem' := fm g tp bt a b) (fun _ _ _ => rfl) ?_
                    refine fe_s 1 (pc' := cond (fx_cb .eq 1 0) 122 120) (lc' := [(6, .int 67), (5, .int 1), (4, .int 67), (3, .int 63), (2, .int 11), (0, .ref 0), (1, .ref 22)]) (stk' := []) (mem' := fm g tp bt a b) (fun _ _ _ => rfl) ?_
                    rw [show (fx_cb .eq 1 0) = false from by decide]
                    dsimp only [cond]
                    refine fe_s 1 (pc' := 121) (lc' := [(6, .int 67), (5, .int 1), (4, .int 67), (3, .int 63), (2, .int 11), (0, .ref 0), (1, .ref 22)]) (stk' := [.int 11]) (mem' := fm g tp bt a b) (fun _ _ _ => rfl) ?_
                    exact fe_ret ⟨_, Or.inr ⟨11, by omega, rfl⟩, rfl⟩ (by rfl) (by rfl) (by rfl)
                  · rw [show (fx_cb .ne 100 (nI n14)) = true from cb_neT (a := 100) (b := n14) (by omega) (by omega) (by omega)]
                    dsimp only [cond]
                    refine fe_s 6 (pc' := 72) (lc' := [(6, .int (66 + 1)), (5, .int 0), (4, .int 67), (3, .int 63), (2, .int 11), (0, .ref 0), (1, .ref 22)]) (stk' := [.int 67, .int (66 + 1)]) (mem' := fm g tp bt a b) (fun _ _ _ => rfl) ?_
                    rw [show (66 + 1 : Int32) = 67 from rfl]
                    refine fe_s 1 (pc' := cond (fx_cb .ge 67 67) 115 75) (lc' := [(6, .int 67), (5, .int 0), (4, .int 67), (3, .int 63), (2, .int 11), (0, .ref 0), (1, .ref 22)]) (stk' := []) (mem' := fm g tp bt a b) (fun _ _ _ => rfl) ?_
                    rw [show (fx_cb .ge 67 67) = true from by decide]
                    dsimp only [cond]
                    refine fe_s 1 (pc' := 117) (lc' := [(6, .int 67), (5, .int 0), (4, .int 67), (3, .int 63), (2, .int 11), (0, .ref 0), (1, .ref 22)]) (stk' := [.int 0]) (mem' := fm g tp bt a b) (fun _ _ _ => rfl) ?_
                    refine fe_s 1 (pc' := cond (fx_cb .eq 0 0) 122 120) (lc' := [(6, .int 67), (5, .int 0), (4, .int 67), (3, .int 63), (2, .int 11), (0, .ref 0), (1, .ref 22)]) (stk' := []) (mem' := fm g tp bt a b) (fun _ _ _ => rfl) ?_
                    rw [show (fx_cb .eq 0 0) = true from by decide]
                    dsimp only [cond]
                    refine fe_s 6 (pc' := 14) (lc' := [(3, .int (67 + 1)), (2, .int (11 + 1)), (6, .int 67), (5, .int 0), (4, .int 67), (0, .ref 0), (1, .ref 22)]) (stk' := []) (mem' := fm g tp bt a b) (fun _ _ _ => rfl) ?_
                    rw [show (67 + 1 : Int32) = 68 from rfl]
                    rw [show (11 + 1 : Int32) = 12 from rfl]
                    refine fe_w (lc' := [(3, .int 68), (2, .int 12), (0, .ref 0), (1, .ref 22)]) ⟨rfl, rfl, rfl, rfl, trivial⟩ (by show List.Nodup [3, 2, 0, 1]; decide) (by show List.Nodup [3, 2, 6, 5, 4, 0, 1]; decide) ?_
                    exact fw_12 hxp
              · rw [show (fx_cb .ne 110 (nI n10)) = true from cb_neT (a := 110) (b := n10) (by omega) (by omega) (by omega)]
                dsimp only [cond]
                refine fe_s 6 (pc' := 72) (lc' := [(6, .int (65 + 1)), (5, .int 0), (4, .int 67), (3, .int 63), (2, .int 11), (0, .ref 0), (1, .ref 22)]) (stk' := [.int 67, .int (65 + 1)]) (mem' := fm g tp bt a b) (fun _ _ _ => rfl) ?_
                rw [show (65 + 1 : Int32) = 66 from rfl]
                refine fe_s 1 (pc' := cond (fx_cb .ge 66 67) 115 75) (lc' := [(6, .int 66), (5, .int 0), (4, .int 67), (3, .int 63), (2, .int 11), (0, .ref 0), (1, .ref 22)]) (stk' := []) (mem' := fm g tp bt a b) (fun _ _ _ => rfl) ?_
                rw [show (fx_cb .ge 66 67) = false from by decide]
                dsimp only [cond]
                refine fe_s 1 (pc' := 77) (lc' := [(6, .int 66), (5, .int 0), (4, .int 67), (3, .int 63), (2, .int 11), (0, .ref 0), (1, .ref 22)]) (stk' := [.int 0]) (mem' := fm g tp bt a b) (fun _ _ _ => rfl) ?_
                refine fe_s 1 (pc' := cond (fx_cb .eq 0 0) 115 80) (lc' := [(6, .int 66), (5, .int 0), (4, .int 67), (3, .int 63), (2, .int 11), (0, .ref 0), (1, .ref 22)]) (stk' := []) (mem' := fm g tp bt a b) (fun _ _ _ => rfl) ?_
                rw [show (fx_cb .eq 0 0) = true from by decide]
                dsimp only [cond]
                refine fe_s 1 (pc' := 117) (lc' := [(6, .int 66), (5, .int 0), (4, .int 67), (3, .int 63), (2, .int 11), (0, .ref 0), (1, .ref 22)]) (stk' := [.int 0]) (mem' := fm g tp bt a b) (fun _ _ _ => rfl) ?_
                refine fe_s 1 (pc' := cond (fx_cb .eq 0 0) 122 120) (lc' := [(6, .int 66), (5, .int 0), (4, .int 67), (3, .int 63), (2, .int 11), (0, .ref 0), (1, .ref 22)]) (stk' := []) (mem' := fm g tp bt a b) (fun _ _ _ => rfl) ?_
                rw [show (fx_cb .eq 0 0) = true from by decide]
                dsimp only [cond]
                refine fe_s 6 (pc' := 14) (lc' := [(3, .int (67 + 1)), (2, .int (11 + 1)), (6, .int 66), (5, .int 0), (4, .int 67), (0, .ref 0), (1, .ref 22)]) (stk' := []) (mem' := fm g tp bt a b) (fun _ _ _ => rfl) ?_
                rw [show (67 + 1 : Int32) = 68 from rfl]
                rw [show (11 + 1 : Int32) = 12 from rfl]
                refine fe_w (lc' := [(3, .int 68), (2, .int 12), (0, .ref 0), (1, .ref 22)]) ⟨rfl, rfl, rfl, rfl, trivial⟩ (by show List.Nodup [3, 2, 0, 1]; decide) (by show List.Nodup [3, 2, 6, 5, 4, 0, 1]; decide) ?_
                exact fw_12 hxp
          · rw [show (fx_cb .ne 101 (nI n6)) = true from cb_neT (a := 101) (b := n6) (by omega) (by omega) (by omega)]
            dsimp only [cond]
            refine fe_s 6 (pc' := 72) (lc' := [(6, .int (64 + 1)), (5, .int 0), (4, .int 67), (3, .int 63), (2, .int 11), (0, .ref 0), (1, .ref 22)]) (stk' := [.int 67, .int (64 + 1)]) (mem' := fm g tp bt a b) (fun _ _ _ => rfl) ?_
            rw [show (64 + 1 : Int32) = 65 from rfl]
            refine fe_s 1 (pc' := cond (fx_cb .ge 65 67) 115 75) (lc' := [(6, .int 65), (5, .int 0), (4, .int 67), (3, .int 63), (2, .int 11), (0, .ref 0), (1, .ref 22)]) (stk' := []) (mem' := fm g tp bt a b) (fun _ _ _ => rfl) ?_
            rw [show (fx_cb .ge 65 67) = false from by decide]
            dsimp only [cond]
            refine fe_s 1 (pc' := 77) (lc' := [(6, .int 65), (5, .int 0), (4, .int 67), (3, .int 63), (2, .int 11), (0, .ref 0), (1, .ref 22)]) (stk' := [.int 0]) (mem' := fm g tp bt a b) (fun _ _ _ => rfl) ?_
            refine fe_s 1 (pc' := cond (fx_cb .eq 0 0) 115 80) (lc' := [(6, .int 65), (5, .int 0), (4, .int 67), (3, .int 63), (2, .int 11), (0, .ref 0), (1, .ref 22)]) (stk' := []) (mem' := fm g tp bt a b) (fun _ _ _ => rfl) ?_
            rw [show (fx_cb .eq 0 0) = true from by decide]
            dsimp only [cond]
            refine fe_s 1 (pc' := 117) (lc' := [(6, .int 65), (5, .int 0), (4, .int 67), (3, .int 63), (2, .int 11), (0, .ref 0), (1, .ref 22)]) (stk' := [.int 0]) (mem' := fm g tp bt a b) (fun _ _ _ => rfl) ?_
            refine fe_s 1 (pc' := cond (fx_cb .eq 0 0) 122 120) (lc' := [(6, .int 65), (5, .int 0), (4, .int 67), (3, .int 63), (2, .int 11), (0, .ref 0), (1, .ref 22)]) (stk' := []) (mem' := fm g tp bt a b) (fun _ _ _ => rfl) ?_
            rw [show (fx_cb .eq 0 0) = true from by decide]
            dsimp only [cond]
            refine fe_s 6 (pc' := 14) (lc' := [(3, .int (67 + 1)), (2, .int (11 + 1)), (6, .int 65), (5, .int 0), (4, .int 67), (0, .ref 0), (1, .ref 22)]) (stk' := []) (mem' := fm g tp bt a b) (fun _ _ _ => rfl) ?_
            rw [show (67 + 1 : Int32) = 68 from rfl]
            rw [show (11 + 1 : Int32) = 12 from rfl]
            refine fe_w (lc' := [(3, .int 68), (2, .int 12), (0, .ref 0), (1, .ref 22)]) ⟨rfl, rfl, rfl, rfl, trivial⟩ (by show List.Nodup [3, 2, 0, 1]; decide) (by show List.Nodup [3, 2, 6, 5, 4, 0, 1]; decide) ?_
            exact fw_12 hxp
      · rw [show (fx_cb .ne 115 (nI n2)) = true from cb_neT (a := 115) (b := n2) (by omega) (by omega) (by omega)]
        dsimp only [cond]
        refine fe_s 6 (pc' := 72) (lc' := [(6, .int (63 + 1)), (5, .int 0), (4, .int 67), (3, .int 63), (2, .int 11), (0, .ref 0), (1, .ref 22)]) (stk' := [.int 67, .int (63 + 1)]) (mem' := fm g tp bt a b) (fun _ _ _ => rfl) ?_
        rw [show (63 + 1 : Int32) = 64 from rfl]
        refine fe_s 1 (pc' := cond (fx_cb .ge 64 67) 115 75) (lc' := [(6, .int 64), (5, .int 0), (4, .int 67), (3, .int 63), (2, .int 11), (0, .ref 0), (1, .ref 22)]) (stk' := []) (mem' := fm g tp bt a b) (fun _ _ _ => rfl) ?_
        rw [show (fx_cb .ge 64 67) = false from by decide]
        dsimp only [cond]
        refine fe_s 1 (pc' := 77) (lc' := [(6, .int 64), (5, .int 0), (4, .int 67), (3, .int 63), (2, .int 11), (0, .ref 0), (1, .ref 22)]) (stk' := [.int 0]) (mem' := fm g tp bt a b) (fun _ _ _ => rfl) ?_
        refine fe_s 1 (pc' := cond (fx_cb .eq 0 0) 115 80) (lc' := [(6, .int 64), (5, .int 0), (4, .int 67), (3, .int 63), (2, .int 11), (0, .ref 0), (1, .ref 22)]) (stk' := []) (mem' := fm g tp bt a b) (fun _ _ _ => rfl) ?_
        rw [show (fx_cb .eq 0 0) = true from by decide]
        dsimp only [cond]
        refine fe_s 1 (pc' := 117) (lc' := [(6, .int 64), (5, .int 0), (4, .int 67), (3, .int 63), (2, .int 11), (0, .ref 0), (1, .ref 22)]) (stk' := [.int 0]) (mem' := fm g tp bt a b) (fun _ _ _ => rfl) ?_
        refine fe_s 1 (pc' := cond (fx_cb .eq 0 0) 122 120) (lc' := [(6, .int 64), (5, .int 0), (4, .int 67), (3, .int 63), (2, .int 11), (0, .ref 0), (1, .ref 22)]) (stk' := []) (mem' := fm g tp bt a b) (fun _ _ _ => rfl) ?_
        rw [show (fx_cb .eq 0 0) = true from by decide]
        dsimp only [cond]
        refine fe_s 6 (pc' := 14) (lc' := [(3, .int (67 + 1)), (2, .int (11 + 1)), (6, .int 64), (5, .int 0), (4, .int 67), (0, .ref 0), (1, .ref 22)]) (stk' := []) (mem' := fm g tp bt a b) (fun _ _ _ => rfl) ?_
        rw [show (67 + 1 : Int32) = 68 from rfl]
        rw [show (11 + 1 : Int32) = 12 from rfl]
        refine fe_w (lc' := [(3, .int 68), (2, .int 12), (0, .ref 0), (1, .ref 22)]) ⟨rfl, rfl, rfl, rfl, trivial⟩ (by show List.Nodup [3, 2, 0, 1]; decide) (by show List.Nodup [3, 2, 6, 5, 4, 0, 1]; decide) ?_
        exact fw_12 hxp
  · rw [show (fx_cb .ne 4 (nI (E - F))) = true from cb_neT (a := 4) (b := E - F) (by omega) (by omega) (by omega)]
    dsimp only [cond]
    refine fe_s 6 (pc' := 72) (lc' := [(6, .int 63), (5, .int 0), (4, .int 67), (3, .int 63), (2, .int 11), (0, .ref 0), (1, .ref 22)]) (stk' := [.int 67, .int 63]) (mem' := fm g tp bt a b) (fun _ _ _ => rfl) ?_
    refine fe_s 1 (pc' := cond (fx_cb .ge 63 67) 115 75) (lc' := [(6, .int 63), (5, .int 0), (4, .int 67), (3, .int 63), (2, .int 11), (0, .ref 0), (1, .ref 22)]) (stk' := []) (mem' := fm g tp bt a b) (fun _ _ _ => rfl) ?_
    rw [show (fx_cb .ge 63 67) = false from by decide]
    dsimp only [cond]
    refine fe_s 1 (pc' := 77) (lc' := [(6, .int 63), (5, .int 0), (4, .int 67), (3, .int 63), (2, .int 11), (0, .ref 0), (1, .ref 22)]) (stk' := [.int 0]) (mem' := fm g tp bt a b) (fun _ _ _ => rfl) ?_
    refine fe_s 1 (pc' := cond (fx_cb .eq 0 0) 115 80) (lc' := [(6, .int 63), (5, .int 0), (4, .int 67), (3, .int 63), (2, .int 11), (0, .ref 0), (1, .ref 22)]) (stk' := []) (mem' := fm g tp bt a b) (fun _ _ _ => rfl) ?_
    rw [show (fx_cb .eq 0 0) = true from by decide]
    dsimp only [cond]
    refine fe_s 1 (pc' := 117) (lc' := [(6, .int 63), (5, .int 0), (4, .int 67), (3, .int 63), (2, .int 11), (0, .ref 0), (1, .ref 22)]) (stk' := [.int 0]) (mem' := fm g tp bt a b) (fun _ _ _ => rfl) ?_
    refine fe_s 1 (pc' := cond (fx_cb .eq 0 0) 122 120) (lc' := [(6, .int 63), (5, .int 0), (4, .int 67), (3, .int 63), (2, .int 11), (0, .ref 0), (1, .ref 22)]) (stk' := []) (mem' := fm g tp bt a b) (fun _ _ _ => rfl) ?_
    rw [show (fx_cb .eq 0 0) = true from by decide]
    dsimp only [cond]
    refine fe_s 6 (pc' := 14) (lc' := [(3, .int (67 + 1)), (2, .int (11 + 1)), (6, .int 63), (5, .int 0), (4, .int 67), (0, .ref 0), (1, .ref 22)]) (stk' := []) (mem' := fm g tp bt a b) (fun _ _ _ => rfl) ?_
    rw [show (67 + 1 : Int32) = 68 from rfl]
    rw [show (11 + 1 : Int32) = 12 from rfl]
    refine fe_w (lc' := [(3, .int 68), (2, .int 12), (0, .ref 0), (1, .ref 22)]) ⟨rfl, rfl, rfl, rfl, trivial⟩ (by show List.Nodup [3, 2, 0, 1]; decide) (by show List.Nodup [3, 2, 6, 5, 4, 0, 1]; decide) ?_
    exact fw_12 hxp
theorem fw_10 {S E F : Nat} (hxp : fm_xp g S E F) : fe_R 1 gk_m226 14 [(3, .int 60), (2, .int 10), (0, .ref 0), (1, .ref 22)] [] (fm g tp bt a b) (fm_FI (fm g tp bt a b)) := by
  obtain ⟨h11, hS9, h14, hES, h13, hFE, -, -, -⟩ := id hxp
  refine fe_s 2 (pc' := 16) (lc' := [(3, .int 60), (2, .int 10), (0, .ref 0), (1, .ref 22)]) (stk' := [.ref 22, .int 60]) (mem' := fm g tp bt a b) (fun _ _ _ => rfl) ?_
  refine fe_s 1 (pc' := 19) (lc' := [(3, .int 60), (2, .int 10), (0, .ref 0), (1, .ref 22)]) (stk' := [.int 117, .int 60]) (mem' := fm g tp bt a b) (fun _ _ _ => rfl) ?_
  refine fe_s 1 (pc' := cond (fx_cb .ge 60 117) 133 22) (lc' := [(3, .int 60), (2, .int 10), (0, .ref 0), (1, .ref 22)]) (stk' := []) (mem' := fm g tp bt a b) (fun _ _ _ => rfl) ?_
  rw [show (fx_cb .ge 60 117) = false from by decide]
  dsimp only [cond]
  refine fe_s 4 (pc' := 28) (lc' := [(4, .int 60), (3, .int 60), (2, .int 10), (0, .ref 0), (1, .ref 22)]) (stk' := [.int 60, .ref 22]) (mem' := fm g tp bt a b) (fun _ _ _ => rfl) ?_
  refine fe_chr (i := 60) (by omega) (by rfl) (by rfl) ⟨by rfl, by rfl⟩ (by rfl) ?_
  rw [show sk_b.getD 60 0 = 97 from rfl]
  refine fe_s 1 (pc' := 33) (lc' := [(4, .int 60), (3, .int 60), (2, .int 10), (0, .ref 0), (1, .ref 22)]) (stk' := [.int 32, .int 97]) (mem' := fm g tp bt a b) (fun _ _ _ => rfl) ?_
  refine fe_s 1 (pc' := cond (fx_cb .eq 97 32) 42 36) (lc' := [(4, .int 60), (3, .int 60), (2, .int 10), (0, .ref 0), (1, .ref 22)]) (stk' := []) (mem' := fm g tp bt a b) (fun _ _ _ => rfl) ?_
  rw [show (fx_cb .eq 97 32) = false from by decide]
  dsimp only [cond]
  refine fe_s 4 (pc' := 28) (lc' := [(4, .int (60 + 1)), (3, .int 60), (2, .int 10), (0, .ref 0), (1, .ref 22)]) (stk' := [.int (60 + 1), .ref 22]) (mem' := fm g tp bt a b) (fun _ _ _ => rfl) ?_
  rw [show (60 + 1 : Int32) = 61 from rfl]
  refine fe_chr (i := 61) (by omega) (by rfl) (by rfl) ⟨by rfl, by rfl⟩ (by rfl) ?_
  rw [show sk_b.getD 61 0 = 116 from rfl]
  refine fe_s 1 (pc' := 33) (lc' := [(4, .int 61), (3, .int 60), (2, .int 10), (0, .ref 0), (1, .ref 22)]) (stk' := [.int 32, .int 116]) (mem' := fm g tp bt a b) (fun _ _ _ => rfl) ?_
  refine fe_s 1 (pc' := cond (fx_cb .eq 116 32) 42 36) (lc' := [(4, .int 61), (3, .int 60), (2, .int 10), (0, .ref 0), (1, .ref 22)]) (stk' := []) (mem' := fm g tp bt a b) (fun _ _ _ => rfl) ?_
  rw [show (fx_cb .eq 116 32) = false from by decide]
  dsimp only [cond]
  refine fe_s 4 (pc' := 28) (lc' := [(4, .int (61 + 1)), (3, .int 60), (2, .int 10), (0, .ref 0), (1, .ref 22)]) (stk' := [.int (61 + 1), .ref 22]) (mem' := fm g tp bt a b) (fun _ _ _ => rfl) ?_
  rw [show (61 + 1 : Int32) = 62 from rfl]
  refine fe_chr (i := 62) (by omega) (by rfl) (by rfl) ⟨by rfl, by rfl⟩ (by rfl) ?_
  rw [show sk_b.getD 62 0 = 32 from rfl]
  refine fe_s 1 (pc' := 33) (lc' := [(4, .int 62), (3, .int 60), (2, .int 10), (0, .ref 0), (1, .ref 22)]) (stk' := [.int 32, .int 32]) (mem' := fm g tp bt a b) (fun _ _ _ => rfl) ?_
  refine fe_s 1 (pc' := cond (fx_cb .eq 32 32) 42 36) (lc' := [(4, .int 62), (3, .int 60), (2, .int 10), (0, .ref 0), (1, .ref 22)]) (stk' := []) (mem' := fm g tp bt a b) (fun _ _ _ => rfl) ?_
  rw [show (fx_cb .eq 32 32) = true from by decide]
  dsimp only [cond]
  refine fe_s 8 (pc' := 55) (lc' := [(4, .int 62), (3, .int 60), (2, .int 10), (0, .ref 0), (1, .ref 22)]) (stk' := [.int ((g 14) - (g 13)), .int (62 - 60)]) (mem' := fm g tp bt a b) (fun _ _ _ => rfl) ?_
  try rw [h14]
  try rw [h13]
  rw [show (62 - 60 : Int32) = 2 from rfl]
  rw [show ((nI E) - (nI F) : Int32) = nI (E - F) from by simp only [tg_sub2 (x := E) (y := F) (by omega), nI_add, fm_mul]]
  refine fe_s 1 (pc' := cond (fx_cb .ne 2 (nI (E - F))) 62 58) (lc' := [(4, .int 62), (3, .int 60), (2, .int 10), (0, .ref 0), (1, .ref 22)]) (stk' := []) (mem' := fm g tp bt a b) (fun _ _ _ => rfl) ?_
  by_cases h1 : 2 = (E - F)
  · rw [show (fx_cb .ne 2 (nI (E - F))) = false from cb_neF (a := 2) (b := E - F) (by omega) (by omega) (by omega)]
    dsimp only [cond]
    refine fe_s 7 (pc' := 72) (lc' := [(6, .int 60), (5, .int 1), (4, .int 62), (3, .int 60), (2, .int 10), (0, .ref 0), (1, .ref 22)]) (stk' := [.int 62, .int 60]) (mem' := fm g tp bt a b) (fun _ _ _ => rfl) ?_
    refine fe_s 1 (pc' := cond (fx_cb .ge 60 62) 115 75) (lc' := [(6, .int 60), (5, .int 1), (4, .int 62), (3, .int 60), (2, .int 10), (0, .ref 0), (1, .ref 22)]) (stk' := []) (mem' := fm g tp bt a b) (fun _ _ _ => rfl) ?_
    rw [show (fx_cb .ge 60 62) = false from by decide]
    dsimp only [cond]
    refine fe_s 1 (pc' := 77) (lc' := [(6, .int 60), (5, .int 1), (4, .int 62), (3, .int 60), (2, .int 10), (0, .ref 0), (1, .ref 22)]) (stk' := [.int 1]) (mem' := fm g tp bt a b) (fun _ _ _ => rfl) ?_
    refine fe_s 1 (pc' := cond (fx_cb .eq 1 0) 115 80) (lc' := [(6, .int 60), (5, .int 1), (4, .int 62), (3, .int 60), (2, .int 10), (0, .ref 0), (1, .ref 22)]) (stk' := []) (mem' := fm g tp bt a b) (fun _ _ _ => rfl) ?_
    rw [show (fx_cb .eq 1 0) = false from by decide]
    dsimp only [cond]
    refine fe_s 2 (pc' := 83) (lc' := [(6, .int 60), (5, .int 1), (4, .int 62), (3, .int 60), (2, .int 10), (0, .ref 0), (1, .ref 22)]) (stk' := [.int 60, .ref 22]) (mem' := fm g tp bt a b) (fun _ _ _ => rfl) ?_
    refine fe_chr (i := 60) (by omega) (by rfl) (by rfl) ⟨by rfl, by rfl⟩ (by rfl) ?_
    rw [show sk_b.getD 60 0 = 97 from rfl]
    refine fe_s 7 (pc' := 96) (lc' := [(6, .int 60), (5, .int 1), (4, .int 62), (3, .int 60), (2, .int 10), (0, .ref 0), (1, .ref 22)]) (stk' := [.int (((g 13) + 60) - 60), .ref 0, .int 97]) (mem' := fm g tp bt a b) (fun _ _ _ => rfl) ?_
    try rw [h13]
    rw [show (((nI F) + 60) - 60 : Int32) = nI ((F + 60) - 60) from by simp only [show (60 : Int32) = nI 60 from rfl, tg_sub2 (x := F + 60) (y := 60) (by omega), nI_add, fm_mul]]
    refine fe_ivV (fr_byteAt (S := S) (k := (F + 60) - 60) (g := g) (tp := tp) (bt := bt) (a := a) (b := b) h11 (by omega) (by omega)) (by omega) (by rfl) (by rfl) (by rfl) (by rfl) (by rfl) (by rfl) ?_
    rcases fm_byte_or a S ((F + 60) - 60) with ⟨e3, q4⟩ | ⟨q4, n2, qn2, e3⟩
    · rw [e3]
      refine fe_s 1 (pc' := cond (fx_cb .ne 97 (-1)) 106 102) (lc' := [(6, .int 60), (5, .int 1), (4, .int 62), (3, .int 60), (2, .int 10), (0, .ref 0), (1, .ref 22)]) (stk' := []) (mem' := fm g tp bt a b) (fun _ _ _ => rfl) ?_
      rw [show (fx_cb .ne 97 (-1)) = true from by decide]
      dsimp only [cond]
      refine fe_s 6 (pc' := 72) (lc' := [(6, .int (60 + 1)), (5, .int 0), (4, .int 62), (3, .int 60), (2, .int 10), (0, .ref 0), (1, .ref 22)]) (stk' := [.int 62, .int (60 + 1)]) (mem' := fm g tp bt a b) (fun _ _ _ => rfl) ?_
      rw [show (60 + 1 : Int32) = 61 from rfl]
      refine fe_s 1 (pc' := cond (fx_cb .ge 61 62) 115 75) (lc' := [(6, .int 61), (5, .int 0), (4, .int 62), (3, .int 60), (2, .int 10), (0, .ref 0), (1, .ref 22)]) (stk' := []) (mem' := fm g tp bt a b) (fun _ _ _ => rfl) ?_
      rw [show (fx_cb .ge 61 62) = false from by decide]
      dsimp only [cond]
      refine fe_s 1 (pc' := 77) (lc' := [(6, .int 61), (5, .int 0), (4, .int 62), (3, .int 60), (2, .int 10), (0, .ref 0), (1, .ref 22)]) (stk' := [.int 0]) (mem' := fm g tp bt a b) (fun _ _ _ => rfl) ?_
      refine fe_s 1 (pc' := cond (fx_cb .eq 0 0) 115 80) (lc' := [(6, .int 61), (5, .int 0), (4, .int 62), (3, .int 60), (2, .int 10), (0, .ref 0), (1, .ref 22)]) (stk' := []) (mem' := fm g tp bt a b) (fun _ _ _ => rfl) ?_
      rw [show (fx_cb .eq 0 0) = true from by decide]
      dsimp only [cond]
      refine fe_s 1 (pc' := 117) (lc' := [(6, .int 61), (5, .int 0), (4, .int 62), (3, .int 60), (2, .int 10), (0, .ref 0), (1, .ref 22)]) (stk' := [.int 0]) (mem' := fm g tp bt a b) (fun _ _ _ => rfl) ?_
      refine fe_s 1 (pc' := cond (fx_cb .eq 0 0) 122 120) (lc' := [(6, .int 61), (5, .int 0), (4, .int 62), (3, .int 60), (2, .int 10), (0, .ref 0), (1, .ref 22)]) (stk' := []) (mem' := fm g tp bt a b) (fun _ _ _ => rfl) ?_
      rw [show (fx_cb .eq 0 0) = true from by decide]
      dsimp only [cond]
      refine fe_s 6 (pc' := 14) (lc' := [(3, .int (62 + 1)), (2, .int (10 + 1)), (6, .int 61), (5, .int 0), (4, .int 62), (0, .ref 0), (1, .ref 22)]) (stk' := []) (mem' := fm g tp bt a b) (fun _ _ _ => rfl) ?_
      rw [show (62 + 1 : Int32) = 63 from rfl]
      rw [show (10 + 1 : Int32) = 11 from rfl]
      refine fe_w (lc' := [(3, .int 63), (2, .int 11), (0, .ref 0), (1, .ref 22)]) ⟨rfl, rfl, rfl, rfl, trivial⟩ (by show List.Nodup [3, 2, 0, 1]; decide) (by show List.Nodup [3, 2, 6, 5, 4, 0, 1]; decide) ?_
      exact fw_11 hxp
    · rw [e3]
      refine fe_s 1 (pc' := cond (fx_cb .ne 97 (nI n2)) 106 102) (lc' := [(6, .int 60), (5, .int 1), (4, .int 62), (3, .int 60), (2, .int 10), (0, .ref 0), (1, .ref 22)]) (stk' := []) (mem' := fm g tp bt a b) (fun _ _ _ => rfl) ?_
      by_cases h5 : 97 = n2
      · rw [show (fx_cb .ne 97 (nI n2)) = false from cb_neF (a := 97) (b := n2) (by omega) (by omega) (by omega)]
        dsimp only [cond]
        refine fe_s 7 (pc' := 72) (lc' := [(6, .int (60 + 1)), (5, .int 1), (4, .int 62), (3, .int 60), (2, .int 10), (0, .ref 0), (1, .ref 22)]) (stk' := [.int 62, .int (60 + 1)]) (mem' := fm g tp bt a b) (fun _ _ _ => rfl) ?_
        rw [show (60 + 1 : Int32) = 61 from rfl]
        refine fe_s 1 (pc' := cond (fx_cb .ge 61 62) 115 75) (lc' := [(6, .int 61), (5, .int 1), (4, .int 62), (3, .int 60), (2, .int 10), (0, .ref 0), (1, .ref 22)]) (stk' := []) (mem' := fm g tp bt a b) (fun _ _ _ => rfl) ?_
        rw [show (fx_cb .ge 61 62) = false from by decide]
        dsimp only [cond]
        refine fe_s 1 (pc' := 77) (lc' := [(6, .int 61), (5, .int 1), (4, .int 62), (3, .int 60), (2, .int 10), (0, .ref 0), (1, .ref 22)]) (stk' := [.int 1]) (mem' := fm g tp bt a b) (fun _ _ _ => rfl) ?_
        refine fe_s 1 (pc' := cond (fx_cb .eq 1 0) 115 80) (lc' := [(6, .int 61), (5, .int 1), (4, .int 62), (3, .int 60), (2, .int 10), (0, .ref 0), (1, .ref 22)]) (stk' := []) (mem' := fm g tp bt a b) (fun _ _ _ => rfl) ?_
        rw [show (fx_cb .eq 1 0) = false from by decide]
        dsimp only [cond]
        refine fe_s 2 (pc' := 83) (lc' := [(6, .int 61), (5, .int 1), (4, .int 62), (3, .int 60), (2, .int 10), (0, .ref 0), (1, .ref 22)]) (stk' := [.int 61, .ref 22]) (mem' := fm g tp bt a b) (fun _ _ _ => rfl) ?_
        refine fe_chr (i := 61) (by omega) (by rfl) (by rfl) ⟨by rfl, by rfl⟩ (by rfl) ?_
        rw [show sk_b.getD 61 0 = 116 from rfl]
        refine fe_s 7 (pc' := 96) (lc' := [(6, .int 61), (5, .int 1), (4, .int 62), (3, .int 60), (2, .int 10), (0, .ref 0), (1, .ref 22)]) (stk' := [.int (((g 13) + 61) - 60), .ref 0, .int 116]) (mem' := fm g tp bt a b) (fun _ _ _ => rfl) ?_
        try rw [h13]
        rw [show (((nI F) + 61) - 60 : Int32) = nI ((F + 61) - 60) from by simp only [show (61 : Int32) = nI 61 from rfl, show (60 : Int32) = nI 60 from rfl, tg_sub2 (x := F + 61) (y := 60) (by omega), nI_add, fm_mul]]
        refine fe_ivV (fr_byteAt (S := S) (k := (F + 61) - 60) (g := g) (tp := tp) (bt := bt) (a := a) (b := b) h11 (by omega) (by omega)) (by omega) (by rfl) (by rfl) (by rfl) (by rfl) (by rfl) (by rfl) ?_
        rcases fm_byte_or a S ((F + 61) - 60) with ⟨e7, q8⟩ | ⟨q8, n6, qn6, e7⟩
        · rw [e7]
          refine fe_s 1 (pc' := cond (fx_cb .ne 116 (-1)) 106 102) (lc' := [(6, .int 61), (5, .int 1), (4, .int 62), (3, .int 60), (2, .int 10), (0, .ref 0), (1, .ref 22)]) (stk' := []) (mem' := fm g tp bt a b) (fun _ _ _ => rfl) ?_
          rw [show (fx_cb .ne 116 (-1)) = true from by decide]
          dsimp only [cond]
          refine fe_s 6 (pc' := 72) (lc' := [(6, .int (61 + 1)), (5, .int 0), (4, .int 62), (3, .int 60), (2, .int 10), (0, .ref 0), (1, .ref 22)]) (stk' := [.int 62, .int (61 + 1)]) (mem' := fm g tp bt a b) (fun _ _ _ => rfl) ?_
          rw [show (61 + 1 : Int32) = 62 from rfl]
          refine fe_s 1 (pc' := cond (fx_cb .ge 62 62) 115 75) (lc' := [(6, .int 62), (5, .int 0), (4, .int 62), (3, .int 60), (2, .int 10), (0, .ref 0), (1, .ref 22)]) (stk' := []) (mem' := fm g tp bt a b) (fun _ _ _ => rfl) ?_
          rw [show (fx_cb .ge 62 62) = true from by decide]
          dsimp only [cond]
          refine fe_s 1 (pc' := 117) (lc' := [(6, .int 62), (5, .int 0), (4, .int 62), (3, .int 60), (2, .int 10), (0, .ref 0), (1, .ref 22)]) (stk' := [.int 0]) (mem' := fm g tp bt a b) (fun _ _ _ => rfl) ?_
          refine fe_s 1 (pc' := cond (fx_cb .eq 0 0) 122 120) (lc' := [(6, .int 62), (5, .int 0), (4, .int 62), (3, .int 60), (2, .int 10), (0, .ref 0), (1, .ref 22)]) (stk' := []) (mem' := fm g tp bt a b) (fun _ _ _ => rfl) ?_
          rw [show (fx_cb .eq 0 0) = true from by decide]
          dsimp only [cond]
          refine fe_s 6 (pc' := 14) (lc' := [(3, .int (62 + 1)), (2, .int (10 + 1)), (6, .int 62), (5, .int 0), (4, .int 62), (0, .ref 0), (1, .ref 22)]) (stk' := []) (mem' := fm g tp bt a b) (fun _ _ _ => rfl) ?_
          rw [show (62 + 1 : Int32) = 63 from rfl]
          rw [show (10 + 1 : Int32) = 11 from rfl]
          refine fe_w (lc' := [(3, .int 63), (2, .int 11), (0, .ref 0), (1, .ref 22)]) ⟨rfl, rfl, rfl, rfl, trivial⟩ (by show List.Nodup [3, 2, 0, 1]; decide) (by show List.Nodup [3, 2, 6, 5, 4, 0, 1]; decide) ?_
          exact fw_11 hxp
        · rw [e7]
          refine fe_s 1 (pc' := cond (fx_cb .ne 116 (nI n6)) 106 102) (lc' := [(6, .int 61), (5, .int 1), (4, .int 62), (3, .int 60), (2, .int 10), (0, .ref 0), (1, .ref 22)]) (stk' := []) (mem' := fm g tp bt a b) (fun _ _ _ => rfl) ?_
          by_cases h9 : 116 = n6
          · rw [show (fx_cb .ne 116 (nI n6)) = false from cb_neF (a := 116) (b := n6) (by omega) (by omega) (by omega)]
            dsimp only [cond]
            refine fe_s 7 (pc' := 72) (lc' := [(6, .int (61 + 1)), (5, .int 1), (4, .int 62), (3, .int 60), (2, .int 10), (0, .ref 0), (1, .ref 22)]) (stk' := [.int 62, .int (61 + 1)]) (mem' := fm g tp bt a b) (fun _ _ _ => rfl) ?_
            rw [show (61 + 1 : Int32) = 62 from rfl]
            refine fe_s 1 (pc' := cond (fx_cb .ge 62 62) 115 75) (lc' := [(6, .int 62), (5, .int 1), (4, .int 62), (3, .int 60), (2, .int 10), (0, .ref 0), (1, .ref 22)]) (stk' := []) (mem' := fm g tp bt a b) (fun _ _ _ => rfl) ?_
            rw [show (fx_cb .ge 62 62) = true from by decide]
            dsimp only [cond]
            refine fe_s 1 (pc' := 117) (lc' := [(6, .int 62), (5, .int 1), (4, .int 62), (3, .int 60), (2, .int 10), (0, .ref 0), (1, .ref 22)]) (stk' := [.int 1]) (mem' := fm g tp bt a b) (fun _ _ _ => rfl) ?_
            refine fe_s 1 (pc' := cond (fx_cb .eq 1 0) 122 120) (lc' := [(6, .int 62), (5, .int 1), (4, .int 62), (3, .int 60), (2, .int 10), (0, .ref 0), (1, .ref 22)]) (stk' := []) (mem' := fm g tp bt a b) (fun _ _ _ => rfl) ?_
            rw [show (fx_cb .eq 1 0) = false from by decide]
            dsimp only [cond]
            refine fe_s 1 (pc' := 121) (lc' := [(6, .int 62), (5, .int 1), (4, .int 62), (3, .int 60), (2, .int 10), (0, .ref 0), (1, .ref 22)]) (stk' := [.int 10]) (mem' := fm g tp bt a b) (fun _ _ _ => rfl) ?_
            exact fe_ret ⟨_, Or.inr ⟨10, by omega, rfl⟩, rfl⟩ (by rfl) (by rfl) (by rfl)
          · rw [show (fx_cb .ne 116 (nI n6)) = true from cb_neT (a := 116) (b := n6) (by omega) (by omega) (by omega)]
            dsimp only [cond]
            refine fe_s 6 (pc' := 72) (lc' := [(6, .int (61 + 1)), (5, .int 0), (4, .int 62), (3, .int 60), (2, .int 10), (0, .ref 0), (1, .ref 22)]) (stk' := [.int 62, .int (61 + 1)]) (mem' := fm g tp bt a b) (fun _ _ _ => rfl) ?_
            rw [show (61 + 1 : Int32) = 62 from rfl]
            refine fe_s 1 (pc' := cond (fx_cb .ge 62 62) 115 75) (lc' := [(6, .int 62), (5, .int 0), (4, .int 62), (3, .int 60), (2, .int 10), (0, .ref 0), (1, .ref 22)]) (stk' := []) (mem' := fm g tp bt a b) (fun _ _ _ => rfl) ?_
            rw [show (fx_cb .ge 62 62) = true from by decide]
            dsimp only [cond]
            refine fe_s 1 (pc' := 117) (lc' := [(6, .int 62), (5, .int 0), (4, .int 62), (3, .int 60), (2, .int 10), (0, .ref 0), (1, .ref 22)]) (stk' := [.int 0]) (mem' := fm g tp bt a b) (fun _ _ _ => rfl) ?_
            refine fe_s 1 (pc' := cond (fx_cb .eq 0 0) 122 120) (lc' := [(6, .int 62), (5, .int 0), (4, .int 62), (3, .int 60), (2, .int 10), (0, .ref 0), (1, .ref 22)]) (stk' := []) (mem' := fm g tp bt a b) (fun _ _ _ => rfl) ?_
            rw [show (fx_cb .eq 0 0) = true from by decide]
            dsimp only [cond]
            refine fe_s 6 (pc' := 14) (lc' := [(3, .int (62 + 1)), (2, .int (10 + 1)), (6, .int 62), (5, .int 0), (4, .int 62), (0, .ref 0), (1, .ref 22)]) (stk' := []) (mem' := fm g tp bt a b) (fun _ _ _ => rfl) ?_
            rw [show (62 + 1 : Int32) = 63 from rfl]
            rw [show (10 + 1 : Int32) = 11 from rfl]
            refine fe_w (lc' := [(3, .int 63), (2, .int 11), (0, .ref 0), (1, .ref 22)]) ⟨rfl, rfl, rfl, rfl, trivial⟩ (by show List.Nodup [3, 2, 0, 1]; decide) (by show List.Nodup [3, 2, 6, 5, 4, 0, 1]; decide) ?_
            exact fw_11 hxp
      · rw [show (fx_cb .ne 97 (nI n2)) = true from cb_neT (a := 97) (b := n2) (by omega) (by omega) (by omega)]
        dsimp only [cond]
        refine fe_s 6 (pc' := 72) (lc' := [(6, .int (60 + 1)), (5, .int 0), (4, .int 62), (3, .int 60), (2, .int 10), (0, .ref 0), (1, .ref 22)]) (stk' := [.int 62, .int (60 + 1)]) (mem' := fm g tp bt a b) (fun _ _ _ => rfl) ?_
        rw [show (60 + 1 : Int32) = 61 from rfl]
        refine fe_s 1 (pc' := cond (fx_cb .ge 61 62) 115 75) (lc' := [(6, .int 61), (5, .int 0), (4, .int 62), (3, .int 60), (2, .int 10), (0, .ref 0), (1, .ref 22)]) (stk' := []) (mem' := fm g tp bt a b) (fun _ _ _ => rfl) ?_
        rw [show (fx_cb .ge 61 62) = false from by decide]
        dsimp only [cond]
        refine fe_s 1 (pc' := 77) (lc' := [(6, .int 61), (5, .int 0), (4, .int 62), (3, .int 60), (2, .int 10), (0, .ref 0), (1, .ref 22)]) (stk' := [.int 0]) (mem' := fm g tp bt a b) (fun _ _ _ => rfl) ?_
        refine fe_s 1 (pc' := cond (fx_cb .eq 0 0) 115 80) (lc' := [(6, .int 61), (5, .int 0), (4, .int 62), (3, .int 60), (2, .int 10), (0, .ref 0), (1, .ref 22)]) (stk' := []) (mem' := fm g tp bt a b) (fun _ _ _ => rfl) ?_
        rw [show (fx_cb .eq 0 0) = true from by decide]
        dsimp only [cond]
        refine fe_s 1 (pc' := 117) (lc' := [(6, .int 61), (5, .int 0), (4, .int 62), (3, .int 60), (2, .int 10), (0, .ref 0), (1, .ref 22)]) (stk' := [.int 0]) (mem' := fm g tp bt a b) (fun _ _ _ => rfl) ?_
        refine fe_s 1 (pc' := cond (fx_cb .eq 0 0) 122 120) (lc' := [(6, .int 61), (5, .int 0), (4, .int 62), (3, .int 60), (2, .int 10), (0, .ref 0), (1, .ref 22)]) (stk' := []) (mem' := fm g tp bt a b) (fun _ _ _ => rfl) ?_
        rw [show (fx_cb .eq 0 0) = true from by decide]
        dsimp only [cond]
        refine fe_s 6 (pc' := 14) (lc' := [(3, .int (62 + 1)), (2, .int (10 + 1)), (6, .int 61), (5, .int 0), (4, .int 62), (0, .ref 0), (1, .ref 22)]) (stk' := []) (mem' := fm g tp bt a b) (fun _ _ _ => rfl) ?_
        rw [show (62 + 1 : Int32) = 63 from rfl]
        rw [show (10 + 1 : Int32) = 11 from rfl]
        refine fe_w (lc' := [(3, .int 63), (2, .int 11), (0, .ref 0), (1, .ref 22)]) ⟨rfl, rfl, rfl, rfl, trivial⟩ (by show List.Nodup [3, 2, 0, 1]; decide) (by show List.Nodup [3, 2, 6, 5, 4, 0, 1]; decide) ?_
        exact fw_11 hxp
  · rw [show (fx_cb .ne 2 (nI (E - F))) = true from cb_neT (a := 2) (b := E - F) (by omega) (by omega) (by omega)]
    dsimp only [cond]
    refine fe_s 6 (pc' := 72) (lc' := [(6, .int 60), (5, .int 0), (4, .int 62), (3, .int 60), (2, .int 10), (0, .ref 0), (1, .ref 22)]) (stk' := [.int 62, .int 60]) (mem' := fm g tp bt a b) (fun _ _ _ => rfl) ?_
    refine fe_s 1 (pc' := cond (fx_cb .ge 60 62) 115 75) (lc' := [(6, .int 60), (5, .int 0), (4, .int 62), (3, .int 60), (2, .int 10), (0, .ref 0), (1, .ref 22)]) (stk' := []) (mem' := fm g tp bt a b) (fun _ _ _ => rfl) ?_
    rw [show (fx_cb .ge 60 62) = false from by decide]
    dsimp only [cond]
    refine fe_s 1 (pc' := 77) (lc' := [(6, .int 60), (5, .int 0), (4, .int 62), (3, .int 60), (2, .int 10), (0, .ref 0), (1, .ref 22)]) (stk' := [.int 0]) (mem' := fm g tp bt a b) (fun _ _ _ => rfl) ?_
    refine fe_s 1 (pc' := cond (fx_cb .eq 0 0) 115 80) (lc' := [(6, .int 60), (5, .int 0), (4, .int 62), (3, .int 60), (2, .int 10), (0, .ref 0), (1, .ref 22)]) (stk' := []) (mem' := fm g tp bt a b) (fun _ _ _ => rfl) ?_
    rw [show (fx_cb .eq 0 0) = true from by decide]
    dsimp only [cond]
    refine fe_s 1 (pc' := 117) (lc' := [(6, .int 60), (5, .int 0), (4, .int 62), (3, .int 60), (2, .int 10), (0, .ref 0), (1, .ref 22)]) (stk' := [.int 0]) (mem' := fm g tp bt a b) (fun _ _ _ => rfl) ?_
    refine fe_s 1 (pc' := cond (fx_cb .eq 0 0) 122 120) (lc' := [(6, .int 60), (5, .int 0), (4, .int 62), (3, .int 60), (2, .int 10), (0, .ref 0), (1, .ref 22)]) (stk' := []) (mem' := fm g tp bt a b) (fun _ _ _ => rfl) ?_
    rw [show (fx_cb .eq 0 0) = true from by decide]
    dsimp only [cond]
    refine fe_s 6 (pc' := 14) (lc' := [(3, .int (62 + 1)), (2, .int (10 + 1)), (6, .int 60), (5, .int 0), (4, .int 62), (0, .ref 0), (1, .ref 22)]) (stk' := []) (mem' := fm g tp bt a b) (fun _ _ _ => rfl) ?_
    rw [show (62 + 1 : Int32) = 63 from rfl]
    rw [show (10 + 1 : Int32) = 11 from rfl]
    refine fe_w (lc' := [(3, .int 63), (2, .int 11), (0, .ref 0), (1, .ref 22)]) ⟨rfl, rfl, rfl, rfl, trivial⟩ (by show List.Nodup [3, 2, 0, 1]; decide) (by show List.Nodup [3, 2, 6, 5, 4, 0, 1]; decide) ?_
    exact fw_11 hxp
theorem fw_9 {S E F : Nat} (hxp : fm_xp g S E F) : fe_R 1 gk_m226 14 [(3, .int 53), (2, .int 9), (0, .ref 0), (1, .ref 22)] [] (fm g tp bt a b) (fm_FI (fm g tp bt a b)) := by
  obtain ⟨h11, hS9, h14, hES, h13, hFE, -, -, -⟩ := id hxp
  refine fe_s 2 (pc' := 16) (lc' := [(3, .int 53), (2, .int 9), (0, .ref 0), (1, .ref 22)]) (stk' := [.ref 22, .int 53]) (mem' := fm g tp bt a b) (fun _ _ _ => rfl) ?_
  refine fe_s 1 (pc' := 19) (lc' := [(3, .int 53), (2, .int 9), (0, .ref 0), (1, .ref 22)]) (stk' := [.int 117, .int 53]) (mem' := fm g tp bt a b) (fun _ _ _ => rfl) ?_
  refine fe_s 1 (pc' := cond (fx_cb .ge 53 117) 133 22) (lc' := [(3, .int 53), (2, .int 9), (0, .ref 0), (1, .ref 22)]) (stk' := []) (mem' := fm g tp bt a b) (fun _ _ _ => rfl) ?_
  rw [show (fx_cb .ge 53 117) = false from by decide]
  dsimp only [cond]
  refine fe_s 4 (pc' := 28) (lc' := [(4, .int 53), (3, .int 53), (2, .int 9), (0, .ref 0), (1, .ref 22)]) (stk' := [.int 53, .ref 22]) (mem' := fm g tp bt a b) (fun _ _ _ => rfl) ?_
  refine fe_chr (i := 53) (by omega) (by rfl) (by rfl) ⟨by rfl, by rfl⟩ (by rfl) ?_
  rw [show sk_b.getD 53 0 = 119 from rfl]
  refine fe_s 1 (pc' := 33) (lc' := [(4, .int 53), (3, .int 53), (2, .int 9), (0, .ref 0), (1, .ref 22)]) (stk' := [.int 32, .int 119]) (mem' := fm g tp bt a b) (fun _ _ _ => rfl) ?_
  refine fe_s 1 (pc' := cond (fx_cb .eq 119 32) 42 36) (lc' := [(4, .int 53), (3, .int 53), (2, .int 9), (0, .ref 0), (1, .ref 22)]) (stk' := []) (mem' := fm g tp bt a b) (fun _ _ _ => rfl) ?_
  rw [show (fx_cb .eq 119 32) = false from by decide]
  dsimp only [cond]
  refine fe_s 4 (pc' := 28) (lc' := [(4, .int (53 + 1)), (3, .int 53), (2, .int 9), (0, .ref 0), (1, .ref 22)]) (stk' := [.int (53 + 1), .ref 22]) (mem' := fm g tp bt a b) (fun _ _ _ => rfl) ?_
  rw [show (53 + 1 : Int32) = 54 from rfl]
  refine fe_chr (i := 54) (by omega) (by rfl) (by rfl) ⟨by rfl, by rfl⟩ (by rfl) ?_
  rw [show sk_b.getD 54 0 = 101 from rfl]
  refine fe_s 1 (pc' := 33) (lc' := [(4, .int 54), (3, .int 53), (2, .int 9), (0, .ref 0), (1, .ref 22)]) (stk' := [.int 32, .int 101]) (mem' := fm g tp bt a b) (fun _ _ _ => rfl) ?_
  refine fe_s 1 (pc' := cond (fx_cb .eq 101 32) 42 36) (lc' := [(4, .int 54), (3, .int 53), (2, .int 9), (0, .ref 0), (1, .ref 22)]) (stk' := []) (mem' := fm g tp bt a b) (fun _ _ _ => rfl) ?_
  rw [show (fx_cb .eq 101 32) = false from by decide]
  dsimp only [cond]
  refine fe_s 4 (pc' := 28) (lc' := [(4, .int (54 + 1)), (3, .int 53), (2, .int 9), (0, .ref 0), (1, .ref 22)]) (stk' := [.int (54 + 1), .ref 22]) (mem' := fm g tp bt a b) (fun _ _ _ => rfl) ?_
  rw [show (54 + 1 : Int32) = 55 from rfl]
  refine fe_chr (i := 55) (by omega) (by rfl) (by rfl) ⟨by rfl, by rfl⟩ (by rfl) ?_
  rw [show sk_b.getD 55 0 = 105 from rfl]
  refine fe_s 1 (pc' := 33) (lc' := [(4, .int 55), (3, .int 53), (2, .int 9), (0, .ref 0), (1, .ref 22)]) (stk' := [.int 32, .int 105]) (mem' := fm g tp bt a b) (fun _ _ _ => rfl) ?_
  refine fe_s 1 (pc' := cond (fx_cb .eq 105 32) 42 36) (lc' := [(4, .int 55), (3, .int 53), (2, .int 9), (0, .ref 0), (1, .ref 22)]) (stk' := []) (mem' := fm g tp bt a b) (fun _ _ _ => rfl) ?_
  rw [show (fx_cb .eq 105 32) = false from by decide]
  dsimp only [cond]
  refine fe_s 4 (pc' := 28) (lc' := [(4, .int (55 + 1)), (3, .int 53), (2, .int 9), (0, .ref 0), (1, .ref 22)]) (stk' := [.int (55 + 1), .ref 22]) (mem' := fm g tp bt a b) (fun _ _ _ => rfl) ?_
  rw [show (55 + 1 : Int32) = 56 from rfl]
  refine fe_chr (i := 56) (by omega) (by rfl) (by rfl) ⟨by rfl, by rfl⟩ (by rfl) ?_
  rw [show sk_b.getD 56 0 = 103 from rfl]
  refine fe_s 1 (pc' := 33) (lc' := [(4, .int 56), (3, .int 53), (2, .int 9), (0, .ref 0), (1, .ref 22)]) (stk' := [.int 32, .int 103]) (mem' := fm g tp bt a b) (fun _ _ _ => rfl) ?_
  refine fe_s 1 (pc' := cond (fx_cb .eq 103 32) 42 36) (lc' := [(4, .int 56), (3, .int 53), (2, .int 9), (0, .ref 0), (1, .ref 22)]) (stk' := []) (mem' := fm g tp bt a b) (fun _ _ _ => rfl) ?_
  rw [show (fx_cb .eq 103 32) = false from by decide]
  dsimp only [cond]
  refine fe_s 4 (pc' := 28) (lc' := [(4, .int (56 + 1)), (3, .int 53), (2, .int 9), (0, .ref 0), (1, .ref 22)]) (stk' := [.int (56 + 1), .ref 22]) (mem' := fm g tp bt a b) (fun _ _ _ => rfl) ?_
  rw [show (56 + 1 : Int32) = 57 from rfl]
  refine fe_chr (i := 57) (by omega) (by rfl) (by rfl) ⟨by rfl, by rfl⟩ (by rfl) ?_
  rw [show sk_b.getD 57 0 = 104 from rfl]
  refine fe_s 1 (pc' := 33) (lc' := [(4, .int 57), (3, .int 53), (2, .int 9), (0, .ref 0), (1, .ref 22)]) (stk' := [.int 32, .int 104]) (mem' := fm g tp bt a b) (fun _ _ _ => rfl) ?_
  refine fe_s 1 (pc' := cond (fx_cb .eq 104 32) 42 36) (lc' := [(4, .int 57), (3, .int 53), (2, .int 9), (0, .ref 0), (1, .ref 22)]) (stk' := []) (mem' := fm g tp bt a b) (fun _ _ _ => rfl) ?_
  rw [show (fx_cb .eq 104 32) = false from by decide]
  dsimp only [cond]
  refine fe_s 4 (pc' := 28) (lc' := [(4, .int (57 + 1)), (3, .int 53), (2, .int 9), (0, .ref 0), (1, .ref 22)]) (stk' := [.int (57 + 1), .ref 22]) (mem' := fm g tp bt a b) (fun _ _ _ => rfl) ?_
  rw [show (57 + 1 : Int32) = 58 from rfl]
  refine fe_chr (i := 58) (by omega) (by rfl) (by rfl) ⟨by rfl, by rfl⟩ (by rfl) ?_
  rw [show sk_b.getD 58 0 = 115 from rfl]
  refine fe_s 1 (pc' := 33) (lc' := [(4, .int 58), (3, .int 53), (2, .int 9), (0, .ref 0), (1, .ref 22)]) (stk' := [.int 32, .int 115]) (mem' := fm g tp bt a b) (fun _ _ _ => rfl) ?_
  refine fe_s 1 (pc' := cond (fx_cb .eq 115 32) 42 36) (lc' := [(4, .int 58), (3, .int 53), (2, .int 9), (0, .ref 0), (1, .ref 22)]) (stk' := []) (mem' := fm g tp bt a b) (fun _ _ _ => rfl) ?_
  rw [show (fx_cb .eq 115 32) = false from by decide]
  dsimp only [cond]
  refine fe_s 4 (pc' := 28) (lc' := [(4, .int (58 + 1)), (3, .int 53), (2, .int 9), (0, .ref 0), (1, .ref 22)]) (stk' := [.int (58 + 1), .ref 22]) (mem' := fm g tp bt a b) (fun _ _ _ => rfl) ?_
  rw [show (58 + 1 : Int32) = 59 from rfl]
  refine fe_chr (i := 59) (by omega) (by rfl) (by rfl) ⟨by rfl, by rfl⟩ (by rfl) ?_
  rw [show sk_b.getD 59 0 = 32 from rfl]
  refine fe_s 1 (pc' := 33) (lc' := [(4, .int 59), (3, .int 53), (2, .int 9), (0, .ref 0), (1, .ref 22)]) (stk' := [.int 32, .int 32]) (mem' := fm g tp bt a b) (fun _ _ _ => rfl) ?_
  refine fe_s 1 (pc' := cond (fx_cb .eq 32 32) 42 36) (lc' := [(4, .int 59), (3, .int 53), (2, .int 9), (0, .ref 0), (1, .ref 22)]) (stk' := []) (mem' := fm g tp bt a b) (fun _ _ _ => rfl) ?_
  rw [show (fx_cb .eq 32 32) = true from by decide]
  dsimp only [cond]
  refine fe_s 8 (pc' := 55) (lc' := [(4, .int 59), (3, .int 53), (2, .int 9), (0, .ref 0), (1, .ref 22)]) (stk' := [.int ((g 14) - (g 13)), .int (59 - 53)]) (mem' := fm g tp bt a b) (fun _ _ _ => rfl) ?_
  try rw [h14]
  try rw [h13]
  rw [show (59 - 53 : Int32) = 6 from rfl]
  rw [show ((nI E) - (nI F) : Int32) = nI (E - F) from by simp only [tg_sub2 (x := E) (y := F) (by omega), nI_add, fm_mul]]
  refine fe_s 1 (pc' := cond (fx_cb .ne 6 (nI (E - F))) 62 58) (lc' := [(4, .int 59), (3, .int 53), (2, .int 9), (0, .ref 0), (1, .ref 22)]) (stk' := []) (mem' := fm g tp bt a b) (fun _ _ _ => rfl) ?_
  by_cases h1 : 6 = (E - F)
  · rw [show (fx_cb .ne 6 (nI (E - F))) = false from cb_neF (a := 6) (b := E - F) (by omega) (by omega) (by omega)]
    dsimp only [cond]
    refine fe_s 7 (pc' := 72) (lc' := [(6, .int 53), (5, .int 1), (4, .int 59), (3, .int 53), (2, .int 9), (0, .ref 0), (1, .ref 22)]) (stk' := [.int 59, .int 53]) (mem' := fm g tp bt a b) (fun _ _ _ => rfl) ?_
    refine fe_s 1 (pc' := cond (fx_cb .ge 53 59) 115 75) (lc' := [(6, .int 53), (5, .int 1), (4, .int 59), (3, .int 53), (2, .int 9), (0, .ref 0), (1, .ref 22)]) (stk' := []) (mem' := fm g tp bt a b) (fun _ _ _ => rfl) ?_
    rw [show (fx_cb .ge 53 59) = false from by decide]
    dsimp only [cond]
    refine fe_s 1 (pc' := 77) (lc' := [(6, .int 53), (5, .int 1), (4, .int 59), (3, .int 53), (2, .int 9), (0, .ref 0), (1, .ref 22)]) (stk' := [.int 1]) (mem' := fm g tp bt a b) (fun _ _ _ => rfl) ?_
    refine fe_s 1 (pc' := cond (fx_cb .eq 1 0) 115 80) (lc' := [(6, .int 53), (5, .int 1), (4, .int 59), (3, .int 53), (2, .int 9), (0, .ref 0), (1, .ref 22)]) (stk' := []) (mem' := fm g tp bt a b) (fun _ _ _ => rfl) ?_
    rw [show (fx_cb .eq 1 0) = false from by decide]
    dsimp only [cond]
    refine fe_s 2 (pc' := 83) (lc' := [(6, .int 53), (5, .int 1), (4, .int 59), (3, .int 53), (2, .int 9), (0, .ref 0), (1, .ref 22)]) (stk' := [.int 53, .ref 22]) (mem' := fm g tp bt a b) (fun _ _ _ => rfl) ?_
    refine fe_chr (i := 53) (by omega) (by rfl) (by rfl) ⟨by rfl, by rfl⟩ (by rfl) ?_
    rw [show sk_b.getD 53 0 = 119 from rfl]
    refine fe_s 7 (pc' := 96) (lc' := [(6, .int 53), (5, .int 1), (4, .int 59), (3, .int 53), (2, .int 9), (0, .ref 0), (1, .ref 22)]) (stk' := [.int (((g 13) + 53) - 53), .ref 0, .int 119]) (mem' := fm g tp bt a b) (fun _ _ _ => rfl) ?_
    try rw [h13]
    rw [show (((nI F) + 53) - 53 : Int32) = nI ((F + 53) - 53) from by simp only [show (53 : Int32) = nI 53 from rfl, tg_sub2 (x := F + 53) (y := 53) (by omega), nI_add, fm_mul]]
    refine fe_ivV (fr_byteAt (S := S) (k := (F + 53) - 53) (g := g) (tp := tp) (bt := bt) (a := a) (b := b) h11 (by omega) (by omega)) (by omega) (by rfl) (by rfl) (by rfl) (by rfl) (by rfl) (by rfl) ?_
    rcases fm_byte_or a S ((F + 53) - 53) with ⟨e3, q4⟩ | ⟨q4, n2, qn2, e3⟩
    · rw [e3]
      refine fe_s 1 (pc' := cond (fx_cb .ne 119 (-1)) 106 102) (lc' := [(6, .int 53), (5, .int 1), (4, .int 59), (3, .int 53), (2, .int 9), (0, .ref 0), (1, .ref 22)]) (stk' := []) (mem' := fm g tp bt a b) (fun _ _ _ => rfl) ?_
      rw [show (fx_cb .ne 119 (-1)) = true from by decide]
      dsimp only [cond]
      refine fe_s 6 (pc' := 72) (lc' := [(6, .int (53 + 1)), (5, .int 0), (4, .int 59), (3, .int 53), (2, .int 9), (0, .ref 0), (1, .ref 22)]) (stk' := [.int 59, .int (53 + 1)]) (mem' := fm g tp bt a b) (fun _ _ _ => rfl) ?_
      rw [show (53 + 1 : Int32) = 54 from rfl]
      refine fe_s 1 (pc' := cond (fx_cb .ge 54 59) 115 75) (lc' := [(6, .int 54), (5, .int 0), (4, .int 59), (3, .int 53), (2, .int 9), (0, .ref 0), (1, .ref 22)]) (stk' := []) (mem' := fm g tp bt a b) (fun _ _ _ => rfl) ?_
      rw [show (fx_cb .ge 54 59) = false from by decide]
      dsimp only [cond]
      refine fe_s 1 (pc' := 77) (lc' := [(6, .int 54), (5, .int 0), (4, .int 59), (3, .int 53), (2, .int 9), (0, .ref 0), (1, .ref 22)]) (stk' := [.int 0]) (mem' := fm g tp bt a b) (fun _ _ _ => rfl) ?_
      refine fe_s 1 (pc' := cond (fx_cb .eq 0 0) 115 80) (lc' := [(6, .int 54), (5, .int 0), (4, .int 59), (3, .int 53), (2, .int 9), (0, .ref 0), (1, .ref 22)]) (stk' := []) (mem' := fm g tp bt a b) (fun _ _ _ => rfl) ?_
      rw [show (fx_cb .eq 0 0) = true from by decide]
      dsimp only [cond]
      refine fe_s 1 (pc' := 117) (lc' := [(6, .int 54), (5, .int 0), (4, .int 59), (3, .int 53), (2, .int 9), (0, .ref 0), (1, .ref 22)]) (stk' := [.int 0]) (mem' := fm g tp bt a b) (fun _ _ _ => rfl) ?_
      refine fe_s 1 (pc' := cond (fx_cb .eq 0 0) 122 120) (lc' := [(6, .int 54), (5, .int 0), (4, .int 59), (3, .int 53), (2, .int 9), (0, .ref 0), (1, .ref 22)]) (stk' := []) (mem' := fm g tp bt a b) (fun _ _ _ => rfl) ?_
      rw [show (fx_cb .eq 0 0) = true from by decide]
      dsimp only [cond]
      refine fe_s 6 (pc' := 14) (lc' := [(3, .int (59 + 1)), (2, .int (9 + 1)), (6, .int 54), (5, .int 0), (4, .int 59), (0, .ref 0), (1, .ref 22)]) (stk' := []) (mem' := fm g tp bt a b) (fun _ _ _ => rfl) ?_
      rw [show (9 + 1 : Int32) = 10 from rfl]
      rw [show (59 + 1 : Int32) = 60 from rfl]
      refine fe_w (lc' := [(3, .int 60), (2, .int 10), (0, .ref 0), (1, .ref 22)]) ⟨rfl, rfl, rfl, rfl, trivial⟩ (by show List.Nodup [3, 2, 0, 1]; decide) (by show List.Nodup [3, 2, 6, 5, 4, 0, 1]; decide) ?_
      exact fw_10 hxp
    · rw [e3]
      refine fe_s 1 (pc' := cond (fx_cb .ne 119 (nI n2)) 106 102) (lc' := [(6, .int 53), (5, .int 1), (4, .int 59), (3, .int 53), (2, .int 9), (0, .ref 0), (1, .ref 22)]) (stk' := []) (mem' := fm g tp bt a b) (fun _ _ _ => rfl) ?_
      by_cases h5 : 119 = n2
      · rw [show (fx_cb .ne 119 (nI n2)) = false from cb_neF (a := 119) (b := n2) (by omega) (by omega) (by omega)]
        dsimp only [cond]
        refine fe_s 7 (pc' := 72) (lc' := [(6, .int (53 + 1)), (5, .int 1), (4, .int 59), (3, .int 53), (2, .int 9), (0, .ref 0), (1, .ref 22)]) (stk' := [.int 59, .int (53 + 1)]) (mem' := fm g tp bt a b) (fun _ _ _ => rfl) ?_
        rw [show (53 + 1 : Int32) = 54 from rfl]
        refine fe_s 1 (pc' := cond (fx_cb .ge 54 59) 115 75) (lc' := [(6, .int 54), (5, .int 1), (4, .int 59), (3, .int 53), (2, .int 9), (0, .ref 0), (1, .ref 22)]) (stk' := []) (mem' := fm g tp bt a b) (fun _ _ _ => rfl) ?_
        rw [show (fx_cb .ge 54 59) = false from by decide]
        dsimp only [cond]
        refine fe_s 1 (pc' := 77) (lc' := [(6, .int 54), (5, .int 1), (4, .int 59), (3, .int 53), (2, .int 9), (0, .ref 0), (1, .ref 22)]) (stk' := [.int 1]) (mem' := fm g tp bt a b) (fun _ _ _ => rfl) ?_
        refine fe_s 1 (pc' := cond (fx_cb .eq 1 0) 115 80) (lc' := [(6, .int 54), (5, .int 1), (4, .int 59), (3, .int 53), (2, .int 9), (0, .ref 0), (1, .ref 22)]) (stk' := []) (mem' := fm g tp bt a b) (fun _ _ _ => rfl) ?_
        rw [show (fx_cb .eq 1 0) = false from by decide]
        dsimp only [cond]
        refine fe_s 2 (pc' := 83) (lc' := [(6, .int 54), (5, .int 1), (4, .int 59), (3, .int 53), (2, .int 9), (0, .ref 0), (1, .ref 22)]) (stk' := [.int 54, .ref 22]) (mem' := fm g tp bt a b) (fun _ _ _ => rfl) ?_
        refine fe_chr (i := 54) (by omega) (by rfl) (by rfl) ⟨by rfl, by rfl⟩ (by rfl) ?_
        rw [show sk_b.getD 54 0 = 101 from rfl]
        refine fe_s 7 (pc' := 96) (lc' := [(6, .int 54), (5, .int 1), (4, .int 59), (3, .int 53), (2, .int 9), (0, .ref 0), (1, .ref 22)]) (stk' := [.int (((g 13) + 54) - 53), .ref 0, .int 101]) (mem' := fm g tp bt a b) (fun _ _ _ => rfl) ?_
        try rw [h13]
        rw [show (((nI F) + 54) - 53 : Int32) = nI ((F + 54) - 53) from by simp only [show (54 : Int32) = nI 54 from rfl, show (53 : Int32) = nI 53 from rfl, tg_sub2 (x := F + 54) (y := 53) (by omega), nI_add, fm_mul]]
        refine fe_ivV (fr_byteAt (S := S) (k := (F + 54) - 53) (g := g) (tp := tp) (bt := bt) (a := a) (b := b) h11 (by omega) (by omega)) (by omega) (by rfl) (by rfl) (by rfl) (by rfl) (by rfl) (by rfl) ?_
        rcases fm_byte_or a S ((F + 54) - 53) with ⟨e7, q8⟩ | ⟨q8, n6, qn6, e7⟩
        · rw [e7]
          refine fe_s 1 (pc' := cond (fx_cb .ne 101 (-1)) 106 102) (lc' := [(6, .int 54), (5, .int 1), (4, .int 59), (3, .int 53), (2, .int 9), (0, .ref 0), (1, .ref 22)]) (stk' := []) (mem' := fm g tp bt a b) (fun _ _ _ => rfl) ?_
          rw [show (fx_cb .ne 101 (-1)) = true from by decide]
          dsimp only [cond]
          refine fe_s 6 (pc' := 72) (lc' := [(6, .int (54 + 1)), (5, .int 0), (4, .int 59), (3, .int 53), (2, .int 9), (0, .ref 0), (1, .ref 22)]) (stk' := [.int 59, .int (54 + 1)]) (mem' := fm g tp bt a b) (fun _ _ _ => rfl) ?_
          rw [show (54 + 1 : Int32) = 55 from rfl]
          refine fe_s 1 (pc' := cond (fx_cb .ge 55 59) 115 75) (lc' := [(6, .int 55), (5, .int 0), (4, .int 59), (3, .int 53), (2, .int 9), (0, .ref 0), (1, .ref 22)]) (stk' := []) (mem' := fm g tp bt a b) (fun _ _ _ => rfl) ?_
          rw [show (fx_cb .ge 55 59) = false from by decide]
          dsimp only [cond]
          refine fe_s 1 (pc' := 77) (lc' := [(6, .int 55), (5, .int 0), (4, .int 59), (3, .int 53), (2, .int 9), (0, .ref 0), (1, .ref 22)]) (stk' := [.int 0]) (mem' := fm g tp bt a b) (fun _ _ _ => rfl) ?_
          refine fe_s 1 (pc' := cond (fx_cb .eq 0 0) 115 80) (lc' := [(6, .int 55), (5, .int 0), (4, .int 59), (3, .int 53), (2, .int 9), (0, .ref 0), (1, .ref 22)]) (stk' := []) (mem' := fm g tp bt a b) (fun _ _ _ => rfl) ?_
          rw [show (fx_cb .eq 0 0) = true from by decide]
          dsimp only [cond]
          refine fe_s 1 (pc' := 117) (lc' := [(6, .int 55), (5, .int 0), (4, .int 59), (3, .int 53), (2, .int 9), (0, .ref 0), (1, .ref 22)]) (stk' := [.int 0]) (mem' := fm g tp bt a b) (fun _ _ _ => rfl) ?_
          refine fe_s 1 (pc' := cond (fx_cb .eq 0 0) 122 120) (lc' := [(6, .int 55), (5, .int 0), (4, .int 59), (3, .int 53), (2, .int 9), (0, .ref 0), (1, .ref 22)]) (stk' := []) (mem' := fm g tp bt a b) (fun _ _ _ => rfl) ?_
          rw [show (fx_cb .eq 0 0) = true from by decide]
          dsimp only [cond]
          refine fe_s 6 (pc' := 14) (lc' := [(3, .int (59 + 1)), (2, .int (9 + 1)), (6, .int 55), (5, .int 0), (4, .int 59), (0, .ref 0), (1, .ref 22)]) (stk' := []) (mem' := fm g tp bt a b) (fun _ _ _ => rfl) ?_
          rw [show (9 + 1 : Int32) = 10 from rfl]
          rw [show (59 + 1 : Int32) = 60 from rfl]
          refine fe_w (lc' := [(3, .int 60), (2, .int 10), (0, .ref 0), (1, .ref 22)]) ⟨rfl, rfl, rfl, rfl, trivial⟩ (by show List.Nodup [3, 2, 0, 1]; decide) (by show List.Nodup [3, 2, 6, 5, 4, 0, 1]; decide) ?_
          exact fw_10 hxp
        · rw [e7]
          refine fe_s 1 (pc' := cond (fx_cb .ne 101 (nI n6)) 106 102) (lc' := [(6, .int 54), (5, .int 1), (4, .int 59), (3, .int 53), (2, .int 9), (0, .ref 0), (1, .ref 22)]) (stk' := []) (mem' := fm g tp bt a b) (fun _ _ _ => rfl) ?_
          by_cases h9 : 101 = n6
          · rw [show (fx_cb .ne 101 (nI n6)) = false from cb_neF (a := 101) (b := n6) (by omega) (by omega) (by omega)]
            dsimp only [cond]
            refine fe_s 7 (pc' := 72) (lc' := [(6, .int (54 + 1)), (5, .int 1), (4, .int 59), (3, .int 53), (2, .int 9), (0, .ref 0), (1, .ref 22)]) (stk' := [.int 59, .int (54 + 1)]) (mem' := fm g tp bt a b) (fun _ _ _ => rfl) ?_
            rw [show (54 + 1 : Int32) = 55 from rfl]
            refine fe_s 1 (pc' := cond (fx_cb .ge 55 59) 115 75) (lc' := [(6, .int 55), (5, .int 1), (4, .int 59), (3, .int 53), (2, .int 9), (0, .ref 0), (1, .ref 22)]) (stk' := []) (mem' := fm g tp bt a b) (fun _ _ _ => rfl) ?_
            rw [show (fx_cb .ge 55 59) = false from by decide]
            dsimp only [cond]
            refine fe_s 1 (pc' := 77) (lc' := [(6, .int 55), (5, .int 1), (4, .int 59), (3, .int 53), (2, .int 9), (0, .ref 0), (1, .ref 22)]) (stk' := [.int 1]) (mem' := fm g tp bt a b) (fun _ _ _ => rfl) ?_
            refine fe_s 1 (pc' := cond (fx_cb .eq 1 0) 115 80) (lc' := [(6, .int 55), (5, .int 1), (4, .int 59), (3, .int 53), (2, .int 9), (0, .ref 0), (1, .ref 22)]) (stk' := []) (mem' := fm g tp bt a b) (fun _ _ _ => rfl) ?_
            rw [show (fx_cb .eq 1 0) = false from by decide]
            dsimp only [cond]
            refine fe_s 2 (pc' := 83) (lc' := [(6, .int 55), (5, .int 1), (4, .int 59), (3, .int 53), (2, .int 9), (0, .ref 0), (1, .ref 22)]) (stk' := [.int 55, .ref 22]) (mem' := fm g tp bt a b) (fun _ _ _ => rfl) ?_
            refine fe_chr (i := 55) (by omega) (by rfl) (by rfl) ⟨by rfl, by rfl⟩ (by rfl) ?_
            rw [show sk_b.getD 55 0 = 105 from rfl]
            refine fe_s 7 (pc' := 96) (lc' := [(6, .int 55), (5, .int 1), (4, .int 59), (3, .int 53), (2, .int 9), (0, .ref 0), (1, .ref 22)]) (stk' := [.int (((g 13) + 55) - 53), .ref 0, .int 105]) (mem' := fm g tp bt a b) (fun _ _ _ => rfl) ?_
            try rw [h13]
            rw [show (((nI F) + 55) - 53 : Int32) = nI ((F + 55) - 53) from by simp only [show (55 : Int32) = nI 55 from rfl, show (53 : Int32) = nI 53 from rfl, tg_sub2 (x := F + 55) (y := 53) (by omega), nI_add, fm_mul]]
            refine fe_ivV (fr_byteAt (S := S) (k := (F + 55) - 53) (g := g) (tp := tp) (bt := bt) (a := a) (b := b) h11 (by omega) (by omega)) (by omega) (by rfl) (by rfl) (by rfl) (by rfl) (by rfl) (by rfl) ?_
            rcases fm_byte_or a S ((F + 55) - 53) with ⟨e11, q12⟩ | ⟨q12, n10, qn10, e11⟩
            · rw [e11]
              refine fe_s 1 (pc' := cond (fx_cb .ne 105 (-1)) 106 102) (lc' := [(6, .int 55), (5, .int 1), (4, .int 59), (3, .int 53), (2, .int 9), (0, .ref 0), (1, .ref 22)]) (stk' := []) (mem' := fm g tp bt a b) (fun _ _ _ => rfl) ?_
              rw [show (fx_cb .ne 105 (-1)) = true from by decide]
              dsimp only [cond]
              refine fe_s 6 (pc' := 72) (lc' := [(6, .int (55 + 1)), (5, .int 0), (4, .int 59), (3, .int 53), (2, .int 9), (0, .ref 0), (1, .ref 22)]) (stk' := [.int 59, .int (55 + 1)]) (mem' := fm g tp bt a b) (fun _ _ _ => rfl) ?_
              rw [show (55 + 1 : Int32) = 56 from rfl]
              refine fe_s 1 (pc' := cond (fx_cb .ge 56 59) 115 75) (lc' := [(6, .int 56), (5, .int 0), (4, .int 59), (3, .int 53), (2, .int 9), (0, .ref 0), (1, .ref 22)]) (stk' := []) (mem' := fm g tp bt a b) (fun _ _ _ => rfl) ?_
              rw [show (fx_cb .ge 56 59) = false from by decide]
              dsimp only [cond]
              refine fe_s 1 (pc' := 77) (lc' := [(6, .int 56), (5, .int 0), (4, .int 59), (3, .int 53), (2, .int 9), (0, .ref 0), (1, .ref 22)]) (stk' := [.int 0]) (mem' := fm g tp bt a b) (fun _ _ _ => rfl) ?_
              refine fe_s 1 (pc' := cond (fx_cb .eq 0 0) 115 80) (lc' := [(6, .int 56), (5, .int 0), (4, .int 59), (3, .int 53), (2, .int 9), (0, .ref 0), (1, .ref 22)]) (stk' := []) (mem' := fm g tp bt a b) (fun _ _ _ => rfl) ?_
              rw [show (fx_cb .eq 0 0) = true from by decide]
              dsimp only [cond]
              refine fe_s 1 (pc' := 117) (lc' := [(6, .int 56), (5, .int 0), (4, .int 59), (3, .int 53), (2, .int 9), (0, .ref 0), (1, .ref 22)]) (stk' := [.int 0]) (mem' := fm g tp bt a b) (fun _ _ _ => rfl) ?_
              refine fe_s 1 (pc' := cond (fx_cb .eq 0 0) 122 120) (lc' := [(6, .int 56), (5, .int 0), (4, .int 59), (3, .int 53), (2, .int 9), (0, .ref 0), (1, .ref 22)]) (stk' := []) (mem' := fm g tp bt a b) (fun _ _ _ => rfl) ?_
              rw [show (fx_cb .eq 0 0) = true from by decide]
              dsimp only [cond]
              refine fe_s 6 (pc' := 14) (lc' := [(3, .int (59 + 1)), (2, .int (9 + 1)), (6, .int 56), (5, .int 0), (4, .int 59), (0, .ref 0), (1, .ref 22)]) (stk' := []) (mem' := fm g tp bt a b) (fun _ _ _ => rfl) ?_
              rw [show (9 + 1 : Int32) = 10 from rfl]
              rw [show (59 + 1 : Int32) = 60 from rfl]
              refine fe_w (lc' := [(3, .int 60), (2, .int 10), (0, .ref 0), (1, .ref 22)]) ⟨rfl, rfl, rfl, rfl, trivial⟩ (by show List.Nodup [3, 2, 0, 1]; decide) (by show List.Nodup [3, 2, 6, 5, 4, 0, 1]; decide) ?_
              exact fw_10 hxp
            · rw [e11]
              refine fe_s 1 (pc' := cond (fx_cb .ne 105 (nI n10)) 106 102) (lc' := [(6, .int 55), (5, .int 1), (4, .int 59), (3, .int 53), (2, .int 9), (0, .ref 0), (1, .ref 22)]) (stk' := []) (mem' := fm g tp bt a b) (fun _ _ _ => rfl) ?_
              by_cases h13 : 105 = n10
              · rw [show (fx_cb .ne 105 (nI n10)) = false from cb_neF (a := 105) (b := n10) (by omega) (by omega) (by omega)]
                dsimp only [cond]
                refine fe_s 7 (pc' := 72) (lc' := [(6, .int (55 + 1)), (5, .int 1), (4, .int 59), (3, .int 53), (2, .int 9), (0, .ref 0), (1, .ref 22)]) (stk' := [.int 59, .int (55 + 1)]) (mem' := fm g tp bt a b) (fun _ _ _ => rfl) ?_
                rw [show (55 + 1 : Int32) = 56 from rfl]
                refine fe_s 1 (pc' := cond (fx_cb .ge 56 59) 115 75) (lc' := [(6, .int 56), (5, .int 1), (4, .int 59), (3, .int 53), (2, .int 9), (0, .ref 0), (1, .ref 22)]) (stk' := []) (mem' := fm g tp bt a b) (fun _ _ _ => rfl) ?_
                rw [show (fx_cb .ge 56 59) = false from by decide]
                dsimp only [cond]
                refine fe_s 1 (pc' := 77) (lc' := [(6, .int 56), (5, .int 1), (4, .int 59), (3, .int 53), (2, .int 9), (0, .ref 0), (1, .ref 22)]) (stk' := [.int 1]) (mem' := fm g tp bt a b) (fun _ _ _ => rfl) ?_
                refine fe_s 1 (pc' := cond (fx_cb .eq 1 0) 115 80) (lc' := [(6, .int 56), (5, .int 1), (4, .int 59), (3, .int 53), (2, .int 9), (0, .ref 0), (1, .ref 22)]) (stk' := []) (mem' := fm g tp bt a b) (fun _ _ _ => rfl) ?_
                rw [show (fx_cb .eq 1 0) = false from by decide]
                dsimp only [cond]
                refine fe_s 2 (pc' := 83) (lc' := [(6, .int 56), (5, .int 1), (4, .int 59), (3, .int 53), (2, .int 9), (0, .ref 0), (1, .ref 22)]) (stk' := [.int 56, .ref 22]) (mem' := fm g tp bt a b) (fun _ _ _ => rfl) ?_
                refine fe_chr (i := 56) (by omega) (by rfl) (by rfl) ⟨by rfl, by rfl⟩ (by rfl) ?_
                rw [show sk_b.getD 56 0 = 103 from rfl]
                refine fe_s 7 (pc' := 96) (lc' := [(6, .int 56), (5, .int 1), (4, .int 59), (3, .int 53), (2, .int 9), (0, .ref 0), (1, .ref 22)]) (stk' := [.int (((g 13) + 56) - 53), .ref 0, .int 103]) (mem' := fm g tp bt a b) (fun _ _ _ => rfl) ?_
                try rw [h13]
                rw [show (((nI F) + 56) - 53 : Int32) = nI ((F + 56) - 53) from by simp only [show (56 : Int32) = nI 56 from rfl, show (53 : Int32) = nI 53 from rfl, tg_sub2 (x := F + 56) (y := 53) (by omega), nI_add, fm_mul]]
                refine fe_ivV (fr_byteAt (S := S) (k := (F + 56) - 53) (g := g) (tp := tp) (bt := bt) (a := a) (b := b) h11 (by omega) (by omega)) (by omega) (by rfl) (by rfl) (by rfl) (by rfl) (by rfl) (by rfl) ?_
                rcases fm_byte_or a S ((F + 56) - 53) with ⟨e15, q16⟩ | ⟨q16, n14, qn14, e15⟩
                · rw [e15]
                  refine fe_s 1 (pc' := cond (fx_cb .ne 103 (-1)) 106 102) (lc' := [(6, .int 56), (5, .int 1), (4, .int 59), (3, .int 53), (2, .int 9), (0, .ref 0), (1, .ref 22)]) (stk' := []) (mem' := fm g tp bt a b) (fun _ _ _ => rfl) ?_
                  rw [show (fx_cb .ne 103 (-1)) = true from by decide]
                  dsimp only [cond]
                  refine fe_s 6 (pc' := 72) (lc' := [(6, .int (56 + 1)), (5, .int 0), (4, .int 59), (3, .int 53), (2, .int 9), (0, .ref 0), (1, .ref 22)]) (stk' := [.int 59, .int (56 + 1)]) (mem' := fm g tp bt a b) (fun _ _ _ => rfl) ?_
                  rw [show (56 + 1 : Int32) = 57 from rfl]
                  refine fe_s 1 (pc' := cond (fx_cb .ge 57 59) 115 75) (lc' := [(6, .int 57), (5, .int 0), (4, .int 59), (3, .int 53), (2, .int 9), (0, .ref 0), (1, .ref 22)]) (stk' := []) (mem' := fm g tp bt a b) (fun _ _ _ => rfl) ?_
                  rw [show (fx_cb .ge 57 59) = false from by decide]
                  dsimp only [cond]
                  refine fe_s 1 (pc' := 77) (lc' := [(6, .int 57), (5, .int 0), (4, .int 59), (3, .int 53), (2, .int 9), (0, .ref 0), (1, .ref 22)]) (stk' := [.int 0]) (mem' := fm g tp bt a b) (fun _ _ _ => rfl) ?_
                  refine fe_s 1 (pc' := cond (fx_cb .eq 0 0) 115 80) (lc' := [(6, .int 57), (5, .int 0), (4, .int 59), (3, .int 53), (2, .int 9), (0, .ref 0), (1, .ref 22)]) (stk' := []) (mem' := fm g tp bt a b) (fun _ _ _ => rfl) ?_
                  rw [show (fx_cb .eq 0 0) = true from by decide]
                  dsimp only [cond]
                  refine fe_s 1 (pc' := 117) (lc' := [(6, .int 57), (5, .int 0), (4, .int 59), (3, .int 53), (2, .int 9), (0, .ref 0), (1, .ref 22)]) (stk' := [.int 0]) (mem' := fm g tp bt a b) (fun _ _ _ => rfl) ?_
                  refine fe_s 1 (pc' := cond (fx_cb .eq 0 0) 122 120) (lc' := [(6, .int 57), (5, .int 0), (4, .int 59), (3, .int 53), (2, .int 9), (0, .ref 0), (1, .ref 22)]) (stk' := []) (mem' := fm g tp bt a b) (fun _ _ _ => rfl) ?_
                  rw [show (fx_cb .eq 0 0) = true from by decide]
                  dsimp only [cond]
                  refine fe_s 6 (pc' := 14) (lc' := [(3, .int (59 + 1)), (2, .int (9 + 1)), (6, .int 57), (5, .int 0), (4, .int 59), (0, .ref 0), (1, .ref 22)]) (stk' := []) (mem' := fm g tp bt a b) (fun _ _ _ => rfl) ?_
                  rw [show (9 + 1 : Int32) = 10 from rfl]
                  rw [show (59 + 1 : Int32) = 60 from rfl]
                  refine fe_w (lc' := [(3, .int 60), (2, .int 10), (0, .ref 0), (1, .ref 22)]) ⟨rfl, rfl, rfl, rfl, trivial⟩ (by show List.Nodup [3, 2, 0, 1]; decide) (by show List.Nodup [3, 2, 6, 5, 4, 0, 1]; decide) ?_
                  exact fw_10 hxp
                · rw [e15]
                  refine fe_s 1 (pc' := cond (fx_cb .ne 103 (nI n14)) 106 102) (lc' := [(6, .int 56), (5, .int 1), (4, .int 59), (3, .int 53), (2, .int 9), (0, .ref 0), (1, .ref 22)]) (stk' := []) (mem' := fm g tp bt a b) (fun _ _ _ => rfl) ?_
                  by_cases h17 : 103 = n14
                  · rw [show (fx_cb .ne 103 (nI n14)) = false from cb_neF (a := 103) (b := n14) (by omega) (by omega) (by omega)]
                    dsimp only [cond]
                    refine fe_s 7 (pc' := 72) (lc' := [(6, .int (56 + 1)), (5, .int 1), (4, .int 59), (3, .int 53), (2, .int 9), (0, .ref 0), (1, .ref 22)]) (stk' := [.int 59, .int (56 + 1)]) (mem' := fm g tp bt a b) (fun _ _ _ => rfl) ?_
                    rw [show (56 + 1 : Int32) = 57 from rfl]
                    refine fe_s 1 (pc' := cond (fx_cb .ge 57 59) 115 75) (lc' := [(6, .int 57), (5, .int 1), (4, .int 59), (3, .int 53), (2, .int 9), (0, .ref 0), (1, .ref 22)]) (stk' := []) (mem' := fm g tp bt a b) (fun _ _ _ => rfl) ?_
                    rw [show (fx_cb .ge 57 59) = false from by decide]
                    dsimp only [cond]
                    refine fe_s 1 (pc' := 77) (lc' := [(6, .int 57), (5, .int 1), (4, .int 59), (3, .int 53), (2, .int 9), (0, .ref 0), (1, .ref 22)]) (stk' := [.int 1]) (mem' := fm g tp bt a b) (fun _ _ _ => rfl) ?_
                    refine fe_s 1 (pc' := cond (fx_cb .eq 1 0) 115 80) (lc' := [(6, .int 57), (5, .int 1), (4, .int 59), (3, .int 53), (2, .int 9), (0, .ref 0), (1, .ref 22)]) (stk' := []) (mem' := fm g tp bt a b) (fun _ _ _ => rfl) ?_
                    rw [show (fx_cb .eq 1 0) = false from by decide]
                    dsimp only [cond]
                    refine fe_s 2 (pc' := 83) (lc' := [(6, .int 57), (5, .int 1), (4, .int 59), (3, .int 53), (2, .int 9), (0, .ref 0), (1, .ref 22)]) (stk' := [.int 57, .ref 22]) (mem' := fm g tp bt a b) (fun _ _ _ => rfl) ?_
                    refine fe_chr (i := 57) (by omega) (by rfl) (by rfl) ⟨by rfl, by rfl⟩ (by rfl) ?_
                    rw [show sk_b.getD 57 0 = 104 from rfl]
                    refine fe_s 7 (pc' := 96) (lc' := [(6, .int 57), (5, .int 1), (4, .int 59), (3, .int 53), (2, .int 9), (0, .ref 0), (1, .ref 22)]) (stk' := [.int (((g 13) + 57) - 53), .ref 0, .int 104]) (mem' := fm g tp bt a b) (fun _ _ _ => rfl) ?_
                    try rw [h13]
                    rw [show (((nI F) + 57) - 53 : Int32) = nI ((F + 57) - 53) from by simp only [show (57 : Int32) = nI 57 from rfl, show (53 : Int32) = nI 53 from rfl, tg_sub2 (x := F + 57) (y := 53) (by omega), nI_add, fm_mul]]
                    refine fe_ivV (fr_byteAt (S := S) (k := (F + 57) - 53) (g := g) (tp := tp) (bt := bt) (a := a) (b := b) h11 (by omega) (by omega)) (by omega) (by rfl) (by rfl) (by rfl) (by rfl) (by rfl) (by rfl) ?_
                    rcases fm_byte_or a S ((F + 57) - 53) with ⟨e19, q20⟩ | ⟨q20, n18, qn18, e19⟩
                    · rw [e19]
                      refine fe_s 1 (pc' := cond (fx_cb .ne 104 (-1)) 106 102) (lc' := [(6, .int 57), (5, .int 1), (4, .int 59), (3, .int 53), (2, .int 9), (0, .ref 0), (1, .ref 22)]) (stk' := []) (mem' := fm g tp bt a b) (fun _ _ _ => rfl) ?_
                      rw [show (fx_cb .ne 104 (-1)) = true from by decide]
                      dsimp only [cond]
                      refine fe_s 6 (pc' := 72) (lc' := [(6, .int (57 + 1)), (5, .int 0), (4, .int 59), (3, .int 53), (2, .int 9), (0, .ref 0), (1, .ref 22)]) (stk' := [.int 59, .int (57 + 1)]) (mem' := fm g tp bt a b) (fun _ _ _ => rfl) ?_
                      rw [show (57 + 1 : Int32) = 58 from rfl]
                      refine fe_s 1 (pc' := cond (fx_cb .ge 58 59) 115 75) (lc' := [(6, .int 58), (5, .int 0), (4, .int 59), (3, .int 53), (2, .int 9), (0, .ref 0), (1, .ref 22)]) (stk' := []) (mem' := fm g tp bt a b) (fun _ _ _ => rfl) ?_
                      rw [show (fx_cb .ge 58 59) = false from by decide]
                      dsimp only [cond]
                      refine fe_s 1 (pc' := 77) (lc' := [(6, .int 58), (5, .int 0), (4, .int 59), (3, .int 53), (2, .int 9), (0, .ref 0), (1, .ref 22)]) (stk' := [.int 0]) (mem' := fm g tp bt a b) (fun _ _ _ => rfl) ?_
                      refine fe_s 1 (pc' := cond (fx_cb .eq 0 0) 115 80) (lc' := [(6, .int 58), (5, .int 0), (4, .int 59), (3, .int 53), (2, .int 9), (0, .ref 0), (1, .ref 22)]) (stk' := []) (mem' := fm g tp bt a b) (fun _ _ _ => rfl) ?_
                      rw [show (fx_cb .eq 0 0) = true from by decide]
                      dsimp only [cond]
                      refine fe_s 1 (pc' := 117) (lc' := [(6, .int 58), (5, .int 0), (4, .int 59), (3, .int 53), (2, .int 9), (0, .ref 0), (1, .ref 22)]) (stk' := [.int 0]) (mem' := fm g tp bt a b) (fun _ _ _ => rfl) ?_
                      refine fe_s 1 (pc' := cond (fx_cb .eq 0 0) 122 120) (lc' := [(6, .int 58), (5, .int 0), (4, .int 59), (3, .int 53), (2, .int 9), (0, .ref 0), (1, .ref 22)]) (stk' := []) (mem' := fm g tp bt a b) (fun _ _ _ => rfl) ?_
                      rw [show (fx_cb .eq 0 0) = true from by decide]
                      dsimp only [cond]
                      refine fe_s 6 (pc' := 14) (lc' := [(3, .int (59 + 1)), (2, .int (9 + 1)), (6, .int 58), (5, .int 0), (4, .int 59), (0, .ref 0), (1, .ref 22)]) (stk' := []) (mem' := fm g tp bt a b) (fun _ _ _ => rfl) ?_
                      rw [show (9 + 1 : Int32) = 10 from rfl]
                      rw [show (59 + 1 : Int32) = 60 from rfl]
                      refine fe_w (lc' := [(3, .int 60), (2, .int 10), (0, .ref 0), (1, .ref 22)]) ⟨rfl, rfl, rfl, rfl, trivial⟩ (by show List.Nodup [3, 2, 0, 1]; decide) (by show List.Nodup [3, 2, 6, 5, 4, 0, 1]; decide) ?_
                      exact fw_10 hxp
                    · rw [e19]
                      refine fe_s 1 (pc' := cond (fx_cb .ne 104 (nI n18)) 106 102) (lc' := [(6, .int 57), (5, .int 1), (4, .int 59), (3, .int 53), (2, .int 9), (0, .ref 0), (1, .ref 22)]) (stk' := []) (mem' := fm g tp bt a b) (fun _ _ _ => rfl) ?_
                      by_cases h21 : 104 = n18
                      · rw [show (fx_cb .ne 104 (nI n18)) = false from cb_neF (a := 104) (b := n18) (by omega) (by omega) (by omega)]
                        dsimp only [cond]
                        refine fe_s 7 (pc' := 72) (lc' := [(6, .int (57 + 1)), (5, .int 1), (4, .int 59), (3, .int 53), (2, .int 9), (0, .ref 0), (1, .ref 22)]) (stk' := [.int 59, .int (57 + 1)]) (mem' := fm g tp bt a b) (fun _ _ _ => rfl) ?_
                        rw [show (57 + 1 : Int32) = 58 from rfl]
                        refine fe_s 1 (pc' := cond (fx_cb .ge 58 59) 115 75) (lc' := [(6, .int 58), (5, .int 1), (4, .int 59), (3, .int 53), (2, .int 9), (0, .ref 0), (1, .ref 22)]) (stk' := []) (mem' := fm g tp bt a b) (fun _ _ _ => rfl) ?_
                        rw [show (fx_cb .ge 58 59) = false from by decide]
                        dsimp only [cond]
                        refine fe_s 1 (pc' := 77) (lc' := [(6, .int 58), (5, .int 1), (4, .int 59), (3, .int 53), (2, .int 9), (0, .ref 0), (1, .ref 22)]) (stk' := [.int 1]) (mem' := fm g tp bt a b) (fun _ _ _ => rfl) ?_
                        refine fe_s 1 (pc' := cond (fx_cb .eq 1 0) 115 80) (lc' := [(6, .int 58), (5, .int 1), (4, .int 59), (3, .int 53), (2, .int 9), (0, .ref 0), (1, .ref 22)]) (stk' := []) (mem' := fm g tp bt a b) (fun _ _ _ => rfl) ?_
                        rw [show (fx_cb .eq 1 0) = false from by decide]
                        dsimp only [cond]
                        refine fe_s 2 (pc' := 83) (lc' := [(6, .int 58), (5, .int 1), (4, .int 59), (3, .int 53), (2, .int 9), (0, .ref 0), (1, .ref 22)]) (stk' := [.int 58, .ref 22]) (mem' := fm g tp bt a b) (fun _ _ _ => rfl) ?_
                        refine fe_chr (i := 58) (by omega) (by rfl) (by rfl) ⟨by rfl, by rfl⟩ (by rfl) ?_
                        rw [show sk_b.getD 58 0 = 115 from rfl]
                        refine fe_s 7 (pc' := 96) (lc' := [(6, .int 58), (5, .int 1), (4, .int 59), (3, .int 53), (2, .int 9), (0, .ref 0), (1, .ref 22)]) (stk' := [.int (((g 13) + 58) - 53), .ref 0, .int 115]) (mem' := fm g tp bt a b) (fun _ _ _ => rfl) ?_
                        try rw [h13]
                        rw [show (((nI F) + 58) - 53 : Int32) = nI ((F + 58) - 53) from by simp only [show (58 : Int32) = nI 58 from rfl, show (53 : Int32) = nI 53 from rfl, tg_sub2 (x := F + 58) (y := 53) (by omega), nI_add, fm_mul]]
                        refine fe_ivV (fr_byteAt (S := S) (k := (F + 58) - 53) (g := g) (tp := tp) (bt := bt) (a := a) (b := b) h11 (by omega) (by omega)) (by omega) (by rfl) (by rfl) (by rfl) (by rfl) (by rfl) (by rfl) ?_
                        rcases fm_byte_or a S ((F + 58) - 53) with ⟨e23, q24⟩ | ⟨q24, n22, qn22, e23⟩
                        · rw [e23]
                          refine fe_s 1 (pc' := cond (fx_cb .ne 115 (-1)) 106 102) (lc' := [(6, .int 58), (5, .int 1), (4, .int 59), (3, .int 53), (2, .int 9), (0, .ref 0), (1, .ref 22)]) (stk' := []) (mem' := fm g tp bt a b) (fun _ _ _ => rfl) ?_
                          rw [show (fx_cb .ne 115 (-1)) = true from by decide]
                          dsimp only [cond]
                          refine fe_s 6 (pc' := 72) (lc' := [(6, .int (58 + 1)), (5, .int 0), (4, .int 59), (3, .int 53), (2, .int 9), (0, .ref 0), (1, .ref 22)]) (stk' := [.int 59, .int (58 + 1)]) (mem' := fm g tp bt a b) (fun _ _ _ => rfl) ?_
                          rw [show (58 + 1 : Int32) = 59 from rfl]
                          refine fe_s 1 (pc' := cond (fx_cb .ge 59 59) 115 75) (lc' := [(6, .int 59), (5, .int 0), (4, .int 59), (3, .int 53), (2, .int 9), (0, .ref 0), (1, .ref 22)]) (stk' := []) (mem' := fm g tp bt a b) (fun _ _ _ => rfl) ?_
                          rw [show (fx_cb .ge 59 59) = true from by decide]
                          dsimp only [cond]
                          refine fe_s 1 (pc' := 117) (lc' := [(6, .int 59), (5, .int 0), (4, .int 59), (3, .int 53), (2, .int 9), (0, .ref 0), (1, .ref 22)]) (stk' := [.int 0]) (mem' := fm g tp bt a b) (fun _ _ _ => rfl) ?_
                          refine fe_s 1 (pc' := cond (fx_cb .eq 0 0) 122 120) (lc' := [(6, .int 59), (5, .int 0), (4, .int 59), (3, .int 53), (2, .int 9), (0, .ref 0), (1, .ref 22)]) (stk' := []) (mem' := fm g tp bt a b) (fun _ _ _ => rfl) ?_
                          rw [show (fx_cb .eq 0 0) = true from by decide]
                          dsimp only [cond]
                          refine fe_s 6 (pc' := 14) (lc' := [(3, .int (59 + 1)), (2, .int (9 + 1)), (6, .int 59), (5, .int 0), (4, .int 59), (0, .ref 0), (1, .ref 22)]) (stk' := []) (mem' := fm g tp bt a b) (fun _ _ _ => rfl) ?_
                          rw [show (9 + 1 : Int32) = 10 from rfl]
                          rw [show (59 + 1 : Int32) = 60 from rfl]
                          refine fe_w (lc' := [(3, .int 60), (2, .int 10), (0, .ref 0), (1, .ref 22)]) ⟨rfl, rfl, rfl, rfl, trivial⟩ (by show List.Nodup [3, 2, 0, 1]; decide) (by show List.Nodup [3, 2, 6, 5, 4, 0, 1]; decide) ?_
                          exact fw_10 hxp
                        · rw [e23]
                          refine fe_s 1 (pc' := cond (fx_cb .ne 115 (nI n22)) 106 102) (lc' := [(6, .int 58), (5, .int 1), (4, .int 59), (3, .int 53), (2, .int 9), (0, .ref 0), (1, .ref 22)]) (stk' := []) (mem' := fm g tp bt a b) (fun _ _ _ => rfl) ?_
                          by_cases h25 : 115 = n22
                          · rw [show (fx_cb .ne 115 (nI n22)) = false from cb_neF (a := 115) (b := n22) (by omega) (by omega) (by omega)]
                            dsimp only [cond]
                            refine fe_s 7 (pc' := 72) (lc' := [(6, .int (58 + 1)), (5, .int 1), (4, .int 59), (3, .int 53), (2, .int 9), (0, .ref 0), (1, .ref 22)]) (stk' := [.int 59, .int (58 + 1)]) (mem' := fm g tp bt a b) (fun _ _ _ => rfl) ?_
                            rw [show (58 + 1 : Int32) = 59 from rfl]
                            refine fe_s 1 (pc' := cond (fx_cb .ge 59 59) 115 75) (lc' := [(6, .int 59), (5, .int 1), (4, .int 59), (3, .int 53), (2, .int 9), (0, .ref 0), (1, .ref 22)]) (stk' := []) (mem' := fm g tp bt a b) (fun _ _ _ => rfl) ?_
                            rw [show (fx_cb .ge 59 59) = true from by decide]
                            dsimp only [cond]
                            refine fe_s 1 (pc' := 117) (lc' := [(6, .int 59), (5, .int 1), (4, .int 59), (3, .int 53), (2, .int 9), (0, .ref 0), (1, .ref 22)]) (stk' := [.int 1]) (mem' := fm g tp bt a b) (fun _ _ _ => rfl) ?_
                            refine fe_s 1 (pc' := cond (fx_cb .eq 1 0) 122 120) (lc' := [(6, .int 59), (5, .int 1), (4, .int 59), (3, .int 53), (2, .int 9), (0, .ref 0), (1, .ref 22)]) (stk' := []) (mem' := fm g tp bt a b) (fun _ _ _ => rfl) ?_
                            rw [show (fx_cb .eq 1 0) = false from by decide]
                            dsimp only [cond]
                            refine fe_s 1 (pc' := 121) (lc' := [(6, .int 59), (5, .int 1), (4, .int 59), (3, .int 53), (2, .int 9), (0, .ref 0), (1, .ref 22)]) (stk' := [.int 9]) (mem' := fm g tp bt a b) (fun _ _ _ => rfl) ?_
                            exact fe_ret ⟨_, Or.inr ⟨9, by omega, rfl⟩, rfl⟩ (by rfl) (by rfl) (by rfl)
                          · rw [show (fx_cb .ne 115 (nI n22)) = true from cb_neT (a := 115) (b := n22) (by omega) (by omega) (by omega)]
                            dsimp only [cond]
                            refine fe_s 6 (pc' := 72) (lc' := [(6, .int (58 + 1)), (5, .int 0), (4, .int 59), (3, .int 53), (2, .int 9), (0, .ref 0), (1, .ref 22)]) (stk' := [.int 59, .int (58 + 1)]) (mem' := fm g tp bt a b) (fun _ _ _ => rfl) ?_
                            rw [show (58 + 1 : Int32) = 59 from rfl]
                            refine fe_s 1 (pc' := cond (fx_cb .ge 59 59) 115 75) (lc' := [(6, .int 59), (5, .int 0), (4, .int 59), (3, .int 53), (2, .int 9), (0, .ref 0), (1, .ref 22)]) (stk' := []) (mem' := fm g tp bt a b) (fun _ _ _ => rfl) ?_
                            rw [show (fx_cb .ge 59 59) = true from by decide]
                            dsimp only [cond]
                            refine fe_s 1 (pc' := 117) (lc' := [(6, .int 59), (5, .int 0), (4, .int 59), (3, .int 53), (2, .int 9), (0, .ref 0), (1, .ref 22)]) (stk' := [.int 0]) (mem' := fm g tp bt a b) (fun _ _ _ => rfl) ?_
                            refine fe_s 1 (pc' := cond (fx_cb .eq 0 0) 122 120) (lc' := [(6, .int 59), (5, .int 0), (4, .int 59), (3, .int 53), (2, .int 9), (0, .ref 0), (1, .ref 22)]) (stk' := []) (mem' := fm g tp bt a b) (fun _ _ _ => rfl) ?_
                            rw [show (fx_cb .eq 0 0) = true from by decide]
                            dsimp only [cond]
                            refine fe_s 6 (pc' := 14) (lc' := [(3, .int (59 + 1)), (2, .int (9 + 1)), (6, .int 59), (5, .int 0), (4, .int 59), (0, .ref 0), (1, .ref 22)]) (stk' := []) (mem' := fm g tp bt a b) (fun _ _ _ => rfl) ?_
                            rw [show (9 + 1 : Int32) = 10 from rfl]
                            rw [show (59 + 1 : Int32) = 60 from rfl]
                            refine fe_w (lc' := [(3, .int 60), (2, .int 10), (0, .ref 0), (1, .ref 22)]) ⟨rfl, rfl, rfl, rfl, trivial⟩ (by show List.Nodup [3, 2, 0, 1]; decide) (by show List.Nodup [3, 2, 6, 5, 4, 0, 1]; decide) ?_
                            exact fw_10 hxp
                      · rw [show (fx_cb .ne 104 (nI n18)) = true from cb_neT (a := 104) (b := n18) (by omega) (by omega) (by omega)]
                        dsimp only [cond]
                        refine fe_s 6 (pc' := 72) (lc' := [(6, .int (57 + 1)), (5, .int 0), (4, .int 59), (3, .int 53), (2, .int 9), (0, .ref 0), (1, .ref 22)]) (stk' := [.int 59, .int (57 + 1)]) (mem' := fm g tp bt a b) (fun _ _ _ => rfl) ?_
                        rw [show (57 + 1 : Int32) = 58 from rfl]
                        refine fe_s 1 (pc' := cond (fx_cb .ge 58 59) 115 75) (lc' := [(6, .int 58), (5, .int 0), (4, .int 59), (3, .int 53), (2, .int 9), (0, .ref 0), (1, .ref 22)]) (stk' := []) (mem' := fm g tp bt a b) (fun _ _ _ => rfl) ?_
                        rw [show (fx_cb .ge 58 59) = false from by decide]
                        dsimp only [cond]
                        refine fe_s 1 (pc' := 77) (lc' := [(6, .int 58), (5, .int 0), (4, .int 59), (3, .int 53), (2, .int 9), (0, .ref 0), (1, .ref 22)]) (stk' := [.int 0]) (mem' := fm g tp bt a b) (fun _ _ _ => rfl) ?_
                        refine fe_s 1 (pc' := cond (fx_cb .eq 0 0) 115 80) (lc' := [(6, .int 58), (5, .int 0), (4, .int 59), (3, .int 53), (2, .int 9), (0, .ref 0), (1, .ref 22)]) (stk' := []) (mem' := fm g tp bt a b) (fun _ _ _ => rfl) ?_
                        rw [show (fx_cb .eq 0 0) = true from by decide]
                        dsimp only [cond]
                        refine fe_s 1 (pc' := 117) (lc' := [(6, .int 58), (5, .int 0), (4, .int 59), (3, .int 53), (2, .int 9), (0, .ref 0), (1, .ref 22)]) (stk' := [.int 0]) (mem' := fm g tp bt a b) (fun _ _ _ => rfl) ?_
                        refine fe_s 1 (pc' := cond (fx_cb .eq 0 0) 122 120) (lc' := [(6, .int 58), (5, .int 0), (4, .int 59), (3, .int 53), (2, .int 9), (0, .ref 0), (1, .ref 22)]) (stk' := []) (mem' := fm g tp bt a b) (fun _ _ _ => rfl) ?_
                        rw [show (fx_cb .eq 0 0) = true from by decide]
                        dsimp only [cond]
                        refine fe_s 6 (pc' := 14) (lc' := [(3, .int (59 + 1)), (2, .int (9 + 1)), (6, .int 58), (5, .int 0), (4, .int 59), (0, .ref 0), (1, .ref 22)]) (stk' := []) (mem' := fm g tp bt a b) (fun _ _ _ => rfl) ?_
                        rw [show (9 + 1 : Int32) = 10 from rfl]
                        rw [show (59 + 1 : Int32) = 60 from rfl]
                        refine fe_w (lc' := [(3, .int 60), (2, .int 10), (0, .ref 0), (1, .ref 22)]) ⟨rfl, rfl, rfl, rfl, trivial⟩ (by show List.Nodup [3, 2, 0, 1]; decide) (by show List.Nodup [3, 2, 6, 5, 4, 0, 1]; decide) ?_
                        exact fw_10 hxp
                  · rw [show (fx_cb .ne 103 (nI n14)) = true from cb_neT (a := 103) (b := n14) (by omega) (by omega) (by omega)]
                    dsimp only [cond]
                    refine fe_s 6 (pc' := 72) (lc' := [(6, .int (56 + 1)), (5, .int 0), (4, .int 59), (3, .int 53), (2, .int 9), (0, .ref 0), (1, .ref 22)]) (stk' := [.int 59, .int (56 + 1)]) (mem' := fm g tp bt a b) (fun _ _ _ => rfl) ?_
                    rw [show (56 + 1 : Int32) = 57 from rfl]
                    refine fe_s 1 (pc' := cond (fx_cb .ge 57 59) 115 75) (lc' := [(6, .int 57), (5, .int 0), (4, .int 59), (3, .int 53), (2, .int 9), (0, .ref 0), (1, .ref 22)]) (stk' := []) (mem' := fm g tp bt a b) (fun _ _ _ => rfl) ?_
                    rw [show (fx_cb .ge 57 59) = false from by decide]
                    dsimp only [cond]
                    refine fe_s 1 (pc' := 77) (lc' := [(6, .int 57), (5, .int 0), (4, .int 59), (3, .int 53), (2, .int 9), (0, .ref 0), (1, .ref 22)]) (stk' := [.int 0]) (mem' := fm g tp bt a b) (fun _ _ _ => rfl) ?_
                    refine fe_s 1 (pc' := cond (fx_cb .eq 0 0) 115 80) (lc' := [(6, .int 57), (5, .int 0), (4, .int 59), (3, .int 53), (2, .int 9), (0, .ref 0), (1, .ref 22)]) (stk' := []) (mem' := fm g tp bt a b) (fun _ _ _ => rfl) ?_
                    rw [show (fx_cb .eq 0 0) = true from by decide]
                    dsimp only [cond]
                    refine fe_s 1 (pc' := 117) (lc' := [(6, .int 57), (5, .int 0), (4, .int 59), (3, .int 53), (2, .int 9), (0, .ref 0), (1, .ref 22)]) (stk' := [.int 0]) (mem' := fm g tp bt a b) (fun _ _ _ => rfl) ?_
                    refine fe_s 1 (pc' := cond (fx_cb .eq 0 0) 122 120) (lc' := [(6, .int 57), (5, .int 0), (4, .int 59), (3, .int 53), (2, .int 9), (0, .ref 0), (1, .ref 22)]) (stk' := []) (mem' := fm g tp bt a b) (fun _ _ _ => rfl) ?_
                    rw [show (fx_cb .eq 0 0) = true from by decide]
                    dsimp only [cond]
                    refine fe_s 6 (pc' := 14) (lc' := [(3, .int (59 + 1)), (2, .int (9 + 1)), (6, .int 57), (5, .int 0), (4, .int 59), (0, .ref 0), (1, .ref 22)]) (stk' := []) (mem' := fm g tp bt a b) (fun _ _ _ => rfl) ?_
                    rw [show (9 + 1 : Int32) = 10 from rfl]
                    rw [show (59 + 1 : Int32) = 60 from rfl]
                    refine fe_w (lc' := [(3, .int 60), (2, .int 10), (0, .ref 0), (1, .ref 22)]) ⟨rfl, rfl, rfl, rfl, trivial⟩ (by show List.Nodup [3, 2, 0, 1]; decide) (by show List.Nodup [3, 2, 6, 5, 4, 0, 1]; decide) ?_
                    exact fw_10 hxp
              · rw [show (fx_cb .ne 105 (nI n10)) = true from cb_neT (a := 105) (b := n10) (by omega) (by omega) (by omega)]
                dsimp only [cond]
                refine fe_s 6 (pc' := 72) (lc' := [(6, .int (55 + 1)), (5, .int 0), (4, .int 59), (3, .int 53), (2, .int 9), (0, .ref 0), (1, .ref 22)]) (stk' := [.int 59, .int (55 + 1)]) (mem' := fm g tp bt a b) (fun _ _ _ => rfl) ?_
                rw [show (55 + 1 : Int32) = 56 from rfl]
                refine fe_s 1 (pc' := cond (fx_cb .ge 56 59) 115 75) (lc' := [(6, .int 56), (5, .int 0), (4, .int 59), (3, .int 53), (2, .int 9), (0, .ref 0), (1, .ref 22)]) (stk' := []) (mem' := fm g tp bt a b) (fun _ _ _ => rfl) ?_
                rw [show (fx_cb .ge 56 59) = false from by decide]
                dsimp only [cond]
                refine fe_s 1 (pc' := 77) (lc' := [(6, .int 56), (5, .int 0), (4, .int 59), (3, .int 53), (2, .int 9), (0, .ref 0), (1, .ref 22)]) (stk' := [.int 0]) (mem' := fm g tp bt a b) (fun _ _ _ => rfl) ?_
                refine fe_s 1 (pc' := cond (fx_cb .eq 0 0) 115 80) (lc' := [(6, .int 56), (5, .int 0), (4, .int 59), (3, .int 53), (2, .int 9), (0, .ref 0), (1, .ref 22)]) (stk' := []) (mem' := fm g tp bt a b) (fun _ _ _ => rfl) ?_
                rw [show (fx_cb .eq 0 0) = true from by decide]
                dsimp only [cond]
                refine fe_s 1 (pc' := 117) (lc' := [(6, .int 56), (5, .int 0), (4, .int 59), (3, .int 53), (2, .int 9), (0, .ref 0), (1, .ref 22)]) (stk' := [.int 0]) (mem' := fm g tp bt a b) (fun _ _ _ => rfl) ?_
                refine fe_s 1 (pc' := cond (fx_cb .eq 0 0) 122 120) (lc' := [(6, .int 56), (5, .int 0), (4, .int 59), (3, .int 53), (2, .int 9), (0, .ref 0), (1, .ref 22)]) (stk' := []) (mem' := fm g tp bt a b) (fun _ _ _ => rfl) ?_
                rw [show (fx_cb .eq 0 0) = true from by decide]
                dsimp only [cond]
                refine fe_s 6 (pc' := 14) (lc' := [(3, .int (59 + 1)), (2, .int (9 + 1)), (6, .int 56), (5, .int 0), (4, .int 59), (0, .ref 0), (1, .ref 22)]) (stk' := []) (mem' := fm g tp bt a b) (fun _ _ _ => rfl) ?_
                rw [show (9 + 1 : Int32) = 10 from rfl]
                rw [show (59 + 1 : Int32) = 60 from rfl]
                refine fe_w (lc' := [(3, .int 60), (2, .int 10), (0, .ref 0), (1, .ref 22)]) ⟨rfl, rfl, rfl, rfl, trivial⟩ (by show List.Nodup [3, 2, 0, 1]; decide) (by show List.Nodup [3, 2, 6, 5, 4, 0, 1]; decide) ?_
                exact fw_10 hxp
          · rw [show (fx_cb .ne 101 (nI n6)) = true from cb_neT (a := 101) (b := n6) (by omega) (by omega) (by omega)]
            dsimp only [cond]
            refine fe_s 6 (pc' := 72) (lc' := [(6, .int (54 + 1)), (5, .int 0), (4, .int 59), (3, .int 53), (2, .int 9), (0, .ref 0), (1, .ref 22)]) (stk' := [.int 59, .int (54 + 1)]) (mem' := fm g tp bt a b) (fun _ _ _ => rfl) ?_
            rw [show (54 + 1 : Int32) = 55 from rfl]
            refine fe_s 1 (pc' := cond (fx_cb .ge 55 59) 115 75) (lc' := [(6, .int 55), (5, .int 0), (4, .int 59), (3, .int 53), (2, .int 9), (0, .ref 0), (1, .ref 22)]) (stk' := []) (mem' := fm g tp bt a b) (fun _ _ _ => rfl) ?_
            rw [show (fx_cb .ge 55 59) = false from by decide]
            dsimp only [cond]
            refine fe_s 1 (pc' := 77) (lc' := [(6, .int 55), (5, .int 0), (4, .int 59), (3, .int 53), (2, .int 9), (0, .ref 0), (1, .ref 22)]) (stk' := [.int 0]) (mem' := fm g tp bt a b) (fun _ _ _ => rfl) ?_
            refine fe_s 1 (pc' := cond (fx_cb .eq 0 0) 115 80) (lc' := [(6, .int 55), (5, .int 0), (4, .int 59), (3, .int 53), (2, .int 9), (0, .ref 0), (1, .ref 22)]) (stk' := []) (mem' := fm g tp bt a b) (fun _ _ _ => rfl) ?_
            rw [show (fx_cb .eq 0 0) = true from by decide]
            dsimp only [cond]
            refine fe_s 1 (pc' := 117) (lc' := [(6, .int 55), (5, .int 0), (4, .int 59), (3, .int 53), (2, .int 9), (0, .ref 0), (1, .ref 22)]) (stk' := [.int 0]) (mem' := fm g tp bt a b) (fun _ _ _ => rfl) ?_
            refine fe_s 1 (pc' := cond (fx_cb .eq 0 0) 122 120) (lc' := [(6, .int 55), (5, .int 0), (4, .int 59), (3, .int 53), (2, .int 9), (0, .ref 0), (1, .ref 22)]) (stk' := []) (mem' := fm g tp bt a b) (fun _ _ _ => rfl) ?_
            rw [show (fx_cb .eq 0 0) = true from by decide]
            dsimp only [cond]
            refine fe_s 6 (pc' := 14) (lc' := [(3, .int (59 + 1)), (2, .int (9 + 1)), (6, .int 55), (5, .int 0), (4, .int 59), (0, .ref 0), (1, .ref 22)]) (stk' := []) (mem' := fm g tp bt a b) (fun _ _ _ => rfl) ?_
            rw [show (9 + 1 : Int32) = 10 from rfl]
            rw [show (59 + 1 : Int32) = 60 from rfl]
            refine fe_w (lc' := [(3, .int 60), (2, .int 10), (0, .ref 0), (1, .ref 22)]) ⟨rfl, rfl, rfl, rfl, trivial⟩ (by show List.Nodup [3, 2, 0, 1]; decide) (by show List.Nodup [3, 2, 6, 5, 4, 0, 1]; decide) ?_
            exact fw_10 hxp
      · rw [show (fx_cb .ne 119 (nI n2)) = true from cb_neT (a := 119) (b := n2) (by omega) (by omega) (by omega)]
        dsimp only [cond]
        refine fe_s 6 (pc' := 72) (lc' := [(6, .int (53 + 1)), (5, .int 0), (4, .int 59), (3, .int 53), (2, .int 9), (0, .ref 0), (1, .ref 22)]) (stk' := [.int 59, .int (53 + 1)]) (mem' := fm g tp bt a b) (fun _ _ _ => rfl) ?_
        rw [show (53 + 1 : Int32) = 54 from rfl]
        refine fe_s 1 (pc' := cond (fx_cb .ge 54 59) 115 75) (lc' := [(6, .int 54), (5, .int 0), (4, .int 59), (3, .int 53), (2, .int 9), (0, .ref 0), (1, .ref 22)]) (stk' := []) (mem' := fm g tp bt a b) (fun _ _ _ => rfl) ?_
        rw [show (fx_cb .ge 54 59) = false from by decide]
        dsimp only [cond]
        refine fe_s 1 (pc' := 77) (lc' := [(6, .int 54), (5, .int 0), (4, .int 59), (3, .int 53), (2, .int 9), (0, .ref 0), (1, .ref 22)]) (stk' := [.int 0]) (mem' := fm g tp bt a b) (fun _ _ _ => rfl) ?_
        refine fe_s 1 (pc' := cond (fx_cb .eq 0 0) 115 80) (lc' := [(6, .int 54), (5, .int 0), (4, .int 59), (3, .int 53), (2, .int 9), (0, .ref 0), (1, .ref 22)]) (stk' := []) (mem' := fm g tp bt a b) (fun _ _ _ => rfl) ?_
        rw [show (fx_cb .eq 0 0) = true from by decide]
        dsimp only [cond]
        refine fe_s 1 (pc' := 117) (lc' := [(6, .int 54), (5, .int 0), (4, .int 59), (3, .int 53), (2, .int 9), (0, .ref 0), (1, .ref 22)]) (stk' := [.int 0]) (mem' := fm g tp bt a b) (fun _ _ _ => rfl) ?_
        refine fe_s 1 (pc' := cond (fx_cb .eq 0 0) 122 120) (lc' := [(6, .int 54), (5, .int 0), (4, .int 59), (3, .int 53), (2, .int 9), (0, .ref 0), (1, .ref 22)]) (stk' := []) (mem' := fm g tp bt a b) (fun _ _ _ => rfl) ?_
        rw [show (fx_cb .eq 0 0) = true from by decide]
        dsimp only [cond]
        refine fe_s 6 (pc' := 14) (lc' := [(3, .int (59 + 1)), (2, .int (9 + 1)), (6, .int 54), (5, .int 0), (4, .int 59), (0, .ref 0), (1, .ref 22)]) (stk' := []) (mem' := fm g tp bt a b) (fun _ _ _ => rfl) ?_
        rw [show (9 + 1 : Int32) = 10 from rfl]
        rw [show (59 + 1 : Int32) = 60 from rfl]
        refine fe_w (lc' := [(3, .int 60), (2, .int 10), (0, .ref 0), (1, .ref 22)]) ⟨rfl, rfl, rfl, rfl, trivial⟩ (by show List.Nodup [3, 2, 0, 1]; decide) (by show List.Nodup [3, 2, 6, 5, 4, 0, 1]; decide) ?_
        exact fw_10 hxp
  · rw [show (fx_cb .ne 6 (nI (E - F))) = true from cb_neT (a := 6) (b := E - F) (by omega) (by omega) (by omega)]
    dsimp only [cond]
    refine fe_s 6 (pc' := 72) (lc' := [(6, .int 53), (5, .int 0), (4, .int 59), (3, .int 53), (2, .int 9), (0, .ref 0), (1, .ref 22)]) (stk' := [.int 59, .int 53]) (mem' := fm g tp bt a b) (fun _ _ _ => rfl) ?_
    refine fe_s 1 (pc' := cond (fx_cb .ge 53 59) 115 75) (lc' := [(6, .int 53), (5, .int 0), (4, .int 59), (3, .int 53), (2, .int 9), (0, .ref 0), (1, .ref 22)]) (stk' := []) (mem' := fm g tp bt a b) (fun _ _ _ => rfl) ?_
    rw [show (fx_cb .ge 53 59) = false from by decide]
    dsimp only [cond]
    refine fe_s 1 (pc' := 77) (lc' := [(6, .int 53), (5, .int 0), (4, .int 59), (3, .int 53), (2, .int 9), (0, .ref 0), (1, .ref 22)]) (stk' := [.int 0]) (mem' := fm g tp bt a b) (fun _ _ _ => rfl) ?_
    refine fe_s 1 (pc' := cond (fx_cb .eq 0 0) 115 80) (lc' := [(6, .int 53), (5, .int 0), (4, .int 59), (3, .int 53), (2, .int 9), (0, .ref 0), (1, .ref 22)]) (stk' := []) (mem' := fm g tp bt a b) (fun _ _ _ => rfl) ?_
    rw [show (fx_cb .eq 0 0) = true from by decide]
    dsimp only [cond]
    refine fe_s 1 (pc' := 117) (lc' := [(6, .int 53), (5, .int 0), (4, .int 59), (3, .int 53), (2, .int 9), (0, .ref 0), (1, .ref 22)]) (stk' := [.int 0]) (mem' := fm g tp bt a b) (fun _ _ _ => rfl) ?_
    refine fe_s 1 (pc' := cond (fx_cb .eq 0 0) 122 120) (lc' := [(6, .int 53), (5, .int 0), (4, .int 59), (3, .int 53), (2, .int 9), (0, .ref 0), (1, .ref 22)]) (stk' := []) (mem' := fm g tp bt a b) (fun _ _ _ => rfl) ?_
    rw [show (fx_cb .eq 0 0) = true from by decide]
    dsimp only [cond]
    refine fe_s 6 (pc' := 14) (lc' := [(3, .int (59 + 1)), (2, .int (9 + 1)), (6, .int 53), (5, .int 0), (4, .int 59), (0, .ref 0), (1, .ref 22)]) (stk' := []) (mem' := fm g tp bt a b) (fun _ _ _ => rfl) ?_
    rw [show (9 + 1 : Int32) = 10 from rfl]
    rw [show (59 + 1 : Int32) = 60 from rfl]
    refine fe_w (lc' := [(3, .int 60), (2, .int 10), (0, .ref 0), (1, .ref 22)]) ⟨rfl, rfl, rfl, rfl, trivial⟩ (by show List.Nodup [3, 2, 0, 1]; decide) (by show List.Nodup [3, 2, 6, 5, 4, 0, 1]; decide) ?_
    exact fw_10 hxp
theorem fw_8 {S E F : Nat} (hxp : fm_xp g S E F) : fe_R 1 gk_m226 14 [(3, .int 47), (2, .int 8), (0, .ref 0), (1, .ref 22)] [] (fm g tp bt a b) (fm_FI (fm g tp bt a b)) := by
  obtain ⟨h11, hS9, h14, hES, h13, hFE, -, -, -⟩ := id hxp
  refine fe_s 2 (pc' := 16) (lc' := [(3, .int 47), (2, .int 8), (0, .ref 0), (1, .ref 22)]) (stk' := [.ref 22, .int 47]) (mem' := fm g tp bt a b) (fun _ _ _ => rfl) ?_
  refine fe_s 1 (pc' := 19) (lc' := [(3, .int 47), (2, .int 8), (0, .ref 0), (1, .ref 22)]) (stk' := [.int 117, .int 47]) (mem' := fm g tp bt a b) (fun _ _ _ => rfl) ?_
  refine fe_s 1 (pc' := cond (fx_cb .ge 47 117) 133 22) (lc' := [(3, .int 47), (2, .int 8), (0, .ref 0), (1, .ref 22)]) (stk' := []) (mem' := fm g tp bt a b) (fun _ _ _ => rfl) ?_
  rw [show (fx_cb .ge 47 117) = false from by decide]
  dsimp only [cond]
  refine fe_s 4 (pc' := 28) (lc' := [(4, .int 47), (3, .int 47), (2, .int 8), (0, .ref 0), (1, .ref 22)]) (stk' := [.int 47, .ref 22]) (mem' := fm g tp bt a b) (fun _ _ _ => rfl) ?_
  refine fe_chr (i := 47) (by omega) (by rfl) (by rfl) ⟨by rfl, by rfl⟩ (by rfl) ?_
  rw [show sk_b.getD 47 0 = 98 from rfl]
  refine fe_s 1 (pc' := 33) (lc' := [(4, .int 47), (3, .int 47), (2, .int 8), (0, .ref 0), (1, .ref 22)]) (stk' := [.int 32, .int 98]) (mem' := fm g tp bt a b) (fun _ _ _ => rfl) ?_
  refine fe_s 1 (pc' := cond (fx_cb .eq 98 32) 42 36) (lc' := [(4, .int 47), (3, .int 47), (2, .int 8), (0, .ref 0), (1, .ref 22)]) (stk' := []) (mem' := fm g tp bt a b) (fun _ _ _ => rfl) ?_
  rw [show (fx_cb .eq 98 32) = false from by decide]
  dsimp only [cond]
  refine fe_s 4 (pc' := 28) (lc' := [(4, .int (47 + 1)), (3, .int 47), (2, .int 8), (0, .ref 0), (1, .ref 22)]) (stk' := [.int (47 + 1), .ref 22]) (mem' := fm g tp bt a b) (fun _ _ _ => rfl) ?_
  rw [show (47 + 1 : Int32) = 48 from rfl]
  refine fe_chr (i := 48) (by omega) (by rfl) (by rfl) ⟨by rfl, by rfl⟩ (by rfl) ?_
  rw [show sk_b.getD 48 0 = 101 from rfl]
  refine fe_s 1 (pc' := 33) (lc' := [(4, .int 48), (3, .int 47), (2, .int 8), (0, .ref 0), (1, .ref 22)]) (stk' := [.int 32, .int 101]) (mem' := fm g tp bt a b) (fun _ _ _ => rfl) ?_
  refine fe_s 1 (pc' := cond (fx_cb .eq 101 32) 42 36) (lc' := [(4, .int 48), (3, .int 47), (2, .int 8), (0, .ref 0), (1, .ref 22)]) (stk' := []) (mem' := fm g tp bt a b) (fun _ _ _ => rfl) ?_
  rw [show (fx_cb .eq 101 32) = false from by decide]
  dsimp only [cond]
  refine fe_s 4 (pc' := 28) (lc' := [(4, .int (48 + 1)), (3, .int 47), (2, .int 8), (0, .ref 0), (1, .ref 22)]) (stk' := [.int (48 + 1), .ref 22]) (mem' := fm g tp bt a b) (fun _ _ _ => rfl) ?_
  rw [show (48 + 1 : Int32) = 49 from rfl]
  refine fe_chr (i := 49) (by omega) (by rfl) (by rfl) ⟨by rfl, by rfl⟩ (by rfl) ?_
  rw [show sk_b.getD 49 0 = 97 from rfl]
  refine fe_s 1 (pc' := 33) (lc' := [(4, .int 49), (3, .int 47), (2, .int 8), (0, .ref 0), (1, .ref 22)]) (stk' := [.int 32, .int 97]) (mem' := fm g tp bt a b) (fun _ _ _ => rfl) ?_
  refine fe_s 1 (pc' := cond (fx_cb .eq 97 32) 42 36) (lc' := [(4, .int 49), (3, .int 47), (2, .int 8), (0, .ref 0), (1, .ref 22)]) (stk' := []) (mem' := fm g tp bt a b) (fun _ _ _ => rfl) ?_
  rw [show (fx_cb .eq 97 32) = false from by decide]
  dsimp only [cond]
  refine fe_s 4 (pc' := 28) (lc' := [(4, .int (49 + 1)), (3, .int 47), (2, .int 8), (0, .ref 0), (1, .ref 22)]) (stk' := [.int (49 + 1), .ref 22]) (mem' := fm g tp bt a b) (fun _ _ _ => rfl) ?_
  rw [show (49 + 1 : Int32) = 50 from rfl]
  refine fe_chr (i := 50) (by omega) (by rfl) (by rfl) ⟨by rfl, by rfl⟩ (by rfl) ?_
  rw [show sk_b.getD 50 0 = 114 from rfl]
  refine fe_s 1 (pc' := 33) (lc' := [(4, .int 50), (3, .int 47), (2, .int 8), (0, .ref 0), (1, .ref 22)]) (stk' := [.int 32, .int 114]) (mem' := fm g tp bt a b) (fun _ _ _ => rfl) ?_
  refine fe_s 1 (pc' := cond (fx_cb .eq 114 32) 42 36) (lc' := [(4, .int 50), (3, .int 47), (2, .int 8), (0, .ref 0), (1, .ref 22)]) (stk' := []) (mem' := fm g tp bt a b) (fun _ _ _ => rfl) ?_
  rw [show (fx_cb .eq 114 32) = false from by decide]
  dsimp only [cond]
  refine fe_s 4 (pc' := 28) (lc' := [(4, .int (50 + 1)), (3, .int 47), (2, .int 8), (0, .ref 0), (1, .ref 22)]) (stk' := [.int (50 + 1), .ref 22]) (mem' := fm g tp bt a b) (fun _ _ _ => rfl) ?_
  rw [show (50 + 1 : Int32) = 51 from rfl]
  refine fe_chr (i := 51) (by omega) (by rfl) (by rfl) ⟨by rfl, by rfl⟩ (by rfl) ?_
  rw [show sk_b.getD 51 0 = 115 from rfl]
  refine fe_s 1 (pc' := 33) (lc' := [(4, .int 51), (3, .int 47), (2, .int 8), (0, .ref 0), (1, .ref 22)]) (stk' := [.int 32, .int 115]) (mem' := fm g tp bt a b) (fun _ _ _ => rfl) ?_
  refine fe_s 1 (pc' := cond (fx_cb .eq 115 32) 42 36) (lc' := [(4, .int 51), (3, .int 47), (2, .int 8), (0, .ref 0), (1, .ref 22)]) (stk' := []) (mem' := fm g tp bt a b) (fun _ _ _ => rfl) ?_
  rw [show (fx_cb .eq 115 32) = false from by decide]
  dsimp only [cond]
  refine fe_s 4 (pc' := 28) (lc' := [(4, .int (51 + 1)), (3, .int 47), (2, .int 8), (0, .ref 0), (1, .ref 22)]) (stk' := [.int (51 + 1), .ref 22]) (mem' := fm g tp bt a b) (fun _ _ _ => rfl) ?_
  rw [show (51 + 1 : Int32) = 52 from rfl]
  refine fe_chr (i := 52) (by omega) (by rfl) (by rfl) ⟨by rfl, by rfl⟩ (by rfl) ?_
  rw [show sk_b.getD 52 0 = 32 from rfl]
  refine fe_s 1 (pc' := 33) (lc' := [(4, .int 52), (3, .int 47), (2, .int 8), (0, .ref 0), (1, .ref 22)]) (stk' := [.int 32, .int 32]) (mem' := fm g tp bt a b) (fun _ _ _ => rfl) ?_
  refine fe_s 1 (pc' := cond (fx_cb .eq 32 32) 42 36) (lc' := [(4, .int 52), (3, .int 47), (2, .int 8), (0, .ref 0), (1, .ref 22)]) (stk' := []) (mem' := fm g tp bt a b) (fun _ _ _ => rfl) ?_
  rw [show (fx_cb .eq 32 32) = true from by decide]
  dsimp only [cond]
  refine fe_s 8 (pc' := 55) (lc' := [(4, .int 52), (3, .int 47), (2, .int 8), (0, .ref 0), (1, .ref 22)]) (stk' := [.int ((g 14) - (g 13)), .int (52 - 47)]) (mem' := fm g tp bt a b) (fun _ _ _ => rfl) ?_
  try rw [h14]
  try rw [h13]
  rw [show (52 - 47 : Int32) = 5 from rfl]
  rw [show ((nI E) - (nI F) : Int32) = nI (E - F) from by simp only [tg_sub2 (x := E) (y := F) (by omega), nI_add, fm_mul]]
  refine fe_s 1 (pc' := cond (fx_cb .ne 5 (nI (E - F))) 62 58) (lc' := [(4, .int 52), (3, .int 47), (2, .int 8), (0, .ref 0), (1, .ref 22)]) (stk' := []) (mem' := fm g tp bt a b) (fun _ _ _ => rfl) ?_
  by_cases h1 : 5 = (E - F)
  · rw [show (fx_cb .ne 5 (nI (E - F))) = false from cb_neF (a := 5) (b := E - F) (by omega) (by omega) (by omega)]
    dsimp only [cond]
    refine fe_s 7 (pc' := 72) (lc' := [(6, .int 47), (5, .int 1), (4, .int 52), (3, .int 47), (2, .int 8), (0, .ref 0), (1, .ref 22)]) (stk' := [.int 52, .int 47]) (mem' := fm g tp bt a b) (fun _ _ _ => rfl) ?_
    refine fe_s 1 (pc' := cond (fx_cb .ge 47 52) 115 75) (lc' := [(6, .int 47), (5, .int 1), (4, .int 52), (3, .int 47), (2, .int 8), (0, .ref 0), (1, .ref 22)]) (stk' := []) (mem' := fm g tp bt a b) (fun _ _ _ => rfl) ?_
    rw [show (fx_cb .ge 47 52) = false from by decide]
    dsimp only [cond]
    refine fe_s 1 (pc' := 77) (lc' := [(6, .int 47), (5, .int 1), (4, .int 52), (3, .int 47), (2, .int 8), (0, .ref 0), (1, .ref 22)]) (stk' := [.int 1]) (mem' := fm g tp bt a b) (fun _ _ _ => rfl) ?_
    refine fe_s 1 (pc' := cond (fx_cb .eq 1 0) 115 80) (lc' := [(6, .int 47), (5, .int 1), (4, .int 52), (3, .int 47), (2, .int 8), (0, .ref 0), (1, .ref 22)]) (stk' := []) (mem' := fm g tp bt a b) (fun _ _ _ => rfl) ?_
    rw [show (fx_cb .eq 1 0) = false from by decide]
    dsimp only [cond]
    refine fe_s 2 (pc' := 83) (lc' := [(6, .int 47), (5, .int 1), (4, .int 52), (3, .int 47), (2, .int 8), (0, .ref 0), (1, .ref 22)]) (stk' := [.int 47, .ref 22]) (mem' := fm g tp bt a b) (fun _ _ _ => rfl) ?_
    refine fe_chr (i := 47) (by omega) (by rfl) (by rfl) ⟨by rfl, by rfl⟩ (by rfl) ?_
    rw [show sk_b.getD 47 0 = 98 from rfl]
    refine fe_s 7 (pc' := 96) (lc' := [(6, .int 47), (5, .int 1), (4, .int 52), (3, .int 47), (2, .int 8), (0, .ref 0), (1, .ref 22)]) (stk' := [.int (((g 13) + 47) - 47), .ref 0, .int 98]) (mem' := fm g tp bt a b) (fun _ _ _ => rfl) ?_
    try rw [h13]
    rw [show (((nI F) + 47) - 47 : Int32) = nI ((F + 47) - 47) from by simp only [show (47 : Int32) = nI 47 from rfl, tg_sub2 (x := F + 47) (y := 47) (by omega), nI_add, fm_mul]]
    refine fe_ivV (fr_byteAt (S := S) (k := (F + 47) - 47) (g := g) (tp := tp) (bt := bt) (a := a) (b := b) h11 (by omega) (by omega)) (by omega) (by rfl) (by rfl) (by rfl) (by rfl) (by rfl) (by rfl) ?_
    rcases fm_byte_or a S ((F + 47) - 47) with ⟨e3, q4⟩ | ⟨q4, n2, qn2, e3⟩
    · rw [e3]
      refine fe_s 1 (pc' := cond (fx_cb .ne 98 (-1)) 106 102) (lc' := [(6, .int 47), (5, .int 1), (4, .int 52), (3, .int 47), (2, .int 8), (0, .ref 0), (1, .ref 22)]) (stk' := []) (mem' := fm g tp bt a b) (fun _ _ _ => rfl) ?_
      rw [show (fx_cb .ne 98 (-1)) = true from by decide]
      dsimp only [cond]
      refine fe_s 6 (pc' := 72) (lc' := [(6, .int (47 + 1)), (5, .int 0), (4, .int 52), (3, .int 47), (2, .int 8), (0, .ref 0), (1, .ref 22)]) (stk' := [.int 52, .int (47 + 1)]) (mem' := fm g tp bt a b) (fun _ _ _ => rfl) ?_
      rw [show (47 + 1 : Int32) = 48 from rfl]
      refine fe_s 1 (pc' := cond (fx_cb .ge 48 52) 115 75) (lc' := [(6, .int 48), (5, .int 0), (4, .int 52), (3, .int 47), (2, .int 8), (0, .ref 0), (1, .ref 22)]) (stk' := []) (mem' := fm g tp bt a b) (fun _ _ _ => rfl) ?_
      rw [show (fx_cb .ge 48 52) = false from by decide]
      dsimp only [cond]
      refine fe_s 1 (pc' := 77) (lc' := [(6, .int 48), (5, .int 0), (4, .int 52), (3, .int 47), (2, .int 8), (0, .ref 0), (1, .ref 22)]) (stk' := [.int 0]) (mem' := fm g tp bt a b) (fun _ _ _ => rfl) ?_
      refine fe_s 1 (pc' := cond (fx_cb .eq 0 0) 115 80) (lc' := [(6, .int 48), (5, .int 0), (4, .int 52), (3, .int 47), (2, .int 8), (0, .ref 0), (1, .ref 22)]) (stk' := []) (mem' := fm g tp bt a b) (fun _ _ _ => rfl) ?_
      rw [show (fx_cb .eq 0 0) = true from by decide]
      dsimp only [cond]
      refine fe_s 1 (pc' := 117) (lc' := [(6, .int 48), (5, .int 0), (4, .int 52), (3, .int 47), (2, .int 8), (0, .ref 0), (1, .ref 22)]) (stk' := [.int 0]) (mem' := fm g tp bt a b) (fun _ _ _ => rfl) ?_
      refine fe_s 1 (pc' := cond (fx_cb .eq 0 0) 122 120) (lc' := [(6, .int 48), (5, .int 0), (4, .int 52), (3, .int 47), (2, .int 8), (0, .ref 0), (1, .ref 22)]) (stk' := []) (mem' := fm g tp bt a b) (fun _ _ _ => rfl) ?_
      rw [show (fx_cb .eq 0 0) = true from by decide]
      dsimp only [cond]
      refine fe_s 6 (pc' := 14) (lc' := [(3, .int (52 + 1)), (2, .int (8 + 1)), (6, .int 48), (5, .int 0), (4, .int 52), (0, .ref 0), (1, .ref 22)]) (stk' := []) (mem' := fm g tp bt a b) (fun _ _ _ => rfl) ?_
      rw [show (8 + 1 : Int32) = 9 from rfl]
      rw [show (52 + 1 : Int32) = 53 from rfl]
      refine fe_w (lc' := [(3, .int 53), (2, .int 9), (0, .ref 0), (1, .ref 22)]) ⟨rfl, rfl, rfl, rfl, trivial⟩ (by show List.Nodup [3, 2, 0, 1]; decide) (by show List.Nodup [3, 2, 6, 5, 4, 0, 1]; decide) ?_
      exact fw_9 hxp
    · rw [e3]
      refine fe_s 1 (pc' := cond (fx_cb .ne 98 (nI n2)) 106 102) (lc' := [(6, .int 47), (5, .int 1), (4, .int 52), (3, .int 47), (2, .int 8), (0, .ref 0), (1, .ref 22)]) (stk' := []) (mem' := fm g tp bt a b) (fun _ _ _ => rfl) ?_
      by_cases h5 : 98 = n2
      · rw [show (fx_cb .ne 98 (nI n2)) = false from cb_neF (a := 98) (b := n2) (by omega) (by omega) (by omega)]
        dsimp only [cond]
        refine fe_s 7 (pc' := 72) (lc' := [(6, .int (47 + 1)), (5, .int 1), (4, .int 52), (3, .int 47), (2, .int 8), (0, .ref 0), (1, .ref 22)]) (stk' := [.int 52, .int (47 + 1)]) (mem' := fm g tp bt a b) (fun _ _ _ => rfl) ?_
        rw [show (47 + 1 : Int32) = 48 from rfl]
        refine fe_s 1 (pc' := cond (fx_cb .ge 48 52) 115 75) (lc' := [(6, .int 48), (5, .int 1), (4, .int 52), (3, .int 47), (2, .int 8), (0, .ref 0), (1, .ref 22)]) (stk' := []) (mem' := fm g tp bt a b) (fun _ _ _ => rfl) ?_
        rw [show (fx_cb .ge 48 52) = false from by decide]
        dsimp only [cond]
        refine fe_s 1 (pc' := 77) (lc' := [(6, .int 48), (5, .int 1), (4, .int 52), (3, .int 47), (2, .int 8), (0, .ref 0), (1, .ref 22)]) (stk' := [.int 1]) (mem' := fm g tp bt a b) (fun _ _ _ => rfl) ?_
        refine fe_s 1 (pc' := cond (fx_cb .eq 1 0) 115 80) (lc' := [(6, .int 48), (5, .int 1), (4, .int 52), (3, .int 47), (2, .int 8), (0, .ref 0), (1, .ref 22)]) (stk' := []) (mem' := fm g tp bt a b) (fun _ _ _ => rfl) ?_
        rw [show (fx_cb .eq 1 0) = false from by decide]
        dsimp only [cond]
        refine fe_s 2 (pc' := 83) (lc' := [(6, .int 48), (5, .int 1), (4, .int 52), (3, .int 47), (2, .int 8), (0, .ref 0), (1, .ref 22)]) (stk' := [.int 48, .ref 22]) (mem' := fm g tp bt a b) (fun _ _ _ => rfl) ?_
        refine fe_chr (i := 48) (by omega) (by rfl) (by rfl) ⟨by rfl, by rfl⟩ (by rfl) ?_
        rw [show sk_b.getD 48 0 = 101 from rfl]
        refine fe_s 7 (pc' := 96) (lc' := [(6, .int 48), (5, .int 1), (4, .int 52), (3, .int 47), (2, .int 8), (0, .ref 0), (1, .ref 22)]) (stk' := [.int (((g 13) + 48) - 47), .ref 0, .int 101]) (mem' := fm g tp bt a b) (fun _ _ _ => rfl) ?_
        try rw [h13]
        rw [show (((nI F) + 48) - 47 : Int32) = nI ((F + 48) - 47) from by simp only [show (48 : Int32) = nI 48 from rfl, show (47 : Int32) = nI 47 from rfl, tg_sub2 (x := F + 48) (y := 47) (by omega), nI_add, fm_mul]]
        refine fe_ivV (fr_byteAt (S := S) (k := (F + 48) - 47) (g := g) (tp := tp) (bt := bt) (a := a) (b := b) h11 (by omega) (by omega)) (by omega) (by rfl) (by rfl) (by rfl) (by rfl) (by rfl) (by rfl) ?_
        rcases fm_byte_or a S ((F + 48) - 47) with ⟨e7, q8⟩ | ⟨q8, n6, qn6, e7⟩
        · rw [e7]
          refine fe_s 1 (pc' := cond (fx_cb .ne 101 (-1)) 106 102) (lc' := [(6, .int 48), (5, .int 1), (4, .int 52), (3, .int 47), (2, .int 8), (0, .ref 0), (1, .ref 22)]) (stk' := []) (mem' := fm g tp bt a b) (fun _ _ _ => rfl) ?_
          rw [show (fx_cb .ne 101 (-1)) = true from by decide]
          dsimp only [cond]
          refine fe_s 6 (pc' := 72) (lc' := [(6, .int (48 + 1)), (5, .int 0), (4, .int 52), (3, .int 47), (2, .int 8), (0, .ref 0), (1, .ref 22)]) (stk' := [.int 52, .int (48 + 1)]) (mem' := fm g tp bt a b) (fun _ _ _ => rfl) ?_
          rw [show (48 + 1 : Int32) = 49 from rfl]
          refine fe_s 1 (pc' := cond (fx_cb .ge 49 52) 115 75) (lc' := [(6, .int 49), (5, .int 0), (4, .int 52), (3, .int 47), (2, .int 8), (0, .ref 0), (1, .ref 22)]) (stk' := []) (mem' := fm g tp bt a b) (fun _ _ _ => rfl) ?_
          rw [show (fx_cb .ge 49 52) = false from by decide]
          dsimp only [cond]
          refine fe_s 1 (pc' := 77) (lc' := [(6, .int 49), (5, .int 0), (4, .int 52), (3, .int 47), (2, .int 8), (0, .ref 0), (1, .ref 22)]) (stk' := [.int 0]) (mem' := fm g tp bt a b) (fun _ _ _ => rfl) ?_
          refine fe_s 1 (pc' := cond (fx_cb .eq 0 0) 115 80) (lc' := [(6, .int 49), (5, .int 0), (4, .int 52), (3, .int 47), (2, .int 8), (0, .ref 0), (1, .ref 22)]) (stk' := []) (mem' := fm g tp bt a b) (fun _ _ _ => rfl) ?_
          rw [show (fx_cb .eq 0 0) = true from by decide]
          dsimp only [cond]
          refine fe_s 1 (pc' := 117) (lc' := [(6, .int 49), (5, .int 0), (4, .int 52), (3, .int 47), (2, .int 8), (0, .ref 0), (1, .ref 22)]) (stk' := [.int 0]) (mem' := fm g tp bt a b) (fun _ _ _ => rfl) ?_
          refine fe_s 1 (pc' := cond (fx_cb .eq 0 0) 122 120) (lc' := [(6, .int 49), (5, .int 0), (4, .int 52), (3, .int 47), (2, .int 8), (0, .ref 0), (1, .ref 22)]) (stk' := []) (mem' := fm g tp bt a b) (fun _ _ _ => rfl) ?_
          rw [show (fx_cb .eq 0 0) = true from by decide]
          dsimp only [cond]
          refine fe_s 6 (pc' := 14) (lc' := [(3, .int (52 + 1)), (2, .int (8 + 1)), (6, .int 49), (5, .int 0), (4, .int 52), (0, .ref 0), (1, .ref 22)]) (stk' := []) (mem' := fm g tp bt a b) (fun _ _ _ => rfl) ?_
          rw [show (8 + 1 : Int32) = 9 from rfl]
          rw [show (52 + 1 : Int32) = 53 from rfl]
          refine fe_w (lc' := [(3, .int 53), (2, .int 9), (0, .ref 0), (1, .ref 22)]) ⟨rfl, rfl, rfl, rfl, trivial⟩ (by show List.Nodup [3, 2, 0, 1]; decide) (by show List.Nodup [3, 2, 6, 5, 4, 0, 1]; decide) ?_
          exact fw_9 hxp
        · rw [e7]
          refine fe_s 1 (pc' := cond (fx_cb .ne 101 (nI n6)) 106 102) (lc' := [(6, .int 48), (5, .int 1), (4, .int 52), (3, .int 47), (2, .int 8), (0, .ref 0), (1, .ref 22)]) (stk' := []) (mem' := fm g tp bt a b) (fun _ _ _ => rfl) ?_
          by_cases h9 : 101 = n6
          · rw [show (fx_cb .ne 101 (nI n6)) = false from cb_neF (a := 101) (b := n6) (by omega) (by omega) (by omega)]
            dsimp only [cond]
            refine fe_s 7 (pc' := 72) (lc' := [(6, .int (48 + 1)), (5, .int 1), (4, .int 52), (3, .int 47), (2, .int 8), (0, .ref 0), (1, .ref 22)]) (stk' := [.int 52, .int (48 + 1)]) (mem' := fm g tp bt a b) (fun _ _ _ => rfl) ?_
            rw [show (48 + 1 : Int32) = 49 from rfl]
            refine fe_s 1 (pc' := cond (fx_cb .ge 49 52) 115 75) (lc' := [(6, .int 49), (5, .int 1), (4, .int 52), (3, .int 47), (2, .int 8), (0, .ref 0), (1, .ref 22)]) (stk' := []) (mem' := fm g tp bt a b) (fun _ _ _ => rfl) ?_
            rw [show (fx_cb .ge 49 52) = false from by decide]
            dsimp only [cond]
            refine fe_s 1 (pc' := 77) (lc' := [(6, .int 49), (5, .int 1), (4, .int 52), (3, .int 47), (2, .int 8), (0, .ref 0), (1, .ref 22)]) (stk' := [.int 1]) (mem' := fm g tp bt a b) (fun _ _ _ => rfl) ?_
            refine fe_s 1 (pc' := cond (fx_cb .eq 1 0) 115 80) (lc' := [(6, .int 49), (5, .int 1), (4, .int 52), (3, .int 47), (2, .int 8), (0, .ref 0), (1, .ref 22)]) (stk' := []) (mem' := fm g tp bt a b) (fun _ _ _ => rfl) ?_
            rw [show (fx_cb .eq 1 0) = false from by decide]
            dsimp only [cond]
            refine fe_s 2 (pc' := 83) (lc' := [(6, .int 49), (5, .int 1), (4, .int 52), (3, .int 47), (2, .int 8), (0, .ref 0), (1, .ref 22)]) (stk' := [.int 49, .ref 22]) (mem' := fm g tp bt a b) (fun _ _ _ => rfl) ?_
            refine fe_chr (i := 49) (by omega) (by rfl) (by rfl) ⟨by rfl, by rfl⟩ (by rfl) ?_
            rw [show sk_b.getD 49 0 = 97 from rfl]
            refine fe_s 7 (pc' := 96) (lc' := [(6, .int 49), (5, .int 1), (4, .int 52), (3, .int 47), (2, .int 8), (0, .ref 0), (1, .ref 22)]) (stk' := [.int (((g 13) + 49) - 47), .ref 0, .int 97]) (mem' := fm g tp bt a b) (fun _ _ _ => rfl) ?_
            try rw [h13]
            rw [show (((nI F) + 49) - 47 : Int32) = nI ((F + 49) - 47) from by simp only [show (49 : Int32) = nI 49 from rfl, show (47 : Int32) = nI 47 from rfl, tg_sub2 (x := F + 49) (y := 47) (by omega), nI_add, fm_mul]]
            refine fe_ivV (fr_byteAt (S := S) (k := (F + 49) - 47) (g := g) (tp := tp) (bt := bt) (a := a) (b := b) h11 (by omega) (by omega)) (by omega) (by rfl) (by rfl) (by rfl) (by rfl) (by rfl) (by rfl) ?_
            rcases fm_byte_or a S ((F + 49) - 47) with ⟨e11, q12⟩ | ⟨q12, n10, qn10, e11⟩
            · rw [e11]
              refine fe_s 1 (pc' := cond (fx_cb .ne 97 (-1)) 106 102) (lc' := [(6, .int 49), (5, .int 1), (4, .int 52), (3, .int 47), (2, .int 8), (0, .ref 0), (1, .ref 22)]) (stk' := []) (mem' := fm g tp bt a b) (fun _ _ _ => rfl) ?_
              rw [show (fx_cb .ne 97 (-1)) = true from by decide]
              dsimp only [cond]
              refine fe_s 6 (pc' := 72) (lc' := [(6, .int (49 + 1)), (5, .int 0), (4, .int 52), (3, .int 47), (2, .int 8), (0, .ref 0), (1, .ref 22)]) (stk' := [.int 52, .int (49 + 1)]) (mem' := fm g tp bt a b) (fun _ _ _ => rfl) ?_
              rw [show (49 + 1 : Int32) = 50 from rfl]
              refine fe_s 1 (pc' := cond (fx_cb .ge 50 52) 115 75) (lc' := [(6, .int 50), (5, .int 0), (4, .int 52), (3, .int 47), (2, .int 8), (0, .ref 0), (1, .ref 22)]) (stk' := []) (mem' := fm g tp bt a b) (fun _ _ _ => rfl) ?_
              rw [show (fx_cb .ge 50 52) = false from by decide]
              dsimp only [cond]
              refine fe_s 1 (pc' := 77) (lc' := [(6, .int 50), (5, .int 0), (4, .int 52), (3, .int 47), (2, .int 8), (0, .ref 0), (1, .ref 22)]) (stk' := [.int 0]) (mem' := fm g tp bt a b) (fun _ _ _ => rfl) ?_
              refine fe_s 1 (pc' := cond (fx_cb .eq 0 0) 115 80) (lc' := [(6, .int 50), (5, .int 0), (4, .int 52), (3, .int 47), (2, .int 8), (0, .ref 0), (1, .ref 22)]) (stk' := []) (mem' := fm g tp bt a b) (fun _ _ _ => rfl) ?_
              rw [show (fx_cb .eq 0 0) = true from by decide]
              dsimp only [cond]
              refine fe_s 1 (pc' := 117) (lc' := [(6, .int 50), (5, .int 0), (4, .int 52), (3, .int 47), (2, .int 8), (0, .ref 0), (1, .ref 22)]) (stk' := [.int 0]) (mem' := fm g tp bt a b) (fun _ _ _ => rfl) ?_
              refine fe_s 1 (pc' := cond (fx_cb .eq 0 0) 122 120) (lc' := [(6, .int 50), (5, .int 0), (4, .int 52), (3, .int 47), (2, .int 8), (0, .ref 0), (1, .ref 22)]) (stk' := []) (mem' := fm g tp bt a b) (fun _ _ _ => rfl) ?_
              rw [show (fx_cb .eq 0 0) = true from by decide]
              dsimp only [cond]
              refine fe_s 6 (pc' := 14) (lc' := [(3, .int (52 + 1)), (2, .int (8 + 1)), (6, .int 50), (5, .int 0), (4, .int 52), (0, .ref 0), (1, .ref 22)]) (stk' := []) (mem' := fm g tp bt a b) (fun _ _ _ => rfl) ?_
              rw [show (8 + 1 : Int32) = 9 from rfl]
              rw [show (52 + 1 : Int32) = 53 from rfl]
              refine fe_w (lc' := [(3, .int 53), (2, .int 9), (0, .ref 0), (1, .ref 22)]) ⟨rfl, rfl, rfl, rfl, trivial⟩ (by show List.Nodup [3, 2, 0, 1]; decide) (by show List.Nodup [3, 2, 6, 5, 4, 0, 1]; decide) ?_
              exact fw_9 hxp
            · rw [e11]
              refine fe_s 1 (pc' := cond (fx_cb .ne 97 (nI n10)) 106 102) (lc' := [(6, .int 49), (5, .int 1), (4, .int 52), (3, .int 47), (2, .int 8), (0, .ref 0), (1, .ref 22)]) (stk' := []) (mem' := fm g tp bt a b) (fun _ _ _ => rfl) ?_
              by_cases h13 : 97 = n10
              · rw [show (fx_cb .ne 97 (nI n10)) = false from cb_neF (a := 97) (b := n10) (by omega) (by omega) (by omega)]
                dsimp only [cond]
                refine fe_s 7 (pc' := 72) (lc' := [(6, .int (49 + 1)), (5, .int 1), (4, .int 52), (3, .int 47), (2, .int 8), (0, .ref 0), (1, .ref 22)]) (stk' := [.int 52, .int (49 + 1)]) (mem' := fm g tp bt a b) (fun _ _ _ => rfl) ?_
                rw [show (49 + 1 : Int32) = 50 from rfl]
                refine fe_s 1 (pc' := cond (fx_cb .ge 50 52) 115 75) (lc' := [(6, .int 50), (5, .int 1), (4, .int 52), (3, .int 47), (2, .int 8), (0, .ref 0), (1, .ref 22)]) (stk' := []) (mem' := fm g tp bt a b) (fun _ _ _ => rfl) ?_
                rw [show (fx_cb .ge 50 52) = false from by decide]
                dsimp only [cond]
                refine fe_s 1 (pc' := 77) (lc' := [(6, .int 50), (5, .int 1), (4, .int 52), (3, .int 47), (2, .int 8), (0, .ref 0), (1, .ref 22)]) (stk' := [.int 1]) (mem' := fm g tp bt a b) (fun _ _ _ => rfl) ?_
                refine fe_s 1 (pc' := cond (fx_cb .eq 1 0) 115 80) (lc' := [(6, .int 50), (5, .int 1), (4, .int 52), (3, .int 47), (2, .int 8), (0, .ref 0), (1, .ref 22)]) (stk' := []) (mem' := fm g tp bt a b) (fun _ _ _ => rfl) ?_
                rw [show (fx_cb .eq 1 0) = false from by decide]
                dsimp only [cond]
                refine fe_s 2 (pc' := 83) (lc' := [(6, .int 50), (5, .int 1), (4, .int 52), (3, .int 47), (2, .int 8), (0, .ref 0), (1, .ref 22)]) (stk' := [.int 50, .ref 22]) (mem' := fm g tp bt a b) (fun _ _ _ => rfl) ?_
                refine fe_chr (i := 50) (by omega) (by rfl) (by rfl) ⟨by rfl, by rfl⟩ (by rfl) ?_
                rw [show sk_b.getD 50 0 = 114 from rfl]
                refine fe_s 7 (pc' := 96) (lc' := [(6, .int 50), (5, .int 1), (4, .int 52), (3, .int 47), (2, .int 8), (0, .ref 0), (1, .ref 22)]) (stk' := [.int (((g 13) + 50) - 47), .ref 0, .int 114]) (mem' := fm g tp bt a b) (fun _ _ _ => rfl) ?_
                try rw [h13]
                rw [show (((nI F) + 50) - 47 : Int32) = nI ((F + 50) - 47) from by simp only [show (50 : Int32) = nI 50 from rfl, show (47 : Int32) = nI 47 from rfl, tg_sub2 (x := F + 50) (y := 47) (by omega), nI_add, fm_mul]]
                refine fe_ivV (fr_byteAt (S := S) (k := (F + 50) - 47) (g := g) (tp := tp) (bt := bt) (a := a) (b := b) h11 (by omega) (by omega)) (by omega) (by rfl) (by rfl) (by rfl) (by rfl) (by rfl) (by rfl) ?_
                rcases fm_byte_or a S ((F + 50) - 47) with ⟨e15, q16⟩ | ⟨q16, n14, qn14, e15⟩
                · rw [e15]
                  refine fe_s 1 (pc' := cond (fx_cb .ne 114 (-1)) 106 102) (lc' := [(6, .int 50), (5, .int 1), (4, .int 52), (3, .int 47), (2, .int 8), (0, .ref 0), (1, .ref 22)]) (stk' := []) (mem' := fm g tp bt a b) (fun _ _ _ => rfl) ?_
                  rw [show (fx_cb .ne 114 (-1)) = true from by decide]
                  dsimp only [cond]
                  refine fe_s 6 (pc' := 72) (lc' := [(6, .int (50 + 1)), (5, .int 0), (4, .int 52), (3, .int 47), (2, .int 8), (0, .ref 0), (1, .ref 22)]) (stk' := [.int 52, .int (50 + 1)]) (mem' := fm g tp bt a b) (fun _ _ _ => rfl) ?_
                  rw [show (50 + 1 : Int32) = 51 from rfl]
                  refine fe_s 1 (pc' := cond (fx_cb .ge 51 52) 115 75) (lc' := [(6, .int 51), (5, .int 0), (4, .int 52), (3, .int 47), (2, .int 8), (0, .ref 0), (1, .ref 22)]) (stk' := []) (mem' := fm g tp bt a b) (fun _ _ _ => rfl) ?_
                  rw [show (fx_cb .ge 51 52) = false from by decide]
                  dsimp only [cond]
                  refine fe_s 1 (pc' := 77) (lc' := [(6, .int 51), (5, .int 0), (4, .int 52), (3, .int 47), (2, .int 8), (0, .ref 0), (1, .ref 22)]) (stk' := [.int 0]) (mem' := fm g tp bt a b) (fun _ _ _ => rfl) ?_
                  refine fe_s 1 (pc' := cond (fx_cb .eq 0 0) 115 80) (lc' := [(6, .int 51), (5, .int 0), (4, .int 52), (3, .int 47), (2, .int 8), (0, .ref 0), (1, .ref 22)]) (stk' := []) (mem' := fm g tp bt a b) (fun _ _ _ => rfl) ?_
                  rw [show (fx_cb .eq 0 0) = true from by decide]
                  dsimp only [cond]
                  refine fe_s 1 (pc' := 117) (lc' := [(6, .int 51), (5, .int 0), (4, .int 52), (3, .int 47), (2, .int 8), (0, .ref 0), (1, .ref 22)]) (stk' := [.int 0]) (mem' := fm g tp bt a b) (fun _ _ _ => rfl) ?_
                  refine fe_s 1 (pc' := cond (fx_cb .eq 0 0) 122 120) (lc' := [(6, .int 51), (5, .int 0), (4, .int 52), (3, .int 47), (2, .int 8), (0, .ref 0), (1, .ref 22)]) (stk' := []) (mem' := fm g tp bt a b) (fun _ _ _ => rfl) ?_
                  rw [show (fx_cb .eq 0 0) = true from by decide]
                  dsimp only [cond]
                  refine fe_s 6 (pc' := 14) (lc' := [(3, .int (52 + 1)), (2, .int (8 + 1)), (6, .int 51), (5, .int 0), (4, .int 52), (0, .ref 0), (1, .ref 22)]) (stk' := []) (mem' := fm g tp bt a b) (fun _ _ _ => rfl) ?_
                  rw [show (8 + 1 : Int32) = 9 from rfl]
                  rw [show (52 + 1 : Int32) = 53 from rfl]
                  refine fe_w (lc' := [(3, .int 53), (2, .int 9), (0, .ref 0), (1, .ref 22)]) ⟨rfl, rfl, rfl, rfl, trivial⟩ (by show List.Nodup [3, 2, 0, 1]; decide) (by show List.Nodup [3, 2, 6, 5, 4, 0, 1]; decide) ?_
                  exact fw_9 hxp
                · rw [e15]
                  refine fe_s 1 (pc' := cond (fx_cb .ne 114 (nI n14)) 106 102) (lc' := [(6, .int 50), (5, .int 1), (4, .int 52), (3, .int 47), (2, .int 8), (0, .ref 0), (1, .ref 22)]) (stk' := []) (mem' := fm g tp bt a b) (fun _ _ _ => rfl) ?_
                  by_cases h17 : 114 = n14
                  · rw [show (fx_cb .ne 114 (nI n14)) = false from cb_neF (a := 114) (b := n14) (by omega) (by omega) (by omega)]
                    dsimp only [cond]
                    refine fe_s 7 (pc' := 72) (lc' := [(6, .int (50 + 1)), (5, .int 1), (4, .int 52), (3, .int 47), (2, .int 8), (0, .ref 0), (1, .ref 22)]) (stk' := [.int 52, .int (50 + 1)]) (mem' := fm g tp bt a b) (fun _ _ _ => rfl) ?_
                    rw [show (50 + 1 : Int32) = 51 from rfl]
                    refine fe_s 1 (pc' := cond (fx_cb .ge 51 52) 115 75) (lc' := [(6, .int 51), (5, .int 1), (4, .int 52), (3, .int 47), (2, .int 8), (0, .ref 0), (1, .ref 22)]) (stk' := []) (mem' := fm g tp bt a b) (fun _ _ _ => rfl) ?_
                    rw [show (fx_cb .ge 51 52) = false from by decide]
                    dsimp only [cond]
                    refine fe_s 1 (pc' := 77) (lc' := [(6, .int 51), (5, .int 1), (4, .int 52), (3, .int 47), (2, .int 8), (0, .ref 0), (1, .ref 22)]) (stk' := [.int 1]) (mem' := fm g tp bt a b) (fun _ _ _ => rfl) ?_
                    refine fe_s 1 (pc' := cond (fx_cb .eq 1 0) 115 80) (lc' := [(6, .int 51), (5, .int 1), (4, .int 52), (3, .int 47), (2, .int 8), (0, .ref 0), (1, .ref 22)]) (stk' := []) (mem' := fm g tp bt a b) (fun _ _ _ => rfl) ?_
                    rw [show (fx_cb .eq 1 0) = false from by decide]
                    dsimp only [cond]
                    refine fe_s 2 (pc' := 83) (lc' := [(6, .int 51), (5, .int 1), (4, .int 52), (3, .int 47), (2, .int 8), (0, .ref 0), (1, .ref 22)]) (stk' := [.int 51, .ref 22]) (mem' := fm g tp bt a b) (fun _ _ _ => rfl) ?_
                    refine fe_chr (i := 51) (by omega) (by rfl) (by rfl) ⟨by rfl, by rfl⟩ (by rfl) ?_
                    rw [show sk_b.getD 51 0 = 115 from rfl]
                    refine fe_s 7 (pc' := 96) (lc' := [(6, .int 51), (5, .int 1), (4, .int 52), (3, .int 47), (2, .int 8), (0, .ref 0), (1, .ref 22)]) (stk' := [.int (((g 13) + 51) - 47), .ref 0, .int 115]) (mem' := fm g tp bt a b) (fun _ _ _ => rfl) ?_
                    try rw [h13]
                    rw [show (((nI F) + 51) - 47 : Int32) = nI ((F + 51) - 47) from by simp only [show (51 : Int32) = nI 51 from rfl, show (47 : Int32) = nI 47 from rfl, tg_sub2 (x := F + 51) (y := 47) (by omega), nI_add, fm_mul]]
                    refine fe_ivV (fr_byteAt (S := S) (k := (F + 51) - 47) (g := g) (tp := tp) (bt := bt) (a := a) (b := b) h11 (by omega) (by omega)) (by omega) (by rfl) (by rfl) (by rfl) (by rfl) (by rfl) (by rfl) ?_
                    rcases fm_byte_or a S ((F + 51) - 47) with ⟨e19, q20⟩ | ⟨q20, n18, qn18, e19⟩
                    · rw [e19]
                      refine fe_s 1 (pc' := cond (fx_cb .ne 115 (-1)) 106 102) (lc' := [(6, .int 51), (5, .int 1), (4, .int 52), (3, .int 47), (2, .int 8), (0, .ref 0), (1, .ref 22)]) (stk' := []) (mem' := fm g tp bt a b) (fun _ _ _ => rfl) ?_
                      rw [show (fx_cb .ne 115 (-1)) = true from by decide]
                      dsimp only [cond]
                      refine fe_s 6 (pc' := 72) (lc' := [(6, .int (51 + 1)), (5, .int 0), (4, .int 52), (3, .int 47), (2, .int 8), (0, .ref 0), (1, .ref 22)]) (stk' := [.int 52, .int (51 + 1)]) (mem' := fm g tp bt a b) (fun _ _ _ => rfl) ?_
                      rw [show (51 + 1 : Int32) = 52 from rfl]
                      refine fe_s 1 (pc' := cond (fx_cb .ge 52 52) 115 75) (lc' := [(6, .int 52), (5, .int 0), (4, .int 52), (3, .int 47), (2, .int 8), (0, .ref 0), (1, .ref 22)]) (stk' := []) (mem' := fm g tp bt a b) (fun _ _ _ => rfl) ?_
                      rw [show (fx_cb .ge 52 52) = true from by decide]
                      dsimp only [cond]
                      refine fe_s 1 (pc' := 117) (lc' := [(6, .int 52), (5, .int 0), (4, .int 52), (3, .int 47), (2, .int 8), (0, .ref 0), (1, .ref 22)]) (stk' := [.int 0]) (mem' := fm g tp bt a b) (fun _ _ _ => rfl) ?_
                      refine fe_s 1 (pc' := cond (fx_cb .eq 0 0) 122 120) (lc' := [(6, .int 52), (5, .int 0), (4, .int 52), (3, .int 47), (2, .int 8), (0, .ref 0), (1, .ref 22)]) (stk' := []) (mem' := fm g tp bt a b) (fun _ _ _ => rfl) ?_
                      rw [show (fx_cb .eq 0 0) = true from by decide]
                      dsimp only [cond]
                      refine fe_s 6 (pc' := 14) (lc' := [(3, .int (52 + 1)), (2, .int (8 + 1)), (6, .int 52), (5, .int 0), (4, .int 52), (0, .ref 0), (1, .ref 22)]) (stk' := []) (mem' := fm g tp bt a b) (fun _ _ _ => rfl) ?_
                      rw [show (8 + 1 : Int32) = 9 from rfl]
                      rw [show (52 + 1 : Int32) = 53 from rfl]
                      refine fe_w (lc' := [(3, .int 53), (2, .int 9), (0, .ref 0), (1, .ref 22)]) ⟨rfl, rfl, rfl, rfl, trivial⟩ (by show List.Nodup [3, 2, 0, 1]; decide) (by show List.Nodup [3, 2, 6, 5, 4, 0, 1]; decide) ?_
                      exact fw_9 hxp
                    · rw [e19]
                      refine fe_s 1 (pc' := cond (fx_cb .ne 115 (nI n18)) 106 102) (lc' := [(6, .int 51), (5, .int 1), (4, .int 52), (3, .int 47), (2, .int 8), (0, .ref 0), (1, .ref 22)]) (stk' := []) (mem' := fm g tp bt a b) (fun _ _ _ => rfl) ?_
                      by_cases h21 : 115 = n18
                      · rw [show (fx_cb .ne 115 (nI n18)) = false from cb_neF (a := 115) (b := n18) (by omega) (by omega) (by omega)]
                        dsimp only [cond]
                        refine fe_s 7 (pc' := 72) (lc' := [(6, .int (51 + 1)), (5, .int 1), (4, .int 52), (3, .int 47), (2, .int 8), (0, .ref 0), (1, .ref 22)]) (stk' := [.int 52, .int (51 + 1)]) (mem' := fm g tp bt a b) (fun _ _ _ => rfl) ?_
                        rw [show (51 + 1 : Int32) = 52 from rfl]
                        refine fe_s 1 (pc' := cond (fx_cb .ge 52 52) 115 75) (lc' := [(6, .int 52), (5, .int 1), (4, .int 52), (3, .int 47), (2, .int 8), (0, .ref 0), (1, .ref 22)]) (stk' := []) (mem' := fm g tp bt a b) (fun _ _ _ => rfl) ?_
                        rw [show (fx_cb .ge 52 52) = true from by decide]
                        dsimp only [cond]
                        refine fe_s 1 (pc' := 117) (lc' := [(6, .int 52), (5, .int 1), (4, .int 52), (3, .int 47), (2, .int 8), (0, .ref 0), (1, .ref 22)]) (stk' := [.int 1]) (mem' := fm g tp bt a b) (fun _ _ _ => rfl) ?_
                        refine fe_s 1 (pc' := cond (fx_cb .eq 1 0) 122 120) (lc' := [(6, .int 52), (5, .int 1), (4, .int 52), (3, .int 47), (2, .int 8), (0, .ref 0), (1, .ref 22)]) (stk' := []) (mem' := fm g tp bt a b) (fun _ _ _ => rfl) ?_
                        rw [show (fx_cb .eq 1 0) = false from by decide]
                        dsimp only [cond]
                        refine fe_s 1 (pc' := 121) (lc' := [(6, .int 52), (5, .int 1), (4, .int 52), (3, .int 47), (2, .int 8), (0, .ref 0), (1, .ref 22)]) (stk' := [.int 8]) (mem' := fm g tp bt a b) (fun _ _ _ => rfl) ?_
                        exact fe_ret ⟨_, Or.inr ⟨8, by omega, rfl⟩, rfl⟩ (by rfl) (by rfl) (by rfl)
                      · rw [show (fx_cb .ne 115 (nI n18)) = true from cb_neT (a := 115) (b := n18) (by omega) (by omega) (by omega)]
                        dsimp only [cond]
                        refine fe_s 6 (pc' := 72) (lc' := [(6, .int (51 + 1)), (5, .int 0), (4, .int 52), (3, .int 47), (2, .int 8), (0, .ref 0), (1, .ref 22)]) (stk' := [.int 52, .int (51 + 1)]) (mem' := fm g tp bt a b) (fun _ _ _ => rfl) ?_
                        rw [show (51 + 1 : Int32) = 52 from rfl]
                        refine fe_s 1 (pc' := cond (fx_cb .ge 52 52) 115 75) (lc' := [(6, .int 52), (5, .int 0), (4, .int 52), (3, .int 47), (2, .int 8), (0, .ref 0), (1, .ref 22)]) (stk' := []) (mem' := fm g tp bt a b) (fun _ _ _ => rfl) ?_
                        rw [show (fx_cb .ge 52 52) = true from by decide]
                        dsimp only [cond]
                        refine fe_s 1 (pc' := 117) (lc' := [(6, .int 52), (5, .int 0), (4, .int 52), (3, .int 47), (2, .int 8), (0, .ref 0), (1, .ref 22)]) (stk' := [.int 0]) (mem' := fm g tp bt a b) (fun _ _ _ => rfl) ?_
                        refine fe_s 1 (pc' := cond (fx_cb .eq 0 0) 122 120) (lc' := [(6, .int 52), (5, .int 0), (4, .int 52), (3, .int 47), (2, .int 8), (0, .ref 0), (1, .ref 22)]) (stk' := []) (mem' := fm g tp bt a b) (fun _ _ _ => rfl) ?_
                        rw [show (fx_cb .eq 0 0) = true from by decide]
                        dsimp only [cond]
                        refine fe_s 6 (pc' := 14) (lc' := [(3, .int (52 + 1)), (2, .int (8 + 1)), (6, .int 52), (5, .int 0), (4, .int 52), (0, .ref 0), (1, .ref 22)]) (stk' := []) (mem' := fm g tp bt a b) (fun _ _ _ => rfl) ?_
                        rw [show (8 + 1 : Int32) = 9 from rfl]
                        rw [show (52 + 1 : Int32) = 53 from rfl]
                        refine fe_w (lc' := [(3, .int 53), (2, .int 9), (0, .ref 0), (1, .ref 22)]) ⟨rfl, rfl, rfl, rfl, trivial⟩ (by show List.Nodup [3, 2, 0, 1]; decide) (by show List.Nodup [3, 2, 6, 5, 4, 0, 1]; decide) ?_
                        exact fw_9 hxp
                  · rw [show (fx_cb .ne 114 (nI n14)) = true from cb_neT (a := 114) (b := n14) (by omega) (by omega) (by omega)]
                    dsimp only [cond]
                    refine fe_s 6 (pc' := 72) (lc' := [(6, .int (50 + 1)), (5, .int 0), (4, .int 52), (3, .int 47), (2, .int 8), (0, .ref 0), (1, .ref 22)]) (stk' := [.int 52, .int (50 + 1)]) (mem' := fm g tp bt a b) (fun _ _ _ => rfl) ?_
                    rw [show (50 + 1 : Int32) = 51 from rfl]
                    refine fe_s 1 (pc' := cond (fx_cb .ge 51 52) 115 75) (lc' := [(6, .int 51), (5, .int 0), (4, .int 52), (3, .int 47), (2, .int 8), (0, .ref 0), (1, .ref 22)]) (stk' := []) (mem' := fm g tp bt a b) (fun _ _ _ => rfl) ?_
                    rw [show (fx_cb .ge 51 52) = false from by decide]
                    dsimp only [cond]
                    refine fe_s 1 (pc' := 77) (lc' := [(6, .int 51), (5, .int 0), (4, .int 52), (3, .int 47), (2, .int 8), (0, .ref 0), (1, .ref 22)]) (stk' := [.int 0]) (mem' := fm g tp bt a b) (fun _ _ _ => rfl) ?_
                    refine fe_s 1 (pc' := cond (fx_cb .eq 0 0) 115 80) (lc' := [(6, .int 51), (5, .int 0), (4, .int 52), (3, .int 47), (2, .int 8), (0, .ref 0), (1, .ref 22)]) (stk' := []) (mem' := fm g tp bt a b) (fun _ _ _ => rfl) ?_
                    rw [show (fx_cb .eq 0 0) = true from by decide]
                    dsimp only [cond]
                    refine fe_s 1 (pc' := 117) (lc' := [(6, .int 51), (5, .int 0), (4, .int 52), (3, .int 47), (2, .int 8), (0, .ref 0), (1, .ref 22)]) (stk' := [.int 0]) (mem' := fm g tp bt a b) (fun _ _ _ => rfl) ?_
                    refine fe_s 1 (pc' := cond (fx_cb .eq 0 0) 122 120) (lc' := [(6, .int 51), (5, .int 0), (4, .int 52), (3, .int 47), (2, .int 8), (0, .ref 0), (1, .ref 22)]) (stk' := []) (mem' := fm g tp bt a b) (fun _ _ _ => rfl) ?_
                    rw [show (fx_cb .eq 0 0) = true from by decide]
                    dsimp only [cond]
                    refine fe_s 6 (pc' := 14) (lc' := [(3, .int (52 + 1)), (2, .int (8 + 1)), (6, .int 51), (5, .int 0), (4, .int 52), (0, .ref 0), (1, .ref 22)]) (stk' := []) (mem' := fm g tp bt a b) (fun _ _ _ => rfl) ?_
                    rw [show (8 + 1 : Int32) = 9 from rfl]
                    rw [show (52 + 1 : Int32) = 53 from rfl]
                    refine fe_w (lc' := [(3, .int 53), (2, .int 9), (0, .ref 0), (1, .ref 22)]) ⟨rfl, rfl, rfl, rfl, trivial⟩ (by show List.Nodup [3, 2, 0, 1]; decide) (by show List.Nodup [3, 2, 6, 5, 4, 0, 1]; decide) ?_
                    exact fw_9 hxp
              · rw [show (fx_cb .ne 97 (nI n10)) = true from cb_neT (a := 97) (b := n10) (by omega) (by omega) (by omega)]
                dsimp only [cond]
                refine fe_s 6 (pc' := 72) (lc' := [(6, .int (49 + 1)), (5, .int 0), (4, .int 52), (3, .int 47), (2, .int 8), (0, .ref 0), (1, .ref 22)]) (stk' := [.int 52, .int (49 + 1)]) (mem' := fm g tp bt a b) (fun _ _ _ => rfl) ?_
                rw [show (49 + 1 : Int32) = 50 from rfl]
                refine fe_s 1 (pc' := cond (fx_cb .ge 50 52) 115 75) (lc' := [(6, .int 50), (5, .int 0), (4, .int 52), (3, .int 47), (2, .int 8), (0, .ref 0), (1, .ref 22)]) (stk' := []) (mem' := fm g tp bt a b) (fun _ _ _ => rfl) ?_
                rw [show (fx_cb .ge 50 52) = false from by decide]
                dsimp only [cond]
                refine fe_s 1 (pc' := 77) (lc' := [(6, .int 50), (5, .int 0), (4, .int 52), (3, .int 47), (2, .int 8), (0, .ref 0), (1, .ref 22)]) (stk' := [.int 0]) (mem' := fm g tp bt a b) (fun _ _ _ => rfl) ?_
                refine fe_s 1 (pc' := cond (fx_cb .eq 0 0) 115 80) (lc' := [(6, .int 50), (5, .int 0), (4, .int 52), (3, .int 47), (2, .int 8), (0, .ref 0), (1, .ref 22)]) (stk' := []) (mem' := fm g tp bt a b) (fun _ _ _ => rfl) ?_
                rw [show (fx_cb .eq 0 0) = true from by decide]
                dsimp only [cond]
                refine fe_s 1 (pc' := 117) (lc' := [(6, .int 50), (5, .int 0), (4, .int 52), (3, .int 47), (2, .int 8), (0, .ref 0), (1, .ref 22)]) (stk' := [.int 0]) (mem' := fm g tp bt a b) (fun _ _ _ => rfl) ?_
                refine fe_s 1 (pc' := cond (fx_cb .eq 0 0) 122 120) (lc' := [(6, .int 50), (5, .int 0), (4, .int 52), (3, .int 47), (2, .int 8), (0, .ref 0), (1, .ref 22)]) (stk' := []) (mem' := fm g tp bt a b) (fun _ _ _ => rfl) ?_
                rw [show (fx_cb .eq 0 0) = true from by decide]
                dsimp only [cond]
                refine fe_s 6 (pc' := 14) (lc' := [(3, .int (52 + 1)), (2, .int (8 + 1)), (6, .int 50), (5, .int 0), (4, .int 52), (0, .ref 0), (1, .ref 22)]) (stk' := []) (mem' := fm g tp bt a b) (fun _ _ _ => rfl) ?_
                rw [show (8 + 1 : Int32) = 9 from rfl]
                rw [show (52 + 1 : Int32) = 53 from rfl]
                refine fe_w (lc' := [(3, .int 53), (2, .int 9), (0, .ref 0), (1, .ref 22)]) ⟨rfl, rfl, rfl, rfl, trivial⟩ (by show List.Nodup [3, 2, 0, 1]; decide) (by show List.Nodup [3, 2, 6, 5, 4, 0, 1]; decide) ?_
                exact fw_9 hxp
          · rw [show (fx_cb .ne 101 (nI n6)) = true from cb_neT (a := 101) (b := n6) (by omega) (by omega) (by omega)]
            dsimp only [cond]
            refine fe_s 6 (pc' := 72) (lc' := [(6, .int (48 + 1)), (5, .int 0), (4, .int 52), (3, .int 47), (2, .int 8), (0, .ref 0), (1, .ref 22)]) (stk' := [.int 52, .int (48 + 1)]) (mem' := fm g tp bt a b) (fun _ _ _ => rfl) ?_
            rw [show (48 + 1 : Int32) = 49 from rfl]
            refine fe_s 1 (pc' := cond (fx_cb .ge 49 52) 115 75) (lc' := [(6, .int 49), (5, .int 0), (4, .int 52), (3, .int 47), (2, .int 8), (0, .ref 0), (1, .ref 22)]) (stk' := []) (mem' := fm g tp bt a b) (fun _ _ _ => rfl) ?_
            rw [show (fx_cb .ge 49 52) = false from by decide]
            dsimp only [cond]
            refine fe_s 1 (pc' := 77) (lc' := [(6, .int 49), (5, .int 0), (4, .int 52), (3, .int 47), (2, .int 8), (0, .ref 0), (1, .ref 22)]) (stk' := [.int 0]) (mem' := fm g tp bt a b) (fun _ _ _ => rfl) ?_
            refine fe_s 1 (pc' := cond (fx_cb .eq 0 0) 115 80) (lc' := [(6, .int 49), (5, .int 0), (4, .int 52), (3, .int 47), (2, .int 8), (0, .ref 0), (1, .ref 22)]) (stk' := []) (mem' := fm g tp bt a b) (fun _ _ _ => rfl) ?_
            rw [show (fx_cb .eq 0 0) = true from by decide]
            dsimp only [cond]
            refine fe_s 1 (pc' := 117) (lc' := [(6, .int 49), (5, .int 0), (4, .int 52), (3, .int 47), (2, .int 8), (0, .ref 0), (1, .ref 22)]) (stk' := [.int 0]) (mem' := fm g tp bt a b) (fun _ _ _ => rfl) ?_
            refine fe_s 1 (pc' := cond (fx_cb .eq 0 0) 122 120) (lc' := [(6, .int 49), (5, .int 0), (4, .int 52), (3, .int 47), (2, .int 8), (0, .ref 0), (1, .ref 22)]) (stk' := []) (mem' := fm g tp bt a b) (fun _ _ _ => rfl) ?_
            rw [show (fx_cb .eq 0 0) = true from by decide]
            dsimp only [cond]
            refine fe_s 6 (pc' := 14) (lc' := [(3, .int (52 + 1)), (2, .int (8 + 1)), (6, .int 49), (5, .int 0), (4, .int 52), (0, .ref 0), (1, .ref 22)]) (stk' := []) (mem' := fm g tp bt a b) (fun _ _ _ => rfl) ?_
            rw [show (8 + 1 : Int32) = 9 from rfl]
            rw [show (52 + 1 : Int32) = 53 from rfl]
            refine fe_w (lc' := [(3, .int 53), (2, .int 9), (0, .ref 0), (1, .ref 22)]) ⟨rfl, rfl, rfl, rfl, trivial⟩ (by show List.Nodup [3, 2, 0, 1]; decide) (by show List.Nodup [3, 2, 6, 5, 4, 0, 1]; decide) ?_
            exact fw_9 hxp
      · rw [show (fx_cb .ne 98 (nI n2)) = true from cb_neT (a := 98) (b := n2) (by omega) (by omega) (by omega)]
        dsimp only [cond]
        refine fe_s 6 (pc' := 72) (lc' := [(6, .int (47 + 1)), (5, .int 0), (4, .int 52), (3, .int 47), (2, .int 8), (0, .ref 0), (1, .ref 22)]) (stk' := [.int 52, .int (47 + 1)]) (mem' := fm g tp bt a b) (fun _ _ _ => rfl) ?_
        rw [show (47 + 1 : Int32) = 48 from rfl]
        refine fe_s 1 (pc' := cond (fx_cb .ge 48 52) 115 75) (lc' := [(6, .int 48), (5, .int 0), (4, .int 52), (3, .int 47), (2, .int 8), (0, .ref 0), (1, .ref 22)]) (stk' := []) (mem' := fm g tp bt a b) (fun _ _ _ => rfl) ?_
        rw [show (fx_cb .ge 48 52) = false from by decide]
        dsimp only [cond]
        refine fe_s 1 (pc' := 77) (lc' := [(6, .int 48), (5, .int 0), (4, .int 52), (3, .int 47), (2, .int 8), (0, .ref 0), (1, .ref 22)]) (stk' := [.int 0]) (mem' := fm g tp bt a b) (fun _ _ _ => rfl) ?_
        refine fe_s 1 (pc' := cond (fx_cb .eq 0 0) 115 80) (lc' := [(6, .int 48), (5, .int 0), (4, .int 52), (3, .int 47), (2, .int 8), (0, .ref 0), (1, .ref 22)]) (stk' := []) (mem' := fm g tp bt a b) (fun _ _ _ => rfl) ?_
        rw [show (fx_cb .eq 0 0) = true from by decide]
        dsimp only [cond]
        refine fe_s 1 (pc' := 117) (lc' := [(6, .int 48), (5, .int 0), (4, .int 52), (3, .int 47), (2, .int 8), (0, .ref 0), (1, .ref 22)]) (stk' := [.int 0]) (mem' := fm g tp bt a b) (fun _ _ _ => rfl) ?_
        refine fe_s 1 (pc' := cond (fx_cb .eq 0 0) 122 120) (lc' := [(6, .int 48), (5, .int 0), (4, .int 52), (3, .int 47), (2, .int 8), (0, .ref 0), (1, .ref 22)]) (stk' := []) (mem' := fm g tp bt a b) (fun _ _ _ => rfl) ?_
        rw [show (fx_cb .eq 0 0) = true from by decide]
        dsimp only [cond]
        refine fe_s 6 (pc' := 14) (lc' := [(3, .int (52 + 1)), (2, .int (8 + 1)), (6, .int 48), (5, .int 0), (4, .int 52), (0, .ref 0), (1, .ref 22)]) (stk' := []) (mem' := fm g tp bt a b) (fun _ _ _ => rfl) ?_
        rw [show (8 + 1 : Int32) = 9 from rfl]
        rw [show (52 + 1 : Int32) = 53 from rfl]
        refine fe_w (lc' := [(3, .int 53), (2, .int 9), (0, .ref 0), (1, .ref 22)]) ⟨rfl, rfl, rfl, rfl, trivial⟩ (by show List.Nodup [3, 2, 0, 1]; decide) (by show List.Nodup [3, 2, 6, 5, 4, 0, 1]; decide) ?_
        exact fw_9 hxp
  · rw [show (fx_cb .ne 5 (nI (E - F))) = true from cb_neT (a := 5) (b := E - F) (by omega) (by omega) (by omega)]
    dsimp only [cond]
    refine fe_s 6 (pc' := 72) (lc' := [(6, .int 47), (5, .int 0), (4, .int 52), (3, .int 47), (2, .int 8), (0, .ref 0), (1, .ref 22)]) (stk' := [.int 52, .int 47]) (mem' := fm g tp bt a b) (fun _ _ _ => rfl) ?_
    refine fe_s 1 (pc' := cond (fx_cb .ge 47 52) 115 75) (lc' := [(6, .int 47), (5, .int 0), (4, .int 52), (3, .int 47), (2, .int 8), (0, .ref 0), (1, .ref 22)]) (stk' := []) (mem' := fm g tp bt a b) (fun _ _ _ => rfl) ?_
    rw [show (fx_cb .ge 47 52) = false from by decide]
    dsimp only [cond]
    refine fe_s 1 (pc' := 77) (lc' := [(6, .int 47), (5, .int 0), (4, .int 52), (3, .int 47), (2, .int 8), (0, .ref 0), (1, .ref 22)]) (stk' := [.int 0]) (mem' := fm g tp bt a b) (fun _ _ _ => rfl) ?_
    refine fe_s 1 (pc' := cond (fx_cb .eq 0 0) 115 80) (lc' := [(6, .int 47), (5, .int 0), (4, .int 52), (3, .int 47), (2, .int 8), (0, .ref 0), (1, .ref 22)]) (stk' := []) (mem' := fm g tp bt a b) (fun _ _ _ => rfl) ?_
    rw [show (fx_cb .eq 0 0) = true from by decide]
    dsimp only [cond]
    refine fe_s 1 (pc' := 117) (lc' := [(6, .int 47), (5, .int 0), (4, .int 52), (3, .int 47), (2, .int 8), (0, .ref 0), (1, .ref 22)]) (stk' := [.int 0]) (mem' := fm g tp bt a b) (fun _ _ _ => rfl) ?_
    refine fe_s 1 (pc' := cond (fx_cb .eq 0 0) 122 120) (lc' := [(6, .int 47), (5, .int 0), (4, .int 52), (3, .int 47), (2, .int 8), (0, .ref 0), (1, .ref 22)]) (stk' := []) (mem' := fm g tp bt a b) (fun _ _ _ => rfl) ?_
    rw [show (fx_cb .eq 0 0) = true from by decide]
    dsimp only [cond]
    refine fe_s 6 (pc' := 14) (lc' := [(3, .int (52 + 1)), (2, .int (8 + 1)), (6, .int 47), (5, .int 0), (4, .int 52), (0, .ref 0), (1, .ref 22)]) (stk' := []) (mem' := fm g tp bt a b) (fun _ _ _ => rfl) ?_
    rw [show (8 + 1 : Int32) = 9 from rfl]
    rw [show (52 + 1 : Int32) = 53 from rfl]
    refine fe_w (lc' := [(3, .int 53), (2, .int 9), (0, .ref 0), (1, .ref 22)]) ⟨rfl, rfl, rfl, rfl, trivial⟩ (by show List.Nodup [3, 2, 0, 1]; decide) (by show List.Nodup [3, 2, 6, 5, 4, 0, 1]; decide) ?_
    exact fw_9 hxp
theorem fw_7 {S E F : Nat} (hxp : fm_xp g S E F) : fe_R 1 gk_m226 14 [(3, .int 40), (2, .int 7), (0, .ref 0), (1, .ref 22)] [] (fm g tp bt a b) (fm_FI (fm g tp bt a b)) := by
  obtain ⟨h11, hS9, h14, hES, h13, hFE, -, -, -⟩ := id hxp
  refine fe_s 2 (pc' := 16) (lc' := [(3, .int 40), (2, .int 7), (0, .ref 0), (1, .ref 22)]) (stk' := [.ref 22, .int 40]) (mem' := fm g tp bt a b) (fun _ _ _ => rfl) ?_
  refine fe_s 1 (pc' := 19) (lc' := [(3, .int 40), (2, .int 7), (0, .ref 0), (1, .ref 22)]) (stk' := [.int 117, .int 40]) (mem' := fm g tp bt a b) (fun _ _ _ => rfl) ?_
  refine fe_s 1 (pc' := cond (fx_cb .ge 40 117) 133 22) (lc' := [(3, .int 40), (2, .int 7), (0, .ref 0), (1, .ref 22)]) (stk' := []) (mem' := fm g tp bt a b) (fun _ _ _ => rfl) ?_
  rw [show (fx_cb .ge 40 117) = false from by decide]
  dsimp only [cond]
  refine fe_s 4 (pc' := 28) (lc' := [(4, .int 40), (3, .int 40), (2, .int 7), (0, .ref 0), (1, .ref 22)]) (stk' := [.int 40, .ref 22]) (mem' := fm g tp bt a b) (fun _ _ _ => rfl) ?_
  refine fe_chr (i := 40) (by omega) (by rfl) (by rfl) ⟨by rfl, by rfl⟩ (by rfl) ?_
  rw [show sk_b.getD 40 0 = 98 from rfl]
  refine fe_s 1 (pc' := 33) (lc' := [(4, .int 40), (3, .int 40), (2, .int 7), (0, .ref 0), (1, .ref 22)]) (stk' := [.int 32, .int 98]) (mem' := fm g tp bt a b) (fun _ _ _ => rfl) ?_
  refine fe_s 1 (pc' := cond (fx_cb .eq 98 32) 42 36) (lc' := [(4, .int 40), (3, .int 40), (2, .int 7), (0, .ref 0), (1, .ref 22)]) (stk' := []) (mem' := fm g tp bt a b) (fun _ _ _ => rfl) ?_
  rw [show (fx_cb .eq 98 32) = false from by decide]
  dsimp only [cond]
  refine fe_s 4 (pc' := 28) (lc' := [(4, .int (40 + 1)), (3, .int 40), (2, .int 7), (0, .ref 0), (1, .ref 22)]) (stk' := [.int (40 + 1), .ref 22]) (mem' := fm g tp bt a b) (fun _ _ _ => rfl) ?_
  rw [show (40 + 1 : Int32) = 41 from rfl]
  refine fe_chr (i := 41) (by omega) (by rfl) (by rfl) ⟨by rfl, by rfl⟩ (by rfl) ?_
  rw [show sk_b.getD 41 0 = 101 from rfl]
  refine fe_s 1 (pc' := 33) (lc' := [(4, .int 41), (3, .int 40), (2, .int 7), (0, .ref 0), (1, .ref 22)]) (stk' := [.int 32, .int 101]) (mem' := fm g tp bt a b) (fun _ _ _ => rfl) ?_
  refine fe_s 1 (pc' := cond (fx_cb .eq 101 32) 42 36) (lc' := [(4, .int 41), (3, .int 40), (2, .int 7), (0, .ref 0), (1, .ref 22)]) (stk' := []) (mem' := fm g tp bt a b) (fun _ _ _ => rfl) ?_
  rw [show (fx_cb .eq 101 32) = false from by decide]
  dsimp only [cond]
  refine fe_s 4 (pc' := 28) (lc' := [(4, .int (41 + 1)), (3, .int 40), (2, .int 7), (0, .ref 0), (1, .ref 22)]) (stk' := [.int (41 + 1), .ref 22]) (mem' := fm g tp bt a b) (fun _ _ _ => rfl) ?_
  rw [show (41 + 1 : Int32) = 42 from rfl]
  refine fe_chr (i := 42) (by omega) (by rfl) (by rfl) ⟨by rfl, by rfl⟩ (by rfl) ?_
  rw [show sk_b.getD 42 0 = 116 from rfl]
  refine fe_s 1 (pc' := 33) (lc' := [(4, .int 42), (3, .int 40), (2, .int 7), (0, .ref 0), (1, .ref 22)]) (stk' := [.int 32, .int 116]) (mem' := fm g tp bt a b) (fun _ _ _ => rfl) ?_
  refine fe_s 1 (pc' := cond (fx_cb .eq 116 32) 42 36) (lc' := [(4, .int 42), (3, .int 40), (2, .int 7), (0, .ref 0), (1, .ref 22)]) (stk' := []) (mem' := fm g tp bt a b) (fun _ _ _ => rfl) ?_
  rw [show (fx_cb .eq 116 32) = false from by decide]
  dsimp only [cond]
  refine fe_s 4 (pc' := 28) (lc' := [(4, .int (42 + 1)), (3, .int 40), (2, .int 7), (0, .ref 0), (1, .ref 22)]) (stk' := [.int (42 + 1), .ref 22]) (mem' := fm g tp bt a b) (fun _ _ _ => rfl) ?_
  rw [show (42 + 1 : Int32) = 43 from rfl]
  refine fe_chr (i := 43) (by omega) (by rfl) (by rfl) ⟨by rfl, by rfl⟩ (by rfl) ?_
  rw [show sk_b.getD 43 0 = 116 from rfl]
  refine fe_s 1 (pc' := 33) (lc' := [(4, .int 43), (3, .int 40), (2, .int 7), (0, .ref 0), (1, .ref 22)]) (stk' := [.int 32, .int 116]) (mem' := fm g tp bt a b) (fun _ _ _ => rfl) ?_
  refine fe_s 1 (pc' := cond (fx_cb .eq 116 32) 42 36) (lc' := [(4, .int 43), (3, .int 40), (2, .int 7), (0, .ref 0), (1, .ref 22)]) (stk' := []) (mem' := fm g tp bt a b) (fun _ _ _ => rfl) ?_
  rw [show (fx_cb .eq 116 32) = false from by decide]
  dsimp only [cond]
  refine fe_s 4 (pc' := 28) (lc' := [(4, .int (43 + 1)), (3, .int 40), (2, .int 7), (0, .ref 0), (1, .ref 22)]) (stk' := [.int (43 + 1), .ref 22]) (mem' := fm g tp bt a b) (fun _ _ _ => rfl) ?_
  rw [show (43 + 1 : Int32) = 44 from rfl]
  refine fe_chr (i := 44) (by omega) (by rfl) (by rfl) ⟨by rfl, by rfl⟩ (by rfl) ?_
  rw [show sk_b.getD 44 0 = 101 from rfl]
  refine fe_s 1 (pc' := 33) (lc' := [(4, .int 44), (3, .int 40), (2, .int 7), (0, .ref 0), (1, .ref 22)]) (stk' := [.int 32, .int 101]) (mem' := fm g tp bt a b) (fun _ _ _ => rfl) ?_
  refine fe_s 1 (pc' := cond (fx_cb .eq 101 32) 42 36) (lc' := [(4, .int 44), (3, .int 40), (2, .int 7), (0, .ref 0), (1, .ref 22)]) (stk' := []) (mem' := fm g tp bt a b) (fun _ _ _ => rfl) ?_
  rw [show (fx_cb .eq 101 32) = false from by decide]
  dsimp only [cond]
  refine fe_s 4 (pc' := 28) (lc' := [(4, .int (44 + 1)), (3, .int 40), (2, .int 7), (0, .ref 0), (1, .ref 22)]) (stk' := [.int (44 + 1), .ref 22]) (mem' := fm g tp bt a b) (fun _ _ _ => rfl) ?_
  rw [show (44 + 1 : Int32) = 45 from rfl]
  refine fe_chr (i := 45) (by omega) (by rfl) (by rfl) ⟨by rfl, by rfl⟩ (by rfl) ?_
  rw [show sk_b.getD 45 0 = 114 from rfl]
  refine fe_s 1 (pc' := 33) (lc' := [(4, .int 45), (3, .int 40), (2, .int 7), (0, .ref 0), (1, .ref 22)]) (stk' := [.int 32, .int 114]) (mem' := fm g tp bt a b) (fun _ _ _ => rfl) ?_
  refine fe_s 1 (pc' := cond (fx_cb .eq 114 32) 42 36) (lc' := [(4, .int 45), (3, .int 40), (2, .int 7), (0, .ref 0), (1, .ref 22)]) (stk' := []) (mem' := fm g tp bt a b) (fun _ _ _ => rfl) ?_
  rw [show (fx_cb .eq 114 32) = false from by decide]
  dsimp only [cond]
  refine fe_s 4 (pc' := 28) (lc' := [(4, .int (45 + 1)), (3, .int 40), (2, .int 7), (0, .ref 0), (1, .ref 22)]) (stk' := [.int (45 + 1), .ref 22]) (mem' := fm g tp bt a b) (fun _ _ _ => rfl) ?_
  rw [show (45 + 1 : Int32) = 46 from rfl]
  refine fe_chr (i := 46) (by omega) (by rfl) (by rfl) ⟨by rfl, by rfl⟩ (by rfl) ?_
  rw [show sk_b.getD 46 0 = 32 from rfl]
  refine fe_s 1 (pc' := 33) (lc' := [(4, .int 46), (3, .int 40), (2, .int 7), (0, .ref 0), (1, .ref 22)]) (stk' := [.int 32, .int 32]) (mem' := fm g tp bt a b) (fun _ _ _ => rfl) ?_
  refine fe_s 1 (pc' := cond (fx_cb .eq 32 32) 42 36) (lc' := [(4, .int 46), (3, .int 40), (2, .int 7), (0, .ref 0), (1, .ref 22)]) (stk' := []) (mem' := fm g tp bt a b) (fun _ _ _ => rfl) ?_
  rw [show (fx_cb .eq 32 32) = true from by decide]
  dsimp only [cond]
  refine fe_s 8 (pc' := 55) (lc' := [(4, .int 46), (3, .int 40), (2, .int 7), (0, .ref 0), (1, .ref 22)]) (stk' := [.int ((g 14) - (g 13)), .int (46 - 40)]) (mem' := fm g tp bt a b) (fun _ _ _ => rfl) ?_
  try rw [h14]
  try rw [h13]
  rw [show (46 - 40 : Int32) = 6 from rfl]
  rw [show ((nI E) - (nI F) : Int32) = nI (E - F) from by simp only [tg_sub2 (x := E) (y := F) (by omega), nI_add, fm_mul]]
  refine fe_s 1 (pc' := cond (fx_cb .ne 6 (nI (E - F))) 62 58) (lc' := [(4, .int 46), (3, .int 40), (2, .int 7), (0, .ref 0), (1, .ref 22)]) (stk' := []) (mem' := fm g tp bt a b) (fun _ _ _ => rfl) ?_
  by_cases h1 : 6 = (E - F)
  · rw [show (fx_cb .ne 6 (nI (E - F))) = false from cb_neF (a := 6) (b := E - F) (by omega) (by omega) (by omega)]
    dsimp only [cond]
    refine fe_s 7 (pc' := 72) (lc' := [(6, .int 40), (5, .int 1), (4, .int 46), (3, .int 40), (2, .int 7), (0, .ref 0), (1, .ref 22)]) (stk' := [.int 46, .int 40]) (mem' := fm g tp bt a b) (fun _ _ _ => rfl) ?_
    refine fe_s 1 (pc' := cond (fx_cb .ge 40 46) 115 75) (lc' := [(6, .int 40), (5, .int 1), (4, .int 46), (3, .int 40), (2, .int 7), (0, .ref 0), (1, .ref 22)]) (stk' := []) (mem' := fm g tp bt a b) (fun _ _ _ => rfl) ?_
    rw [show (fx_cb .ge 40 46) = false from by decide]
    dsimp only [cond]
    refine fe_s 1 (pc' := 77) (lc' := [(6, .int 40), (5, .int 1), (4, .int 46), (3, .int 40), (2, .int 7), (0, .ref 0), (1, .ref 22)]) (stk' := [.int 1]) (mem' := fm g tp bt a b) (fun _ _ _ => rfl) ?_
    refine fe_s 1 (pc' := cond (fx_cb .eq 1 0) 115 80) (lc' := [(6, .int 40), (5, .int 1), (4, .int 46), (3, .int 40), (2, .int 7), (0, .ref 0), (1, .ref 22)]) (stk' := []) (mem' := fm g tp bt a b) (fun _ _ _ => rfl) ?_
    rw [show (fx_cb .eq 1 0) = false from by decide]
    dsimp only [cond]
    refine fe_s 2 (pc' := 83) (lc' := [(6, .int 40), (5, .int 1), (4, .int 46), (3, .int 40), (2, .int 7), (0, .ref 0), (1, .ref 22)]) (stk' := [.int 40, .ref 22]) (mem' := fm g tp bt a b) (fun _ _ _ => rfl) ?_
    refine fe_chr (i := 40) (by omega) (by rfl) (by rfl) ⟨by rfl, by rfl⟩ (by rfl) ?_
    rw [show sk_b.getD 40 0 = 98 from rfl]
    refine fe_s 7 (pc' := 96) (lc' := [(6, .int 40), (5, .int 1), (4, .int 46), (3, .int 40), (2, .int 7), (0, .ref 0), (1, .ref 22)]) (stk' := [.int (((g 13) + 40) - 40), .ref 0, .int 98]) (mem' := fm g tp bt a b) (fun _ _ _ => rfl) ?_
    try rw [h13]
    rw [show (((nI F) + 40) - 40 : Int32) = nI ((F + 40) - 40) from by simp only [show (40 : Int32) = nI 40 from rfl, tg_sub2 (x := F + 40) (y := 40) (by omega), nI_add, fm_mul]]
    refine fe_ivV (fr_byteAt (S := S) (k := (F + 40) - 40) (g := g) (tp := tp) (bt := bt) (a := a) (b := b) h11 (by omega) (by omega)) (by omega) (by rfl) (by rfl) (by rfl) (by rfl) (by rfl) (by rfl) ?_
    rcases fm_byte_or a S ((F + 40) - 40) with ⟨e3, q4⟩ | ⟨q4, n2, qn2, e3⟩
    · rw [e3]
      refine fe_s 1 (pc' := cond (fx_cb .ne 98 (-1)) 106 102) (lc' := [(6, .int 40), (5, .int 1), (4, .int 46), (3, .int 40), (2, .int 7), (0, .ref 0), (1, .ref 22)]) (stk' := []) (mem' := fm g tp bt a b) (fun _ _ _ => rfl) ?_
      rw [show (fx_cb .ne 98 (-1)) = true from by decide]
      dsimp only [cond]
      refine fe_s 6 (pc' := 72) (lc' := [(6, .int (40 + 1)), (5, .int 0), (4, .int 46), (3, .int 40), (2, .int 7), (0, .ref 0), (1, .ref 22)]) (stk' := [.int 46, .int (40 + 1)]) (mem' := fm g tp bt a b) (fun _ _ _ => rfl) ?_
      rw [show (40 + 1 : Int32) = 41 from rfl]
      refine fe_s 1 (pc' := cond (fx_cb .ge 41 46) 115 75) (lc' := [(6, .int 41), (5, .int 0), (4, .int 46), (3, .int 40), (2, .int 7), (0, .ref 0), (1, .ref 22)]) (stk' := []) (mem' := fm g tp bt a b) (fun _ _ _ => rfl) ?_
      rw [show (fx_cb .ge 41 46) = false from by decide]
      dsimp only [cond]
      refine fe_s 1 (pc' := 77) (lc' := [(6, .int 41), (5, .int 0), (4, .int 46), (3, .int 40), (2, .int 7), (0, .ref 0), (1, .ref 22)]) (stk' := [.int 0]) (mem' := fm g tp bt a b) (fun _ _ _ => rfl) ?_
      refine fe_s 1 (pc' := cond (fx_cb .eq 0 0) 115 80) (lc' := [(6, .int 41), (5, .int 0), (4, .int 46), (3, .int 40), (2, .int 7), (0, .ref 0), (1, .ref 22)]) (stk' := []) (mem' := fm g tp bt a b) (fun _ _ _ => rfl) ?_
      rw [show (fx_cb .eq 0 0) = true from by decide]
      dsimp only [cond]
      refine fe_s 1 (pc' := 117) (lc' := [(6, .int 41), (5, .int 0), (4, .int 46), (3, .int 40), (2, .int 7), (0, .ref 0), (1, .ref 22)]) (stk' := [.int 0]) (mem' := fm g tp bt a b) (fun _ _ _ => rfl) ?_
      refine fe_s 1 (pc' := cond (fx_cb .eq 0 0) 122 120) (lc' := [(6, .int 41), (5, .int 0), (4, .int 46), (3, .int 40), (2, .int 7), (0, .ref 0), (1, .ref 22)]) (stk' := []) (mem' := fm g tp bt a b) (fun _ _ _ => rfl) ?_
      rw [show (fx_cb .eq 0 0) = true from by decide]
      dsimp only [cond]
      refine fe_s 6 (pc' := 14) (lc' := [(3, .int (46 + 1)), (2, .int (7 + 1)), (6, .int 41), (5, .int 0), (4, .int 46), (0, .ref 0), (1, .ref 22)]) (stk' := []) (mem' := fm g tp bt a b) (fun _ _ _ => rfl) ?_
      rw [show (7 + 1 : Int32) = 8 from rfl]
      rw [show (46 + 1 : Int32) = 47 from rfl]
      refine fe_w (lc' := [(3, .int 47), (2, .int 8), (0, .ref 0), (1, .ref 22)]) ⟨rfl, rfl, rfl, rfl, trivial⟩ (by show List.Nodup [3, 2, 0, 1]; decide) (by show List.Nodup [3, 2, 6, 5, 4, 0, 1]; decide) ?_
      exact fw_8 hxp
    · rw [e3]
      refine fe_s 1 (pc' := cond (fx_cb .ne 98 (nI n2)) 106 102) (lc' := [(6, .int 40), (5, .int 1), (4, .int 46), (3, .int 40), (2, .int 7), (0, .ref 0), (1, .ref 22)]) (stk' := []) (mem' := fm g tp bt a b) (fun _ _ _ => rfl) ?_
      by_cases h5 : 98 = n2
      · rw [show (fx_cb .ne 98 (nI n2)) = false from cb_neF (a := 98) (b := n2) (by omega) (by omega) (by omega)]
        dsimp only [cond]
        refine fe_s 7 (pc' := 72) (lc' := [(6, .int (40 + 1)), (5, .int 1), (4, .int 46), (3, .int 40), (2, .int 7), (0, .ref 0), (1, .ref 22)]) (stk' := [.int 46, .int (40 + 1)]) (mem' := fm g tp bt a b) (fun _ _ _ => rfl) ?_
        rw [show (40 + 1 : Int32) = 41 from rfl]
        refine fe_s 1 (pc' := cond (fx_cb .ge 41 46) 115 75) (lc' := [(6, .int 41), (5, .int 1), (4, .int 46), (3, .int 40), (2, .int 7), (0, .ref 0), (1, .ref 22)]) (stk' := []) (mem' := fm g tp bt a b) (fun _ _ _ => rfl) ?_
        rw [show (fx_cb .ge 41 46) = false from by decide]
        dsimp only [cond]
        refine fe_s 1 (pc' := 77) (lc' := [(6, .int 41), (5, .int 1), (4, .int 46), (3, .int 40), (2, .int 7), (0, .ref 0), (1, .ref 22)]) (stk' := [.int 1]) (mem' := fm g tp bt a b) (fun _ _ _ => rfl) ?_
        refine fe_s 1 (pc' := cond (fx_cb .eq 1 0) 115 80) (lc' := [(6, .int 41), (5, .int 1), (4, .int 46), (3, .int 40), (2, .int 7), (0, .ref 0), (1, .ref 22)]) (stk' := []) (mem' := fm g tp bt a b) (fun _ _ _ => rfl) ?_
        rw [show (fx_cb .eq 1 0) = false from by decide]
        dsimp only [cond]
        refine fe_s 2 (pc' := 83) (lc' := [(6, .int 41), (5, .int 1), (4, .int 46), (3, .int 40), (2, .int 7), (0, .ref 0), (1, .ref 22)]) (stk' := [.int 41, .ref 22]) (mem' := fm g tp bt a b) (fun _ _ _ => rfl) ?_
        refine fe_chr (i := 41) (by omega) (by rfl) (by rfl) ⟨by rfl, by rfl⟩ (by rfl) ?_
        rw [show sk_b.getD 41 0 = 101 from rfl]
        refine fe_s 7 (pc' := 96) (lc' := [(6, .int 41), (5, .int 1), (4, .int 46), (3, .int 40), (2, .int 7), (0, .ref 0), (1, .ref 22)]) (stk' := [.int (((g 13) + 41) - 40), .ref 0, .int 101]) (mem' := fm g tp bt a b) (fun _ _ _ => rfl) ?_
        try rw [h13]
        rw [show (((nI F) + 41) - 40 : Int32) = nI ((F + 41) - 40) from by simp only [show (41 : Int32) = nI 41 from rfl, show (40 : Int32) = nI 40 from rfl, tg_sub2 (x := F + 41) (y := 40) (by omega), nI_add, fm_mul]]
        refine fe_ivV (fr_byteAt (S := S) (k := (F + 41) - 40) (g := g) (tp := tp) (bt := bt) (a := a) (b := b) h11 (by omega) (by omega)) (by omega) (by rfl) (by rfl) (by rfl) (by rfl) (by rfl) (by rfl) ?_
        rcases fm_byte_or a S ((F + 41) - 40) with ⟨e7, q8⟩ | ⟨q8, n6, qn6, e7⟩
        · rw [e7]
          refine fe_s 1 (pc' := cond (fx_cb .ne 101 (-1)) 106 102) (lc' := [(6, .int 41), (5, .int 1), (4, .int 46), (3, .int 40), (2, .int 7), (0, .ref 0), (1, .ref 22)]) (stk' := []) (mem' := fm g tp bt a b) (fun _ _ _ => rfl) ?_
          rw [show (fx_cb .ne 101 (-1)) = true from by decide]
          dsimp only [cond]
          refine fe_s 6 (pc' := 72) (lc' := [(6, .int (41 + 1)), (5, .int 0), (4, .int 46), (3, .int 40), (2, .int 7), (0, .ref 0), (1, .ref 22)]) (stk' := [.int 46, .int (41 + 1)]) (mem' := fm g tp bt a b) (fun _ _ _ => rfl) ?_
          rw [show (41 + 1 : Int32) = 42 from rfl]
          refine fe_s 1 (pc' := cond (fx_cb .ge 42 46) 115 75) (lc' := [(6, .int 42), (5, .int 0), (4, .int 46), (3, .int 40), (2, .int 7), (0, .ref 0), (1, .ref 22)]) (stk' := []) (mem' := fm g tp bt a b) (fun _ _ _ => rfl) ?_
          rw [show (fx_cb .ge 42 46) = false from by decide]
          dsimp only [cond]
          refine fe_s 1 (pc' := 77) (lc' := [(6, .int 42), (5, .int 0), (4, .int 46), (3, .int 40), (2, .int 7), (0, .ref 0), (1, .ref 22)]) (stk' := [.int 0]) (mem' := fm g tp bt a b) (fun _ _ _ => rfl) ?_
          refine fe_s 1 (pc' := cond (fx_cb .eq 0 0) 115 80) (lc' := [(6, .int 42), (5, .int 0), (4, .int 46), (3, .int 40), (2, .int 7), (0, .ref 0), (1, .ref 22)]) (stk' := []) (mem' := fm g tp bt a b) (fun _ _ _ => rfl) ?_
          rw [show (fx_cb .eq 0 0) = true from by decide]
          dsimp only [cond]
          refine fe_s 1 (pc' := 117) (lc' := [(6, .int 42), (5, .int 0), (4, .int 46), (3, .int 40), (2, .int 7), (0, .ref 0), (1, .ref 22)]) (stk' := [.int 0]) (mem' := fm g tp bt a b) (fun _ _ _ => rfl) ?_
          refine fe_s 1 (pc' := cond (fx_cb .eq 0 0) 122 120) (lc' := [(6, .int 42), (5, .int 0), (4, .int 46), (3, .int 40), (2, .int 7), (0, .ref 0), (1, .ref 22)]) (stk' := []) (mem' := fm g tp bt a b) (fun _ _ _ => rfl) ?_
          rw [show (fx_cb .eq 0 0) = true from by decide]
          dsimp only [cond]
          refine fe_s 6 (pc' := 14) (lc' := [(3, .int (46 + 1)), (2, .int (7 + 1)), (6, .int 42), (5, .int 0), (4, .int 46), (0, .ref 0), (1, .ref 22)]) (stk' := []) (mem' := fm g tp bt a b) (fun _ _ _ => rfl) ?_
          rw [show (7 + 1 : Int32) = 8 from rfl]
          rw [show (46 + 1 : Int32) = 47 from rfl]
          refine fe_w (lc' := [(3, .int 47), (2, .int 8), (0, .ref 0), (1, .ref 22)]) ⟨rfl, rfl, rfl, rfl, trivial⟩ (by show List.Nodup [3, 2, 0, 1]; decide) (by show List.Nodup [3, 2, 6, 5, 4, 0, 1]; decide) ?_
          exact fw_8 hxp
        · rw [e7]
          refine fe_s 1 (pc' := cond (fx_cb .ne 101 (nI n6)) 106 102) (lc' := [(6, .int 41), (5, .int 1), (4, .int 46), (3, .int 40), (2, .int 7), (0, .ref 0), (1, .ref 22)]) (stk' := []) (mem' := fm g tp bt a b) (fun _ _ _ => rfl) ?_
          by_cases h9 : 101 = n6
          · rw [show (fx_cb .ne 101 (nI n6)) = false from cb_neF (a := 101) (b := n6) (by omega) (by omega) (by omega)]
            dsimp only [cond]
            refine fe_s 7 (pc' := 72) (lc' := [(6, .int (41 + 1)), (5, .int 1), (4, .int 46), (3, .int 40), (2, .int 7), (0, .ref 0), (1, .ref 22)]) (stk' := [.int 46, .int (41 + 1)]) (mem' := fm g tp bt a b) (fun _ _ _ => rfl) ?_
            rw [show (41 + 1 : Int32) = 42 from rfl]
            refine fe_s 1 (pc' := cond (fx_cb .ge 42 46) 115 75) (lc' := [(6, .int 42), (5, .int 1), (4, .int 46), (3, .int 40), (2, .int 7), (0, .ref 0), (1, .ref 22)]) (stk' := []) (mem' := fm g tp bt a b) (fun _ _ _ => rfl) ?_
            rw [show (fx_cb .ge 42 46) = false from by decide]
            dsimp only [cond]
            refine fe_s 1 (pc' := 77) (lc' := [(6, .int 42), (5, .int 1), (4, .int 46), (3, .int 40), (2, .int 7), (0, .ref 0), (1, .ref 22)]) (stk' := [.int 1]) (mem' := fm g tp bt a b) (fun _ _ _ => rfl) ?_
            refine fe_s 1 (pc' := cond (fx_cb .eq 1 0) 115 80) (lc' := [(6, .int 42), (5, .int 1), (4, .int 46), (3, .int 40), (2, .int 7), (0, .ref 0), (1, .ref 22)]) (stk' := []) (mem' := fm g tp bt a b) (fun _ _ _ => rfl) ?_
            rw [show (fx_cb .eq 1 0) = false from by decide]
            dsimp only [cond]
            refine fe_s 2 (pc' := 83) (lc' := [(6, .int 42), (5, .int 1), (4, .int 46), (3, .int 40), (2, .int 7), (0, .ref 0), (1, .ref 22)]) (stk' := [.int 42, .ref 22]) (mem' := fm g tp bt a b) (fun _ _ _ => rfl) ?_
            refine fe_chr (i := 42) (by omega) (by rfl) (by rfl) ⟨by rfl, by rfl⟩ (by rfl) ?_
            rw [show sk_b.getD 42 0 = 116 from rfl]
            refine fe_s 7 (pc' := 96) (lc' := [(6, .int 42), (5, .int 1), (4, .int 46), (3, .int 40), (2, .int 7), (0, .ref 0), (1, .ref 22)]) (stk' := [.int (((g 13) + 42) - 40), .ref 0, .int 116]) (mem' := fm g tp bt a b) (fun _ _ _ => rfl) ?_
            try rw [h13]
            rw [show (((nI F) + 42) - 40 : Int32) = nI ((F + 42) - 40) from by simp only [show (42 : Int32) = nI 42 from rfl, show (40 : Int32) = nI 40 from rfl, tg_sub2 (x := F + 42) (y := 40) (by omega), nI_add, fm_mul]]
            refine fe_ivV (fr_byteAt (S := S) (k := (F + 42) - 40) (g := g) (tp := tp) (bt := bt) (a := a) (b := b) h11 (by omega) (by omega)) (by omega) (by rfl) (by rfl) (by rfl) (by rfl) (by rfl) (by rfl) ?_
            rcases fm_byte_or a S ((F + 42) - 40) with ⟨e11, q12⟩ | ⟨q12, n10, qn10, e11⟩
            · rw [e11]
              refine fe_s 1 (pc' := cond (fx_cb .ne 116 (-1)) 106 102) (lc' := [(6, .int 42), (5, .int 1), (4, .int 46), (3, .int 40), (2, .int 7), (0, .ref 0), (1, .ref 22)]) (stk' := []) (mem' := fm g tp bt a b) (fun _ _ _ => rfl) ?_
              rw [show (fx_cb .ne 116 (-1)) = true from by decide]
              dsimp only [cond]
              refine fe_s 6 (pc' := 72) (lc' := [(6, .int (42 + 1)), (5, .int 0), (4, .int 46), (3, .int 40), (2, .int 7), (0, .ref 0), (1, .ref 22)]) (stk' := [.int 46, .int (42 + 1)]) (mem' := fm g tp bt a b) (fun _ _ _ => rfl) ?_
              rw [show (42 + 1 : Int32) = 43 from rfl]
              refine fe_s 1 (pc' := cond (fx_cb .ge 43 46) 115 75) (lc' := [(6, .int 43), (5, .int 0), (4, .int 46), (3, .int 40), (2, .int 7), (0, .ref 0), (1, .ref 22)]) (stk' := []) (mem' := fm g tp bt a b) (fun _ _ _ => rfl) ?_
              rw [show (fx_cb .ge 43 46) = false from by decide]
              dsimp only [cond]
              refine fe_s 1 (pc' := 77) (lc' := [(6, .int 43), (5, .int 0), (4, .int 46), (3, .int 40), (2, .int 7), (0, .ref 0), (1, .ref 22)]) (stk' := [.int 0]) (mem' := fm g tp bt a b) (fun _ _ _ => rfl) ?_
              refine fe_s 1 (pc' := cond (fx_cb .eq 0 0) 115 80) (lc' := [(6, .int 43), (5, .int 0), (4, .int 46), (3, .int 40), (2, .int 7), (0, .ref 0), (1, .ref 22)]) (stk' := []) (mem' := fm g tp bt a b) (fun _ _ _ => rfl) ?_
              rw [show (fx_cb .eq 0 0) = true from by decide]
              dsimp only [cond]
              refine fe_s 1 (pc' := 117) (lc' := [(6, .int 43), (5, .int 0), (4, .int 46), (3, .int 40), (2, .int 7), (0, .ref 0), (1, .ref 22)]) (stk' := [.int 0]) (mem' := fm g tp bt a b) (fun _ _ _ => rfl) ?_
              refine fe_s 1 (pc' := cond (fx_cb .eq 0 0) 122 120) (lc' := [(6, .int 43), (5, .int 0), (4, .int 46), (3, .int 40), (2, .int 7), (0, .ref 0), (1, .ref 22)]) (stk' := []) (mem' := fm g tp bt a b) (fun _ _ _ => rfl) ?_
              rw [show (fx_cb .eq 0 0) = true from by decide]
              dsimp only [cond]
              refine fe_s 6 (pc' := 14) (lc' := [(3, .int (46 + 1)), (2, .int (7 + 1)), (6, .int 43), (5, .int 0), (4, .int 46), (0, .ref 0), (1, .ref 22)]) (stk' := []) (mem' := fm g tp bt a b) (fun _ _ _ => rfl) ?_
              rw [show (7 + 1 : Int32) = 8 from rfl]
              rw [show (46 + 1 : Int32) = 47 from rfl]
              refine fe_w (lc' := [(3, .int 47), (2, .int 8), (0, .ref 0), (1, .ref 22)]) ⟨rfl, rfl, rfl, rfl, trivial⟩ (by show List.Nodup [3, 2, 0, 1]; decide) (by show List.Nodup [3, 2, 6, 5, 4, 0, 1]; decide) ?_
              exact fw_8 hxp
            · rw [e11]
              refine fe_s 1 (pc' := cond (fx_cb .ne 116 (nI n10)) 106 102) (lc' := [(6, .int 42), (5, .int 1), (4, .int 46), (3, .int 40), (2, .int 7), (0, .ref 0), (1, .ref 22)]) (stk' := []) (mem' := fm g tp bt a b) (fun _ _ _ => rfl) ?_
              by_cases h13 : 116 = n10
              · rw [show (fx_cb .ne 116 (nI n10)) = false from cb_neF (a := 116) (b := n10) (by omega) (by omega) (by omega)]
                dsimp only [cond]
                refine fe_s 7 (pc' := 72) (lc' := [(6, .int (42 + 1)), (5, .int 1), (4, .int 46), (3, .int 40), (2, .int 7), (0, .ref 0), (1, .ref 22)]) (stk' := [.int 46, .int (42 + 1)]) (mem' := fm g tp bt a b) (fun _ _ _ => rfl) ?_
                rw [show (42 + 1 : Int32) = 43 from rfl]
                refine fe_s 1 (pc' := cond (fx_cb .ge 43 46) 115 75) (lc' := [(6, .int 43), (5, .int 1), (4, .int 46), (3, .int 40), (2, .int 7), (0, .ref 0), (1, .ref 22)]) (stk' := []) (mem' := fm g tp bt a b) (fun _ _ _ => rfl) ?_
                rw [show (fx_cb .ge 43 46) = false from by decide]
                dsimp only [cond]
                refine fe_s 1 (pc' := 77) (lc' := [(6, .int 43), (5, .int 1), (4, .int 46), (3, .int 40), (2, .int 7), (0, .ref 0), (1, .ref 22)]) (stk' := [.int 1]) (mem' := fm g tp bt a b) (fun _ _ _ => rfl) ?_
                refine fe_s 1 (pc' := cond (fx_cb .eq 1 0) 115 80) (lc' := [(6, .int 43), (5, .int 1), (4, .int 46), (3, .int 40), (2, .int 7), (0, .ref 0), (1, .ref 22)]) (stk' := []) (mem' := fm g tp bt a b) (fun _ _ _ => rfl) ?_
                rw [show (fx_cb .eq 1 0) = false from by decide]
                dsimp only [cond]
                refine fe_s 2 (pc' := 83) (lc' := [(6, .int 43), (5, .int 1), (4, .int 46), (3, .int 40), (2, .int 7), (0, .ref 0), (1, .ref 22)]) (stk' := [.int 43, .ref 22]) (mem' := fm g tp bt a b) (fun _ _ _ => rfl) ?_
                refine fe_chr (i := 43) (by omega) (by rfl) (by rfl) ⟨by rfl, by rfl⟩ (by rfl) ?_
                rw [show sk_b.getD 43 0 = 116 from rfl]
                refine fe_s 7 (pc' := 96) (lc' := [(6, .int 43), (5, .int 1), (4, .int 46), (3, .int 40), (2, .int 7), (0, .ref 0), (1, .ref 22)]) (stk' := [.int (((g 13) + 43) - 40), .ref 0, .int 116]) (mem' := fm g tp bt a b) (fun _ _ _ => rfl) ?_
                try rw [h13]
                rw [show (((nI F) + 43) - 40 : Int32) = nI ((F + 43) - 40) from by simp only [show (43 : Int32) = nI 43 from rfl, show (40 : Int32) = nI 40 from rfl, tg_sub2 (x := F + 43) (y := 40) (by omega), nI_add, fm_mul]]
                refine fe_ivV (fr_byteAt (S := S) (k := (F + 43) - 40) (g := g) (tp := tp) (bt := bt) (a := a) (b := b) h11 (by omega) (by omega)) (by omega) (by rfl) (by rfl) (by rfl) (by rfl) (by rfl) (by rfl) ?_
                rcases fm_byte_or a S ((F + 43) - 40) with ⟨e15, q16⟩ | ⟨q16, n14, qn14, e15⟩
                · rw [e15]
                  refine fe_s 1 (pc' := cond (fx_cb .ne 116 (-1)) 106 102) (lc' := [(6, .int 43), (5, .int 1), (4, .int 46), (3, .int 40), (2, .int 7), (0, .ref 0), (1, .ref 22)]) (stk' := []) (mem' := fm g tp bt a b) (fun _ _ _ => rfl) ?_
                  rw [show (fx_cb .ne 116 (-1)) = true from by decide]
                  dsimp only [cond]
                  refine fe_s 6 (pc' := 72) (lc' := [(6, .int (43 + 1)), (5, .int 0), (4, .int 46), (3, .int 40), (2, .int 7), (0, .ref 0), (1, .ref 22)]) (stk' := [.int 46, .int (43 + 1)]) (mem' := fm g tp bt a b) (fun _ _ _ => rfl) ?_
                  rw [show (43 + 1 : Int32) = 44 from rfl]
                  refine fe_s 1 (pc' := cond (fx_cb .ge 44 46) 115 75) (lc' := [(6, .int 44), (5, .int 0), (4, .int 46), (3, .int 40), (2, .int 7), (0, .ref 0), (1, .ref 22)]) (stk' := []) (mem' := fm g tp bt a b) (fun _ _ _ => rfl) ?_
                  rw [show (fx_cb .ge 44 46) = false from by decide]
                  dsimp only [cond]
                  refine fe_s 1 (pc' := 77) (lc' := [(6, .int 44), (5, .int 0), (4, .int 46), (3, .int 40), (2, .int 7), (0, .ref 0), (1, .ref 22)]) (stk' := [.int 0]) (mem' := fm g tp bt a b) (fun _ _ _ => rfl) ?_
                  refine fe_s 1 (pc' := cond (fx_cb .eq 0 0) 115 80) (lc' := [(6, .int 44), (5, .int 0), (4, .int 46), (3, .int 40), (2, .int 7), (0, .ref 0), (1, .ref 22)]) (stk' := []) (mem' := fm g tp bt a b) (fun _ _ _ => rfl) ?_
                  rw [show (fx_cb .eq 0 0) = true from by decide]
                  dsimp only [cond]
                  refine fe_s 1 (pc' := 117) (lc' := [(6, .int 44), (5, .int 0), (4, .int 46), (3, .int 40), (2, .int 7), (0, .ref 0), (1, .ref 22)]) (stk' := [.int 0]) (mem' := fm g tp bt a b) (fun _ _ _ => rfl) ?_
                  refine fe_s 1 (pc' := cond (fx_cb .eq 0 0) 122 120) (lc' := [(6, .int 44), (5, .int 0), (4, .int 46), (3, .int 40), (2, .int 7), (0, .ref 0), (1, .ref 22)]) (stk' := []) (mem' := fm g tp bt a b) (fun _ _ _ => rfl) ?_
                  rw [show (fx_cb .eq 0 0) = true from by decide]
                  dsimp only [cond]
                  refine fe_s 6 (pc' := 14) (lc' := [(3, .int (46 + 1)), (2, .int (7 + 1)), (6, .int 44), (5, .int 0), (4, .int 46), (0, .ref 0), (1, .ref 22)]) (stk' := []) (mem' := fm g tp bt a b) (fun _ _ _ => rfl) ?_
                  rw [show (7 + 1 : Int32) = 8 from rfl]
                  rw [show (46 + 1 : Int32) = 47 from rfl]
                  refine fe_w (lc' := [(3, .int 47), (2, .int 8), (0, .ref 0), (1, .ref 22)]) ⟨rfl, rfl, rfl, rfl, trivial⟩ (by show List.Nodup [3, 2, 0, 1]; decide) (by show List.Nodup [3, 2, 6, 5, 4, 0, 1]; decide) ?_
                  exact fw_8 hxp
                · rw [e15]
                  refine fe_s 1 (pc' := cond (fx_cb .ne 116 (nI n14)) 106 102) (lc' := [(6, .int 43), (5, .int 1), (4, .int 46), (3, .int 40), (2, .int 7), (0, .ref 0), (1, .ref 22)]) (stk' := []) (mem' := fm g tp bt a b) (fun _ _ _ => rfl) ?_
                  by_cases h17 : 116 = n14
                  · rw [show (fx_cb .ne 116 (nI n14)) = false from cb_neF (a := 116) (b := n14) (by omega) (by omega) (by omega)]
                    dsimp only [cond]
                    refine fe_s 7 (pc' := 72) (lc' := [(6, .int (43 + 1)), (5, .int 1), (4, .int 46), (3, .int 40), (2, .int 7), (0, .ref 0), (1, .ref 22)]) (stk' := [.int 46, .int (43 + 1)]) (mem' := fm g tp bt a b) (fun _ _ _ => rfl) ?_
                    rw [show (43 + 1 : Int32) = 44 from rfl]
                    refine fe_s 1 (pc' := cond (fx_cb .ge 44 46) 115 75) (lc' := [(6, .int 44), (5, .int 1), (4, .int 46), (3, .int 40), (2, .int 7), (0, .ref 0), (1, .ref 22)]) (stk' := []) (mem' := fm g tp bt a b) (fun _ _ _ => rfl) ?_
                    rw [show (fx_cb .ge 44 46) = false from by decide]
                    dsimp only [cond]
                    refine fe_s 1 (pc' := 77) (lc' := [(6, .int 44), (5, .int 1), (4, .int 46), (3, .int 40), (2, .int 7), (0, .ref 0), (1, .ref 22)]) (stk' := [.int 1]) (mem' := fm g tp bt a b) (fun _ _ _ => rfl) ?_
                    refine fe_s 1 (pc' := cond (fx_cb .eq 1 0) 115 80) (lc' := [(6, .int 44), (5, .int 1), (4, .int 46), (3, .int 40), (2, .int 7), (0, .ref 0), (1, .ref 22)]) (stk' := []) (mem' := fm g tp bt a b) (fun _ _ _ => rfl) ?_
                    rw [show (fx_cb .eq 1 0) = false from by decide]
                    dsimp only [cond]
                    refine fe_s 2 (pc' := 83) (lc' := [(6, .int 44), (5, .int 1), (4, .int 46), (3, .int 40), (2, .int 7), (0, .ref 0), (1, .ref 22)]) (stk' := [.int 44, .ref 22]) (mem' := fm g tp bt a b) (fun _ _ _ => rfl) ?_
                    refine fe_chr (i := 44) (by omega) (by rfl) (by rfl) ⟨by rfl, by rfl⟩ (by rfl) ?_
                    rw [show sk_b.getD 44 0 = 101 from rfl]
                    refine fe_s 7 (pc' := 96) (lc' := [(6, .int 44), (5, .int 1), (4, .int 46), (3, .int 40), (2, .int 7), (0, .ref 0), (1, .ref 22)]) (stk' := [.int (((g 13) + 44) - 40), .ref 0, .int 101]) (mem' := fm g tp bt a b) (fun _ _ _ => rfl) ?_
                    try rw [h13]
                    rw [show (((nI F) + 44) - 40 : Int32) = nI ((F + 44) - 40) from by simp only [show (44 : Int32) = nI 44 from rfl, show (40 : Int32) = nI 40 from rfl, tg_sub2 (x := F + 44) (y := 40) (by omega), nI_add, fm_mul]]
                    refine fe_ivV (fr_byteAt (S := S) (k := (F + 44) - 40) (g := g) (tp := tp) (bt := bt) (a := a) (b := b) h11 (by omega) (by omega)) (by omega) (by rfl) (by rfl) (by rfl) (by rfl) (by rfl) (by rfl) ?_
                    rcases fm_byte_or a S ((F + 44) - 40) with ⟨e19, q20⟩ | ⟨q20, n18, qn18, e19⟩
                    · rw [e19]
                      refine fe_s 1 (pc' := cond (fx_cb .ne 101 (-1)) 106 102) (lc' := [(6, .int 44), (5, .int 1), (4, .int 46), (3, .int 40), (2, .int 7), (0, .ref 0), (1, .ref 22)]) (stk' := []) (mem' := fm g tp bt a b) (fun _ _ _ => rfl) ?_
                      rw [show (fx_cb .ne 101 (-1)) = true from by decide]
                      dsimp only [cond]
                      refine fe_s 6 (pc' := 72) (lc' := [(6, .int (44 + 1)), (5, .int 0), (4, .int 46), (3, .int 40), (2, .int 7), (0, .ref 0), (1, .ref 22)]) (stk' := [.int 46, .int (44 + 1)]) (mem' := fm g tp bt a b) (fun _ _ _ => rfl) ?_
                      rw [show (44 + 1 : Int32) = 45 from rfl]
                      refine fe_s 1 (pc' := cond (fx_cb .ge 45 46) 115 75) (lc' := [(6, .int 45), (5, .int 0), (4, .int 46), (3, .int 40), (2, .int 7), (0, .ref 0), (1, .ref 22)]) (stk' := []) (mem' := fm g tp bt a b) (fun _ _ _ => rfl) ?_
                      rw [show (fx_cb .ge 45 46) = false from by decide]
                      dsimp only [cond]
                      refine fe_s 1 (pc' := 77) (lc' := [(6, .int 45), (5, .int 0), (4, .int 46), (3, .int 40), (2, .int 7), (0, .ref 0), (1, .ref 22)]) (stk' := [.int 0]) (mem' := fm g tp bt a b) (fun _ _ _ => rfl) ?_
                      refine fe_s 1 (pc' := cond (fx_cb .eq 0 0) 115 80) (lc' := [(6, .int 45), (5, .int 0), (4, .int 46), (3, .int 40), (2, .int 7), (0, .ref 0), (1, .ref 22)]) (stk' := []) (mem' := fm g tp bt a b) (fun _ _ _ => rfl) ?_
                      rw [show (fx_cb .eq 0 0) = true from by decide]
                      dsimp only [cond]
                      refine fe_s 1 (pc' := 117) (lc' := [(6, .int 45), (5, .int 0), (4, .int 46), (3, .int 40), (2, .int 7), (0, .ref 0), (1, .ref 22)]) (stk' := [.int 0]) (mem' := fm g tp bt a b) (fun _ _ _ => rfl) ?_
                      refine fe_s 1 (pc' := cond (fx_cb .eq 0 0) 122 120) (lc' := [(6, .int 45), (5, .int 0), (4, .int 46), (3, .int 40), (2, .int 7), (0, .ref 0), (1, .ref 22)]) (stk' := []) (mem' := fm g tp bt a b) (fun _ _ _ => rfl) ?_
                      rw [show (fx_cb .eq 0 0) = true from by decide]
                      dsimp only [cond]
                      refine fe_s 6 (pc' := 14) (lc' := [(3, .int (46 + 1)), (2, .int (7 + 1)), (6, .int 45), (5, .int 0), (4, .int 46), (0, .ref 0), (1, .ref 22)]) (stk' := []) (mem' := fm g tp bt a b) (fun _ _ _ => rfl) ?_
                      rw [show (7 + 1 : Int32) = 8 from rfl]
                      rw [show (46 + 1 : Int32) = 47 from rfl]
                      refine fe_w (lc' := [(3, .int 47), (2, .int 8), (0, .ref 0), (1, .ref 22)]) ⟨rfl, rfl, rfl, rfl, trivial⟩ (by show List.Nodup [3, 2, 0, 1]; decide) (by show List.Nodup [3, 2, 6, 5, 4, 0, 1]; decide) ?_
                      exact fw_8 hxp
                    · rw [e19]
                      refine fe_s 1 (pc' := cond (fx_cb .ne 101 (nI n18)) 106 102) (lc' := [(6, .int 44), (5, .int 1), (4, .int 46), (3, .int 40), (2, .int 7), (0, .ref 0), (1, .ref 22)]) (stk' := []) (mem' := fm g tp bt a b) (fun _ _ _ => rfl) ?_
                      by_cases h21 : 101 = n18
                      · rw [show (fx_cb .ne 101 (nI n18)) = false from cb_neF (a := 101) (b := n18) (by omega) (by omega) (by omega)]
                        dsimp only [cond]
                        refine fe_s 7 (pc' := 72) (lc' := [(6, .int (44 + 1)), (5, .int 1), (4, .int 46), (3, .int 40), (2, .int 7), (0, .ref 0), (1, .ref 22)]) (stk' := [.int 46, .int (44 + 1)]) (mem' := fm g tp bt a b) (fun _ _ _ => rfl) ?_
                        rw [show (44 + 1 : Int32) = 45 from rfl]
                        refine fe_s 1 (pc' := cond (fx_cb .ge 45 46) 115 75) (lc' := [(6, .int 45), (5, .int 1), (4, .int 46), (3, .int 40), (2, .int 7), (0, .ref 0), (1, .ref 22)]) (stk' := []) (mem' := fm g tp bt a b) (fun _ _ _ => rfl) ?_
                        rw [show (fx_cb .ge 45 46) = false from by decide]
                        dsimp only [cond]
                        refine fe_s 1 (pc' := 77) (lc' := [(6, .int 45), (5, .int 1), (4, .int 46), (3, .int 40), (2, .int 7), (0, .ref 0), (1, .ref 22)]) (stk' := [.int 1]) (mem' := fm g tp bt a b) (fun _ _ _ => rfl) ?_
                        refine fe_s 1 (pc' := cond (fx_cb .eq 1 0) 115 80) (lc' := [(6, .int 45), (5, .int 1), (4, .int 46), (3, .int 40), (2, .int 7), (0, .ref 0), (1, .ref 22)]) (stk' := []) (mem' := fm g tp bt a b) (fun _ _ _ => rfl) ?_
                        rw [show (fx_cb .eq 1 0) = false from by decide]
                        dsimp only [cond]
                        refine fe_s 2 (pc' := 83) (lc' := [(6, .int 45), (5, .int 1), (4, .int 46), (3, .int 40), (2, .int 7), (0, .ref 0), (1, .ref 22)]) (stk' := [.int 45, .ref 22]) (mem' := fm g tp bt a b) (fun _ _ _ => rfl) ?_
                        refine fe_chr (i := 45) (by omega) (by rfl) (by rfl) ⟨by rfl, by rfl⟩ (by rfl) ?_
                        rw [show sk_b.getD 45 0 = 114 from rfl]
                        refine fe_s 7 (pc' := 96) (lc' := [(6, .int 45), (5, .int 1), (4, .int 46), (3, .int 40), (2, .int 7), (0, .ref 0), (1, .ref 22)]) (stk' := [.int (((g 13) + 45) - 40), .ref 0, .int 114]) (mem' := fm g tp bt a b) (fun _ _ _ => rfl) ?_
                        try rw [h13]
                        rw [show (((nI F) + 45) - 40 : Int32) = nI ((F + 45) - 40) from by simp only [show (45 : Int32) = nI 45 from rfl, show (40 : Int32) = nI 40 from rfl, tg_sub2 (x := F + 45) (y := 40) (by omega), nI_add, fm_mul]]
                        refine fe_ivV (fr_byteAt (S := S) (k := (F + 45) - 40) (g := g) (tp := tp) (bt := bt) (a := a) (b := b) h11 (by omega) (by omega)) (by omega) (by rfl) (by rfl) (by rfl) (by rfl) (by rfl) (by rfl) ?_
                        rcases fm_byte_or a S ((F + 45) - 40) with ⟨e23, q24⟩ | ⟨q24, n22, qn22, e23⟩
                        · rw [e23]
                          refine fe_s 1 (pc' := cond (fx_cb .ne 114 (-1)) 106 102) (lc' := [(6, .int 45), (5, .int 1), (4, .int 46), (3, .int 40), (2, .int 7), (0, .ref 0), (1, .ref 22)]) (stk' := []) (mem' := fm g tp bt a b) (fun _ _ _ => rfl) ?_
                          rw [show (fx_cb .ne 114 (-1)) = true from by decide]
                          dsimp only [cond]
                          refine fe_s 6 (pc' := 72) (lc' := [(6, .int (45 + 1)), (5, .int 0), (4, .int 46), (3, .int 40), (2, .int 7), (0, .ref 0), (1, .ref 22)]) (stk' := [.int 46, .int (45 + 1)]) (mem' := fm g tp bt a b) (fun _ _ _ => rfl) ?_
                          rw [show (45 + 1 : Int32) = 46 from rfl]
                          refine fe_s 1 (pc' := cond (fx_cb .ge 46 46) 115 75) (lc' := [(6, .int 46), (5, .int 0), (4, .int 46), (3, .int 40), (2, .int 7), (0, .ref 0), (1, .ref 22)]) (stk' := []) (mem' := fm g tp bt a b) (fun _ _ _ => rfl) ?_
                          rw [show (fx_cb .ge 46 46) = true from by decide]
                          dsimp only [cond]
                          refine fe_s 1 (pc' := 117) (lc' := [(6, .int 46), (5, .int 0), (4, .int 46), (3, .int 40), (2, .int 7), (0, .ref 0), (1, .ref 22)]) (stk' := [.int 0]) (mem' := fm g tp bt a b) (fun _ _ _ => rfl) ?_
                          refine fe_s 1 (pc' := cond (fx_cb .eq 0 0) 122 120) (lc' := [(6, .int 46), (5, .int 0), (4, .int 46), (3, .int 40), (2, .int 7), (0, .ref 0), (1, .ref 22)]) (stk' := []) (mem' := fm g tp bt a b) (fun _ _ _ => rfl) ?_
                          rw [show (fx_cb .eq 0 0) = true from by decide]
                          dsimp only [cond]
                          refine fe_s 6 (pc' := 14) (lc' := [(3, .int (46 + 1)), (2, .int (7 + 1)), (6, .int 46), (5, .int 0), (4, .int 46), (0, .ref 0), (1, .ref 22)]) (stk' := []) (mem' := fm g tp bt a b) (fun _ _ _ => rfl) ?_
                          rw [show (7 + 1 : Int32) = 8 from rfl]
                          rw [show (46 + 1 : Int32) = 47 from rfl]
                          refine fe_w (lc' := [(3, .int 47), (2, .int 8), (0, .ref 0), (1, .ref 22)]) ⟨rfl, rfl, rfl, rfl, trivial⟩ (by show List.Nodup [3, 2, 0, 1]; decide) (by show List.Nodup [3, 2, 6, 5, 4, 0, 1]; decide) ?_
                          exact fw_8 hxp
                        · rw [e23]
                          refine fe_s 1 (pc' := cond (fx_cb .ne 114 (nI n22)) 106 102) (lc' := [(6, .int 45), (5, .int 1), (4, .int 46), (3, .int 40), (2, .int 7), (0, .ref 0), (1, .ref 22)]) (stk' := []) (mem' := fm g tp bt a b) (fun _ _ _ => rfl) ?_
                          by_cases h25 : 114 = n22
                          · rw [show (fx_cb .ne 114 (nI n22)) = false from cb_neF (a := 114) (b := n22) (by omega) (by omega) (by omega)]
                            dsimp only [cond]
                            refine fe_s 7 (pc' := 72) (lc' := [(6, .int (45 + 1)), (5, .int 1), (4, .int 46), (3, .int 40), (2, .int 7), (0, .ref 0), (1, .ref 22)]) (stk' := [.int 46, .int (45 + 1)]) (mem' := fm g tp bt a b) (fun _ _ _ => rfl) ?_
                            rw [show (45 + 1 : Int32) = 46 from rfl]
                            refine fe_s 1 (pc' := cond (fx_cb .ge 46 46) 115 75) (lc' := [(6, .int 46), (5, .int 1), (4, .int 46), (3, .int 40), (2, .int 7), (0, .ref 0), (1, .ref 22)]) (stk' := []) (mem' := fm g tp bt a b) (fun _ _ _ => rfl) ?_
                            rw [show (fx_cb .ge 46 46) = true from by decide]
                            dsimp only [cond]
                            refine fe_s 1 (pc' := 117) (lc' := [(6, .int 46), (5, .int 1), (4, .int 46), (3, .int 40), (2, .int 7), (0, .ref 0), (1, .ref 22)]) (stk' := [.int 1]) (mem' := fm g tp bt a b) (fun _ _ _ => rfl) ?_
                            refine fe_s 1 (pc' := cond (fx_cb .eq 1 0) 122 120) (lc' := [(6, .int 46), (5, .int 1), (4, .int 46), (3, .int 40), (2, .int 7), (0, .ref 0), (1, .ref 22)]) (stk' := []) (mem' := fm g tp bt a b) (fun _ _ _ => rfl) ?_
                            rw [show (fx_cb .eq 1 0) = false from by decide]
                            dsimp only [cond]
                            refine fe_s 1 (pc' := 121) (lc' := [(6, .int 46), (5, .int 1), (4, .int 46), (3, .int 40), (2, .int 7), (0, .ref 0), (1, .ref 22)]) (stk' := [.int 7]) (mem' := fm g tp bt a b) (fun _ _ _ => rfl) ?_
                            exact fe_ret ⟨_, Or.inr ⟨7, by omega, rfl⟩, rfl⟩ (by rfl) (by rfl) (by rfl)
                          · rw [show (fx_cb .ne 114 (nI n22)) = true from cb_neT (a := 114) (b := n22) (by omega) (by omega) (by omega)]
                            dsimp only [cond]
                            refine fe_s 6 (pc' := 72) (lc' := [(6, .int (45 + 1)), (5, .int 0), (4, .int 46), (3, .int 40), (2, .int 7), (0, .ref 0), (1, .ref 22)]) (stk' := [.int 46, .int (45 + 1)]) (mem' := fm g tp bt a b) (fun _ _ _ => rfl) ?_
                            rw [show (45 + 1 : Int32) = 46 from rfl]
                            refine fe_s 1 (pc' := cond (fx_cb .ge 46 46) 115 75) (lc' := [(6, .int 46), (5, .int 0), (4, .int 46), (3, .int 40), (2, .int 7), (0, .ref 0), (1, .ref 22)]) (stk' := []) (mem' := fm g tp bt a b) (fun _ _ _ => rfl) ?_
                            rw [show (fx_cb .ge 46 46) = true from by decide]
                            dsimp only [cond]
                            refine fe_s 1 (pc' := 117) (lc' := [(6, .int 46), (5, .int 0), (4, .int 46), (3, .int 40), (2, .int 7), (0, .ref 0), (1, .ref 22)]) (stk' := [.int 0]) (mem' := fm g tp bt a b) (fun _ _ _ => rfl) ?_
                            refine fe_s 1 (pc' := cond (fx_cb .eq 0 0) 122 120) (lc' := [(6, .int 46), (5, .int 0), (4, .int 46), (3, .int 40), (2, .int 7), (0, .ref 0), (1, .ref 22)]) (stk' := []) (mem' := fm g tp bt a b) (fun _ _ _ => rfl) ?_
                            rw [show (fx_cb .eq 0 0) = true from by decide]
                            dsimp only [cond]
                            refine fe_s 6 (pc' := 14) (lc' := [(3, .int (46 + 1)), (2, .int (7 + 1)), (6, .int 46), (5, .int 0), (4, .int 46), (0, .ref 0), (1, .ref 22)]) (stk' := []) (mem' := fm g tp bt a b) (fun _ _ _ => rfl) ?_
                            rw [show (7 + 1 : Int32) = 8 from rfl]
                            rw [show (46 + 1 : Int32) = 47 from rfl]
                            refine fe_w (lc' := [(3, .int 47), (2, .int 8), (0, .ref 0), (1, .ref 22)]) ⟨rfl, rfl, rfl, rfl, trivial⟩ (by show List.Nodup [3, 2, 0, 1]; decide) (by show List.Nodup [3, 2, 6, 5, 4, 0, 1]; decide) ?_
                            exact fw_8 hxp
                      · rw [show (fx_cb .ne 101 (nI n18)) = true from cb_neT (a := 101) (b := n18) (by omega) (by omega) (by omega)]
                        dsimp only [cond]
                        refine fe_s 6 (pc' := 72) (lc' := [(6, .int (44 + 1)), (5, .int 0), (4, .int 46), (3, .int 40), (2, .int 7), (0, .ref 0), (1, .ref 22)]) (stk' := [.int 46, .int (44 + 1)]) (mem' := fm g tp bt a b) (fun _ _ _ => rfl) ?_
                        rw [show (44 + 1 : Int32) = 45 from rfl]
                        refine fe_s 1 (pc' := cond (fx_cb .ge 45 46) 115 75) (lc' := [(6, .int 45), (5, .int 0), (4, .int 46), (3, .int 40), (2, .int 7), (0, .ref 0), (1, .ref 22)]) (stk' := []) (mem' := fm g tp bt a b) (fun _ _ _ => rfl) ?_
                        rw [show (fx_cb .ge 45 46) = false from by decide]
                        dsimp only [cond]
                        refine fe_s 1 (pc' := 77) (lc' := [(6, .int 45), (5, .int 0), (4, .int 46), (3, .int 40), (2, .int 7), (0, .ref 0), (1, .ref 22)]) (stk' := [.int 0]) (mem' := fm g tp bt a b) (fun _ _ _ => rfl) ?_
                        refine fe_s 1 (pc' := cond (fx_cb .eq 0 0) 115 80) (lc' := [(6, .int 45), (5, .int 0), (4, .int 46), (3, .int 40), (2, .int 7), (0, .ref 0), (1, .ref 22)]) (stk' := []) (mem' := fm g tp bt a b) (fun _ _ _ => rfl) ?_
                        rw [show (fx_cb .eq 0 0) = true from by decide]
                        dsimp only [cond]
                        refine fe_s 1 (pc' := 117) (lc' := [(6, .int 45), (5, .int 0), (4, .int 46), (3, .int 40), (2, .int 7), (0, .ref 0), (1, .ref 22)]) (stk' := [.int 0]) (mem' := fm g tp bt a b) (fun _ _ _ => rfl) ?_
                        refine fe_s 1 (pc' := cond (fx_cb .eq 0 0) 122 120) (lc' := [(6, .int 45), (5, .int 0), (4, .int 46), (3, .int 40), (2, .int 7), (0, .ref 0), (1, .ref 22)]) (stk' := []) (mem' := fm g tp bt a b) (fun _ _ _ => rfl) ?_
                        rw [show (fx_cb .eq 0 0) = true from by decide]
                        dsimp only [cond]
                        refine fe_s 6 (pc' := 14) (lc' := [(3, .int (46 + 1)), (2, .int (7 + 1)), (6, .int 45), (5, .int 0), (4, .int 46), (0, .ref 0), (1, .ref 22)]) (stk' := []) (mem' := fm g tp bt a b) (fun _ _ _ => rfl) ?_
                        rw [show (7 + 1 : Int32) = 8 from rfl]
                        rw [show (46 + 1 : Int32) = 47 from rfl]
                        refine fe_w (lc' := [(3, .int 47), (2, .int 8), (0, .ref 0), (1, .ref 22)]) ⟨rfl, rfl, rfl, rfl, trivial⟩ (by show List.Nodup [3, 2, 0, 1]; decide) (by show List.Nodup [3, 2, 6, 5, 4, 0, 1]; decide) ?_
                        exact fw_8 hxp
                  · rw [show (fx_cb .ne 116 (nI n14)) = true from cb_neT (a := 116) (b := n14) (by omega) (by omega) (by omega)]
                    dsimp only [cond]
                    refine fe_s 6 (pc' := 72) (lc' := [(6, .int (43 + 1)), (5, .int 0), (4, .int 46), (3, .int 40), (2, .int 7), (0, .ref 0), (1, .ref 22)]) (stk' := [.int 46, .int (43 + 1)]) (mem' := fm g tp bt a b) (fun _ _ _ => rfl) ?_
                    rw [show (43 + 1 : Int32) = 44 from rfl]
                    refine fe_s 1 (pc' := cond (fx_cb .ge 44 46) 115 75) (lc' := [(6, .int 44), (5, .int 0), (4, .int 46), (3, .int 40), (2, .int 7), (0, .ref 0), (1, .ref 22)]) (stk' := []) (mem' := fm g tp bt a b) (fun _ _ _ => rfl) ?_
                    rw [show (fx_cb .ge 44 46) = false from by decide]
                    dsimp only [cond]
                    refine fe_s 1 (pc' := 77) (lc' := [(6, .int 44), (5, .int 0), (4, .int 46), (3, .int 40), (2, .int 7), (0, .ref 0), (1, .ref 22)]) (stk' := [.int 0]) (mem' := fm g tp bt a b) (fun _ _ _ => rfl) ?_
                    refine fe_s 1 (pc' := cond (fx_cb .eq 0 0) 115 80) (lc' := [(6, .int 44), (5, .int 0), (4, .int 46), (3, .int 40), (2, .int 7), (0, .ref 0), (1, .ref 22)]) (stk' := []) (mem' := fm g tp bt a b) (fun _ _ _ => rfl) ?_
                    rw [show (fx_cb .eq 0 0) = true from by decide]
                    dsimp only [cond]
                    refine fe_s 1 (pc' := 117) (lc' := [(6, .int 44), (5, .int 0), (4, .int 46), (3, .int 40), (2, .int 7), (0, .ref 0), (1, .ref 22)]) (stk' := [.int 0]) (mem' := fm g tp bt a b) (fun _ _ _ => rfl) ?_
                    refine fe_s 1 (pc' := cond (fx_cb .eq 0 0) 122 120) (lc' := [(6, .int 44), (5, .int 0), (4, .int 46), (3, .int 40), (2, .int 7), (0, .ref 0), (1, .ref 22)]) (stk' := []) (mem' := fm g tp bt a b) (fun _ _ _ => rfl) ?_
                    rw [show (fx_cb .eq 0 0) = true from by decide]
                    dsimp only [cond]
                    refine fe_s 6 (pc' := 14) (lc' := [(3, .int (46 + 1)), (2, .int (7 + 1)), (6, .int 44), (5, .int 0), (4, .int 46), (0, .ref 0), (1, .ref 22)]) (stk' := []) (mem' := fm g tp bt a b) (fun _ _ _ => rfl) ?_
                    rw [show (7 + 1 : Int32) = 8 from rfl]
                    rw [show (46 + 1 : Int32) = 47 from rfl]
                    refine fe_w (lc' := [(3, .int 47), (2, .int 8), (0, .ref 0), (1, .ref 22)]) ⟨rfl, rfl, rfl, rfl, trivial⟩ (by show List.Nodup [3, 2, 0, 1]; decide) (by show List.Nodup [3, 2, 6, 5, 4, 0, 1]; decide) ?_
                    exact fw_8 hxp
              · rw [show (fx_cb .ne 116 (nI n10)) = true from cb_neT (a := 116) (b := n10) (by omega) (by omega) (by omega)]
                dsimp only [cond]
                refine fe_s 6 (pc' := 72) (lc' := [(6, .int (42 + 1)), (5, .int 0), (4, .int 46), (3, .int 40), (2, .int 7), (0, .ref 0), (1, .ref 22)]) (stk' := [.int 46, .int (42 + 1)]) (mem' := fm g tp bt a b) (fun _ _ _ => rfl) ?_
                rw [show (42 + 1 : Int32) = 43 from rfl]
                refine fe_s 1 (pc' := cond (fx_cb .ge 43 46) 115 75) (lc' := [(6, .int 43), (5, .int 0), (4, .int 46), (3, .int 40), (2, .int 7), (0, .ref 0), (1, .ref 22)]) (stk' := []) (mem' := fm g tp bt a b) (fun _ _ _ => rfl) ?_
                rw [show (fx_cb .ge 43 46) = false from by decide]
                dsimp only [cond]
                refine fe_s 1 (pc' := 77) (lc' := [(6, .int 43), (5, .int 0), (4, .int 46), (3, .int 40), (2, .int 7), (0, .ref 0), (1, .ref 22)]) (stk' := [.int 0]) (mem' := fm g tp bt a b) (fun _ _ _ => rfl) ?_
                refine fe_s 1 (pc' := cond (fx_cb .eq 0 0) 115 80) (lc' := [(6, .int 43), (5, .int 0), (4, .int 46), (3, .int 40), (2, .int 7), (0, .ref 0), (1, .ref 22)]) (stk' := []) (mem' := fm g tp bt a b) (fun _ _ _ => rfl) ?_
                rw [show (fx_cb .eq 0 0) = true from by decide]
                dsimp only [cond]
                refine fe_s 1 (pc' := 117) (lc' := [(6, .int 43), (5, .int 0), (4, .int 46), (3, .int 40), (2, .int 7), (0, .ref 0), (1, .ref 22)]) (stk' := [.int 0]) (mem' := fm g tp bt a b) (fun _ _ _ => rfl) ?_
                refine fe_s 1 (pc' := cond (fx_cb .eq 0 0) 122 120) (lc' := [(6, .int 43), (5, .int 0), (4, .int 46), (3, .int 40), (2, .int 7), (0, .ref 0), (1, .ref 22)]) (stk' := []) (mem' := fm g tp bt a b) (fun _ _ _ => rfl) ?_
                rw [show (fx_cb .eq 0 0) = true from by decide]
                dsimp only [cond]
                refine fe_s 6 (pc' := 14) (lc' := [(3, .int (46 + 1)), (2, .int (7 + 1)), (6, .int 43), (5, .int 0), (4, .int 46), (0, .ref 0), (1, .ref 22)]) (stk' := []) (mem' := fm g tp bt a b) (fun _ _ _ => rfl) ?_
                rw [show (7 + 1 : Int32) = 8 from rfl]
                rw [show (46 + 1 : Int32) = 47 from rfl]
                refine fe_w (lc' := [(3, .int 47), (2, .int 8), (0, .ref 0), (1, .ref 22)]) ⟨rfl, rfl, rfl, rfl, trivial⟩ (by show List.Nodup [3, 2, 0, 1]; decide) (by show List.Nodup [3, 2, 6, 5, 4, 0, 1]; decide) ?_
                exact fw_8 hxp
          · rw [show (fx_cb .ne 101 (nI n6)) = true from cb_neT (a := 101) (b := n6) (by omega) (by omega) (by omega)]
            dsimp only [cond]
            refine fe_s 6 (pc' := 72) (lc' := [(6, .int (41 + 1)), (5, .int 0), (4, .int 46), (3, .int 40), (2, .int 7), (0, .ref 0), (1, .ref 22)]) (stk' := [.int 46, .int (41 + 1)]) (mem' := fm g tp bt a b) (fun _ _ _ => rfl) ?_
            rw [show (41 + 1 : Int32) = 42 from rfl]
            refine fe_s 1 (pc' := cond (fx_cb .ge 42 46) 115 75) (lc' := [(6, .int 42), (5, .int 0), (4, .int 46), (3, .int 40), (2, .int 7), (0, .ref 0), (1, .ref 22)]) (stk' := []) (mem' := fm g tp bt a b) (fun _ _ _ => rfl) ?_
            rw [show (fx_cb .ge 42 46) = false from by decide]
            dsimp only [cond]
            refine fe_s 1 (pc' := 77) (lc' := [(6, .int 42), (5, .int 0), (4, .int 46), (3, .int 40), (2, .int 7), (0, .ref 0), (1, .ref 22)]) (stk' := [.int 0]) (mem' := fm g tp bt a b) (fun _ _ _ => rfl) ?_
            refine fe_s 1 (pc' := cond (fx_cb .eq 0 0) 115 80) (lc' := [(6, .int 42), (5, .int 0), (4, .int 46), (3, .int 40), (2, .int 7), (0, .ref 0), (1, .ref 22)]) (stk' := []) (mem' := fm g tp bt a b) (fun _ _ _ => rfl) ?_
            rw [show (fx_cb .eq 0 0) = true from by decide]
            dsimp only [cond]
            refine fe_s 1 (pc' := 117) (lc' := [(6, .int 42), (5, .int 0), (4, .int 46), (3, .int 40), (2, .int 7), (0, .ref 0), (1, .ref 22)]) (stk' := [.int 0]) (mem' := fm g tp bt a b) (fun _ _ _ => rfl) ?_
            refine fe_s 1 (pc' := cond (fx_cb .eq 0 0) 122 120) (lc' := [(6, .int 42), (5, .int 0), (4, .int 46), (3, .int 40), (2, .int 7), (0, .ref 0), (1, .ref 22)]) (stk' := []) (mem' := fm g tp bt a b) (fun _ _ _ => rfl) ?_
            rw [show (fx_cb .eq 0 0) = true from by decide]
            dsimp only [cond]
            refine fe_s 6 (pc' := 14) (lc' := [(3, .int (46 + 1)), (2, .int (7 + 1)), (6, .int 42), (5, .int 0), (4, .int 46), (0, .ref 0), (1, .ref 22)]) (stk' := []) (mem' := fm g tp bt a b) (fun _ _ _ => rfl) ?_
            rw [show (7 + 1 : Int32) = 8 from rfl]
            rw [show (46 + 1 : Int32) = 47 from rfl]
            refine fe_w (lc' := [(3, .int 47), (2, .int 8), (0, .ref 0), (1, .ref 22)]) ⟨rfl, rfl, rfl, rfl, trivial⟩ (by show List.Nodup [3, 2, 0, 1]; decide) (by show List.Nodup [3, 2, 6, 5, 4, 0, 1]; decide) ?_
            exact fw_8 hxp
      · rw [show (fx_cb .ne 98 (nI n2)) = true from cb_neT (a := 98) (b := n2) (by omega) (by omega) (by omega)]
        dsimp only [cond]
        refine fe_s 6 (pc' := 72) (lc' := [(6, .int (40 + 1)), (5, .int 0), (4, .int 46), (3, .int 40), (2, .int 7), (0, .ref 0), (1, .ref 22)]) (stk' := [.int 46, .int (40 + 1)]) (mem' := fm g tp bt a b) (fun _ _ _ => rfl) ?_
        rw [show (40 + 1 : Int32) = 41 from rfl]
        refine fe_s 1 (pc' := cond (fx_cb .ge 41 46) 115 75) (lc' := [(6, .int 41), (5, .int 0), (4, .int 46), (3, .int 40), (2, .int 7), (0, .ref 0), (1, .ref 22)]) (stk' := []) (mem' := fm g tp bt a b) (fun _ _ _ => rfl) ?_
        rw [show (fx_cb .ge 41 46) = false from by decide]
        dsimp only [cond]
        refine fe_s 1 (pc' := 77) (lc' := [(6, .int 41), (5, .int 0), (4, .int 46), (3, .int 40), (2, .int 7), (0, .ref 0), (1, .ref 22)]) (stk' := [.int 0]) (mem' := fm g tp bt a b) (fun _ _ _ => rfl) ?_
        refine fe_s 1 (pc' := cond (fx_cb .eq 0 0) 115 80) (lc' := [(6, .int 41), (5, .int 0), (4, .int 46), (3, .int 40), (2, .int 7), (0, .ref 0), (1, .ref 22)]) (stk' := []) (mem' := fm g tp bt a b) (fun _ _ _ => rfl) ?_
        rw [show (fx_cb .eq 0 0) = true from by decide]
        dsimp only [cond]
        refine fe_s 1 (pc' := 117) (lc' := [(6, .int 41), (5, .int 0), (4, .int 46), (3, .int 40), (2, .int 7), (0, .ref 0), (1, .ref 22)]) (stk' := [.int 0]) (mem' := fm g tp bt a b) (fun _ _ _ => rfl) ?_
        refine fe_s 1 (pc' := cond (fx_cb .eq 0 0) 122 120) (lc' := [(6, .int 41), (5, .int 0), (4, .int 46), (3, .int 40), (2, .int 7), (0, .ref 0), (1, .ref 22)]) (stk' := []) (mem' := fm g tp bt a b) (fun _ _ _ => rfl) ?_
        rw [show (fx_cb .eq 0 0) = true from by decide]
        dsimp only [cond]
        refine fe_s 6 (pc' := 14) (lc' := [(3, .int (46 + 1)), (2, .int (7 + 1)), (6, .int 41), (5, .int 0), (4, .int 46), (0, .ref 0), (1, .ref 22)]) (stk' := []) (mem' := fm g tp bt a b) (fun _ _ _ => rfl) ?_
        rw [show (7 + 1 : Int32) = 8 from rfl]
        rw [show (46 + 1 : Int32) = 47 from rfl]
        refine fe_w (lc' := [(3, .int 47), (2, .int 8), (0, .ref 0), (1, .ref 22)]) ⟨rfl, rfl, rfl, rfl, trivial⟩ (by show List.Nodup [3, 2, 0, 1]; decide) (by show List.Nodup [3, 2, 6, 5, 4, 0, 1]; decide) ?_
        exact fw_8 hxp
  · rw [show (fx_cb .ne 6 (nI (E - F))) = true from cb_neT (a := 6) (b := E - F) (by omega) (by omega) (by omega)]
    dsimp only [cond]
    refine fe_s 6 (pc' := 72) (lc' := [(6, .int 40), (5, .int 0), (4, .int 46), (3, .int 40), (2, .int 7), (0, .ref 0), (1, .ref 22)]) (stk' := [.int 46, .int 40]) (mem' := fm g tp bt a b) (fun _ _ _ => rfl) ?_
    refine fe_s 1 (pc' := cond (fx_cb .ge 40 46) 115 75) (lc' := [(6, .int 40), (5, .int 0), (4, .int 46), (3, .int 40), (2, .int 7), (0, .ref 0), (1, .ref 22)]) (stk' := []) (mem' := fm g tp bt a b) (fun _ _ _ => rfl) ?_
    rw [show (fx_cb .ge 40 46) = false from by decide]
    dsimp only [cond]
    refine fe_s 1 (pc' := 77) (lc' := [(6, .int 40), (5, .int 0), (4, .int 46), (3, .int 40), (2, .int 7), (0, .ref 0), (1, .ref 22)]) (stk' := [.int 0]) (mem' := fm g tp bt a b) (fun _ _ _ => rfl) ?_
    refine fe_s 1 (pc' := cond (fx_cb .eq 0 0) 115 80) (lc' := [(6, .int 40), (5, .int 0), (4, .int 46), (3, .int 40), (2, .int 7), (0, .ref 0), (1, .ref 22)]) (stk' := []) (mem' := fm g tp bt a b) (fun _ _ _ => rfl) ?_
    rw [show (fx_cb .eq 0 0) = true from by decide]
    dsimp only [cond]
    refine fe_s 1 (pc' := 117) (lc' := [(6, .int 40), (5, .int 0), (4, .int 46), (3, .int 40), (2, .int 7), (0, .ref 0), (1, .ref 22)]) (stk' := [.int 0]) (mem' := fm g tp bt a b) (fun _ _ _ => rfl) ?_
    refine fe_s 1 (pc' := cond (fx_cb .eq 0 0) 122 120) (lc' := [(6, .int 40), (5, .int 0), (4, .int 46), (3, .int 40), (2, .int 7), (0, .ref 0), (1, .ref 22)]) (stk' := []) (mem' := fm g tp bt a b) (fun _ _ _ => rfl) ?_
    rw [show (fx_cb .eq 0 0) = true from by decide]
    dsimp only [cond]
    refine fe_s 6 (pc' := 14) (lc' := [(3, .int (46 + 1)), (2, .int (7 + 1)), (6, .int 40), (5, .int 0), (4, .int 46), (0, .ref 0), (1, .ref 22)]) (stk' := []) (mem' := fm g tp bt a b) (fun _ _ _ => rfl) ?_
    rw [show (7 + 1 : Int32) = 8 from rfl]
    rw [show (46 + 1 : Int32) = 47 from rfl]
    refine fe_w (lc' := [(3, .int 47), (2, .int 8), (0, .ref 0), (1, .ref 22)]) ⟨rfl, rfl, rfl, rfl, trivial⟩ (by show List.Nodup [3, 2, 0, 1]; decide) (by show List.Nodup [3, 2, 6, 5, 4, 0, 1]; decide) ?_
    exact fw_8 hxp
theorem fw_6 {S E F : Nat} (hxp : fm_xp g S E F) : fe_R 1 gk_m226 14 [(3, .int 35), (2, .int 6), (0, .ref 0), (1, .ref 22)] [] (fm g tp bt a b) (fm_FI (fm g tp bt a b)) := by
  obtain ⟨h11, hS9, h14, hES, h13, hFE, -, -, -⟩ := id hxp
  refine fe_s 2 (pc' := 16) (lc' := [(3, .int 35), (2, .int 6), (0, .ref 0), (1, .ref 22)]) (stk' := [.ref 22, .int 35]) (mem' := fm g tp bt a b) (fun _ _ _ => rfl) ?_
  refine fe_s 1 (pc' := 19) (lc' := [(3, .int 35), (2, .int 6), (0, .ref 0), (1, .ref 22)]) (stk' := [.int 117, .int 35]) (mem' := fm g tp bt a b) (fun _ _ _ => rfl) ?_
  refine fe_s 1 (pc' := cond (fx_cb .ge 35 117) 133 22) (lc' := [(3, .int 35), (2, .int 6), (0, .ref 0), (1, .ref 22)]) (stk' := []) (mem' := fm g tp bt a b) (fun _ _ _ => rfl) ?_
  rw [show (fx_cb .ge 35 117) = false from by decide]
  dsimp only [cond]
  refine fe_s 4 (pc' := 28) (lc' := [(4, .int 35), (3, .int 35), (2, .int 6), (0, .ref 0), (1, .ref 22)]) (stk' := [.int 35, .ref 22]) (mem' := fm g tp bt a b) (fun _ _ _ => rfl) ?_
  refine fe_chr (i := 35) (by omega) (by rfl) (by rfl) ⟨by rfl, by rfl⟩ (by rfl) ?_
  rw [show sk_b.getD 35 0 = 104 from rfl]
  refine fe_s 1 (pc' := 33) (lc' := [(4, .int 35), (3, .int 35), (2, .int 6), (0, .ref 0), (1, .ref 22)]) (stk' := [.int 32, .int 104]) (mem' := fm g tp bt a b) (fun _ _ _ => rfl) ?_
  refine fe_s 1 (pc' := cond (fx_cb .eq 104 32) 42 36) (lc' := [(4, .int 35), (3, .int 35), (2, .int 6), (0, .ref 0), (1, .ref 22)]) (stk' := []) (mem' := fm g tp bt a b) (fun _ _ _ => rfl) ?_
  rw [show (fx_cb .eq 104 32) = false from by decide]
  dsimp only [cond]
  refine fe_s 4 (pc' := 28) (lc' := [(4, .int (35 + 1)), (3, .int 35), (2, .int 6), (0, .ref 0), (1, .ref 22)]) (stk' := [.int (35 + 1), .ref 22]) (mem' := fm g tp bt a b) (fun _ _ _ => rfl) ?_
  rw [show (35 + 1 : Int32) = 36 from rfl]
  refine fe_chr (i := 36) (by omega) (by rfl) (by rfl) ⟨by rfl, by rfl⟩ (by rfl) ?_
  rw [show sk_b.getD 36 0 = 111 from rfl]
  refine fe_s 1 (pc' := 33) (lc' := [(4, .int 36), (3, .int 35), (2, .int 6), (0, .ref 0), (1, .ref 22)]) (stk' := [.int 32, .int 111]) (mem' := fm g tp bt a b) (fun _ _ _ => rfl) ?_
  refine fe_s 1 (pc' := cond (fx_cb .eq 111 32) 42 36) (lc' := [(4, .int 36), (3, .int 35), (2, .int 6), (0, .ref 0), (1, .ref 22)]) (stk' := []) (mem' := fm g tp bt a b) (fun _ _ _ => rfl) ?_
  rw [show (fx_cb .eq 111 32) = false from by decide]
  dsimp only [cond]
  refine fe_s 4 (pc' := 28) (lc' := [(4, .int (36 + 1)), (3, .int 35), (2, .int 6), (0, .ref 0), (1, .ref 22)]) (stk' := [.int (36 + 1), .ref 22]) (mem' := fm g tp bt a b) (fun _ _ _ => rfl) ?_
  rw [show (36 + 1 : Int32) = 37 from rfl]
  refine fe_chr (i := 37) (by omega) (by rfl) (by rfl) ⟨by rfl, by rfl⟩ (by rfl) ?_
  rw [show sk_b.getD 37 0 = 117 from rfl]
  refine fe_s 1 (pc' := 33) (lc' := [(4, .int 37), (3, .int 35), (2, .int 6), (0, .ref 0), (1, .ref 22)]) (stk' := [.int 32, .int 117]) (mem' := fm g tp bt a b) (fun _ _ _ => rfl) ?_
  refine fe_s 1 (pc' := cond (fx_cb .eq 117 32) 42 36) (lc' := [(4, .int 37), (3, .int 35), (2, .int 6), (0, .ref 0), (1, .ref 22)]) (stk' := []) (mem' := fm g tp bt a b) (fun _ _ _ => rfl) ?_
  rw [show (fx_cb .eq 117 32) = false from by decide]
  dsimp only [cond]
  refine fe_s 4 (pc' := 28) (lc' := [(4, .int (37 + 1)), (3, .int 35), (2, .int 6), (0, .ref 0), (1, .ref 22)]) (stk' := [.int (37 + 1), .ref 22]) (mem' := fm g tp bt a b) (fun _ _ _ => rfl) ?_
  rw [show (37 + 1 : Int32) = 38 from rfl]
  refine fe_chr (i := 38) (by omega) (by rfl) (by rfl) ⟨by rfl, by rfl⟩ (by rfl) ?_
  rw [show sk_b.getD 38 0 = 114 from rfl]
  refine fe_s 1 (pc' := 33) (lc' := [(4, .int 38), (3, .int 35), (2, .int 6), (0, .ref 0), (1, .ref 22)]) (stk' := [.int 32, .int 114]) (mem' := fm g tp bt a b) (fun _ _ _ => rfl) ?_
  refine fe_s 1 (pc' := cond (fx_cb .eq 114 32) 42 36) (lc' := [(4, .int 38), (3, .int 35), (2, .int 6), (0, .ref 0), (1, .ref 22)]) (stk' := []) (mem' := fm g tp bt a b) (fun _ _ _ => rfl) ?_
  rw [show (fx_cb .eq 114 32) = false from by decide]
  dsimp only [cond]
  refine fe_s 4 (pc' := 28) (lc' := [(4, .int (38 + 1)), (3, .int 35), (2, .int 6), (0, .ref 0), (1, .ref 22)]) (stk' := [.int (38 + 1), .ref 22]) (mem' := fm g tp bt a b) (fun _ _ _ => rfl) ?_
  rw [show (38 + 1 : Int32) = 39 from rfl]
  refine fe_chr (i := 39) (by omega) (by rfl) (by rfl) ⟨by rfl, by rfl⟩ (by rfl) ?_
  rw [show sk_b.getD 39 0 = 32 from rfl]
  refine fe_s 1 (pc' := 33) (lc' := [(4, .int 39), (3, .int 35), (2, .int 6), (0, .ref 0), (1, .ref 22)]) (stk' := [.int 32, .int 32]) (mem' := fm g tp bt a b) (fun _ _ _ => rfl) ?_
  refine fe_s 1 (pc' := cond (fx_cb .eq 32 32) 42 36) (lc' := [(4, .int 39), (3, .int 35), (2, .int 6), (0, .ref 0), (1, .ref 22)]) (stk' := []) (mem' := fm g tp bt a b) (fun _ _ _ => rfl) ?_
  rw [show (fx_cb .eq 32 32) = true from by decide]
  dsimp only [cond]
  refine fe_s 8 (pc' := 55) (lc' := [(4, .int 39), (3, .int 35), (2, .int 6), (0, .ref 0), (1, .ref 22)]) (stk' := [.int ((g 14) - (g 13)), .int (39 - 35)]) (mem' := fm g tp bt a b) (fun _ _ _ => rfl) ?_
  try rw [h14]
  try rw [h13]
  rw [show (39 - 35 : Int32) = 4 from rfl]
  rw [show ((nI E) - (nI F) : Int32) = nI (E - F) from by simp only [tg_sub2 (x := E) (y := F) (by omega), nI_add, fm_mul]]
  refine fe_s 1 (pc' := cond (fx_cb .ne 4 (nI (E - F))) 62 58) (lc' := [(4, .int 39), (3, .int 35), (2, .int 6), (0, .ref 0), (1, .ref 22)]) (stk' := []) (mem' := fm g tp bt a b) (fun _ _ _ => rfl) ?_
  by_cases h1 : 4 = (E - F)
  · rw [show (fx_cb .ne 4 (nI (E - F))) = false from cb_neF (a := 4) (b := E - F) (by omega) (by omega) (by omega)]
    dsimp only [cond]
    refine fe_s 7 (pc' := 72) (lc' := [(6, .int 35), (5, .int 1), (4, .int 39), (3, .int 35), (2, .int 6), (0, .ref 0), (1, .ref 22)]) (stk' := [.int 39, .int 35]) (mem' := fm g tp bt a b) (fun _ _ _ => rfl) ?_
    refine fe_s 1 (pc' := cond (fx_cb .ge 35 39) 115 75) (lc' := [(6, .int 35), (5, .int 1), (4, .int 39), (3, .int 35), (2, .int 6), (0, .ref 0), (1, .ref 22)]) (stk' := []) (mem' := fm g tp bt a b) (fun _ _ _ => rfl) ?_
    rw [show (fx_cb .ge 35 39) = false from by decide]
    dsimp only [cond]
    refine fe_s 1 (pc' := 77) (lc' := [(6, .int 35), (5, .int 1), (4, .int 39), (3, .int 35), (2, .int 6), (0, .ref 0), (1, .ref 22)]) (stk' := [.int 1]) (mem' := fm g tp bt a b) (fun _ _ _ => rfl) ?_
    refine fe_s 1 (pc' := cond (fx_cb .eq 1 0) 115 80) (lc' := [(6, .int 35), (5, .int 1), (4, .int 39), (3, .int 35), (2, .int 6), (0, .ref 0), (1, .ref 22)]) (stk' := []) (mem' := fm g tp bt a b) (fun _ _ _ => rfl) ?_
    rw [show (fx_cb .eq 1 0) = false from by decide]
    dsimp only [cond]
    refine fe_s 2 (pc' := 83) (lc' := [(6, .int 35), (5, .int 1), (4, .int 39), (3, .int 35), (2, .int 6), (0, .ref 0), (1, .ref 22)]) (stk' := [.int 35, .ref 22]) (mem' := fm g tp bt a b) (fun _ _ _ => rfl) ?_
    refine fe_chr (i := 35) (by omega) (by rfl) (by rfl) ⟨by rfl, by rfl⟩ (by rfl) ?_
    rw [show sk_b.getD 35 0 = 104 from rfl]
    refine fe_s 7 (pc' := 96) (lc' := [(6, .int 35), (5, .int 1), (4, .int 39), (3, .int 35), (2, .int 6), (0, .ref 0), (1, .ref 22)]) (stk' := [.int (((g 13) + 35) - 35), .ref 0, .int 104]) (mem' := fm g tp bt a b) (fun _ _ _ => rfl) ?_
    try rw [h13]
    rw [show (((nI F) + 35) - 35 : Int32) = nI ((F + 35) - 35) from by simp only [show (35 : Int32) = nI 35 from rfl, tg_sub2 (x := F + 35) (y := 35) (by omega), nI_add, fm_mul]]
    refine fe_ivV (fr_byteAt (S := S) (k := (F + 35) - 35) (g := g) (tp := tp) (bt := bt) (a := a) (b := b) h11 (by omega) (by omega)) (by omega) (by rfl) (by rfl) (by rfl) (by rfl) (by rfl) (by rfl) ?_
    rcases fm_byte_or a S ((F + 35) - 35) with ⟨e3, q4⟩ | ⟨q4, n2, qn2, e3⟩
    · rw [e3]
      refine fe_s 1 (pc' := cond (fx_cb .ne 104 (-1)) 106 102) (lc' := [(6, .int 35), (5, .int 1), (4, .int 39), (3, .int 35), (2, .int 6), (0, .ref 0), (1, .ref 22)]) (stk' := []) (mem' := fm g tp bt a b) (fun _ _ _ => rfl) ?_
      rw [show (fx_cb .ne 104 (-1)) = true from by decide]
      dsimp only [cond]
      refine fe_s 6 (pc' := 72) (lc' := [(6, .int (35 + 1)), (5, .int 0), (4, .int 39), (3, .int 35), (2, .int 6), (0, .ref 0), (1, .ref 22)]) (stk' := [.int 39, .int (35 + 1)]) (mem' := fm g tp bt a b) (fun _ _ _ => rfl) ?_
      rw [show (35 + 1 : Int32) = 36 from rfl]
      refine fe_s 1 (pc' := cond (fx_cb .ge 36 39) 115 75) (lc' := [(6, .int 36), (5, .int 0), (4, .int 39), (3, .int 35), (2, .int 6), (0, .ref 0), (1, .ref 22)]) (stk' := []) (mem' := fm g tp bt a b) (fun _ _ _ => rfl) ?_
      rw [show (fx_cb .ge 36 39) = false from by decide]
      dsimp only [cond]
      refine fe_s 1 (pc' := 77) (lc' := [(6, .int 36), (5, .int 0), (4, .int 39), (3, .int 35), (2, .int 6), (0, .ref 0), (1, .ref 22)]) (stk' := [.int 0]) (mem' := fm g tp bt a b) (fun _ _ _ => rfl) ?_
      refine fe_s 1 (pc' := cond (fx_cb .eq 0 0) 115 80) (lc' := [(6, .int 36), (5, .int 0), (4, .int 39), (3, .int 35), (2, .int 6), (0, .ref 0), (1, .ref 22)]) (stk' := []) (mem' := fm g tp bt a b) (fun _ _ _ => rfl) ?_
      rw [show (fx_cb .eq 0 0) = true from by decide]
      dsimp only [cond]
      refine fe_s 1 (pc' := 117) (lc' := [(6, .int 36), (5, .int 0), (4, .int 39), (3, .int 35), (2, .int 6), (0, .ref 0), (1, .ref 22)]) (stk' := [.int 0]) (mem' := fm g tp bt a b) (fun _ _ _ => rfl) ?_
      refine fe_s 1 (pc' := cond (fx_cb .eq 0 0) 122 120) (lc' := [(6, .int 36), (5, .int 0), (4, .int 39), (3, .int 35), (2, .int 6), (0, .ref 0), (1, .ref 22)]) (stk' := []) (mem' := fm g tp bt a b) (fun _ _ _ => rfl) ?_
      rw [show (fx_cb .eq 0 0) = true from by decide]
      dsimp only [cond]
      refine fe_s 6 (pc' := 14) (lc' := [(3, .int (39 + 1)), (2, .int (6 + 1)), (6, .int 36), (5, .int 0), (4, .int 39), (0, .ref 0), (1, .ref 22)]) (stk' := []) (mem' := fm g tp bt a b) (fun _ _ _ => rfl) ?_
      rw [show (6 + 1 : Int32) = 7 from rfl]
      rw [show (39 + 1 : Int32) = 40 from rfl]
      refine fe_w (lc' := [(3, .int 40), (2, .int 7), (0, .ref 0), (1, .ref 22)]) ⟨rfl, rfl, rfl, rfl, trivial⟩ (by show List.Nodup [3, 2, 0, 1]; decide) (by show List.Nodup [3, 2, 6, 5, 4, 0, 1]; decide) ?_
      exact fw_7 hxp
    · rw [e3]
      refine fe_s 1 (pc' := cond (fx_cb .ne 104 (nI n2)) 106 102) (lc' := [(6, .int 35), (5, .int 1), (4, .int 39), (3, .int 35), (2, .int 6), (0, .ref 0), (1, .ref 22)]) (stk' := []) (mem' := fm g tp bt a b) (fun _ _ _ => rfl) ?_
      by_cases h5 : 104 = n2
      · rw [show (fx_cb .ne 104 (nI n2)) = false from cb_neF (a := 104) (b := n2) (by omega) (by omega) (by omega)]
        dsimp only [cond]
        refine fe_s 7 (pc' := 72) (lc' := [(6, .int (35 + 1)), (5, .int 1), (4, .int 39), (3, .int 35), (2, .int 6), (0, .ref 0), (1, .ref 22)]) (stk' := [.int 39, .int (35 + 1)]) (mem' := fm g tp bt a b) (fun _ _ _ => rfl) ?_
        rw [show (35 + 1 : Int32) = 36 from rfl]
        refine fe_s 1 (pc' := cond (fx_cb .ge 36 39) 115 75) (lc' := [(6, .int 36), (5, .int 1), (4, .int 39), (3, .int 35), (2, .int 6), (0, .ref 0), (1, .ref 22)]) (stk' := []) (mem' := fm g tp bt a b) (fun _ _ _ => rfl) ?_
        rw [show (fx_cb .ge 36 39) = false from by decide]
        dsimp only [cond]
        refine fe_s 1 (pc' := 77) (lc' := [(6, .int 36), (5, .int 1), (4, .int 39), (3, .int 35), (2, .int 6), (0, .ref 0), (1, .ref 22)]) (stk' := [.int 1]) (mem' := fm g tp bt a b) (fun _ _ _ => rfl) ?_
        refine fe_s 1 (pc' := cond (fx_cb .eq 1 0) 115 80) (lc' := [(6, .int 36), (5, .int 1), (4, .int 39), (3, .int 35), (2, .int 6), (0, .ref 0), (1, .ref 22)]) (stk' := []) (mem' := fm g tp bt a b) (fun _ _ _ => rfl) ?_
        rw [show (fx_cb .eq 1 0) = false from by decide]
        dsimp only [cond]
        refine fe_s 2 (pc' := 83) (lc' := [(6, .int 36), (5, .int 1), (4, .int 39), (3, .int 35), (2, .int 6), (0, .ref 0), (1, .ref 22)]) (stk' := [.int 36, .ref 22]) (mem' := fm g tp bt a b) (fun _ _ _ => rfl) ?_
        refine fe_chr (i := 36) (by omega) (by rfl) (by rfl) ⟨by rfl, by rfl⟩ (by rfl) ?_
        rw [show sk_b.getD 36 0 = 111 from rfl]
        refine fe_s 7 (pc' := 96) (lc' := [(6, .int 36), (5, .int 1), (4, .int 39), (3, .int 35), (2, .int 6), (0, .ref 0), (1, .ref 22)]) (stk' := [.int (((g 13) + 36) - 35), .ref 0, .int 111]) (mem' := fm g tp bt a b) (fun _ _ _ => rfl) ?_
        try rw [h13]
        rw [show (((nI F) + 36) - 35 : Int32) = nI ((F + 36) - 35) from by simp only [show (36 : Int32) = nI 36 from rfl, show (35 : Int32) = nI 35 from rfl, tg_sub2 (x := F + 36) (y := 35) (by omega), nI_add, fm_mul]]
        refine fe_ivV (fr_byteAt (S := S) (k := (F + 36) - 35) (g := g) (tp := tp) (bt := bt) (a := a) (b := b) h11 (by omega) (by omega)) (by omega) (by rfl) (by rfl) (by rfl) (by rfl) (by rfl) (by rfl) ?_
        rcases fm_byte_or a S ((F + 36) - 35) with ⟨e7, q8⟩ | ⟨q8, n6, qn6, e7⟩
        · rw [e7]
          refine fe_s 1 (pc' := cond (fx_cb .ne 111 (-1)) 106 102) (lc' := [(6, .int 36), (5, .int 1), (4, .int 39), (3, .int 35), (2, .int 6), (0, .ref 0), (1, .ref 22)]) (stk' := []) (mem' := fm g tp bt a b) (fun _ _ _ => rfl) ?_
          rw [show (fx_cb .ne 111 (-1)) = true from by decide]
          dsimp only [cond]
          refine fe_s 6 (pc' := 72) (lc' := [(6, .int (36 + 1)), (5, .int 0), (4, .int 39), (3, .int 35), (2, .int 6), (0, .ref 0), (1, .ref 22)]) (stk' := [.int 39, .int (36 + 1)]) (mem' := fm g tp bt a b) (fun _ _ _ => rfl) ?_
          rw [show (36 + 1 : Int32) = 37 from rfl]
          refine fe_s 1 (pc' := cond (fx_cb .ge 37 39) 115 75) (lc' := [(6, .int 37), (5, .int 0), (4, .int 39), (3, .int 35), (2, .int 6), (0, .ref 0), (1, .ref 22)]) (stk' := []) (mem' := fm g tp bt a b) (fun _ _ _ => rfl) ?_
          rw [show (fx_cb .ge 37 39) = false from by decide]
          dsimp only [cond]
          refine fe_s 1 (pc' := 77) (lc' := [(6, .int 37), (5, .int 0), (4, .int 39), (3, .int 35), (2, .int 6), (0, .ref 0), (1, .ref 22)]) (stk' := [.int 0]) (mem' := fm g tp bt a b) (fun _ _ _ => rfl) ?_
          refine fe_s 1 (pc' := cond (fx_cb .eq 0 0) 115 80) (lc' := [(6, .int 37), (5, .int 0), (4, .int 39), (3, .int 35), (2, .int 6), (0, .ref 0), (1, .ref 22)]) (stk' := []) (mem' := fm g tp bt a b) (fun _ _ _ => rfl) ?_
          rw [show (fx_cb .eq 0 0) = true from by decide]
          dsimp only [cond]
          refine fe_s 1 (pc' := 117) (lc' := [(6, .int 37), (5, .int 0), (4, .int 39), (3, .int 35), (2, .int 6), (0, .ref 0), (1, .ref 22)]) (stk' := [.int 0]) (mem' := fm g tp bt a b) (fun _ _ _ => rfl) ?_
          refine fe_s 1 (pc' := cond (fx_cb .eq 0 0) 122 120) (lc' := [(6, .int 37), (5, .int 0), (4, .int 39), (3, .int 35), (2, .int 6), (0, .ref 0), (1, .ref 22)]) (stk' := []) (mem' := fm g tp bt a b) (fun _ _ _ => rfl) ?_
          rw [show (fx_cb .eq 0 0) = true from by decide]
          dsimp only [cond]
          refine fe_s 6 (pc' := 14) (lc' := [(3, .int (39 + 1)), (2, .int (6 + 1)), (6, .int 37), (5, .int 0), (4, .int 39), (0, .ref 0), (1, .ref 22)]) (stk' := []) (mem' := fm g tp bt a b) (fun _ _ _ => rfl) ?_
          rw [show (6 + 1 : Int32) = 7 from rfl]
          rw [show (39 + 1 : Int32) = 40 from rfl]
          refine fe_w (lc' := [(3, .int 40), (2, .int 7), (0, .ref 0), (1, .ref 22)]) ⟨rfl, rfl, rfl, rfl, trivial⟩ (by show List.Nodup [3, 2, 0, 1]; decide) (by show List.Nodup [3, 2, 6, 5, 4, 0, 1]; decide) ?_
          exact fw_7 hxp
        · rw [e7]
          refine fe_s 1 (pc' := cond (fx_cb .ne 111 (nI n6)) 106 102) (lc' := [(6, .int 36), (5, .int 1), (4, .int 39), (3, .int 35), (2, .int 6), (0, .ref 0), (1, .ref 22)]) (stk' := []) (mem' := fm g tp bt a b) (fun _ _ _ => rfl) ?_
          by_cases h9 : 111 = n6
          · rw [show (fx_cb .ne 111 (nI n6)) = false from cb_neF (a := 111) (b := n6) (by omega) (by omega) (by omega)]
            dsimp only [cond]
            refine fe_s 7 (pc' := 72) (lc' := [(6, .int (36 + 1)), (5, .int 1), (4, .int 39), (3, .int 35), (2, .int 6), (0, .ref 0), (1, .ref 22)]) (stk' := [.int 39, .int (36 + 1)]) (mem' := fm g tp bt a b) (fun _ _ _ => rfl) ?_
            rw [show (36 + 1 : Int32) = 37 from rfl]
            refine fe_s 1 (pc' := cond (fx_cb .ge 37 39) 115 75) (lc' := [(6, .int 37), (5, .int 1), (4, .int 39), (3, .int 35), (2, .int 6), (0, .ref 0), (1, .ref 22)]) (stk' := []) (mem' := fm g tp bt a b) (fun _ _ _ => rfl) ?_
            rw [show (fx_cb .ge 37 39) = false from by decide]
            dsimp only [cond]
            refine fe_s 1 (pc' := 77) (lc' := [(6, .int 37), (5, .int 1), (4, .int 39), (3, .int 35), (2, .int 6), (0, .ref 0), (1, .ref 22)]) (stk' := [.int 1]) (mem' := fm g tp bt a b) (fun _ _ _ => rfl) ?_
            refine fe_s 1 (pc' := cond (fx_cb .eq 1 0) 115 80) (lc' := [(6, .int 37), (5, .int 1), (4, .int 39), (3, .int 35), (2, .int 6), (0, .ref 0), (1, .ref 22)]) (stk' := []) (mem' := fm g tp bt a b) (fun _ _ _ => rfl) ?_
            rw [show (fx_cb .eq 1 0) = false from by decide]
            dsimp only [cond]
            refine fe_s 2 (pc' := 83) (lc' := [(6, .int 37), (5, .int 1), (4, .int 39), (3, .int 35), (2, .int 6), (0, .ref 0), (1, .ref 22)]) (stk' := [.int 37, .ref 22]) (mem' := fm g tp bt a b) (fun _ _ _ => rfl) ?_
            refine fe_chr (i := 37) (by omega) (by rfl) (by rfl) ⟨by rfl, by rfl⟩ (by rfl) ?_
            rw [show sk_b.getD 37 0 = 117 from rfl]
            refine fe_s 7 (pc' := 96) (lc' := [(6, .int 37), (5, .int 1), (4, .int 39), (3, .int 35), (2, .int 6), (0, .ref 0), (1, .ref 22)]) (stk' := [.int (((g 13) + 37) - 35), .ref 0, .int 117]) (mem' := fm g tp bt a b) (fun _ _ _ => rfl) ?_
            try rw [h13]
            rw [show (((nI F) + 37) - 35 : Int32) = nI ((F + 37) - 35) from by simp only [show (37 : Int32) = nI 37 from rfl, show (35 : Int32) = nI 35 from rfl, tg_sub2 (x := F + 37) (y := 35) (by omega), nI_add, fm_mul]]
            refine fe_ivV (fr_byteAt (S := S) (k := (F + 37) - 35) (g := g) (tp := tp) (bt := bt) (a := a) (b := b) h11 (by omega) (by omega)) (by omega) (by rfl) (by rfl) (by rfl) (by rfl) (by rfl) (by rfl) ?_
            rcases fm_byte_or a S ((F + 37) - 35) with ⟨e11, q12⟩ | ⟨q12, n10, qn10, e11⟩
            · rw [e11]
              refine fe_s 1 (pc' := cond (fx_cb .ne 117 (-1)) 106 102) (lc' := [(6, .int 37), (5, .int 1), (4, .int 39), (3, .int 35), (2, .int 6), (0, .ref 0), (1, .ref 22)]) (stk' := []) (mem' := fm g tp bt a b) (fun _ _ _ => rfl) ?_
              rw [show (fx_cb .ne 117 (-1)) = true from by decide]
              dsimp only [cond]
              refine fe_s 6 (pc' := 72) (lc' := [(6, .int (37 + 1)), (5, .int 0), (4, .int 39), (3, .int 35), (2, .int 6), (0, .ref 0), (1, .ref 22)]) (stk' := [.int 39, .int (37 + 1)]) (mem' := fm g tp bt a b) (fun _ _ _ => rfl) ?_
              rw [show (37 + 1 : Int32) = 38 from rfl]
              refine fe_s 1 (pc' := cond (fx_cb .ge 38 39) 115 75) (lc' := [(6, .int 38), (5, .int 0), (4, .int 39), (3, .int 35), (2, .int 6), (0, .ref 0), (1, .ref 22)]) (stk' := []) (mem' := fm g tp bt a b) (fun _ _ _ => rfl) ?_
              rw [show (fx_cb .ge 38 39) = false from by decide]
              dsimp only [cond]
              refine fe_s 1 (pc' := 77) (lc' := [(6, .int 38), (5, .int 0), (4, .int 39), (3, .int 35), (2, .int 6), (0, .ref 0), (1, .ref 22)]) (stk' := [.int 0]) (mem' := fm g tp bt a b) (fun _ _ _ => rfl) ?_
              refine fe_s 1 (pc' := cond (fx_cb .eq 0 0) 115 80) (lc' := [(6, .int 38), (5, .int 0), (4, .int 39), (3, .int 35), (2, .int 6), (0, .ref 0), (1, .ref 22)]) (stk' := []) (mem' := fm g tp bt a b) (fun _ _ _ => rfl) ?_
              rw [show (fx_cb .eq 0 0) = true from by decide]
              dsimp only [cond]
              refine fe_s 1 (pc' := 117) (lc' := [(6, .int 38), (5, .int 0), (4, .int 39), (3, .int 35), (2, .int 6), (0, .ref 0), (1, .ref 22)]) (stk' := [.int 0]) (mem' := fm g tp bt a b) (fun _ _ _ => rfl) ?_
              refine fe_s 1 (pc' := cond (fx_cb .eq 0 0) 122 120) (lc' := [(6, .int 38), (5, .int 0), (4, .int 39), (3, .int 35), (2, .int 6), (0, .ref 0), (1, .ref 22)]) (stk' := []) (mem' := fm g tp bt a b) (fun _ _ _ => rfl) ?_
              rw [show (fx_cb .eq 0 0) = true from by decide]
              dsimp only [cond]
              refine fe_s 6 (pc' := 14) (lc' := [(3, .int (39 + 1)), (2, .int (6 + 1)), (6, .int 38), (5, .int 0), (4, .int 39), (0, .ref 0), (1, .ref 22)]) (stk' := []) (mem' := fm g tp bt a b) (fun _ _ _ => rfl) ?_
              rw [show (6 + 1 : Int32) = 7 from rfl]
              rw [show (39 + 1 : Int32) = 40 from rfl]
              refine fe_w (lc' := [(3, .int 40), (2, .int 7), (0, .ref 0), (1, .ref 22)]) ⟨rfl, rfl, rfl, rfl, trivial⟩ (by show List.Nodup [3, 2, 0, 1]; decide) (by show List.Nodup [3, 2, 6, 5, 4, 0, 1]; decide) ?_
              exact fw_7 hxp
            · rw [e11]
              refine fe_s 1 (pc' := cond (fx_cb .ne 117 (nI n10)) 106 102) (lc' := [(6, .int 37), (5, .int 1), (4, .int 39), (3, .int 35), (2, .int 6), (0, .ref 0), (1, .ref 22)]) (stk' := []) (mem' := fm g tp bt a b) (fun _ _ _ => rfl) ?_
              by_cases h13 : 117 = n10
              · rw [show (fx_cb .ne 117 (nI n10)) = false from cb_neF (a := 117) (b := n10) (by omega) (by omega) (by omega)]
                dsimp only [cond]
                refine fe_s 7 (pc' := 72) (lc' := [(6, .int (37 + 1)), (5, .int 1), (4, .int 39), (3, .int 35), (2, .int 6), (0, .ref 0), (1, .ref 22)]) (stk' := [.int 39, .int (37 + 1)]) (mem' := fm g tp bt a b) (fun _ _ _ => rfl) ?_
                rw [show (37 + 1 : Int32) = 38 from rfl]
                refine fe_s 1 (pc' := cond (fx_cb .ge 38 39) 115 75) (lc' := [(6, .int 38), (5, .int 1), (4, .int 39), (3, .int 35), (2, .int 6), (0, .ref 0), (1, .ref 22)]) (stk' := []) (mem' := fm g tp bt a b) (fun _ _ _ => rfl) ?_
                rw [show (fx_cb .ge 38 39) = false from by decide]
                dsimp only [cond]
                refine fe_s 1 (pc' := 77) (lc' := [(6, .int 38), (5, .int 1), (4, .int 39), (3, .int 35), (2, .int 6), (0, .ref 0), (1, .ref 22)]) (stk' := [.int 1]) (mem' := fm g tp bt a b) (fun _ _ _ => rfl) ?_
                refine fe_s 1 (pc' := cond (fx_cb .eq 1 0) 115 80) (lc' := [(6, .int 38), (5, .int 1), (4, .int 39), (3, .int 35), (2, .int 6), (0, .ref 0), (1, .ref 22)]) (stk' := []) (mem' := fm g tp bt a b) (fun _ _ _ => rfl) ?_
                rw [show (fx_cb .eq 1 0) = false from by decide]
                dsimp only [cond]
                refine fe_s 2 (pc' := 83) (lc' := [(6, .int 38), (5, .int 1), (4, .int 39), (3, .int 35), (2, .int 6), (0, .ref 0), (1, .ref 22)]) (stk' := [.int 38, .ref 22]) (mem' := fm g tp bt a b) (fun _ _ _ => rfl) ?_
                refine fe_chr (i := 38) (by omega) (by rfl) (by rfl) ⟨by rfl, by rfl⟩ (by rfl) ?_
                rw [show sk_b.getD 38 0 = 114 from rfl]
                refine fe_s 7 (pc' := 96) (lc' := [(6, .int 38), (5, .int 1), (4, .int 39), (3, .int 35), (2, .int 6), (0, .ref 0), (1, .ref 22)]) (stk' := [.int (((g 13) + 38) - 35), .ref 0, .int 114]) (mem' := fm g tp bt a b) (fun _ _ _ => rfl) ?_
                try rw [h13]
                rw [show (((nI F) + 38) - 35 : Int32) = nI ((F + 38) - 35) from by simp only [show (38 : Int32) = nI 38 from rfl, show (35 : Int32) = nI 35 from rfl, tg_sub2 (x := F + 38) (y := 35) (by omega), nI_add, fm_mul]]
                refine fe_ivV (fr_byteAt (S := S) (k := (F + 38) - 35) (g := g) (tp := tp) (bt := bt) (a := a) (b := b) h11 (by omega) (by omega)) (by omega) (by rfl) (by rfl) (by rfl) (by rfl) (by rfl) (by rfl) ?_
                rcases fm_byte_or a S ((F + 38) - 35) with ⟨e15, q16⟩ | ⟨q16, n14, qn14, e15⟩
                · rw [e15]
                  refine fe_s 1 (pc' := cond (fx_cb .ne 114 (-1)) 106 102) (lc' := [(6, .int 38), (5, .int 1), (4, .int 39), (3, .int 35), (2, .int 6), (0, .ref 0), (1, .ref 22)]) (stk' := []) (mem' := fm g tp bt a b) (fun _ _ _ => rfl) ?_
                  rw [show (fx_cb .ne 114 (-1)) = true from by decide]
                  dsimp only [cond]
                  refine fe_s 6 (pc' := 72) (lc' := [(6, .int (38 + 1)), (5, .int 0), (4, .int 39), (3, .int 35), (2, .int 6), (0, .ref 0), (1, .ref 22)]) (stk' := [.int 39, .int (38 + 1)]) (mem' := fm g tp bt a b) (fun _ _ _ => rfl) ?_
                  rw [show (38 + 1 : Int32) = 39 from rfl]
                  refine fe_s 1 (pc' := cond (fx_cb .ge 39 39) 115 75) (lc' := [(6, .int 39), (5, .int 0), (4, .int 39), (3, .int 35), (2, .int 6), (0, .ref 0), (1, .ref 22)]) (stk' := []) (mem' := fm g tp bt a b) (fun _ _ _ => rfl) ?_
                  rw [show (fx_cb .ge 39 39) = true from by decide]
                  dsimp only [cond]
                  refine fe_s 1 (pc' := 117) (lc' := [(6, .int 39), (5, .int 0), (4, .int 39), (3, .int 35), (2, .int 6), (0, .ref 0), (1, .ref 22)]) (stk' := [.int 0]) (mem' := fm g tp bt a b) (fun _ _ _ => rfl) ?_
                  refine fe_s 1 (pc' := cond (fx_cb .eq 0 0) 122 120) (lc' := [(6, .int 39), (5, .int 0), (4, .int 39), (3, .int 35), (2, .int 6), (0, .ref 0), (1, .ref 22)]) (stk' := []) (mem' := fm g tp bt a b) (fun _ _ _ => rfl) ?_
                  rw [show (fx_cb .eq 0 0) = true from by decide]
                  dsimp only [cond]
                  refine fe_s 6 (pc' := 14) (lc' := [(3, .int (39 + 1)), (2, .int (6 + 1)), (6, .int 39), (5, .int 0), (4, .int 39), (0, .ref 0), (1, .ref 22)]) (stk' := []) (mem' := fm g tp bt a b) (fun _ _ _ => rfl) ?_
                  rw [show (6 + 1 : Int32) = 7 from rfl]
                  rw [show (39 + 1 : Int32) = 40 from rfl]
                  refine fe_w (lc' := [(3, .int 40), (2, .int 7), (0, .ref 0), (1, .ref 22)]) ⟨rfl, rfl, rfl, rfl, trivial⟩ (by show List.Nodup [3, 2, 0, 1]; decide) (by show List.Nodup [3, 2, 6, 5, 4, 0, 1]; decide) ?_
                  exact fw_7 hxp
                · rw [e15]
                  refine fe_s 1 (pc' := cond (fx_cb .ne 114 (nI n14)) 106 102) (lc' := [(6, .int 38), (5, .int 1), (4, .int 39), (3, .int 35), (2, .int 6), (0, .ref 0), (1, .ref 22)]) (stk' := []) (mem' := fm g tp bt a b) (fun _ _ _ => rfl) ?_
                  by_cases h17 : 114 = n14
                  · rw [show (fx_cb .ne 114 (nI n14)) = false from cb_neF (a := 114) (b := n14) (by omega) (by omega) (by omega)]
                    dsimp only [cond]
                    refine fe_s 7 (pc' := 72) (lc' := [(6, .int (38 + 1)), (5, .int 1), (4, .int 39), (3, .int 35), (2, .int 6), (0, .ref 0), (1, .ref 22)]) (stk' := [.int 39, .int (38 + 1)]) (mem' := fm g tp bt a b) (fun _ _ _ => rfl) ?_
                    rw [show (38 + 1 : Int32) = 39 from rfl]
                    refine fe_s 1 (pc' := cond (fx_cb .ge 39 39) 115 75) (lc' := [(6, .int 39), (5, .int 1), (4, .int 39), (3, .int 35), (2, .int 6), (0, .ref 0), (1, .ref 22)]) (stk' := []) (mem' := fm g tp bt a b) (fun _ _ _ => rfl) ?_
                    rw [show (fx_cb .ge 39 39) = true from by decide]
                    dsimp only [cond]
                    refine fe_s 1 (pc' := 117) (lc' := [(6, .int 39), (5, .int 1), (4, .int 39), (3, .int 35), (2, .int 6), (0, .ref 0), (1, .ref 22)]) (stk' := [.int 1]) (mem' := fm g tp bt a b) (fun _ _ _ => rfl) ?_
                    refine fe_s 1 (pc' := cond (fx_cb .eq 1 0) 122 120) (lc' := [(6, .int 39), (5, .int 1), (4, .int 39), (3, .int 35), (2, .int 6), (0, .ref 0), (1, .ref 22)]) (stk' := []) (mem' := fm g tp bt a b) (fun _ _ _ => rfl) ?_
                    rw [show (fx_cb .eq 1 0) = false from by decide]
                    dsimp only [cond]
                    refine fe_s 1 (pc' := 121) (lc' := [(6, .int 39), (5, .int 1), (4, .int 39), (3, .int 35), (2, .int 6), (0, .ref 0), (1, .ref 22)]) (stk' := [.int 6]) (mem' := fm g tp bt a b) (fun _ _ _ => rfl) ?_
                    exact fe_ret ⟨_, Or.inr ⟨6, by omega, rfl⟩, rfl⟩ (by rfl) (by rfl) (by rfl)
                  · rw [show (fx_cb .ne 114 (nI n14)) = true from cb_neT (a := 114) (b := n14) (by omega) (by omega) (by omega)]
                    dsimp only [cond]
                    refine fe_s 6 (pc' := 72) (lc' := [(6, .int (38 + 1)), (5, .int 0), (4, .int 39), (3, .int 35), (2, .int 6), (0, .ref 0), (1, .ref 22)]) (stk' := [.int 39, .int (38 + 1)]) (mem' := fm g tp bt a b) (fun _ _ _ => rfl) ?_
                    rw [show (38 + 1 : Int32) = 39 from rfl]
                    refine fe_s 1 (pc' := cond (fx_cb .ge 39 39) 115 75) (lc' := [(6, .int 39), (5, .int 0), (4, .int 39), (3, .int 35), (2, .int 6), (0, .ref 0), (1, .ref 22)]) (stk' := []) (mem' := fm g tp bt a b) (fun _ _ _ => rfl) ?_
                    rw [show (fx_cb .ge 39 39) = true from by decide]
                    dsimp only [cond]
                    refine fe_s 1 (pc' := 117) (lc' := [(6, .int 39), (5, .int 0), (4, .int 39), (3, .int 35), (2, .int 6), (0, .ref 0), (1, .ref 22)]) (stk' := [.int 0]) (mem' := fm g tp bt a b) (fun _ _ _ => rfl) ?_
                    refine fe_s 1 (pc' := cond (fx_cb .eq 0 0) 122 120) (lc' := [(6, .int 39), (5, .int 0), (4, .int 39), (3, .int 35), (2, .int 6), (0, .ref 0), (1, .ref 22)]) (stk' := []) (mem' := fm g tp bt a b) (fun _ _ _ => rfl) ?_
                    rw [show (fx_cb .eq 0 0) = true from by decide]
                    dsimp only [cond]
                    refine fe_s 6 (pc' := 14) (lc' := [(3, .int (39 + 1)), (2, .int (6 + 1)), (6, .int 39), (5, .int 0), (4, .int 39), (0, .ref 0), (1, .ref 22)]) (stk' := []) (mem' := fm g tp bt a b) (fun _ _ _ => rfl) ?_
                    rw [show (6 + 1 : Int32) = 7 from rfl]
                    rw [show (39 + 1 : Int32) = 40 from rfl]
                    refine fe_w (lc' := [(3, .int 40), (2, .int 7), (0, .ref 0), (1, .ref 22)]) ⟨rfl, rfl, rfl, rfl, trivial⟩ (by show List.Nodup [3, 2, 0, 1]; decide) (by show List.Nodup [3, 2, 6, 5, 4, 0, 1]; decide) ?_
                    exact fw_7 hxp
              · rw [show (fx_cb .ne 117 (nI n10)) = true from cb_neT (a := 117) (b := n10) (by omega) (by omega) (by omega)]
                dsimp only [cond]
                refine fe_s 6 (pc' := 72) (lc' := [(6, .int (37 + 1)), (5, .int 0), (4, .int 39), (3, .int 35), (2, .int 6), (0, .ref 0), (1, .ref 22)]) (stk' := [.int 39, .int (37 + 1)]) (mem' := fm g tp bt a b) (fun _ _ _ => rfl) ?_
                rw [show (37 + 1 : Int32) = 38 from rfl]
                refine fe_s 1 (pc' := cond (fx_cb .ge 38 39) 115 75) (lc' := [(6, .int 38), (5, .int 0), (4, .int 39), (3, .int 35), (2, .int 6), (0, .ref 0), (1, .ref 22)]) (stk' := []) (mem' := fm g tp bt a b) (fun _ _ _ => rfl) ?_
                rw [show (fx_cb .ge 38 39) = false from by decide]
                dsimp only [cond]
                refine fe_s 1 (pc' := 77) (lc' := [(6, .int 38), (5, .int 0), (4, .int 39), (3, .int 35), (2, .int 6), (0, .ref 0), (1, .ref 22)]) (stk' := [.int 0]) (mem' := fm g tp bt a b) (fun _ _ _ => rfl) ?_
                refine fe_s 1 (pc' := cond (fx_cb .eq 0 0) 115 80) (lc' := [(6, .int 38), (5, .int 0), (4, .int 39), (3, .int 35), (2, .int 6), (0, .ref 0), (1, .ref 22)]) (stk' := []) (mem' := fm g tp bt a b) (fun _ _ _ => rfl) ?_
                rw [show (fx_cb .eq 0 0) = true from by decide]
                dsimp only [cond]
                refine fe_s 1 (pc' := 117) (lc' := [(6, .int 38), (5, .int 0), (4, .int 39), (3, .int 35), (2, .int 6), (0, .ref 0), (1, .ref 22)]) (stk' := [.int 0]) (mem' := fm g tp bt a b) (fun _ _ _ => rfl) ?_
                refine fe_s 1 (pc' := cond (fx_cb .eq 0 0) 122 120) (lc' := [(6, .int 38), (5, .int 0), (4, .int 39), (3, .int 35), (2, .int 6), (0, .ref 0), (1, .ref 22)]) (stk' := []) (mem' := fm g tp bt a b) (fun _ _ _ => rfl) ?_
                rw [show (fx_cb .eq 0 0) = true from by decide]
                dsimp only [cond]
                refine fe_s 6 (pc' := 14) (lc' := [(3, .int (39 + 1)), (2, .int (6 + 1)), (6, .int 38), (5, .int 0), (4, .int 39), (0, .ref 0), (1, .ref 22)]) (stk' := []) (mem' := fm g tp bt a b) (fun _ _ _ => rfl) ?_
                rw [show (6 + 1 : Int32) = 7 from rfl]
                rw [show (39 + 1 : Int32) = 40 from rfl]
                refine fe_w (lc' := [(3, .int 40), (2, .int 7), (0, .ref 0), (1, .ref 22)]) ⟨rfl, rfl, rfl, rfl, trivial⟩ (by show List.Nodup [3, 2, 0, 1]; decide) (by show List.Nodup [3, 2, 6, 5, 4, 0, 1]; decide) ?_
                exact fw_7 hxp
          · rw [show (fx_cb .ne 111 (nI n6)) = true from cb_neT (a := 111) (b := n6) (by omega) (by omega) (by omega)]
            dsimp only [cond]
            refine fe_s 6 (pc' := 72) (lc' := [(6, .int (36 + 1)), (5, .int 0), (4, .int 39), (3, .int 35), (2, .int 6), (0, .ref 0), (1, .ref 22)]) (stk' := [.int 39, .int (36 + 1)]) (mem' := fm g tp bt a b) (fun _ _ _ => rfl) ?_
            rw [show (36 + 1 : Int32) = 37 from rfl]
            refine fe_s 1 (pc' := cond (fx_cb .ge 37 39) 115 75) (lc' := [(6, .int 37), (5, .int 0), (4, .int 39), (3, .int 35), (2, .int 6), (0, .ref 0), (1, .ref 22)]) (stk' := []) (mem' := fm g tp bt a b) (fun _ _ _ => rfl) ?_
            rw [show (fx_cb .ge 37 39) = false from by decide]
            dsimp only [cond]
            refine fe_s 1 (pc' := 77) (lc' := [(6, .int 37), (5, .int 0), (4, .int 39), (3, .int 35), (2, .int 6), (0, .ref 0), (1, .ref 22)]) (stk' := [.int 0]) (mem' := fm g tp bt a b) (fun _ _ _ => rfl) ?_
            refine fe_s 1 (pc' := cond (fx_cb .eq 0 0) 115 80) (lc' := [(6, .int 37), (5, .int 0), (4, .int 39), (3, .int 35), (2, .int 6), (0, .ref 0), (1, .ref 22)]) (stk' := []) (mem' := fm g tp bt a b) (fun _ _ _ => rfl) ?_
            rw [show (fx_cb .eq 0 0) = true from by decide]
            dsimp only [cond]
            refine fe_s 1 (pc' := 117) (lc' := [(6, .int 37), (5, .int 0), (4, .int 39), (3, .int 35), (2, .int 6), (0, .ref 0), (1, .ref 22)]) (stk' := [.int 0]) (mem' := fm g tp bt a b) (fun _ _ _ => rfl) ?_
            refine fe_s 1 (pc' := cond (fx_cb .eq 0 0) 122 120) (lc' := [(6, .int 37), (5, .int 0), (4, .int 39), (3, .int 35), (2, .int 6), (0, .ref 0), (1, .ref 22)]) (stk' := []) (mem' := fm g tp bt a b) (fun _ _ _ => rfl) ?_
            rw [show (fx_cb .eq 0 0) = true from by decide]
            dsimp only [cond]
            refine fe_s 6 (pc' := 14) (lc' := [(3, .int (39 + 1)), (2, .int (6 + 1)), (6, .int 37), (5, .int 0), (4, .int 39), (0, .ref 0), (1, .ref 22)]) (stk' := []) (mem' := fm g tp bt a b) (fun _ _ _ => rfl) ?_
            rw [show (6 + 1 : Int32) = 7 from rfl]
            rw [show (39 + 1 : Int32) = 40 from rfl]
            refine fe_w (lc' := [(3, .int 40), (2, .int 7), (0, .ref 0), (1, .ref 22)]) ⟨rfl, rfl, rfl, rfl, trivial⟩ (by show List.Nodup [3, 2, 0, 1]; decide) (by show List.Nodup [3, 2, 6, 5, 4, 0, 1]; decide) ?_
            exact fw_7 hxp
      · rw [show (fx_cb .ne 104 (nI n2)) = true from cb_neT (a := 104) (b := n2) (by omega) (by omega) (by omega)]
        dsimp only [cond]
        refine fe_s 6 (pc' := 72) (lc' := [(6, .int (35 + 1)), (5, .int 0), (4, .int 39), (3, .int 35), (2, .int 6), (0, .ref 0), (1, .ref 22)]) (stk' := [.int 39, .int (35 + 1)]) (mem' := fm g tp bt a b) (fun _ _ _ => rfl) ?_
        rw [show (35 + 1 : Int32) = 36 from rfl]
        refine fe_s 1 (pc' := cond (fx_cb .ge 36 39) 115 75) (lc' := [(6, .int 36), (5, .int 0), (4, .int 39), (3, .int 35), (2, .int 6), (0, .ref 0), (1, .ref 22)]) (stk' := []) (mem' := fm g tp bt a b) (fun _ _ _ => rfl) ?_
        rw [show (fx_cb .ge 36 39) = false from by decide]
        dsimp only [cond]
        refine fe_s 1 (pc' := 77) (lc' := [(6, .int 36), (5, .int 0), (4, .int 39), (3, .int 35), (2, .int 6), (0, .ref 0), (1, .ref 22)]) (stk' := [.int 0]) (mem' := fm g tp bt a b) (fun _ _ _ => rfl) ?_
        refine fe_s 1 (pc' := cond (fx_cb .eq 0 0) 115 80) (lc' := [(6, .int 36), (5, .int 0), (4, .int 39), (3, .int 35), (2, .int 6), (0, .ref 0), (1, .ref 22)]) (stk' := []) (mem' := fm g tp bt a b) (fun _ _ _ => rfl) ?_
        rw [show (fx_cb .eq 0 0) = true from by decide]
        dsimp only [cond]
        refine fe_s 1 (pc' := 117) (lc' := [(6, .int 36), (5, .int 0), (4, .int 39), (3, .int 35), (2, .int 6), (0, .ref 0), (1, .ref 22)]) (stk' := [.int 0]) (mem' := fm g tp bt a b) (fun _ _ _ => rfl) ?_
        refine fe_s 1 (pc' := cond (fx_cb .eq 0 0) 122 120) (lc' := [(6, .int 36), (5, .int 0), (4, .int 39), (3, .int 35), (2, .int 6), (0, .ref 0), (1, .ref 22)]) (stk' := []) (mem' := fm g tp bt a b) (fun _ _ _ => rfl) ?_
        rw [show (fx_cb .eq 0 0) = true from by decide]
        dsimp only [cond]
        refine fe_s 6 (pc' := 14) (lc' := [(3, .int (39 + 1)), (2, .int (6 + 1)), (6, .int 36), (5, .int 0), (4, .int 39), (0, .ref 0), (1, .ref 22)]) (stk' := []) (mem' := fm g tp bt a b) (fun _ _ _ => rfl) ?_
        rw [show (6 + 1 : Int32) = 7 from rfl]
        rw [show (39 + 1 : Int32) = 40 from rfl]
        refine fe_w (lc' := [(3, .int 40), (2, .int 7), (0, .ref 0), (1, .ref 22)]) ⟨rfl, rfl, rfl, rfl, trivial⟩ (by show List.Nodup [3, 2, 0, 1]; decide) (by show List.Nodup [3, 2, 6, 5, 4, 0, 1]; decide) ?_
        exact fw_7 hxp
  · rw [show (fx_cb .ne 4 (nI (E - F))) = true from cb_neT (a := 4) (b := E - F) (by omega) (by omega) (by omega)]
    dsimp only [cond]
    refine fe_s 6 (pc' := 72) (lc' := [(6, .int 35), (5, .int 0), (4, .int 39), (3, .int 35), (2, .int 6), (0, .ref 0), (1, .ref 22)]) (stk' := [.int 39, .int 35]) (mem' := fm g tp bt a b) (fun _ _ _ => rfl) ?_
    refine fe_s 1 (pc' := cond (fx_cb .ge 35 39) 115 75) (lc' := [(6, .int 35), (5, .int 0), (4, .int 39), (3, .int 35), (2, .int 6), (0, .ref 0), (1, .ref 22)]) (stk' := []) (mem' := fm g tp bt a b) (fun _ _ _ => rfl) ?_
    rw [show (fx_cb .ge 35 39) = false from by decide]
    dsimp only [cond]
    refine fe_s 1 (pc' := 77) (lc' := [(6, .int 35), (5, .int 0), (4, .int 39), (3, .int 35), (2, .int 6), (0, .ref 0), (1, .ref 22)]) (stk' := [.int 0]) (mem' := fm g tp bt a b) (fun _ _ _ => rfl) ?_
    refine fe_s 1 (pc' := cond (fx_cb .eq 0 0) 115 80) (lc' := [(6, .int 35), (5, .int 0), (4, .int 39), (3, .int 35), (2, .int 6), (0, .ref 0), (1, .ref 22)]) (stk' := []) (mem' := fm g tp bt a b) (fun _ _ _ => rfl) ?_
    rw [show (fx_cb .eq 0 0) = true from by decide]
    dsimp only [cond]
    refine fe_s 1 (pc' := 117) (lc' := [(6, .int 35), (5, .int 0), (4, .int 39), (3, .int 35), (2, .int 6), (0, .ref 0), (1, .ref 22)]) (stk' := [.int 0]) (mem' := fm g tp bt a b) (fun _ _ _ => rfl) ?_
    refine fe_s 1 (pc' := cond (fx_cb .eq 0 0) 122 120) (lc' := [(6, .int 35), (5, .int 0), (4, .int 39), (3, .int 35), (2, .int 6), (0, .ref 0), (1, .ref 22)]) (stk' := []) (mem' := fm g tp bt a b) (fun _ _ _ => rfl) ?_
    rw [show (fx_cb .eq 0 0) = true from by decide]
    dsimp only [cond]
    refine fe_s 6 (pc' := 14) (lc' := [(3, .int (39 + 1)), (2, .int (6 + 1)), (6, .int 35), (5, .int 0), (4, .int 39), (0, .ref 0), (1, .ref 22)]) (stk' := []) (mem' := fm g tp bt a b) (fun _ _ _ => rfl) ?_
    rw [show (6 + 1 : Int32) = 7 from rfl]
    rw [show (39 + 1 : Int32) = 40 from rfl]
    refine fe_w (lc' := [(3, .int 40), (2, .int 7), (0, .ref 0), (1, .ref 22)]) ⟨rfl, rfl, rfl, rfl, trivial⟩ (by show List.Nodup [3, 2, 0, 1]; decide) (by show List.Nodup [3, 2, 6, 5, 4, 0, 1]; decide) ?_
    exact fw_7 hxp
theorem fw_5 {S E F : Nat} (hxp : fm_xp g S E F) : fe_R 1 gk_m226 14 [(3, .int 29), (2, .int 5), (0, .ref 0), (1, .ref 22)] [] (fm g tp bt a b) (fm_FI (fm g tp bt a b)) := by
  obtain ⟨h11, hS9, h14, hES, h13, hFE, -, -, -⟩ := id hxp
  refine fe_s 2 (pc' := 16) (lc' := [(3, .int 29), (2, .int 5), (0, .ref 0), (1, .ref 22)]) (stk' := [.ref 22, .int 29]) (mem' := fm g tp bt a b) (fun _ _ _ => rfl) ?_
  refine fe_s 1 (pc' := 19) (lc' := [(3, .int 29), (2, .int 5), (0, .ref 0), (1, .ref 22)]) (stk' := [.int 117, .int 29]) (mem' := fm g tp bt a b) (fun _ _ _ => rfl) ?_
  refine fe_s 1 (pc' := cond (fx_cb .ge 29 117) 133 22) (lc' := [(3, .int 29), (2, .int 5), (0, .ref 0), (1, .ref 22)]) (stk' := []) (mem' := fm g tp bt a b) (fun _ _ _ => rfl) ?_
  rw [show (fx_cb .ge 29 117) = false from by decide]
  dsimp only [cond]
  refine fe_s 4 (pc' := 28) (lc' := [(4, .int 29), (3, .int 29), (2, .int 5), (0, .ref 0), (1, .ref 22)]) (stk' := [.int 29, .ref 22]) (mem' := fm g tp bt a b) (fun _ _ _ => rfl) ?_
  refine fe_chr (i := 29) (by omega) (by rfl) (by rfl) ⟨by rfl, by rfl⟩ (by rfl) ?_
  rw [show sk_b.getD 29 0 = 119 from rfl]
  refine fe_s 1 (pc' := 33) (lc' := [(4, .int 29), (3, .int 29), (2, .int 5), (0, .ref 0), (1, .ref 22)]) (stk' := [.int 32, .int 119]) (mem' := fm g tp bt a b) (fun _ _ _ => rfl) ?_
  refine fe_s 1 (pc' := cond (fx_cb .eq 119 32) 42 36) (lc' := [(4, .int 29), (3, .int 29), (2, .int 5), (0, .ref 0), (1, .ref 22)]) (stk' := []) (mem' := fm g tp bt a b) (fun _ _ _ => rfl) ?_
  rw [show (fx_cb .eq 119 32) = false from by decide]
  dsimp only [cond]
  refine fe_s 4 (pc' := 28) (lc' := [(4, .int (29 + 1)), (3, .int 29), (2, .int 5), (0, .ref 0), (1, .ref 22)]) (stk' := [.int (29 + 1), .ref 22]) (mem' := fm g tp bt a b) (fun _ _ _ => rfl) ?_
  rw [show (29 + 1 : Int32) = 30 from rfl]
  refine fe_chr (i := 30) (by omega) (by rfl) (by rfl) ⟨by rfl, by rfl⟩ (by rfl) ?_
  rw [show sk_b.getD 30 0 = 111 from rfl]
  refine fe_s 1 (pc' := 33) (lc' := [(4, .int 30), (3, .int 29), (2, .int 5), (0, .ref 0), (1, .ref 22)]) (stk' := [.int 32, .int 111]) (mem' := fm g tp bt a b) (fun _ _ _ => rfl) ?_
  refine fe_s 1 (pc' := cond (fx_cb .eq 111 32) 42 36) (lc' := [(4, .int 30), (3, .int 29), (2, .int 5), (0, .ref 0), (1, .ref 22)]) (stk' := []) (mem' := fm g tp bt a b) (fun _ _ _ => rfl) ?_
  rw [show (fx_cb .eq 111 32) = false from by decide]
  dsimp only [cond]
  refine fe_s 4 (pc' := 28) (lc' := [(4, .int (30 + 1)), (3, .int 29), (2, .int 5), (0, .ref 0), (1, .ref 22)]) (stk' := [.int (30 + 1), .ref 22]) (mem' := fm g tp bt a b) (fun _ _ _ => rfl) ?_
  rw [show (30 + 1 : Int32) = 31 from rfl]
  refine fe_chr (i := 31) (by omega) (by rfl) (by rfl) ⟨by rfl, by rfl⟩ (by rfl) ?_
  rw [show sk_b.getD 31 0 = 114 from rfl]
  refine fe_s 1 (pc' := 33) (lc' := [(4, .int 31), (3, .int 29), (2, .int 5), (0, .ref 0), (1, .ref 22)]) (stk' := [.int 32, .int 114]) (mem' := fm g tp bt a b) (fun _ _ _ => rfl) ?_
  refine fe_s 1 (pc' := cond (fx_cb .eq 114 32) 42 36) (lc' := [(4, .int 31), (3, .int 29), (2, .int 5), (0, .ref 0), (1, .ref 22)]) (stk' := []) (mem' := fm g tp bt a b) (fun _ _ _ => rfl) ?_
  rw [show (fx_cb .eq 114 32) = false from by decide]
  dsimp only [cond]
  refine fe_s 4 (pc' := 28) (lc' := [(4, .int (31 + 1)), (3, .int 29), (2, .int 5), (0, .ref 0), (1, .ref 22)]) (stk' := [.int (31 + 1), .ref 22]) (mem' := fm g tp bt a b) (fun _ _ _ => rfl) ?_
  rw [show (31 + 1 : Int32) = 32 from rfl]
  refine fe_chr (i := 32) (by omega) (by rfl) (by rfl) ⟨by rfl, by rfl⟩ (by rfl) ?_
  rw [show sk_b.getD 32 0 = 115 from rfl]
  refine fe_s 1 (pc' := 33) (lc' := [(4, .int 32), (3, .int 29), (2, .int 5), (0, .ref 0), (1, .ref 22)]) (stk' := [.int 32, .int 115]) (mem' := fm g tp bt a b) (fun _ _ _ => rfl) ?_
  refine fe_s 1 (pc' := cond (fx_cb .eq 115 32) 42 36) (lc' := [(4, .int 32), (3, .int 29), (2, .int 5), (0, .ref 0), (1, .ref 22)]) (stk' := []) (mem' := fm g tp bt a b) (fun _ _ _ => rfl) ?_
  rw [show (fx_cb .eq 115 32) = false from by decide]
  dsimp only [cond]
  refine fe_s 4 (pc' := 28) (lc' := [(4, .int (32 + 1)), (3, .int 29), (2, .int 5), (0, .ref 0), (1, .ref 22)]) (stk' := [.int (32 + 1), .ref 22]) (mem' := fm g tp bt a b) (fun _ _ _ => rfl) ?_
  rw [show (32 + 1 : Int32) = 33 from rfl]
  refine fe_chr (i := 33) (by omega) (by rfl) (by rfl) ⟨by rfl, by rfl⟩ (by rfl) ?_
  rw [show sk_b.getD 33 0 = 101 from rfl]
  refine fe_s 1 (pc' := 33) (lc' := [(4, .int 33), (3, .int 29), (2, .int 5), (0, .ref 0), (1, .ref 22)]) (stk' := [.int 32, .int 101]) (mem' := fm g tp bt a b) (fun _ _ _ => rfl) ?_
  refine fe_s 1 (pc' := cond (fx_cb .eq 101 32) 42 36) (lc' := [(4, .int 33), (3, .int 29), (2, .int 5), (0, .ref 0), (1, .ref 22)]) (stk' := []) (mem' := fm g tp bt a b) (fun _ _ _ => rfl) ?_
  rw [show (fx_cb .eq 101 32) = false from by decide]
  dsimp only [cond]
  refine fe_s 4 (pc' := 28) (lc' := [(4, .int (33 + 1)), (3, .int 29), (2, .int 5), (0, .ref 0), (1, .ref 22)]) (stk' := [.int (33 + 1), .ref 22]) (mem' := fm g tp bt a b) (fun _ _ _ => rfl) ?_
  rw [show (33 + 1 : Int32) = 34 from rfl]
  refine fe_chr (i := 34) (by omega) (by rfl) (by rfl) ⟨by rfl, by rfl⟩ (by rfl) ?_
  rw [show sk_b.getD 34 0 = 32 from rfl]
  refine fe_s 1 (pc' := 33) (lc' := [(4, .int 34), (3, .int 29), (2, .int 5), (0, .ref 0), (1, .ref 22)]) (stk' := [.int 32, .int 32]) (mem' := fm g tp bt a b) (fun _ _ _ => rfl) ?_
  refine fe_s 1 (pc' := cond (fx_cb .eq 32 32) 42 36) (lc' := [(4, .int 34), (3, .int 29), (2, .int 5), (0, .ref 0), (1, .ref 22)]) (stk' := []) (mem' := fm g tp bt a b) (fun _ _ _ => rfl) ?_
  rw [show (fx_cb .eq 32 32) = true from by decide]
  dsimp only [cond]
  refine fe_s 8 (pc' := 55) (lc' := [(4, .int 34), (3, .int 29), (2, .int 5), (0, .ref 0), (1, .ref 22)]) (stk' := [.int ((g 14) - (g 13)), .int (34 - 29)]) (mem' := fm g tp bt a b) (fun _ _ _ => rfl) ?_
  try rw [h14]
  try rw [h13]
  rw [show (34 - 29 : Int32) = 5 from rfl]
  rw [show ((nI E) - (nI F) : Int32) = nI (E - F) from by simp only [tg_sub2 (x := E) (y := F) (by omega), nI_add, fm_mul]]
  refine fe_s 1 (pc' := cond (fx_cb .ne 5 (nI (E - F))) 62 58) (lc' := [(4, .int 34), (3, .int 29), (2, .int 5), (0, .ref 0), (1, .ref 22)]) (stk' := []) (mem' := fm g tp bt a b) (fun _ _ _ => rfl) ?_
  by_cases h1 : 5 = (E - F)
  · rw [show (fx_cb .ne 5 (nI (E - F))) = false from cb_neF (a := 5) (b := E - F) (by omega) (by omega) (by omega)]
    dsimp only [cond]
    refine fe_s 7 (pc' := 72) (lc' := [(6, .int 29), (5, .int 1), (4, .int 34), (3, .int 29), (2, .int 5), (0, .ref 0), (1, .ref 22)]) (stk' := [.int 34, .int 29]) (mem' := fm g tp bt a b) (fun _ _ _ => rfl) ?_
    refine fe_s 1 (pc' := cond (fx_cb .ge 29 34) 115 75) (lc' := [(6, .int 29), (5, .int 1), (4, .int 34), (3, .int 29), (2, .int 5), (0, .ref 0), (1, .ref 22)]) (stk' := []) (mem' := fm g tp bt a b) (fun _ _ _ => rfl) ?_
    rw [show (fx_cb .ge 29 34) = false from by decide]
    dsimp only [cond]
    refine fe_s 1 (pc' := 77) (lc' := [(6, .int 29), (5, .int 1), (4, .int 34), (3, .int 29), (2, .int 5), (0, .ref 0), (1, .ref 22)]) (stk' := [.int 1]) (mem' := fm g tp bt a b) (fun _ _ _ => rfl) ?_
    refine fe_s 1 (pc' := cond (fx_cb .eq 1 0) 115 80) (lc' := [(6, .int 29), (5, .int 1), (4, .int 34), (3, .int 29), (2, .int 5), (0, .ref 0), (1, .ref 22)]) (stk' := []) (mem' := fm g tp bt a b) (fun _ _ _ => rfl) ?_
    rw [show (fx_cb .eq 1 0) = false from by decide]
    dsimp only [cond]
    refine fe_s 2 (pc' := 83) (lc' := [(6, .int 29), (5, .int 1), (4, .int 34), (3, .int 29), (2, .int 5), (0, .ref 0), (1, .ref 22)]) (stk' := [.int 29, .ref 22]) (mem' := fm g tp bt a b) (fun _ _ _ => rfl) ?_
    refine fe_chr (i := 29) (by omega) (by rfl) (by rfl) ⟨by rfl, by rfl⟩ (by rfl) ?_
    rw [show sk_b.getD 29 0 = 119 from rfl]
    refine fe_s 7 (pc' := 96) (lc' := [(6, .int 29), (5, .int 1), (4, .int 34), (3, .int 29), (2, .int 5), (0, .ref 0), (1, .ref 22)]) (stk' := [.int (((g 13) + 29) - 29), .ref 0, .int 119]) (mem' := fm g tp bt a b) (fun _ _ _ => rfl) ?_
    try rw [h13]
    rw [show (((nI F) + 29) - 29 : Int32) = nI ((F + 29) - 29) from by simp only [show (29 : Int32) = nI 29 from rfl, tg_sub2 (x := F + 29) (y := 29) (by omega), nI_add, fm_mul]]
    refine fe_ivV (fr_byteAt (S := S) (k := (F + 29) - 29) (g := g) (tp := tp) (bt := bt) (a := a) (b := b) h11 (by omega) (by omega)) (by omega) (by rfl) (by rfl) (by rfl) (by rfl) (by rfl) (by rfl) ?_
    rcases fm_byte_or a S ((F + 29) - 29) with ⟨e3, q4⟩ | ⟨q4, n2, qn2, e3⟩
    · rw [e3]
      refine fe_s 1 (pc' := cond (fx_cb .ne 119 (-1)) 106 102) (lc' := [(6, .int 29), (5, .int 1), (4, .int 34), (3, .int 29), (2, .int 5), (0, .ref 0), (1, .ref 22)]) (stk' := []) (mem' := fm g tp bt a b) (fun _ _ _ => rfl) ?_
      rw [show (fx_cb .ne 119 (-1)) = true from by decide]
      dsimp only [cond]
      refine fe_s 6 (pc' := 72) (lc' := [(6, .int (29 + 1)), (5, .int 0), (4, .int 34), (3, .int 29), (2, .int 5), (0, .ref 0), (1, .ref 22)]) (stk' := [.int 34, .int (29 + 1)]) (mem' := fm g tp bt a b) (fun _ _ _ => rfl) ?_
      rw [show (29 + 1 : Int32) = 30 from rfl]
      refine fe_s 1 (pc' := cond (fx_cb .ge 30 34) 115 75) (lc' := [(6, .int 30), (5, .int 0), (4, .int 34), (3, .int 29), (2, .int 5), (0, .ref 0), (1, .ref 22)]) (stk' := []) (mem' := fm g tp bt a b) (fun _ _ _ => rfl) ?_
      rw [show (fx_cb .ge 30 34) = false from by decide]
      dsimp only [cond]
      refine fe_s 1 (pc' := 77) (lc' := [(6, .int 30), (5, .int 0), (4, .int 34), (3, .int 29), (2, .int 5), (0, .ref 0), (1, .ref 22)]) (stk' := [.int 0]) (mem' := fm g tp bt a b) (fun _ _ _ => rfl) ?_
      refine fe_s 1 (pc' := cond (fx_cb .eq 0 0) 115 80) (lc' := [(6, .int 30), (5, .int 0), (4, .int 34), (3, .int 29), (2, .int 5), (0, .ref 0), (1, .ref 22)]) (stk' := []) (mem' := fm g tp bt a b) (fun _ _ _ => rfl) ?_
      rw [show (fx_cb .eq 0 0) = true from by decide]
      dsimp only [cond]
      refine fe_s 1 (pc' := 117) (lc' := [(6, .int 30), (5, .int 0), (4, .int 34), (3, .int 29), (2, .int 5), (0, .ref 0), (1, .ref 22)]) (stk' := [.int 0]) (mem' := fm g tp bt a b) (fun _ _ _ => rfl) ?_
      refine fe_s 1 (pc' := cond (fx_cb .eq 0 0) 122 120) (lc' := [(6, .int 30), (5, .int 0), (4, .int 34), (3, .int 29), (2, .int 5), (0, .ref 0), (1, .ref 22)]) (stk' := []) (mem' := fm g tp bt a b) (fun _ _ _ => rfl) ?_
      rw [show (fx_cb .eq 0 0) = true from by decide]
      dsimp only [cond]
      refine fe_s 6 (pc' := 14) (lc' := [(3, .int (34 + 1)), (2, .int (5 + 1)), (6, .int 30), (5, .int 0), (4, .int 34), (0, .ref 0), (1, .ref 22)]) (stk' := []) (mem' := fm g tp bt a b) (fun _ _ _ => rfl) ?_
      rw [show (5 + 1 : Int32) = 6 from rfl]
      rw [show (34 + 1 : Int32) = 35 from rfl]
      refine fe_w (lc' := [(3, .int 35), (2, .int 6), (0, .ref 0), (1, .ref 22)]) ⟨rfl, rfl, rfl, rfl, trivial⟩ (by show List.Nodup [3, 2, 0, 1]; decide) (by show List.Nodup [3, 2, 6, 5, 4, 0, 1]; decide) ?_
      exact fw_6 hxp
    · rw [e3]
      refine fe_s 1 (pc' := cond (fx_cb .ne 119 (nI n2)) 106 102) (lc' := [(6, .int 29), (5, .int 1), (4, .int 34), (3, .int 29), (2, .int 5), (0, .ref 0), (1, .ref 22)]) (stk' := []) (mem' := fm g tp bt a b) (fun _ _ _ => rfl) ?_
      by_cases h5 : 119 = n2
      · rw [show (fx_cb .ne 119 (nI n2)) = false from cb_neF (a := 119) (b := n2) (by omega) (by omega) (by omega)]
        dsimp only [cond]
        refine fe_s 7 (pc' := 72) (lc' := [(6, .int (29 + 1)), (5, .int 1), (4, .int 34), (3, .int 29), (2, .int 5), (0, .ref 0), (1, .ref 22)]) (stk' := [.int 34, .int (29 + 1)]) (mem' := fm g tp bt a b) (fun _ _ _ => rfl) ?_
        rw [show (29 + 1 : Int32) = 30 from rfl]
        refine fe_s 1 (pc' := cond (fx_cb .ge 30 34) 115 75) (lc' := [(6, .int 30), (5, .int 1), (4, .int 34), (3, .int 29), (2, .int 5), (0, .ref 0), (1, .ref 22)]) (stk' := []) (mem' := fm g tp bt a b) (fun _ _ _ => rfl) ?_
        rw [show (fx_cb .ge 30 34) = false from by decide]
        dsimp only [cond]
        refine fe_s 1 (pc' := 77) (lc' := [(6, .int 30), (5, .int 1), (4, .int 34), (3, .int 29), (2, .int 5), (0, .ref 0), (1, .ref 22)]) (stk' := [.int 1]) (mem' := fm g tp bt a b) (fun _ _ _ => rfl) ?_
        refine fe_s 1 (pc' := cond (fx_cb .eq 1 0) 115 80) (lc' := [(6, .int 30), (5, .int 1), (4, .int 34), (3, .int 29), (2, .int 5), (0, .ref 0), (1, .ref 22)]) (stk' := []) (mem' := fm g tp bt a b) (fun _ _ _ => rfl) ?_
        rw [show (fx_cb .eq 1 0) = false from by decide]
        dsimp only [cond]
        refine fe_s 2 (pc' := 83) (lc' := [(6, .int 30), (5, .int 1), (4, .int 34), (3, .int 29), (2, .int 5), (0, .ref 0), (1, .ref 22)]) (stk' := [.int 30, .ref 22]) (mem' := fm g tp bt a b) (fun _ _ _ => rfl) ?_
        refine fe_chr (i := 30) (by omega) (by rfl) (by rfl) ⟨by rfl, by rfl⟩ (by rfl) ?_
        rw [show sk_b.getD 30 0 = 111 from rfl]
        refine fe_s 7 (pc' := 96) (lc' := [(6, .int 30), (5, .int 1), (4, .int 34), (3, .int 29), (2, .int 5), (0, .ref 0), (1, .ref 22)]) (stk' := [.int (((g 13) + 30) - 29), .ref 0, .int 111]) (mem' := fm g tp bt a b) (fun _ _ _ => rfl) ?_
        try rw [h13]
        rw [show (((nI F) + 30) - 29 : Int32) = nI ((F + 30) - 29) from by simp only [show (30 : Int32) = nI 30 from rfl, show (29 : Int32) = nI 29 from rfl, tg_sub2 (x := F + 30) (y := 29) (by omega), nI_add, fm_mul]]
        refine fe_ivV (fr_byteAt (S := S) (k := (F + 30) - 29) (g := g) (tp := tp) (bt := bt) (a := a) (b := b) h11 (by omega) (by omega)) (by omega) (by rfl) (by rfl) (by rfl) (by rfl) (by rfl) (by rfl) ?_
        rcases fm_byte_or a S ((F + 30) - 29) with ⟨e7, q8⟩ | ⟨q8, n6, qn6, e7⟩
        · rw [e7]
          refine fe_s 1 (pc' := cond (fx_cb .ne 111 (-1)) 106 102) (lc' := [(6, .int 30), (5, .int 1), (4, .int 34), (3, .int 29), (2, .int 5), (0, .ref 0), (1, .ref 22)]) (stk' := []) (mem' := fm g tp bt a b) (fun _ _ _ => rfl) ?_
          rw [show (fx_cb .ne 111 (-1)) = true from by decide]
          dsimp only [cond]
          refine fe_s 6 (pc' := 72) (lc' := [(6, .int (30 + 1)), (5, .int 0), (4, .int 34), (3, .int 29), (2, .int 5), (0, .ref 0), (1, .ref 22)]) (stk' := [.int 34, .int (30 + 1)]) (mem' := fm g tp bt a b) (fun _ _ _ => rfl) ?_
          rw [show (30 + 1 : Int32) = 31 from rfl]
          refine fe_s 1 (pc' := cond (fx_cb .ge 31 34) 115 75) (lc' := [(6, .int 31), (5, .int 0), (4, .int 34), (3, .int 29), (2, .int 5), (0, .ref 0), (1, .ref 22)]) (stk' := []) (mem' := fm g tp bt a b) (fun _ _ _ => rfl) ?_
          rw [show (fx_cb .ge 31 34) = false from by decide]
          dsimp only [cond]
          refine fe_s 1 (pc' := 77) (lc' := [(6, .int 31), (5, .int 0), (4, .int 34), (3, .int 29), (2, .int 5), (0, .ref 0), (1, .ref 22)]) (stk' := [.int 0]) (mem' := fm g tp bt a b) (fun _ _ _ => rfl) ?_
          refine fe_s 1 (pc' := cond (fx_cb .eq 0 0) 115 80) (lc' := [(6, .int 31), (5, .int 0), (4, .int 34), (3, .int 29), (2, .int 5), (0, .ref 0), (1, .ref 22)]) (stk' := []) (mem' := fm g tp bt a b) (fun _ _ _ => rfl) ?_
          rw [show (fx_cb .eq 0 0) = true from by decide]
          dsimp only [cond]
          refine fe_s 1 (pc' := 117) (lc' := [(6, .int 31), (5, .int 0), (4, .int 34), (3, .int 29), (2, .int 5), (0, .ref 0), (1, .ref 22)]) (stk' := [.int 0]) (mem' := fm g tp bt a b) (fun _ _ _ => rfl) ?_
          refine fe_s 1 (pc' := cond (fx_cb .eq 0 0) 122 120) (lc' := [(6, .int 31), (5, .int 0), (4, .int 34), (3, .int 29), (2, .int 5), (0, .ref 0), (1, .ref 22)]) (stk' := []) (mem' := fm g tp bt a b) (fun _ _ _ => rfl) ?_
          rw [show (fx_cb .eq 0 0) = true from by decide]
          dsimp only [cond]
          refine fe_s 6 (pc' := 14) (lc' := [(3, .int (34 + 1)), (2, .int (5 + 1)), (6, .int 31), (5, .int 0), (4, .int 34), (0, .ref 0), (1, .ref 22)]) (stk' := []) (mem' := fm g tp bt a b) (fun _ _ _ => rfl) ?_
          rw [show (5 + 1 : Int32) = 6 from rfl]
          rw [show (34 + 1 : Int32) = 35 from rfl]
          refine fe_w (lc' := [(3, .int 35), (2, .int 6), (0, .ref 0), (1, .ref 22)]) ⟨rfl, rfl, rfl, rfl, trivial⟩ (by show List.Nodup [3, 2, 0, 1]; decide) (by show List.Nodup [3, 2, 6, 5, 4, 0, 1]; decide) ?_
          exact fw_6 hxp
        · rw [e7]
          refine fe_s 1 (pc' := cond (fx_cb .ne 111 (nI n6)) 106 102) (lc' := [(6, .int 30), (5, .int 1), (4, .int 34), (3, .int 29), (2, .int 5), (0, .ref 0), (1, .ref 22)]) (stk' := []) (mem' := fm g tp bt a b) (fun _ _ _ => rfl) ?_
          by_cases h9 : 111 = n6
          · rw [show (fx_cb .ne 111 (nI n6)) = false from cb_neF (a := 111) (b := n6) (by omega) (by omega) (by omega)]
            dsimp only [cond]
            refine fe_s 7 (pc' := 72) (lc' := [(6, .int (30 + 1)), (5, .int 1), (4, .int 34), (3, .int 29), (2, .int 5), (0, .ref 0), (1, .ref 22)]) (stk' := [.int 34, .int (30 + 1)]) (mem' := fm g tp bt a b) (fun _ _ _ => rfl) ?_
            rw [show (30 + 1 : Int32) = 31 from rfl]
            refine fe_s 1 (pc' := cond (fx_cb .ge 31 34) 115 75) (lc' := [(6, .int 31), (5, .int 1), (4, .int 34), (3, .int 29), (2, .int 5), (0, .ref 0), (1, .ref 22)]) (stk' := []) (mem' := fm g tp bt a b) (fun _ _ _ => rfl) ?_
            rw [show (fx_cb .ge 31 34) = false from by decide]
            dsimp only [cond]
            refine fe_s 1 (pc' := 77) (lc' := [(6, .int 31), (5, .int 1), (4, .int 34), (3, .int 29), (2, .int 5), (0, .ref 0), (1, .ref 22)]) (stk' := [.int 1]) (mem' := fm g tp bt a b) (fun _ _ _ => rfl) ?_
            refine fe_s 1 (pc' := cond (fx_cb .eq 1 0) 115 80) (lc' := [(6, .int 31), (5, .int 1), (4, .int 34), (3, .int 29), (2, .int 5), (0, .ref 0), (1, .ref 22)]) (stk' := []) (mem' := fm g tp bt a b) (fun _ _ _ => rfl) ?_
            rw [show (fx_cb .eq 1 0) = false from by decide]
            dsimp only [cond]
            refine fe_s 2 (pc' := 83) (lc' := [(6, .int 31), (5, .int 1), (4, .int 34), (3, .int 29), (2, .int 5), (0, .ref 0), (1, .ref 22)]) (stk' := [.int 31, .ref 22]) (mem' := fm g tp bt a b) (fun _ _ _ => rfl) ?_
            refine fe_chr (i := 31) (by omega) (by rfl) (by rfl) ⟨by rfl, by rfl⟩ (by rfl) ?_
            rw [show sk_b.getD 31 0 = 114 from rfl]
            refine fe_s 7 (pc' := 96) (lc' := [(6, .int 31), (5, .int 1), (4, .int 34), (3, .int 29), (2, .int 5), (0, .ref 0), (1, .ref 22)]) (stk' := [.int (((g 13) + 31) - 29), .ref 0, .int 114]) (mem' := fm g tp bt a b) (fun _ _ _ => rfl) ?_
            try rw [h13]
            rw [show (((nI F) + 31) - 29 : Int32) = nI ((F + 31) - 29) from by simp only [show (31 : Int32) = nI 31 from rfl, show (29 : Int32) = nI 29 from rfl, tg_sub2 (x := F + 31) (y := 29) (by omega), nI_add, fm_mul]]
            refine fe_ivV (fr_byteAt (S := S) (k := (F + 31) - 29) (g := g) (tp := tp) (bt := bt) (a := a) (b := b) h11 (by omega) (by omega)) (by omega) (by rfl) (by rfl) (by rfl) (by rfl) (by rfl) (by rfl) ?_
            rcases fm_byte_or a S ((F + 31) - 29) with ⟨e11, q12⟩ | ⟨q12, n10, qn10, e11⟩
            · rw [e11]
              refine fe_s 1 (pc' := cond (fx_cb .ne 114 (-1)) 106 102) (lc' := [(6, .int 31), (5, .int 1), (4, .int 34), (3, .int 29), (2, .int 5), (0, .ref 0), (1, .ref 22)]) (stk' := []) (mem' := fm g tp bt a b) (fun _ _ _ => rfl) ?_
              rw [show (fx_cb .ne 114 (-1)) = true from by decide]
              dsimp only [cond]
              refine fe_s 6 (pc' := 72) (lc' := [(6, .int (31 + 1)), (5, .int 0), (4, .int 34), (3, .int 29), (2, .int 5), (0, .ref 0), (1, .ref 22)]) (stk' := [.int 34, .int (31 + 1)]) (mem' := fm g tp bt a b) (fun _ _ _ => rfl) ?_
              rw [show (31 + 1 : Int32) = 32 from rfl]
              refine fe_s 1 (pc' := cond (fx_cb .ge 32 34) 115 75) (lc' := [(6, .int 32), (5, .int 0), (4, .int 34), (3, .int 29), (2, .int 5), (0, .ref 0), (1, .ref 22)]) (stk' := []) (mem' := fm g tp bt a b) (fun _ _ _ => rfl) ?_
              rw [show (fx_cb .ge 32 34) = false from by decide]
              dsimp only [cond]
              refine fe_s 1 (pc' := 77) (lc' := [(6, .int 32), (5, .int 0), (4, .int 34), (3, .int 29), (2, .int 5), (0, .ref 0), (1, .ref 22)]) (stk' := [.int 0]) (mem' := fm g tp bt a b) (fun _ _ _ => rfl) ?_
              refine fe_s 1 (pc' := cond (fx_cb .eq 0 0) 115 80) (lc' := [(6, .int 32), (5, .int 0), (4, .int 34), (3, .int 29), (2, .int 5), (0, .ref 0), (1, .ref 22)]) (stk' := []) (mem' := fm g tp bt a b) (fun _ _ _ => rfl) ?_
              rw [show (fx_cb .eq 0 0) = true from by decide]
              dsimp only [cond]
              refine fe_s 1 (pc' := 117) (lc' := [(6, .int 32), (5, .int 0), (4, .int 34), (3, .int 29), (2, .int 5), (0, .ref 0), (1, .ref 22)]) (stk' := [.int 0]) (mem' := fm g tp bt a b) (fun _ _ _ => rfl) ?_
              refine fe_s 1 (pc' := cond (fx_cb .eq 0 0) 122 120) (lc' := [(6, .int 32), (5, .int 0), (4, .int 34), (3, .int 29), (2, .int 5), (0, .ref 0), (1, .ref 22)]) (stk' := []) (mem' := fm g tp bt a b) (fun _ _ _ => rfl) ?_
              rw [show (fx_cb .eq 0 0) = true from by decide]
              dsimp only [cond]
              refine fe_s 6 (pc' := 14) (lc' := [(3, .int (34 + 1)), (2, .int (5 + 1)), (6, .int 32), (5, .int 0), (4, .int 34), (0, .ref 0), (1, .ref 22)]) (stk' := []) (mem' := fm g tp bt a b) (fun _ _ _ => rfl) ?_
              rw [show (5 + 1 : Int32) = 6 from rfl]
              rw [show (34 + 1 : Int32) = 35 from rfl]
              refine fe_w (lc' := [(3, .int 35), (2, .int 6), (0, .ref 0), (1, .ref 22)]) ⟨rfl, rfl, rfl, rfl, trivial⟩ (by show List.Nodup [3, 2, 0, 1]; decide) (by show List.Nodup [3, 2, 6, 5, 4, 0, 1]; decide) ?_
              exact fw_6 hxp
            · rw [e11]
              refine fe_s 1 (pc' := cond (fx_cb .ne 114 (nI n10)) 106 102) (lc' := [(6, .int 31), (5, .int 1), (4, .int 34), (3, .int 29), (2, .int 5), (0, .ref 0), (1, .ref 22)]) (stk' := []) (mem' := fm g tp bt a b) (fun _ _ _ => rfl) ?_
              by_cases h13 : 114 = n10
              · rw [show (fx_cb .ne 114 (nI n10)) = false from cb_neF (a := 114) (b := n10) (by omega) (by omega) (by omega)]
                dsimp only [cond]
                refine fe_s 7 (pc' := 72) (lc' := [(6, .int (31 + 1)), (5, .int 1), (4, .int 34), (3, .int 29), (2, .int 5), (0, .ref 0), (1, .ref 22)]) (stk' := [.int 34, .int (31 + 1)]) (mem' := fm g tp bt a b) (fun _ _ _ => rfl) ?_
                rw [show (31 + 1 : Int32) = 32 from rfl]
                refine fe_s 1 (pc' := cond (fx_cb .ge 32 34) 115 75) (lc' := [(6, .int 32), (5, .int 1), (4, .int 34), (3, .int 29), (2, .int 5), (0, .ref 0), (1, .ref 22)]) (stk' := []) (mem' := fm g tp bt a b) (fun _ _ _ => rfl) ?_
                rw [show (fx_cb .ge 32 34) = false from by decide]
                dsimp only [cond]
                refine fe_s 1 (pc' := 77) (lc' := [(6, .int 32), (5, .int 1), (4, .int 34), (3, .int 29), (2, .int 5), (0, .ref 0), (1, .ref 22)]) (stk' := [.int 1]) (mem' := fm g tp bt a b) (fun _ _ _ => rfl) ?_
                refine fe_s 1 (pc' := cond (fx_cb .eq 1 0) 115 80) (lc' := [(6, .int 32), (5, .int 1), (4, .int 34), (3, .int 29), (2, .int 5), (0, .ref 0), (1, .ref 22)]) (stk' := []) (mem' := fm g tp bt a b) (fun _ _ _ => rfl) ?_
                rw [show (fx_cb .eq 1 0) = false from by decide]
                dsimp only [cond]
                refine fe_s 2 (pc' := 83) (lc' := [(6, .int 32), (5, .int 1), (4, .int 34), (3, .int 29), (2, .int 5), (0, .ref 0), (1, .ref 22)]) (stk' := [.int 32, .ref 22]) (mem' := fm g tp bt a b) (fun _ _ _ => rfl) ?_
                refine fe_chr (i := 32) (by omega) (by rfl) (by rfl) ⟨by rfl, by rfl⟩ (by rfl) ?_
                rw [show sk_b.getD 32 0 = 115 from rfl]
                refine fe_s 7 (pc' := 96) (lc' := [(6, .int 32), (5, .int 1), (4, .int 34), (3, .int 29), (2, .int 5), (0, .ref 0), (1, .ref 22)]) (stk' := [.int (((g 13) + 32) - 29), .ref 0, .int 115]) (mem' := fm g tp bt a b) (fun _ _ _ => rfl) ?_
                try rw [h13]
                rw [show (((nI F) + 32) - 29 : Int32) = nI ((F + 32) - 29) from by simp only [show (32 : Int32) = nI 32 from rfl, show (29 : Int32) = nI 29 from rfl, tg_sub2 (x := F + 32) (y := 29) (by omega), nI_add, fm_mul]]
                refine fe_ivV (fr_byteAt (S := S) (k := (F + 32) - 29) (g := g) (tp := tp) (bt := bt) (a := a) (b := b) h11 (by omega) (by omega)) (by omega) (by rfl) (by rfl) (by rfl) (by rfl) (by rfl) (by rfl) ?_
                rcases fm_byte_or a S ((F + 32) - 29) with ⟨e15, q16⟩ | ⟨q16, n14, qn14, e15⟩
                · rw [e15]
                  refine fe_s 1 (pc' := cond (fx_cb .ne 115 (-1)) 106 102) (lc' := [(6, .int 32), (5, .int 1), (4, .int 34), (3, .int 29), (2, .int 5), (0, .ref 0), (1, .ref 22)]) (stk' := []) (mem' := fm g tp bt a b) (fun _ _ _ => rfl) ?_
                  rw [show (fx_cb .ne 115 (-1)) = true from by decide]
                  dsimp only [cond]
                  refine fe_s 6 (pc' := 72) (lc' := [(6, .int (32 + 1)), (5, .int 0), (4, .int 34), (3, .int 29), (2, .int 5), (0, .ref 0), (1, .ref 22)]) (stk' := [.int 34, .int (32 + 1)]) (mem' := fm g tp bt a b) (fun _ _ _ => rfl) ?_
                  rw [show (32 + 1 : Int32) = 33 from rfl]
                  refine fe_s 1 (pc' := cond (fx_cb .ge 33 34) 115 75) (lc' := [(6, .int 33), (5, .int 0), (4, .int 34), (3, .int 29), (2, .int 5), (0, .ref 0), (1, .ref 22)]) (stk' := []) (mem' := fm g tp bt a b) (fun _ _ _ => rfl) ?_
                  rw [show (fx_cb .ge 33 34) = false from by decide]
                  dsimp only [cond]
                  refine fe_s 1 (pc' := 77) (lc' := [(6, .int 33), (5, .int 0), (4, .int 34), (3, .int 29), (2, .int 5), (0, .ref 0), (1, .ref 22)]) (stk' := [.int 0]) (mem' := fm g tp bt a b) (fun _ _ _ => rfl) ?_
                  refine fe_s 1 (pc' := cond (fx_cb .eq 0 0) 115 80) (lc' := [(6, .int 33), (5, .int 0), (4, .int 34), (3, .int 29), (2, .int 5), (0, .ref 0), (1, .ref 22)]) (stk' := []) (mem' := fm g tp bt a b) (fun _ _ _ => rfl) ?_
                  rw [show (fx_cb .eq 0 0) = true from by decide]
                  dsimp only [cond]
                  refine fe_s 1 (pc' := 117) (lc' := [(6, .int 33), (5, .int 0), (4, .int 34), (3, .int 29), (2, .int 5), (0, .ref 0), (1, .ref 22)]) (stk' := [.int 0]) (mem' := fm g tp bt a b) (fun _ _ _ => rfl) ?_
                  refine fe_s 1 (pc' := cond (fx_cb .eq 0 0) 122 120) (lc' := [(6, .int 33), (5, .int 0), (4, .int 34), (3, .int 29), (2, .int 5), (0, .ref 0), (1, .ref 22)]) (stk' := []) (mem' := fm g tp bt a b) (fun _ _ _ => rfl) ?_
                  rw [show (fx_cb .eq 0 0) = true from by decide]
                  dsimp only [cond]
                  refine fe_s 6 (pc' := 14) (lc' := [(3, .int (34 + 1)), (2, .int (5 + 1)), (6, .int 33), (5, .int 0), (4, .int 34), (0, .ref 0), (1, .ref 22)]) (stk' := []) (mem' := fm g tp bt a b) (fun _ _ _ => rfl) ?_
                  rw [show (5 + 1 : Int32) = 6 from rfl]
                  rw [show (34 + 1 : Int32) = 35 from rfl]
                  refine fe_w (lc' := [(3, .int 35), (2, .int 6), (0, .ref 0), (1, .ref 22)]) ⟨rfl, rfl, rfl, rfl, trivial⟩ (by show List.Nodup [3, 2, 0, 1]; decide) (by show List.Nodup [3, 2, 6, 5, 4, 0, 1]; decide) ?_
                  exact fw_6 hxp
                · rw [e15]
                  refine fe_s 1 (pc' := cond (fx_cb .ne 115 (nI n14)) 106 102) (lc' := [(6, .int 32), (5, .int 1), (4, .int 34), (3, .int 29), (2, .int 5), (0, .ref 0), (1, .ref 22)]) (stk' := []) (mem' := fm g tp bt a b) (fun _ _ _ => rfl) ?_
                  by_cases h17 : 115 = n14
                  · rw [show (fx_cb .ne 115 (nI n14)) = false from cb_neF (a := 115) (b := n14) (by omega) (by omega) (by omega)]
                    dsimp only [cond]
                    refine fe_s 7 (pc' := 72) (lc' := [(6, .int (32 + 1)), (5, .int 1), (4, .int 34), (3, .int 29), (2, .int 5), (0, .ref 0), (1, .ref 22)]) (stk' := [.int 34, .int (32 + 1)]) (mem' := fm g tp bt a b) (fun _ _ _ => rfl) ?_
                    rw [show (32 + 1 : Int32) = 33 from rfl]
                    refine fe_s 1 (pc' := cond (fx_cb .ge 33 34) 115 75) (lc' := [(6, .int 33), (5, .int 1), (4, .int 34), (3, .int 29), (2, .int 5), (0, .ref 0), (1, .ref 22)]) (stk' := []) (mem' := fm g tp bt a b) (fun _ _ _ => rfl) ?_
                    rw [show (fx_cb .ge 33 34) = false from by decide]
                    dsimp only [cond]
                    refine fe_s 1 (pc' := 77) (lc' := [(6, .int 33), (5, .int 1), (4, .int 34), (3, .int 29), (2, .int 5), (0, .ref 0), (1, .ref 22)]) (stk' := [.int 1]) (mem' := fm g tp bt a b) (fun _ _ _ => rfl) ?_
                    refine fe_s 1 (pc' := cond (fx_cb .eq 1 0) 115 80) (lc' := [(6, .int 33), (5, .int 1), (4, .int 34), (3, .int 29), (2, .int 5), (0, .ref 0), (1, .ref 22)]) (stk' := []) (mem' := fm g tp bt a b) (fun _ _ _ => rfl) ?_
                    rw [show (fx_cb .eq 1 0) = false from by decide]
                    dsimp only [cond]
                    refine fe_s 2 (pc' := 83) (lc' := [(6, .int 33), (5, .int 1), (4, .int 34), (3, .int 29), (2, .int 5), (0, .ref 0), (1, .ref 22)]) (stk' := [.int 33, .ref 22]) (mem' := fm g tp bt a b) (fun _ _ _ => rfl) ?_
                    refine fe_chr (i := 33) (by omega) (by rfl) (by rfl) ⟨by rfl, by rfl⟩ (by rfl) ?_
                    rw [show sk_b.getD 33 0 = 101 from rfl]
                    refine fe_s 7 (pc' := 96) (lc' := [(6, .int 33), (5, .int 1), (4, .int 34), (3, .int 29), (2, .int 5), (0, .ref 0), (1, .ref 22)]) (stk' := [.int (((g 13) + 33) - 29), .ref 0, .int 101]) (mem' := fm g tp bt a b) (fun _ _ _ => rfl) ?_
                    try rw [h13]
                    rw [show (((nI F) + 33) - 29 : Int32) = nI ((F + 33) - 29) from by simp only [show (33 : Int32) = nI 33 from rfl, show (29 : Int32) = nI 29 from rfl, tg_sub2 (x := F + 33) (y := 29) (by omega), nI_add, fm_mul]]
                    refine fe_ivV (fr_byteAt (S := S) (k := (F + 33) - 29) (g := g) (tp := tp) (bt := bt) (a := a) (b := b) h11 (by omega) (by omega)) (by omega) (by rfl) (by rfl) (by rfl) (by rfl) (by rfl) (by rfl) ?_
                    rcases fm_byte_or a S ((F + 33) - 29) with ⟨e19, q20⟩ | ⟨q20, n18, qn18, e19⟩
                    · rw [e19]
                      refine fe_s 1 (pc' := cond (fx_cb .ne 101 (-1)) 106 102) (lc' := [(6, .int 33), (5, .int 1), (4, .int 34), (3, .int 29), (2, .int 5), (0, .ref 0), (1, .ref 22)]) (stk' := []) (mem' := fm g tp bt a b) (fun _ _ _ => rfl) ?_
                      rw [show (fx_cb .ne 101 (-1)) = true from by decide]
                      dsimp only [cond]
                      refine fe_s 6 (pc' := 72) (lc' := [(6, .int (33 + 1)), (5, .int 0), (4, .int 34), (3, .int 29), (2, .int 5), (0, .ref 0), (1, .ref 22)]) (stk' := [.int 34, .int (33 + 1)]) (mem' := fm g tp bt a b) (fun _ _ _ => rfl) ?_
                      rw [show (33 + 1 : Int32) = 34 from rfl]
                      refine fe_s 1 (pc' := cond (fx_cb .ge 34 34) 115 75) (lc' := [(6, .int 34), (5, .int 0), (4, .int 34), (3, .int 29), (2, .int 5), (0, .ref 0), (1, .ref 22)]) (stk' := []) (mem' := fm g tp bt a b) (fun _ _ _ => rfl) ?_
                      rw [show (fx_cb .ge 34 34) = true from by decide]
                      dsimp only [cond]
                      refine fe_s 1 (pc' := 117) (lc' := [(6, .int 34), (5, .int 0), (4, .int 34), (3, .int 29), (2, .int 5), (0, .ref 0), (1, .ref 22)]) (stk' := [.int 0]) (mem' := fm g tp bt a b) (fun _ _ _ => rfl) ?_
                      refine fe_s 1 (pc' := cond (fx_cb .eq 0 0) 122 120) (lc' := [(6, .int 34), (5, .int 0), (4, .int 34), (3, .int 29), (2, .int 5), (0, .ref 0), (1, .ref 22)]) (stk' := []) (mem' := fm g tp bt a b) (fun _ _ _ => rfl) ?_
                      rw [show (fx_cb .eq 0 0) = true from by decide]
                      dsimp only [cond]
                      refine fe_s 6 (pc' := 14) (lc' := [(3, .int (34 + 1)), (2, .int (5 + 1)), (6, .int 34), (5, .int 0), (4, .int 34), (0, .ref 0), (1, .ref 22)]) (stk' := []) (mem' := fm g tp bt a b) (fun _ _ _ => rfl) ?_
                      rw [show (5 + 1 : Int32) = 6 from rfl]
                      rw [show (34 + 1 : Int32) = 35 from rfl]
                      refine fe_w (lc' := [(3, .int 35), (2, .int 6), (0, .ref 0), (1, .ref 22)]) ⟨rfl, rfl, rfl, rfl, trivial⟩ (by show List.Nodup [3, 2, 0, 1]; decide) (by show List.Nodup [3, 2, 6, 5, 4, 0, 1]; decide) ?_
                      exact fw_6 hxp
                    · rw [e19]
                      refine fe_s 1 (pc' := cond (fx_cb .ne 101 (nI n18)) 106 102) (lc' := [(6, .int 33), (5, .int 1), (4, .int 34), (3, .int 29), (2, .int 5), (0, .ref 0), (1, .ref 22)]) (stk' := []) (mem' := fm g tp bt a b) (fun _ _ _ => rfl) ?_
                      by_cases h21 : 101 = n18
                      · rw [show (fx_cb .ne 101 (nI n18)) = false from cb_neF (a := 101) (b := n18) (by omega) (by omega) (by omega)]
                        dsimp only [cond]
                        refine fe_s 7 (pc' := 72) (lc' := [(6, .int (33 + 1)), (5, .int 1), (4, .int 34), (3, .int 29), (2, .int 5), (0, .ref 0), (1, .ref 22)]) (stk' := [.int 34, .int (33 + 1)]) (mem' := fm g tp bt a b) (fun _ _ _ => rfl) ?_
                        rw [show (33 + 1 : Int32) = 34 from rfl]
                        refine fe_s 1 (pc' := cond (fx_cb .ge 34 34) 115 75) (lc' := [(6, .int 34), (5, .int 1), (4, .int 34), (3, .int 29), (2, .int 5), (0, .ref 0), (1, .ref 22)]) (stk' := []) (mem' := fm g tp bt a b) (fun _ _ _ => rfl) ?_
                        rw [show (fx_cb .ge 34 34) = true from by decide]
                        dsimp only [cond]
                        refine fe_s 1 (pc' := 117) (lc' := [(6, .int 34), (5, .int 1), (4, .int 34), (3, .int 29), (2, .int 5), (0, .ref 0), (1, .ref 22)]) (stk' := [.int 1]) (mem' := fm g tp bt a b) (fun _ _ _ => rfl) ?_
                        refine fe_s 1 (pc' := cond (fx_cb .eq 1 0) 122 120) (lc' := [(6, .int 34), (5, .int 1), (4, .int 34), (3, .int 29), (2, .int 5), (0, .ref 0), (1, .ref 22)]) (stk' := []) (mem' := fm g tp bt a b) (fun _ _ _ => rfl) ?_
                        rw [show (fx_cb .eq 1 0) = false from by decide]
                        dsimp only [cond]
                        refine fe_s 1 (pc' := 121) (lc' := [(6, .int 34), (5, .int 1), (4, .int 34), (3, .int 29), (2, .int 5), (0, .ref 0), (1, .ref 22)]) (stk' := [.int 5]) (mem' := fm g tp bt a b) (fun _ _ _ => rfl) ?_
                        exact fe_ret ⟨_, Or.inr ⟨5, by omega, rfl⟩, rfl⟩ (by rfl) (by rfl) (by rfl)
                      · rw [show (fx_cb .ne 101 (nI n18)) = true from cb_neT (a := 101) (b := n18) (by omega) (by omega) (by omega)]
                        dsimp only [cond]
                        refine fe_s 6 (pc' := 72) (lc' := [(6, .int (33 + 1)), (5, .int 0), (4, .int 34), (3, .int 29), (2, .int 5), (0, .ref 0), (1, .ref 22)]) (stk' := [.int 34, .int (33 + 1)]) (mem' := fm g tp bt a b) (fun _ _ _ => rfl) ?_
                        rw [show (33 + 1 : Int32) = 34 from rfl]
                        refine fe_s 1 (pc' := cond (fx_cb .ge 34 34) 115 75) (lc' := [(6, .int 34), (5, .int 0), (4, .int 34), (3, .int 29), (2, .int 5), (0, .ref 0), (1, .ref 22)]) (stk' := []) (mem' := fm g tp bt a b) (fun _ _ _ => rfl) ?_
                        rw [show (fx_cb .ge 34 34) = true from by decide]
                        dsimp only [cond]
                        refine fe_s 1 (pc' := 117) (lc' := [(6, .int 34), (5, .int 0), (4, .int 34), (3, .int 29), (2, .int 5), (0, .ref 0), (1, .ref 22)]) (stk' := [.int 0]) (mem' := fm g tp bt a b) (fun _ _ _ => rfl) ?_
                        refine fe_s 1 (pc' := cond (fx_cb .eq 0 0) 122 120) (lc' := [(6, .int 34), (5, .int 0), (4, .int 34), (3, .int 29), (2, .int 5), (0, .ref 0), (1, .ref 22)]) (stk' := []) (mem' := fm g tp bt a b) (fun _ _ _ => rfl) ?_
                        rw [show (fx_cb .eq 0 0) = true from by decide]
                        dsimp only [cond]
                        refine fe_s 6 (pc' := 14) (lc' := [(3, .int (34 + 1)), (2, .int (5 + 1)), (6, .int 34), (5, .int 0), (4, .int 34), (0, .ref 0), (1, .ref 22)]) (stk' := []) (mem' := fm g tp bt a b) (fun _ _ _ => rfl) ?_
                        rw [show (5 + 1 : Int32) = 6 from rfl]
                        rw [show (34 + 1 : Int32) = 35 from rfl]
                        refine fe_w (lc' := [(3, .int 35), (2, .int 6), (0, .ref 0), (1, .ref 22)]) ⟨rfl, rfl, rfl, rfl, trivial⟩ (by show List.Nodup [3, 2, 0, 1]; decide) (by show List.Nodup [3, 2, 6, 5, 4, 0, 1]; decide) ?_
                        exact fw_6 hxp
                  · rw [show (fx_cb .ne 115 (nI n14)) = true from cb_neT (a := 115) (b := n14) (by omega) (by omega) (by omega)]
                    dsimp only [cond]
                    refine fe_s 6 (pc' := 72) (lc' := [(6, .int (32 + 1)), (5, .int 0), (4, .int 34), (3, .int 29), (2, .int 5), (0, .ref 0), (1, .ref 22)]) (stk' := [.int 34, .int (32 + 1)]) (mem' := fm g tp bt a b) (fun _ _ _ => rfl) ?_
                    rw [show (32 + 1 : Int32) = 33 from rfl]
                    refine fe_s 1 (pc' := cond (fx_cb .ge 33 34) 115 75) (lc' := [(6, .int 33), (5, .int 0), (4, .int 34), (3, .int 29), (2, .int 5), (0, .ref 0), (1, .ref 22)]) (stk' := []) (mem' := fm g tp bt a b) (fun _ _ _ => rfl) ?_
                    rw [show (fx_cb .ge 33 34) = false from by decide]
                    dsimp only [cond]
                    refine fe_s 1 (pc' := 77) (lc' := [(6, .int 33), (5, .int 0), (4, .int 34), (3, .int 29), (2, .int 5), (0, .ref 0), (1, .ref 22)]) (stk' := [.int 0]) (mem' := fm g tp bt a b) (fun _ _ _ => rfl) ?_
                    refine fe_s 1 (pc' := cond (fx_cb .eq 0 0) 115 80) (lc' := [(6, .int 33), (5, .int 0), (4, .int 34), (3, .int 29), (2, .int 5), (0, .ref 0), (1, .ref 22)]) (stk' := []) (mem' := fm g tp bt a b) (fun _ _ _ => rfl) ?_
                    rw [show (fx_cb .eq 0 0) = true from by decide]
                    dsimp only [cond]
                    refine fe_s 1 (pc' := 117) (lc' := [(6, .int 33), (5, .int 0), (4, .int 34), (3, .int 29), (2, .int 5), (0, .ref 0), (1, .ref 22)]) (stk' := [.int 0]) (mem' := fm g tp bt a b) (fun _ _ _ => rfl) ?_
                    refine fe_s 1 (pc' := cond (fx_cb .eq 0 0) 122 120) (lc' := [(6, .int 33), (5, .int 0), (4, .int 34), (3, .int 29), (2, .int 5), (0, .ref 0), (1, .ref 22)]) (stk' := []) (mem' := fm g tp bt a b) (fun _ _ _ => rfl) ?_
                    rw [show (fx_cb .eq 0 0) = true from by decide]
                    dsimp only [cond]
                    refine fe_s 6 (pc' := 14) (lc' := [(3, .int (34 + 1)), (2, .int (5 + 1)), (6, .int 33), (5, .int 0), (4, .int 34), (0, .ref 0), (1, .ref 22)]) (stk' := []) (mem' := fm g tp bt a b) (fun _ _ _ => rfl) ?_
                    rw [show (5 + 1 : Int32) = 6 from rfl]
                    rw [show (34 + 1 : Int32) = 35 from rfl]
                    refine fe_w (lc' := [(3, .int 35), (2, .int 6), (0, .ref 0), (1, .ref 22)]) ⟨rfl, rfl, rfl, rfl, trivial⟩ (by show List.Nodup [3, 2, 0, 1]; decide) (by show List.Nodup [3, 2, 6, 5, 4, 0, 1]; decide) ?_
                    exact fw_6 hxp
              · rw [show (fx_cb .ne 114 (nI n10)) = true from cb_neT (a := 114) (b := n10) (by omega) (by omega) (by omega)]
                dsimp only [cond]
                refine fe_s 6 (pc' := 72) (lc' := [(6, .int (31 + 1)), (5, .int 0), (4, .int 34), (3, .int 29), (2, .int 5), (0, .ref 0), (1, .ref 22)]) (stk' := [.int 34, .int (31 + 1)]) (mem' := fm g tp bt a b) (fun _ _ _ => rfl) ?_
                rw [show (31 + 1 : Int32) = 32 from rfl]
                refine fe_s 1 (pc' := cond (fx_cb .ge 32 34) 115 75) (lc' := [(6, .int 32), (5, .int 0), (4, .int 34), (3, .int 29), (2, .int 5), (0, .ref 0), (1, .ref 22)]) (stk' := []) (mem' := fm g tp bt a b) (fun _ _ _ => rfl) ?_
                rw [show (fx_cb .ge 32 34) = false from by decide]
                dsimp only [cond]
                refine fe_s 1 (pc' := 77) (lc' := [(6, .int 32), (5, .int 0), (4, .int 34), (3, .int 29), (2, .int 5), (0, .ref 0), (1, .ref 22)]) (stk' := [.int 0]) (mem' := fm g tp bt a b) (fun _ _ _ => rfl) ?_
                refine fe_s 1 (pc' := cond (fx_cb .eq 0 0) 115 80) (lc' := [(6, .int 32), (5, .int 0), (4, .int 34), (3, .int 29), (2, .int 5), (0, .ref 0), (1, .ref 22)]) (stk' := []) (mem' := fm g tp bt a b) (fun _ _ _ => rfl) ?_
                rw [show (fx_cb .eq 0 0) = true from by decide]
                dsimp only [cond]
                refine fe_s 1 (pc' := 117) (lc' := [(6, .int 32), (5, .int 0), (4, .int 34), (3, .int 29), (2, .int 5), (0, .ref 0), (1, .ref 22)]) (stk' := [.int 0]) (mem' := fm g tp bt a b) (fun _ _ _ => rfl) ?_
                refine fe_s 1 (pc' := cond (fx_cb .eq 0 0) 122 120) (lc' := [(6, .int 32), (5, .int 0), (4, .int 34), (3, .int 29), (2, .int 5), (0, .ref 0), (1, .ref 22)]) (stk' := []) (mem' := fm g tp bt a b) (fun _ _ _ => rfl) ?_
                rw [show (fx_cb .eq 0 0) = true from by decide]
                dsimp only [cond]
                refine fe_s 6 (pc' := 14) (lc' := [(3, .int (34 + 1)), (2, .int (5 + 1)), (6, .int 32), (5, .int 0), (4, .int 34), (0, .ref 0), (1, .ref 22)]) (stk' := []) (mem' := fm g tp bt a b) (fun _ _ _ => rfl) ?_
                rw [show (5 + 1 : Int32) = 6 from rfl]
                rw [show (34 + 1 : Int32) = 35 from rfl]
                refine fe_w (lc' := [(3, .int 35), (2, .int 6), (0, .ref 0), (1, .ref 22)]) ⟨rfl, rfl, rfl, rfl, trivial⟩ (by show List.Nodup [3, 2, 0, 1]; decide) (by show List.Nodup [3, 2, 6, 5, 4, 0, 1]; decide) ?_
                exact fw_6 hxp
          · rw [show (fx_cb .ne 111 (nI n6)) = true from cb_neT (a := 111) (b := n6) (by omega) (by omega) (by omega)]
            dsimp only [cond]
            refine fe_s 6 (pc' := 72) (lc' := [(6, .int (30 + 1)), (5, .int 0), (4, .int 34), (3, .int 29), (2, .int 5), (0, .ref 0), (1, .ref 22)]) (stk' := [.int 34, .int (30 + 1)]) (mem' := fm g tp bt a b) (fun _ _ _ => rfl) ?_
            rw [show (30 + 1 : Int32) = 31 from rfl]
            refine fe_s 1 (pc' := cond (fx_cb .ge 31 34) 115 75) (lc' := [(6, .int 31), (5, .int 0), (4, .int 34), (3, .int 29), (2, .int 5), (0, .ref 0), (1, .ref 22)]) (stk' := []) (mem' := fm g tp bt a b) (fun _ _ _ => rfl) ?_
            rw [show (fx_cb .ge 31 34) = false from by decide]
            dsimp only [cond]
            refine fe_s 1 (pc' := 77) (lc' := [(6, .int 31), (5, .int 0), (4, .int 34), (3, .int 29), (2, .int 5), (0, .ref 0), (1, .ref 22)]) (stk' := [.int 0]) (mem' := fm g tp bt a b) (fun _ _ _ => rfl) ?_
            refine fe_s 1 (pc' := cond (fx_cb .eq 0 0) 115 80) (lc' := [(6, .int 31), (5, .int 0), (4, .int 34), (3, .int 29), (2, .int 5), (0, .ref 0), (1, .ref 22)]) (stk' := []) (mem' := fm g tp bt a b) (fun _ _ _ => rfl) ?_
            rw [show (fx_cb .eq 0 0) = true from by decide]
            dsimp only [cond]
            refine fe_s 1 (pc' := 117) (lc' := [(6, .int 31), (5, .int 0), (4, .int 34), (3, .int 29), (2, .int 5), (0, .ref 0), (1, .ref 22)]) (stk' := [.int 0]) (mem' := fm g tp bt a b) (fun _ _ _ => rfl) ?_
            refine fe_s 1 (pc' := cond (fx_cb .eq 0 0) 122 120) (lc' := [(6, .int 31), (5, .int 0), (4, .int 34), (3, .int 29), (2, .int 5), (0, .ref 0), (1, .ref 22)]) (stk' := []) (mem' := fm g tp bt a b) (fun _ _ _ => rfl) ?_
            rw [show (fx_cb .eq 0 0) = true from by decide]
            dsimp only [cond]
            refine fe_s 6 (pc' := 14) (lc' := [(3, .int (34 + 1)), (2, .int (5 + 1)), (6, .int 31), (5, .int 0), (4, .int 34), (0, .ref 0), (1, .ref 22)]) (stk' := []) (mem' := fm g tp bt a b) (fun _ _ _ => rfl) ?_
            rw [show (5 + 1 : Int32) = 6 from rfl]
            rw [show (34 + 1 : Int32) = 35 from rfl]
            refine fe_w (lc' := [(3, .int 35), (2, .int 6), (0, .ref 0), (1, .ref 22)]) ⟨rfl, rfl, rfl, rfl, trivial⟩ (by show List.Nodup [3, 2, 0, 1]; decide) (by show List.Nodup [3, 2, 6, 5, 4, 0, 1]; decide) ?_
            exact fw_6 hxp
      · rw [show (fx_cb .ne 119 (nI n2)) = true from cb_neT (a := 119) (b := n2) (by omega) (by omega) (by omega)]
        dsimp only [cond]
        refine fe_s 6 (pc' := 72) (lc' := [(6, .int (29 + 1)), (5, .int 0), (4, .int 34), (3, .int 29), (2, .int 5), (0, .ref 0), (1, .ref 22)]) (stk' := [.int 34, .int (29 + 1)]) (mem' := fm g tp bt a b) (fun _ _ _ => rfl) ?_
        rw [show (29 + 1 : Int32) = 30 from rfl]
        refine fe_s 1 (pc' := cond (fx_cb .ge 30 34) 115 75) (lc' := [(6, .int 30), (5, .int 0), (4, .int 34), (3, .int 29), (2, .int 5), (0, .ref 0), (1, .ref 22)]) (stk' := []) (mem' := fm g tp bt a b) (fun _ _ _ => rfl) ?_
        rw [show (fx_cb .ge 30 34) = false from by decide]
        dsimp only [cond]
        refine fe_s 1 (pc' := 77) (lc' := [(6, .int 30), (5, .int 0), (4, .int 34), (3, .int 29), (2, .int 5), (0, .ref 0), (1, .ref 22)]) (stk' := [.int 0]) (mem' := fm g tp bt a b) (fun _ _ _ => rfl) ?_
        refine fe_s 1 (pc' := cond (fx_cb .eq 0 0) 115 80) (lc' := [(6, .int 30), (5, .int 0), (4, .int 34), (3, .int 29), (2, .int 5), (0, .ref 0), (1, .ref 22)]) (stk' := []) (mem' := fm g tp bt a b) (fun _ _ _ => rfl) ?_
        rw [show (fx_cb .eq 0 0) = true from by decide]
        dsimp only [cond]
        refine fe_s 1 (pc' := 117) (lc' := [(6, .int 30), (5, .int 0), (4, .int 34), (3, .int 29), (2, .int 5), (0, .ref 0), (1, .ref 22)]) (stk' := [.int 0]) (mem' := fm g tp bt a b) (fun _ _ _ => rfl) ?_
        refine fe_s 1 (pc' := cond (fx_cb .eq 0 0) 122 120) (lc' := [(6, .int 30), (5, .int 0), (4, .int 34), (3, .int 29), (2, .int 5), (0, .ref 0), (1, .ref 22)]) (stk' := []) (mem' := fm g tp bt a b) (fun _ _ _ => rfl) ?_
        rw [show (fx_cb .eq 0 0) = true from by decide]
        dsimp only [cond]
        refine fe_s 6 (pc' := 14) (lc' := [(3, .int (34 + 1)), (2, .int (5 + 1)), (6, .int 30), (5, .int 0), (4, .int 34), (0, .ref 0), (1, .ref 22)]) (stk' := []) (mem' := fm g tp bt a b) (fun _ _ _ => rfl) ?_
        rw [show (5 + 1 : Int32) = 6 from rfl]
        rw [show (34 + 1 : Int32) = 35 from rfl]
        refine fe_w (lc' := [(3, .int 35), (2, .int 6), (0, .ref 0), (1, .ref 22)]) ⟨rfl, rfl, rfl, rfl, trivial⟩ (by show List.Nodup [3, 2, 0, 1]; decide) (by show List.Nodup [3, 2, 6, 5, 4, 0, 1]; decide) ?_
        exact fw_6 hxp
  · rw [show (fx_cb .ne 5 (nI (E - F))) = true from cb_neT (a := 5) (b := E - F) (by omega) (by omega) (by omega)]
    dsimp only [cond]
    refine fe_s 6 (pc' := 72) (lc' := [(6, .int 29), (5, .int 0), (4, .int 34), (3, .int 29), (2, .int 5), (0, .ref 0), (1, .ref 22)]) (stk' := [.int 34, .int 29]) (mem' := fm g tp bt a b) (fun _ _ _ => rfl) ?_
    refine fe_s 1 (pc' := cond (fx_cb .ge 29 34) 115 75) (lc' := [(6, .int 29), (5, .int 0), (4, .int 34), (3, .int 29), (2, .int 5), (0, .ref 0), (1, .ref 22)]) (stk' := []) (mem' := fm g tp bt a b) (fun _ _ _ => rfl) ?_
    rw [show (fx_cb .ge 29 34) = false from by decide]
    dsimp only [cond]
    refine fe_s 1 (pc' := 77) (lc' := [(6, .int 29), (5, .int 0), (4, .int 34), (3, .int 29), (2, .int 5), (0, .ref 0), (1, .ref 22)]) (stk' := [.int 0]) (mem' := fm g tp bt a b) (fun _ _ _ => rfl) ?_
    refine fe_s 1 (pc' := cond (fx_cb .eq 0 0) 115 80) (lc' := [(6, .int 29), (5, .int 0), (4, .int 34), (3, .int 29), (2, .int 5), (0, .ref 0), (1, .ref 22)]) (stk' := []) (mem' := fm g tp bt a b) (fun _ _ _ => rfl) ?_
    rw [show (fx_cb .eq 0 0) = true from by decide]
    dsimp only [cond]
    refine fe_s 1 (pc' := 117) (lc' := [(6, .int 29), (5, .int 0), (4, .int 34), (3, .int 29), (2, .int 5), (0, .ref 0), (1, .ref 22)]) (stk' := [.int 0]) (mem' := fm g tp bt a b) (fun _ _ _ => rfl) ?_
    refine fe_s 1 (pc' := cond (fx_cb .eq 0 0) 122 120) (lc' := [(6, .int 29), (5, .int 0), (4, .int 34), (3, .int 29), (2, .int 5), (0, .ref 0), (1, .ref 22)]) (stk' := []) (mem' := fm g tp bt a b) (fun _ _ _ => rfl) ?_
    rw [show (fx_cb .eq 0 0) = true from by decide]
    dsimp only [cond]
    refine fe_s 6 (pc' := 14) (lc' := [(3, .int (34 + 1)), (2, .int (5 + 1)), (6, .int 29), (5, .int 0), (4, .int 34), (0, .ref 0), (1, .ref 22)]) (stk' := []) (mem' := fm g tp bt a b) (fun _ _ _ => rfl) ?_
    rw [show (5 + 1 : Int32) = 6 from rfl]
    rw [show (34 + 1 : Int32) = 35 from rfl]
    refine fe_w (lc' := [(3, .int 35), (2, .int 6), (0, .ref 0), (1, .ref 22)]) ⟨rfl, rfl, rfl, rfl, trivial⟩ (by show List.Nodup [3, 2, 0, 1]; decide) (by show List.Nodup [3, 2, 6, 5, 4, 0, 1]; decide) ?_
    exact fw_6 hxp
theorem fw_4 {S E F : Nat} (hxp : fm_xp g S E F) : fe_R 1 gk_m226 14 [(3, .int 22), (2, .int 4), (0, .ref 0), (1, .ref 22)] [] (fm g tp bt a b) (fm_FI (fm g tp bt a b)) := by
  obtain ⟨h11, hS9, h14, hES, h13, hFE, -, -, -⟩ := id hxp
  refine fe_s 2 (pc' := 16) (lc' := [(3, .int 22), (2, .int 4), (0, .ref 0), (1, .ref 22)]) (stk' := [.ref 22, .int 22]) (mem' := fm g tp bt a b) (fun _ _ _ => rfl) ?_
  refine fe_s 1 (pc' := 19) (lc' := [(3, .int 22), (2, .int 4), (0, .ref 0), (1, .ref 22)]) (stk' := [.int 117, .int 22]) (mem' := fm g tp bt a b) (fun _ _ _ => rfl) ?_
  refine fe_s 1 (pc' := cond (fx_cb .ge 22 117) 133 22) (lc' := [(3, .int 22), (2, .int 4), (0, .ref 0), (1, .ref 22)]) (stk' := []) (mem' := fm g tp bt a b) (fun _ _ _ => rfl) ?_
  rw [show (fx_cb .ge 22 117) = false from by decide]
  dsimp only [cond]
  refine fe_s 4 (pc' := 28) (lc' := [(4, .int 22), (3, .int 22), (2, .int 4), (0, .ref 0), (1, .ref 22)]) (stk' := [.int 22, .ref 22]) (mem' := fm g tp bt a b) (fun _ _ _ => rfl) ?_
  refine fe_chr (i := 22) (by omega) (by rfl) (by rfl) ⟨by rfl, by rfl⟩ (by rfl) ?_
  rw [show sk_b.getD 22 0 = 119 from rfl]
  refine fe_s 1 (pc' := 33) (lc' := [(4, .int 22), (3, .int 22), (2, .int 4), (0, .ref 0), (1, .ref 22)]) (stk' := [.int 32, .int 119]) (mem' := fm g tp bt a b) (fun _ _ _ => rfl) ?_
  refine fe_s 1 (pc' := cond (fx_cb .eq 119 32) 42 36) (lc' := [(4, .int 22), (3, .int 22), (2, .int 4), (0, .ref 0), (1, .ref 22)]) (stk' := []) (mem' := fm g tp bt a b) (fun _ _ _ => rfl) ?_
  rw [show (fx_cb .eq 119 32) = false from by decide]
  dsimp only [cond]
  refine fe_s 4 (pc' := 28) (lc' := [(4, .int (22 + 1)), (3, .int 22), (2, .int 4), (0, .ref 0), (1, .ref 22)]) (stk' := [.int (22 + 1), .ref 22]) (mem' := fm g tp bt a b) (fun _ _ _ => rfl) ?_
  rw [show (22 + 1 : Int32) = 23 from rfl]
  refine fe_chr (i := 23) (by omega) (by rfl) (by rfl) ⟨by rfl, by rfl⟩ (by rfl) ?_
  rw [show sk_b.getD 23 0 = 97 from rfl]
  refine fe_s 1 (pc' := 33) (lc' := [(4, .int 23), (3, .int 22), (2, .int 4), (0, .ref 0), (1, .ref 22)]) (stk' := [.int 32, .int 97]) (mem' := fm g tp bt a b) (fun _ _ _ => rfl) ?_
  refine fe_s 1 (pc' := cond (fx_cb .eq 97 32) 42 36) (lc' := [(4, .int 23), (3, .int 22), (2, .int 4), (0, .ref 0), (1, .ref 22)]) (stk' := []) (mem' := fm g tp bt a b) (fun _ _ _ => rfl) ?_
  rw [show (fx_cb .eq 97 32) = false from by decide]
  dsimp only [cond]
  refine fe_s 4 (pc' := 28) (lc' := [(4, .int (23 + 1)), (3, .int 22), (2, .int 4), (0, .ref 0), (1, .ref 22)]) (stk' := [.int (23 + 1), .ref 22]) (mem' := fm g tp bt a b) (fun _ _ _ => rfl) ?_
  rw [show (23 + 1 : Int32) = 24 from rfl]
  refine fe_chr (i := 24) (by omega) (by rfl) (by rfl) ⟨by rfl, by rfl⟩ (by rfl) ?_
  rw [show sk_b.getD 24 0 = 108 from rfl]
  refine fe_s 1 (pc' := 33) (lc' := [(4, .int 24), (3, .int 22), (2, .int 4), (0, .ref 0), (1, .ref 22)]) (stk' := [.int 32, .int 108]) (mem' := fm g tp bt a b) (fun _ _ _ => rfl) ?_
  refine fe_s 1 (pc' := cond (fx_cb .eq 108 32) 42 36) (lc' := [(4, .int 24), (3, .int 22), (2, .int 4), (0, .ref 0), (1, .ref 22)]) (stk' := []) (mem' := fm g tp bt a b) (fun _ _ _ => rfl) ?_
  rw [show (fx_cb .eq 108 32) = false from by decide]
  dsimp only [cond]
  refine fe_s 4 (pc' := 28) (lc' := [(4, .int (24 + 1)), (3, .int 22), (2, .int 4), (0, .ref 0), (1, .ref 22)]) (stk' := [.int (24 + 1), .ref 22]) (mem' := fm g tp bt a b) (fun _ _ _ => rfl) ?_
  rw [show (24 + 1 : Int32) = 25 from rfl]
  refine fe_chr (i := 25) (by omega) (by rfl) (by rfl) ⟨by rfl, by rfl⟩ (by rfl) ?_
  rw [show sk_b.getD 25 0 = 107 from rfl]
  refine fe_s 1 (pc' := 33) (lc' := [(4, .int 25), (3, .int 22), (2, .int 4), (0, .ref 0), (1, .ref 22)]) (stk' := [.int 32, .int 107]) (mem' := fm g tp bt a b) (fun _ _ _ => rfl) ?_
  refine fe_s 1 (pc' := cond (fx_cb .eq 107 32) 42 36) (lc' := [(4, .int 25), (3, .int 22), (2, .int 4), (0, .ref 0), (1, .ref 22)]) (stk' := []) (mem' := fm g tp bt a b) (fun _ _ _ => rfl) ?_
  rw [show (fx_cb .eq 107 32) = false from by decide]
  dsimp only [cond]
  refine fe_s 4 (pc' := 28) (lc' := [(4, .int (25 + 1)), (3, .int 22), (2, .int 4), (0, .ref 0), (1, .ref 22)]) (stk' := [.int (25 + 1), .ref 22]) (mem' := fm g tp bt a b) (fun _ _ _ => rfl) ?_
  rw [show (25 + 1 : Int32) = 26 from rfl]
  refine fe_chr (i := 26) (by omega) (by rfl) (by rfl) ⟨by rfl, by rfl⟩ (by rfl) ?_
  rw [show sk_b.getD 26 0 = 101 from rfl]
  refine fe_s 1 (pc' := 33) (lc' := [(4, .int 26), (3, .int 22), (2, .int 4), (0, .ref 0), (1, .ref 22)]) (stk' := [.int 32, .int 101]) (mem' := fm g tp bt a b) (fun _ _ _ => rfl) ?_
  refine fe_s 1 (pc' := cond (fx_cb .eq 101 32) 42 36) (lc' := [(4, .int 26), (3, .int 22), (2, .int 4), (0, .ref 0), (1, .ref 22)]) (stk' := []) (mem' := fm g tp bt a b) (fun _ _ _ => rfl) ?_
  rw [show (fx_cb .eq 101 32) = false from by decide]
  dsimp only [cond]
  refine fe_s 4 (pc' := 28) (lc' := [(4, .int (26 + 1)), (3, .int 22), (2, .int 4), (0, .ref 0), (1, .ref 22)]) (stk' := [.int (26 + 1), .ref 22]) (mem' := fm g tp bt a b) (fun _ _ _ => rfl) ?_
  rw [show (26 + 1 : Int32) = 27 from rfl]
  refine fe_chr (i := 27) (by omega) (by rfl) (by rfl) ⟨by rfl, by rfl⟩ (by rfl) ?_
  rw [show sk_b.getD 27 0 = 114 from rfl]
  refine fe_s 1 (pc' := 33) (lc' := [(4, .int 27), (3, .int 22), (2, .int 4), (0, .ref 0), (1, .ref 22)]) (stk' := [.int 32, .int 114]) (mem' := fm g tp bt a b) (fun _ _ _ => rfl) ?_
  refine fe_s 1 (pc' := cond (fx_cb .eq 114 32) 42 36) (lc' := [(4, .int 27), (3, .int 22), (2, .int 4), (0, .ref 0), (1, .ref 22)]) (stk' := []) (mem' := fm g tp bt a b) (fun _ _ _ => rfl) ?_
  rw [show (fx_cb .eq 114 32) = false from by decide]
  dsimp only [cond]
  refine fe_s 4 (pc' := 28) (lc' := [(4, .int (27 + 1)), (3, .int 22), (2, .int 4), (0, .ref 0), (1, .ref 22)]) (stk' := [.int (27 + 1), .ref 22]) (mem' := fm g tp bt a b) (fun _ _ _ => rfl) ?_
  rw [show (27 + 1 : Int32) = 28 from rfl]
  refine fe_chr (i := 28) (by omega) (by rfl) (by rfl) ⟨by rfl, by rfl⟩ (by rfl) ?_
  rw [show sk_b.getD 28 0 = 32 from rfl]
  refine fe_s 1 (pc' := 33) (lc' := [(4, .int 28), (3, .int 22), (2, .int 4), (0, .ref 0), (1, .ref 22)]) (stk' := [.int 32, .int 32]) (mem' := fm g tp bt a b) (fun _ _ _ => rfl) ?_
  refine fe_s 1 (pc' := cond (fx_cb .eq 32 32) 42 36) (lc' := [(4, .int 28), (3, .int 22), (2, .int 4), (0, .ref 0), (1, .ref 22)]) (stk' := []) (mem' := fm g tp bt a b) (fun _ _ _ => rfl) ?_
  rw [show (fx_cb .eq 32 32) = true from by decide]
  dsimp only [cond]
  refine fe_s 8 (pc' := 55) (lc' := [(4, .int 28), (3, .int 22), (2, .int 4), (0, .ref 0), (1, .ref 22)]) (stk' := [.int ((g 14) - (g 13)), .int (28 - 22)]) (mem' := fm g tp bt a b) (fun _ _ _ => rfl) ?_
  try rw [h14]
  try rw [h13]
  rw [show (28 - 22 : Int32) = 6 from rfl]
  rw [show ((nI E) - (nI F) : Int32) = nI (E - F) from by simp only [tg_sub2 (x := E) (y := F) (by omega), nI_add, fm_mul]]
  refine fe_s 1 (pc' := cond (fx_cb .ne 6 (nI (E - F))) 62 58) (lc' := [(4, .int 28), (3, .int 22), (2, .int 4), (0, .ref 0), (1, .ref 22)]) (stk' := []) (mem' := fm g tp bt a b) (fun _ _ _ => rfl) ?_
  by_cases h1 : 6 = (E - F)
  · rw [show (fx_cb .ne 6 (nI (E - F))) = false from cb_neF (a := 6) (b := E - F) (by omega) (by omega) (by omega)]
    dsimp only [cond]
    refine fe_s 7 (pc' := 72) (lc' := [(6, .int 22), (5, .int 1), (4, .int 28), (3, .int 22), (2, .int 4), (0, .ref 0), (1, .ref 22)]) (stk' := [.int 28, .int 22]) (mem' := fm g tp bt a b) (fun _ _ _ => rfl) ?_
    refine fe_s 1 (pc' := cond (fx_cb .ge 22 28) 115 75) (lc' := [(6, .int 22), (5, .int 1), (4, .int 28), (3, .int 22), (2, .int 4), (0, .ref 0), (1, .ref 22)]) (stk' := []) (mem' := fm g tp bt a b) (fun _ _ _ => rfl) ?_
    rw [show (fx_cb .ge 22 28) = false from by decide]
    dsimp only [cond]
    refine fe_s 1 (pc' := 77) (lc' := [(6, .int 22), (5, .int 1), (4, .int 28), (3, .int 22), (2, .int 4), (0, .ref 0), (1, .ref 22)]) (stk' := [.int 1]) (mem' := fm g tp bt a b) (fun _ _ _ => rfl) ?_
    refine fe_s 1 (pc' := cond (fx_cb .eq 1 0) 115 80) (lc' := [(6, .int 22), (5, .int 1), (4, .int 28), (3, .int 22), (2, .int 4), (0, .ref 0), (1, .ref 22)]) (stk' := []) (mem' := fm g tp bt a b) (fun _ _ _ => rfl) ?_
    rw [show (fx_cb .eq 1 0) = false from by decide]
    dsimp only [cond]
    refine fe_s 2 (pc' := 83) (lc' := [(6, .int 22), (5, .int 1), (4, .int 28), (3, .int 22), (2, .int 4), (0, .ref 0), (1, .ref 22)]) (stk' := [.int 22, .ref 22]) (mem' := fm g tp bt a b) (fun _ _ _ => rfl) ?_
    refine fe_chr (i := 22) (by omega) (by rfl) (by rfl) ⟨by rfl, by rfl⟩ (by rfl) ?_
    rw [show sk_b.getD 22 0 = 119 from rfl]
    refine fe_s 7 (pc' := 96) (lc' := [(6, .int 22), (5, .int 1), (4, .int 28), (3, .int 22), (2, .int 4), (0, .ref 0), (1, .ref 22)]) (stk' := [.int (((g 13) + 22) - 22), .ref 0, .int 119]) (mem' := fm g tp bt a b) (fun _ _ _ => rfl) ?_
    try rw [h13]
    rw [show (((nI F) + 22) - 22 : Int32) = nI ((F + 22) - 22) from by simp only [show (22 : Int32) = nI 22 from rfl, tg_sub2 (x := F + 22) (y := 22) (by omega), nI_add, fm_mul]]
    refine fe_ivV (fr_byteAt (S := S) (k := (F + 22) - 22) (g := g) (tp := tp) (bt := bt) (a := a) (b := b) h11 (by omega) (by omega)) (by omega) (by rfl) (by rfl) (by rfl) (by rfl) (by rfl) (by rfl) ?_
    rcases fm_byte_or a S ((F + 22) - 22) with ⟨e3, q4⟩ | ⟨q4, n2, qn2, e3⟩
    · rw [e3]
      refine fe_s 1 (pc' := cond (fx_cb .ne 119 (-1)) 106 102) (lc' := [(6, .int 22), (5, .int 1), (4, .int 28), (3, .int 22), (2, .int 4), (0, .ref 0), (1, .ref 22)]) (stk' := []) (mem' := fm g tp bt a b) (fun _ _ _ => rfl) ?_
      rw [show (fx_cb .ne 119 (-1)) = true from by decide]
      dsimp only [cond]
      refine fe_s 6 (pc' := 72) (lc' := [(6, .int (22 + 1)), (5, .int 0), (4, .int 28), (3, .int 22), (2, .int 4), (0, .ref 0), (1, .ref 22)]) (stk' := [.int 28, .int (22 + 1)]) (mem' := fm g tp bt a b) (fun _ _ _ => rfl) ?_
      rw [show (22 + 1 : Int32) = 23 from rfl]
      refine fe_s 1 (pc' := cond (fx_cb .ge 23 28) 115 75) (lc' := [(6, .int 23), (5, .int 0), (4, .int 28), (3, .int 22), (2, .int 4), (0, .ref 0), (1, .ref 22)]) (stk' := []) (mem' := fm g tp bt a b) (fun _ _ _ => rfl) ?_
      rw [show (fx_cb .ge 23 28) = false from by decide]
      dsimp only [cond]
      refine fe_s 1 (pc' := 77) (lc' := [(6, .int 23), (5, .int 0), (4, .int 28), (3, .int 22), (2, .int 4), (0, .ref 0), (1, .ref 22)]) (stk' := [.int 0]) (mem' := fm g tp bt a b) (fun _ _ _ => rfl) ?_
      refine fe_s 1 (pc' := cond (fx_cb .eq 0 0) 115 80) (lc' := [(6, .int 23), (5, .int 0), (4, .int 28), (3, .int 22), (2, .int 4), (0, .ref 0), (1, .ref 22)]) (stk' := []) (mem' := fm g tp bt a b) (fun _ _ _ => rfl) ?_
      rw [show (fx_cb .eq 0 0) = true from by decide]
      dsimp only [cond]
      refine fe_s 1 (pc' := 117) (lc' := [(6, .int 23), (5, .int 0), (4, .int 28), (3, .int 22), (2, .int 4), (0, .ref 0), (1, .ref 22)]) (stk' := [.int 0]) (mem' := fm g tp bt a b) (fun _ _ _ => rfl) ?_
      refine fe_s 1 (pc' := cond (fx_cb .eq 0 0) 122 120) (lc' := [(6, .int 23), (5, .int 0), (4, .int 28), (3, .int 22), (2, .int 4), (0, .ref 0), (1, .ref 22)]) (stk' := []) (mem' := fm g tp bt a b) (fun _ _ _ => rfl) ?_
      rw [show (fx_cb .eq 0 0) = true from by decide]
      dsimp only [cond]
      refine fe_s 6 (pc' := 14) (lc' := [(3, .int (28 + 1)), (2, .int (4 + 1)), (6, .int 23), (5, .int 0), (4, .int 28), (0, .ref 0), (1, .ref 22)]) (stk' := []) (mem' := fm g tp bt a b) (fun _ _ _ => rfl) ?_
      rw [show (4 + 1 : Int32) = 5 from rfl]
      rw [show (28 + 1 : Int32) = 29 from rfl]
      refine fe_w (lc' := [(3, .int 29), (2, .int 5), (0, .ref 0), (1, .ref 22)]) ⟨rfl, rfl, rfl, rfl, trivial⟩ (by show List.Nodup [3, 2, 0, 1]; decide) (by show List.Nodup [3, 2, 6, 5, 4, 0, 1]; decide) ?_
      exact fw_5 hxp
    · rw [e3]
      refine fe_s 1 (pc' := cond (fx_cb .ne 119 (nI n2)) 106 102) (lc' := [(6, .int 22), (5, .int 1), (4, .int 28), (3, .int 22), (2, .int 4), (0, .ref 0), (1, .ref 22)]) (stk' := []) (mem' := fm g tp bt a b) (fun _ _ _ => rfl) ?_
      by_cases h5 : 119 = n2
      · rw [show (fx_cb .ne 119 (nI n2)) = false from cb_neF (a := 119) (b := n2) (by omega) (by omega) (by omega)]
        dsimp only [cond]
        refine fe_s 7 (pc' := 72) (lc' := [(6, .int (22 + 1)), (5, .int 1), (4, .int 28), (3, .int 22), (2, .int 4), (0, .ref 0), (1, .ref 22)]) (stk' := [.int 28, .int (22 + 1)]) (mem' := fm g tp bt a b) (fun _ _ _ => rfl) ?_
        rw [show (22 + 1 : Int32) = 23 from rfl]
        refine fe_s 1 (pc' := cond (fx_cb .ge 23 28) 115 75) (lc' := [(6, .int 23), (5, .int 1), (4, .int 28), (3, .int 22), (2, .int 4), (0, .ref 0), (1, .ref 22)]) (stk' := []) (mem' := fm g tp bt a b) (fun _ _ _ => rfl) ?_
        rw [show (fx_cb .ge 23 28) = false from by decide]
        dsimp only [cond]
        refine fe_s 1 (pc' := 77) (lc' := [(6, .int 23), (5, .int 1), (4, .int 28), (3, .int 22), (2, .int 4), (0, .ref 0), (1, .ref 22)]) (stk' := [.int 1]) (mem' := fm g tp bt a b) (fun _ _ _ => rfl) ?_
        refine fe_s 1 (pc' := cond (fx_cb .eq 1 0) 115 80) (lc' := [(6, .int 23), (5, .int 1), (4, .int 28), (3, .int 22), (2, .int 4), (0, .ref 0), (1, .ref 22)]) (stk' := []) (mem' := fm g tp bt a b) (fun _ _ _ => rfl) ?_
        rw [show (fx_cb .eq 1 0) = false from by decide]
        dsimp only [cond]
        refine fe_s 2 (pc' := 83) (lc' := [(6, .int 23), (5, .int 1), (4, .int 28), (3, .int 22), (2, .int 4), (0, .ref 0), (1, .ref 22)]) (stk' := [.int 23, .ref 22]) (mem' := fm g tp bt a b) (fun _ _ _ => rfl) ?_
        refine fe_chr (i := 23) (by omega) (by rfl) (by rfl) ⟨by rfl, by rfl⟩ (by rfl) ?_
        rw [show sk_b.getD 23 0 = 97 from rfl]
        refine fe_s 7 (pc' := 96) (lc' := [(6, .int 23), (5, .int 1), (4, .int 28), (3, .int 22), (2, .int 4), (0, .ref 0), (1, .ref 22)]) (stk' := [.int (((g 13) + 23) - 22), .ref 0, .int 97]) (mem' := fm g tp bt a b) (fun _ _ _ => rfl) ?_
        try rw [h13]
        rw [show (((nI F) + 23) - 22 : Int32) = nI ((F + 23) - 22) from by simp only [show (23 : Int32) = nI 23 from rfl, show (22 : Int32) = nI 22 from rfl, tg_sub2 (x := F + 23) (y := 22) (by omega), nI_add, fm_mul]]
        refine fe_ivV (fr_byteAt (S := S) (k := (F + 23) - 22) (g := g) (tp := tp) (bt := bt) (a := a) (b := b) h11 (by omega) (by omega)) (by omega) (by rfl) (by rfl) (by rfl) (by rfl) (by rfl) (by rfl) ?_
        rcases fm_byte_or a S ((F + 23) - 22) with ⟨e7, q8⟩ | ⟨q8, n6, qn6, e7⟩
        · rw [e7]
          refine fe_s 1 (pc' := cond (fx_cb .ne 97 (-1)) 106 102) (lc' := [(6, .int 23), (5, .int 1), (4, .int 28), (3, .int 22), (2, .int 4), (0, .ref 0), (1, .ref 22)]) (stk' := []) (mem' := fm g tp bt a b) (fun _ _ _ => rfl) ?_
          rw [show (fx_cb .ne 97 (-1)) = true from by decide]
          dsimp only [cond]
          refine fe_s 6 (pc' := 72) (lc' := [(6, .int (23 + 1)), (5, .int 0), (4, .int 28), (3, .int 22), (2, .int 4), (0, .ref 0), (1, .ref 22)]) (stk' := [.int 28, .int (23 + 1)]) (mem' := fm g tp bt a b) (fun _ _ _ => rfl) ?_
          rw [show (23 + 1 : Int32) = 24 from rfl]
          refine fe_s 1 (pc' := cond (fx_cb .ge 24 28) 115 75) (lc' := [(6, .int 24), (5, .int 0), (4, .int 28), (3, .int 22), (2, .int 4), (0, .ref 0), (1, .ref 22)]) (stk' := []) (mem' := fm g tp bt a b) (fun _ _ _ => rfl) ?_
          rw [show (fx_cb .ge 24 28) = false from by decide]
          dsimp only [cond]
          refine fe_s 1 (pc' := 77) (lc' := [(6, .int 24), (5, .int 0), (4, .int 28), (3, .int 22), (2, .int 4), (0, .ref 0), (1, .ref 22)]) (stk' := [.int 0]) (mem' := fm g tp bt a b) (fun _ _ _ => rfl) ?_
          refine fe_s 1 (pc' := cond (fx_cb .eq 0 0) 115 80) (lc' := [(6, .int 24), (5, .int 0), (4, .int 28), (3, .int 22), (2, .int 4), (0, .ref 0), (1, .ref 22)]) (stk' := []) (mem' := fm g tp bt a b) (fun _ _ _ => rfl) ?_
          rw [show (fx_cb .eq 0 0) = true from by decide]
          dsimp only [cond]
          refine fe_s 1 (pc' := 117) (lc' := [(6, .int 24), (5, .int 0), (4, .int 28), (3, .int 22), (2, .int 4), (0, .ref 0), (1, .ref 22)]) (stk' := [.int 0]) (mem' := fm g tp bt a b) (fun _ _ _ => rfl) ?_
          refine fe_s 1 (pc' := cond (fx_cb .eq 0 0) 122 120) (lc' := [(6, .int 24), (5, .int 0), (4, .int 28), (3, .int 22), (2, .int 4), (0, .ref 0), (1, .ref 22)]) (stk' := []) (mem' := fm g tp bt a b) (fun _ _ _ => rfl) ?_
          rw [show (fx_cb .eq 0 0) = true from by decide]
          dsimp only [cond]
          refine fe_s 6 (pc' := 14) (lc' := [(3, .int (28 + 1)), (2, .int (4 + 1)), (6, .int 24), (5, .int 0), (4, .int 28), (0, .ref 0), (1, .ref 22)]) (stk' := []) (mem' := fm g tp bt a b) (fun _ _ _ => rfl) ?_
          rw [show (4 + 1 : Int32) = 5 from rfl]
          rw [show (28 + 1 : Int32) = 29 from rfl]
          refine fe_w (lc' := [(3, .int 29), (2, .int 5), (0, .ref 0), (1, .ref 22)]) ⟨rfl, rfl, rfl, rfl, trivial⟩ (by show List.Nodup [3, 2, 0, 1]; decide) (by show List.Nodup [3, 2, 6, 5, 4, 0, 1]; decide) ?_
          exact fw_5 hxp
        · rw [e7]
          refine fe_s 1 (pc' := cond (fx_cb .ne 97 (nI n6)) 106 102) (lc' := [(6, .int 23), (5, .int 1), (4, .int 28), (3, .int 22), (2, .int 4), (0, .ref 0), (1, .ref 22)]) (stk' := []) (mem' := fm g tp bt a b) (fun _ _ _ => rfl) ?_
          by_cases h9 : 97 = n6
          · rw [show (fx_cb .ne 97 (nI n6)) = false from cb_neF (a := 97) (b := n6) (by omega) (by omega) (by omega)]
            dsimp only [cond]
            refine fe_s 7 (pc' := 72) (lc' := [(6, .int (23 + 1)), (5, .int 1), (4, .int 28), (3, .int 22), (2, .int 4), (0, .ref 0), (1, .ref 22)]) (stk' := [.int 28, .int (23 + 1)]) (mem' := fm g tp bt a b) (fun _ _ _ => rfl) ?_
            rw [show (23 + 1 : Int32) = 24 from rfl]
            refine fe_s 1 (pc' := cond (fx_cb .ge 24 28) 115 75) (lc' := [(6, .int 24), (5, .int 1), (4, .int 28), (3, .int 22), (2, .int 4), (0, .ref 0), (1, .ref 22)]) (stk' := []) (mem' := fm g tp bt a b) (fun _ _ _ => rfl) ?_
            rw [show (fx_cb .ge 24 28) = false from by decide]
            dsimp only [cond]
            refine fe_s 1 (pc' := 77) (lc' := [(6, .int 24), (5, .int 1), (4, .int 28), (3, .int 22), (2, .int 4), (0, .ref 0), (1, .ref 22)]) (stk' := [.int 1]) (mem' := fm g tp bt a b) (fun _ _ _ => rfl) ?_
            refine fe_s 1 (pc' := cond (fx_cb .eq 1 0) 115 80) (lc' := [(6, .int 24), (5, .int 1), (4, .int 28), (3, .int 22), (2, .int 4), (0, .ref 0), (1, .ref 22)]) (stk' := []) (mem' := fm g tp bt a b) (fun _ _ _ => rfl) ?_
            rw [show (fx_cb .eq 1 0) = false from by decide]
            dsimp only [cond]
            refine fe_s 2 (pc' := 83) (lc' := [(6, .int 24), (5, .int 1), (4, .int 28), (3, .int 22), (2, .int 4), (0, .ref 0), (1, .ref 22)]) (stk' := [.int 24, .ref 22]) (mem' := fm g tp bt a b) (fun _ _ _ => rfl) ?_
            refine fe_chr (i := 24) (by omega) (by rfl) (by rfl) ⟨by rfl, by rfl⟩ (by rfl) ?_
            rw [show sk_b.getD 24 0 = 108 from rfl]
            refine fe_s 7 (pc' := 96) (lc' := [(6, .int 24), (5, .int 1), (4, .int 28), (3, .int 22), (2, .int 4), (0, .ref 0), (1, .ref 22)]) (stk' := [.int (((g 13) + 24) - 22), .ref 0, .int 108]) (mem' := fm g tp bt a b) (fun _ _ _ => rfl) ?_
            try rw [h13]
            rw [show (((nI F) + 24) - 22 : Int32) = nI ((F + 24) - 22) from by simp only [show (24 : Int32) = nI 24 from rfl, show (22 : Int32) = nI 22 from rfl, tg_sub2 (x := F + 24) (y := 22) (by omega), nI_add, fm_mul]]
            refine fe_ivV (fr_byteAt (S := S) (k := (F + 24) - 22) (g := g) (tp := tp) (bt := bt) (a := a) (b := b) h11 (by omega) (by omega)) (by omega) (by rfl) (by rfl) (by rfl) (by rfl) (by rfl) (by rfl) ?_
            rcases fm_byte_or a S ((F + 24) - 22) with ⟨e11, q12⟩ | ⟨q12, n10, qn10, e11⟩
            · rw [e11]
              refine fe_s 1 (pc' := cond (fx_cb .ne 108 (-1)) 106 102) (lc' := [(6, .int 24), (5, .int 1), (4, .int 28), (3, .int 22), (2, .int 4), (0, .ref 0), (1, .ref 22)]) (stk' := []) (mem' := fm g tp bt a b) (fun _ _ _ => rfl) ?_
              rw [show (fx_cb .ne 108 (-1)) = true from by decide]
              dsimp only [cond]
              refine fe_s 6 (pc' := 72) (lc' := [(6, .int (24 + 1)), (5, .int 0), (4, .int 28), (3, .int 22), (2, .int 4), (0, .ref 0), (1, .ref 22)]) (stk' := [.int 28, .int (24 + 1)]) (mem' := fm g tp bt a b) (fun _ _ _ => rfl) ?_
              rw [show (24 + 1 : Int32) = 25 from rfl]
              refine fe_s 1 (pc' := cond (fx_cb .ge 25 28) 115 75) (lc' := [(6, .int 25), (5, .int 0), (4, .int 28), (3, .int 22), (2, .int 4), (0, .ref 0), (1, .ref 22)]) (stk' := []) (mem' := fm g tp bt a b) (fun _ _ _ => rfl) ?_
              rw [show (fx_cb .ge 25 28) = false from by decide]
              dsimp only [cond]
              refine fe_s 1 (pc' := 77) (lc' := [(6, .int 25), (5, .int 0), (4, .int 28), (3, .int 22), (2, .int 4), (0, .ref 0), (1, .ref 22)]) (stk' := [.int 0]) (mem' := fm g tp bt a b) (fun _ _ _ => rfl) ?_
              refine fe_s 1 (pc' := cond (fx_cb .eq 0 0) 115 80) (lc' := [(6, .int 25), (5, .int 0), (4, .int 28), (3, .int 22), (2, .int 4), (0, .ref 0), (1, .ref 22)]) (stk' := []) (mem' := fm g tp bt a b) (fun _ _ _ => rfl) ?_
              rw [show (fx_cb .eq 0 0) = true from by decide]
              dsimp only [cond]
              refine fe_s 1 (pc' := 117) (lc' := [(6, .int 25), (5, .int 0), (4, .int 28), (3, .int 22), (2, .int 4), (0, .ref 0), (1, .ref 22)]) (stk' := [.int 0]) (mem' := fm g tp bt a b) (fun _ _ _ => rfl) ?_
              refine fe_s 1 (pc' := cond (fx_cb .eq 0 0) 122 120) (lc' := [(6, .int 25), (5, .int 0), (4, .int 28), (3, .int 22), (2, .int 4), (0, .ref 0), (1, .ref 22)]) (stk' := []) (mem' := fm g tp bt a b) (fun _ _ _ => rfl) ?_
              rw [show (fx_cb .eq 0 0) = true from by decide]
              dsimp only [cond]
              refine fe_s 6 (pc' := 14) (lc' := [(3, .int (28 + 1)), (2, .int (4 + 1)), (6, .int 25), (5, .int 0), (4, .int 28), (0, .ref 0), (1, .ref 22)]) (stk' := []) (mem' := fm g tp bt a b) (fun _ _ _ => rfl) ?_
              rw [show (4 + 1 : Int32) = 5 from rfl]
              rw [show (28 + 1 : Int32) = 29 from rfl]
              refine fe_w (lc' := [(3, .int 29), (2, .int 5), (0, .ref 0), (1, .ref 22)]) ⟨rfl, rfl, rfl, rfl, trivial⟩ (by show List.Nodup [3, 2, 0, 1]; decide) (by show List.Nodup [3, 2, 6, 5, 4, 0, 1]; decide) ?_
              exact fw_5 hxp
            · rw [e11]
              refine fe_s 1 (pc' := cond (fx_cb .ne 108 (nI n10)) 106 102) (lc' := [(6, .int 24), (5, .int 1), (4, .int 28), (3, .int 22), (2, .int 4), (0, .ref 0), (1, .ref 22)]) (stk' := []) (mem' := fm g tp bt a b) (fun _ _ _ => rfl) ?_
              by_cases h13 : 108 = n10
              · rw [show (fx_cb .ne 108 (nI n10)) = false from cb_neF (a := 108) (b := n10) (by omega) (by omega) (by omega)]
                dsimp only [cond]
                refine fe_s 7 (pc' := 72) (lc' := [(6, .int (24 + 1)), (5, .int 1), (4, .int 28), (3, .int 22), (2, .int 4), (0, .ref 0), (1, .ref 22)]) (stk' := [.int 28, .int (24 + 1)]) (mem' := fm g tp bt a b) (fun _ _ _ => rfl) ?_
                rw [show (24 + 1 : Int32) = 25 from rfl]
                refine fe_s 1 (pc' := cond (fx_cb .ge 25 28) 115 75) (lc' := [(6, .int 25), (5, .int 1), (4, .int 28), (3, .int 22), (2, .int 4), (0, .ref 0), (1, .ref 22)]) (stk' := []) (mem' := fm g tp bt a b) (fun _ _ _ => rfl) ?_
                rw [show (fx_cb .ge 25 28) = false from by decide]
                dsimp only [cond]
                refine fe_s 1 (pc' := 77) (lc' := [(6, .int 25), (5, .int 1), (4, .int 28), (3, .int 22), (2, .int 4), (0, .ref 0), (1, .ref 22)]) (stk' := [.int 1]) (mem' := fm g tp bt a b) (fun _ _ _ => rfl) ?_
                refine fe_s 1 (pc' := cond (fx_cb .eq 1 0) 115 80) (lc' := [(6, .int 25), (5, .int 1), (4, .int 28), (3, .int 22), (2, .int 4), (0, .ref 0), (1, .ref 22)]) (stk' := []) (mem' := fm g tp bt a b) (fun _ _ _ => rfl) ?_
                rw [show (fx_cb .eq 1 0) = false from by decide]
                dsimp only [cond]
                refine fe_s 2 (pc' := 83) (lc' := [(6, .int 25), (5, .int 1), (4, .int 28), (3, .int 22), (2, .int 4), (0, .ref 0), (1, .ref 22)]) (stk' := [.int 25, .ref 22]) (mem' := fm g tp bt a b) (fun _ _ _ => rfl) ?_
                refine fe_chr (i := 25) (by omega) (by rfl) (by rfl) ⟨by rfl, by rfl⟩ (by rfl) ?_
                rw [show sk_b.getD 25 0 = 107 from rfl]
                refine fe_s 7 (pc' := 96) (lc' := [(6, .int 25), (5, .int 1), (4, .int 28), (3, .int 22), (2, .int 4), (0, .ref 0), (1, .ref 22)]) (stk' := [.int (((g 13) + 25) - 22), .ref 0, .int 107]) (mem' := fm g tp bt a b) (fun _ _ _ => rfl) ?_
                try rw [h13]
                rw [show (((nI F) + 25) - 22 : Int32) = nI ((F + 25) - 22) from by simp only [show (25 : Int32) = nI 25 from rfl, show (22 : Int32) = nI 22 from rfl, tg_sub2 (x := F + 25) (y := 22) (by omega), nI_add, fm_mul]]
                refine fe_ivV (fr_byteAt (S := S) (k := (F + 25) - 22) (g := g) (tp := tp) (bt := bt) (a := a) (b := b) h11 (by omega) (by omega)) (by omega) (by rfl) (by rfl) (by rfl) (by rfl) (by rfl) (by rfl) ?_
                rcases fm_byte_or a S ((F + 25) - 22) with ⟨e15, q16⟩ | ⟨q16, n14, qn14, e15⟩
                · rw [e15]
                  refine fe_s 1 (pc' := cond (fx_cb .ne 107 (-1)) 106 102) (lc' := [(6, .int 25), (5, .int 1), (4, .int 28), (3, .int 22), (2, .int 4), (0, .ref 0), (1, .ref 22)]) (stk' := []) (mem' := fm g tp bt a b) (fun _ _ _ => rfl) ?_
                  rw [show (fx_cb .ne 107 (-1)) = true from by decide]
                  dsimp only [cond]
                  refine fe_s 6 (pc' := 72) (lc' := [(6, .int (25 + 1)), (5, .int 0), (4, .int 28), (3, .int 22), (2, .int 4), (0, .ref 0), (1, .ref 22)]) (stk' := [.int 28, .int (25 + 1)]) (mem' := fm g tp bt a b) (fun _ _ _ => rfl) ?_
                  rw [show (25 + 1 : Int32) = 26 from rfl]
                  refine fe_s 1 (pc' := cond (fx_cb .ge 26 28) 115 75) (lc' := [(6, .int 26), (5, .int 0), (4, .int 28), (3, .int 22), (2, .int 4), (0, .ref 0), (1, .ref 22)]) (stk' := []) (mem' := fm g tp bt a b) (fun _ _ _ => rfl) ?_
                  rw [show (fx_cb .ge 26 28) = false from by decide]
                  dsimp only [cond]
                  refine fe_s 1 (pc' := 77) (lc' := [(6, .int 26), (5, .int 0), (4, .int 28), (3, .int 22), (2, .int 4), (0, .ref 0), (1, .ref 22)]) (stk' := [.int 0]) (mem' := fm g tp bt a b) (fun _ _ _ => rfl) ?_
                  refine fe_s 1 (pc' := cond (fx_cb .eq 0 0) 115 80) (lc' := [(6, .int 26), (5, .int 0), (4, .int 28), (3, .int 22), (2, .int 4), (0, .ref 0), (1, .ref 22)]) (stk' := []) (mem' := fm g tp bt a b) (fun _ _ _ => rfl) ?_
                  rw [show (fx_cb .eq 0 0) = true from by decide]
                  dsimp only [cond]
                  refine fe_s 1 (pc' := 117) (lc' := [(6, .int 26), (5, .int 0), (4, .int 28), (3, .int 22), (2, .int 4), (0, .ref 0), (1, .ref 22)]) (stk' := [.int 0]) (mem' := fm g tp bt a b) (fun _ _ _ => rfl) ?_
                  refine fe_s 1 (pc' := cond (fx_cb .eq 0 0) 122 120) (lc' := [(6, .int 26), (5, .int 0), (4, .int 28), (3, .int 22), (2, .int 4), (0, .ref 0), (1, .ref 22)]) (stk' := []) (mem' := fm g tp bt a b) (fun _ _ _ => rfl) ?_
                  rw [show (fx_cb .eq 0 0) = true from by decide]
                  dsimp only [cond]
                  refine fe_s 6 (pc' := 14) (lc' := [(3, .int (28 + 1)), (2, .int (4 + 1)), (6, .int 26), (5, .int 0), (4, .int 28), (0, .ref 0), (1, .ref 22)]) (stk' := []) (mem' := fm g tp bt a b) (fun _ _ _ => rfl) ?_
                  rw [show (4 + 1 : Int32) = 5 from rfl]
                  rw [show (28 + 1 : Int32) = 29 from rfl]
                  refine fe_w (lc' := [(3, .int 29), (2, .int 5), (0, .ref 0), (1, .ref 22)]) ⟨rfl, rfl, rfl, rfl, trivial⟩ (by show List.Nodup [3, 2, 0, 1]; decide) (by show List.Nodup [3, 2, 6, 5, 4, 0, 1]; decide) ?_
                  exact fw_5 hxp
                · rw [e15]
                  refine fe_s 1 (pc' := cond (fx_cb .ne 107 (nI n14)) 106 102) (lc' := [(6, .int 25), (5, .int 1), (4, .int 28), (3, .int 22), (2, .int 4), (0, .ref 0), (1, .ref 22)]) (stk' := []) (mem' := fm g tp bt a b) (fun _ _ _ => rfl) ?_
                  by_cases h17 : 107 = n14
                  · rw [show (fx_cb .ne 107 (nI n14)) = false from cb_neF (a := 107) (b := n14) (by omega) (by omega) (by omega)]
                    dsimp only [cond]
                    refine fe_s 7 (pc' := 72) (lc' := [(6, .int (25 + 1)), (5, .int 1), (4, .int 28), (3, .int 22), (2, .int 4), (0, .ref 0), (1, .ref 22)]) (stk' := [.int 28, .int (25 + 1)]) (mem' := fm g tp bt a b) (fun _ _ _ => rfl) ?_
                    rw [show (25 + 1 : Int32) = 26 from rfl]
                    refine fe_s 1 (pc' := cond (fx_cb .ge 26 28) 115 75) (lc' := [(6, .int 26), (5, .int 1), (4, .int 28), (3, .int 22), (2, .int 4), (0, .ref 0), (1, .ref 22)]) (stk' := []) (mem' := fm g tp bt a b) (fun _ _ _ => rfl) ?_
                    rw [show (fx_cb .ge 26 28) = false from by decide]
                    dsimp only [cond]
                    refine fe_s 1 (pc' := 77) (lc' := [(6, .int 26), (5, .int 1), (4, .int 28), (3, .int 22), (2, .int 4), (0, .ref 0), (1, .ref 22)]) (stk' := [.int 1]) (mem' := fm g tp bt a b) (fun _ _ _ => rfl) ?_
                    refine fe_s 1 (pc' := cond (fx_cb .eq 1 0) 115 80) (lc' := [(6, .int 26), (5, .int 1), (4, .int 28), (3, .int 22), (2, .int 4), (0, .ref 0), (1, .ref 22)]) (stk' := []) (mem' := fm g tp bt a b) (fun _ _ _ => rfl) ?_
                    rw [show (fx_cb .eq 1 0) = false from by decide]
                    dsimp only [cond]
                    refine fe_s 2 (pc' := 83) (lc' := [(6, .int 26), (5, .int 1), (4, .int 28), (3, .int 22), (2, .int 4), (0, .ref 0), (1, .ref 22)]) (stk' := [.int 26, .ref 22]) (mem' := fm g tp bt a b) (fun _ _ _ => rfl) ?_
                    refine fe_chr (i := 26) (by omega) (by rfl) (by rfl) ⟨by rfl, by rfl⟩ (by rfl) ?_
                    rw [show sk_b.getD 26 0 = 101 from rfl]
                    refine fe_s 7 (pc' := 96) (lc' := [(6, .int 26), (5, .int 1), (4, .int 28), (3, .int 22), (2, .int 4), (0, .ref 0), (1, .ref 22)]) (stk' := [.int (((g 13) + 26) - 22), .ref 0, .int 101]) (mem' := fm g tp bt a b) (fun _ _ _ => rfl) ?_
                    try rw [h13]
                    rw [show (((nI F) + 26) - 22 : Int32) = nI ((F + 26) - 22) from by simp only [show (26 : Int32) = nI 26 from rfl, show (22 : Int32) = nI 22 from rfl, tg_sub2 (x := F + 26) (y := 22) (by omega), nI_add, fm_mul]]
                    refine fe_ivV (fr_byteAt (S := S) (k := (F + 26) - 22) (g := g) (tp := tp) (bt := bt) (a := a) (b := b) h11 (by omega) (by omega)) (by omega) (by rfl) (by rfl) (by rfl) (by rfl) (by rfl) (by rfl) ?_
                    rcases fm_byte_or a S ((F + 26) - 22) with ⟨e19, q20⟩ | ⟨q20, n18, qn18, e19⟩
                    · rw [e19]
                      refine fe_s 1 (pc' := cond (fx_cb .ne 101 (-1)) 106 102) (lc' := [(6, .int 26), (5, .int 1), (4, .int 28), (3, .int 22), (2, .int 4), (0, .ref 0), (1, .ref 22)]) (stk' := []) (mem' := fm g tp bt a b) (fun _ _ _ => rfl) ?_
                      rw [show (fx_cb .ne 101 (-1)) = true from by decide]
                      dsimp only [cond]
                      refine fe_s 6 (pc' := 72) (lc' := [(6, .int (26 + 1)), (5, .int 0), (4, .int 28), (3, .int 22), (2, .int 4), (0, .ref 0), (1, .ref 22)]) (stk' := [.int 28, .int (26 + 1)]) (mem' := fm g tp bt a b) (fun _ _ _ => rfl) ?_
                      rw [show (26 + 1 : Int32) = 27 from rfl]
                      refine fe_s 1 (pc' := cond (fx_cb .ge 27 28) 115 75) (lc' := [(6, .int 27), (5, .int 0), (4, .int 28), (3, .int 22), (2, .int 4), (0, .ref 0), (1, .ref 22)]) (stk' := []) (mem' := fm g tp bt a b) (fun _ _ _ => rfl) ?_
                      rw [show (fx_cb .ge 27 28) = false from by decide]
                      dsimp only [cond]
                      refine fe_s 1 (pc' := 77) (lc' := [(6, .int 27), (5, .int 0), (4, .int 28), (3, .int 22), (2, .int 4), (0, .ref 0), (1, .ref 22)]) (stk' := [.int 0]) (mem' := fm g tp bt a b) (fun _ _ _ => rfl) ?_
                      refine fe_s 1 (pc' := cond (fx_cb .eq 0 0) 115 80) (lc' := [(6, .int 27), (5, .int 0), (4, .int 28), (3, .int 22), (2, .int 4), (0, .ref 0), (1, .ref 22)]) (stk' := []) (mem' := fm g tp bt a b) (fun _ _ _ => rfl) ?_
                      rw [show (fx_cb .eq 0 0) = true from by decide]
                      dsimp only [cond]
                      refine fe_s 1 (pc' := 117) (lc' := [(6, .int 27), (5, .int 0), (4, .int 28), (3, .int 22), (2, .int 4), (0, .ref 0), (1, .ref 22)]) (stk' := [.int 0]) (mem' := fm g tp bt a b) (fun _ _ _ => rfl) ?_
                      refine fe_s 1 (pc' := cond (fx_cb .eq 0 0) 122 120) (lc' := [(6, .int 27), (5, .int 0), (4, .int 28), (3, .int 22), (2, .int 4), (0, .ref 0), (1, .ref 22)]) (stk' := []) (mem' := fm g tp bt a b) (fun _ _ _ => rfl) ?_
                      rw [show (fx_cb .eq 0 0) = true from by decide]
                      dsimp only [cond]
                      refine fe_s 6 (pc' := 14) (lc' := [(3, .int (28 + 1)), (2, .int (4 + 1)), (6, .int 27), (5, .int 0), (4, .int 28), (0, .ref 0), (1, .ref 22)]) (stk' := []) (mem' := fm g tp bt a b) (fun _ _ _ => rfl) ?_
                      rw [show (4 + 1 : Int32) = 5 from rfl]
                      rw [show (28 + 1 : Int32) = 29 from rfl]
                      refine fe_w (lc' := [(3, .int 29), (2, .int 5), (0, .ref 0), (1, .ref 22)]) ⟨rfl, rfl, rfl, rfl, trivial⟩ (by show List.Nodup [3, 2, 0, 1]; decide) (by show List.Nodup [3, 2, 6, 5, 4, 0, 1]; decide) ?_
                      exact fw_5 hxp
                    · rw [e19]
                      refine fe_s 1 (pc' := cond (fx_cb .ne 101 (nI n18)) 106 102) (lc' := [(6, .int 26), (5, .int 1), (4, .int 28), (3, .int 22), (2, .int 4), (0, .ref 0), (1, .ref 22)]) (stk' := []) (mem' := fm g tp bt a b) (fun _ _ _ => rfl) ?_
                      by_cases h21 : 101 = n18
                      · rw [show (fx_cb .ne 101 (nI n18)) = false from cb_neF (a := 101) (b := n18) (by omega) (by omega) (by omega)]
                        dsimp only [cond]
                        refine fe_s 7 (pc' := 72) (lc' := [(6, .int (26 + 1)), (5, .int 1), (4, .int 28), (3, .int 22), (2, .int 4), (0, .ref 0), (1, .ref 22)]) (stk' := [.int 28, .int (26 + 1)]) (mem' := fm g tp bt a b) (fun _ _ _ => rfl) ?_
                        rw [show (26 + 1 : Int32) = 27 from rfl]
                        refine fe_s 1 (pc' := cond (fx_cb .ge 27 28) 115 75) (lc' := [(6, .int 27), (5, .int 1), (4, .int 28), (3, .int 22), (2, .int 4), (0, .ref 0), (1, .ref 22)]) (stk' := []) (mem' := fm g tp bt a b) (fun _ _ _ => rfl) ?_
                        rw [show (fx_cb .ge 27 28) = false from by decide]
                        dsimp only [cond]
                        refine fe_s 1 (pc' := 77) (lc' := [(6, .int 27), (5, .int 1), (4, .int 28), (3, .int 22), (2, .int 4), (0, .ref 0), (1, .ref 22)]) (stk' := [.int 1]) (mem' := fm g tp bt a b) (fun _ _ _ => rfl) ?_
                        refine fe_s 1 (pc' := cond (fx_cb .eq 1 0) 115 80) (lc' := [(6, .int 27), (5, .int 1), (4, .int 28), (3, .int 22), (2, .int 4), (0, .ref 0), (1, .ref 22)]) (stk' := []) (mem' := fm g tp bt a b) (fun _ _ _ => rfl) ?_
                        rw [show (fx_cb .eq 1 0) = false from by decide]
                        dsimp only [cond]
                        refine fe_s 2 (pc' := 83) (lc' := [(6, .int 27), (5, .int 1), (4, .int 28), (3, .int 22), (2, .int 4), (0, .ref 0), (1, .ref 22)]) (stk' := [.int 27, .ref 22]) (mem' := fm g tp bt a b) (fun _ _ _ => rfl) ?_
                        refine fe_chr (i := 27) (by omega) (by rfl) (by rfl) ⟨by rfl, by rfl⟩ (by rfl) ?_
                        rw [show sk_b.getD 27 0 = 114 from rfl]
                        refine fe_s 7 (pc' := 96) (lc' := [(6, .int 27), (5, .int 1), (4, .int 28), (3, .int 22), (2, .int 4), (0, .ref 0), (1, .ref 22)]) (stk' := [.int (((g 13) + 27) - 22), .ref 0, .int 114]) (mem' := fm g tp bt a b) (fun _ _ _ => rfl) ?_
                        try rw [h13]
                        rw [show (((nI F) + 27) - 22 : Int32) = nI ((F + 27) - 22) from by simp only [show (27 : Int32) = nI 27 from rfl, show (22 : Int32) = nI 22 from rfl, tg_sub2 (x := F + 27) (y := 22) (by omega), nI_add, fm_mul]]
                        refine fe_ivV (fr_byteAt (S := S) (k := (F + 27) - 22) (g := g) (tp := tp) (bt := bt) (a := a) (b := b) h11 (by omega) (by omega)) (by omega) (by rfl) (by rfl) (by rfl) (by rfl) (by rfl) (by rfl) ?_
                        rcases fm_byte_or a S ((F + 27) - 22) with ⟨e23, q24⟩ | ⟨q24, n22, qn22, e23⟩
                        · rw [e23]
                          refine fe_s 1 (pc' := cond (fx_cb .ne 114 (-1)) 106 102) (lc' := [(6, .int 27), (5, .int 1), (4, .int 28), (3, .int 22), (2, .int 4), (0, .ref 0), (1, .ref 22)]) (stk' := []) (mem' := fm g tp bt a b) (fun _ _ _ => rfl) ?_
                          rw [show (fx_cb .ne 114 (-1)) = true from by decide]
                          dsimp only [cond]
                          refine fe_s 6 (pc' := 72) (lc' := [(6, .int (27 + 1)), (5, .int 0), (4, .int 28), (3, .int 22), (2, .int 4), (0, .ref 0), (1, .ref 22)]) (stk' := [.int 28, .int (27 + 1)]) (mem' := fm g tp bt a b) (fun _ _ _ => rfl) ?_
                          rw [show (27 + 1 : Int32) = 28 from rfl]
                          refine fe_s 1 (pc' := cond (fx_cb .ge 28 28) 115 75) (lc' := [(6, .int 28), (5, .int 0), (4, .int 28), (3, .int 22), (2, .int 4), (0, .ref 0), (1, .ref 22)]) (stk' := []) (mem' := fm g tp bt a b) (fun _ _ _ => rfl) ?_
                          rw [show (fx_cb .ge 28 28) = true from by decide]
                          dsimp only [cond]
                          refine fe_s 1 (pc' := 117) (lc' := [(6, .int 28), (5, .int 0), (4, .int 28), (3, .int 22), (2, .int 4), (0, .ref 0), (1, .ref 22)]) (stk' := [.int 0]) (mem' := fm g tp bt a b) (fun _ _ _ => rfl) ?_
                          refine fe_s 1 (pc' := cond (fx_cb .eq 0 0) 122 120) (lc' := [(6, .int 28), (5, .int 0), (4, .int 28), (3, .int 22), (2, .int 4), (0, .ref 0), (1, .ref 22)]) (stk' := []) (mem' := fm g tp bt a b) (fun _ _ _ => rfl) ?_
                          rw [show (fx_cb .eq 0 0) = true from by decide]
                          dsimp only [cond]
                          refine fe_s 6 (pc' := 14) (lc' := [(3, .int (28 + 1)), (2, .int (4 + 1)), (6, .int 28), (5, .int 0), (4, .int 28), (0, .ref 0), (1, .ref 22)]) (stk' := []) (mem' := fm g tp bt a b) (fun _ _ _ => rfl) ?_
                          rw [show (4 + 1 : Int32) = 5 from rfl]
                          rw [show (28 + 1 : Int32) = 29 from rfl]
                          refine fe_w (lc' := [(3, .int 29), (2, .int 5), (0, .ref 0), (1, .ref 22)]) ⟨rfl, rfl, rfl, rfl, trivial⟩ (by show List.Nodup [3, 2, 0, 1]; decide) (by show List.Nodup [3, 2, 6, 5, 4, 0, 1]; decide) ?_
                          exact fw_5 hxp
                        · rw [e23]
                          refine fe_s 1 (pc' := cond (fx_cb .ne 114 (nI n22)) 106 102) (lc' := [(6, .int 27), (5, .int 1), (4, .int 28), (3, .int 22), (2, .int 4), (0, .ref 0), (1, .ref 22)]) (stk' := []) (mem' := fm g tp bt a b) (fun _ _ _ => rfl) ?_
                          by_cases h25 : 114 = n22
                          · rw [show (fx_cb .ne 114 (nI n22)) = false from cb_neF (a := 114) (b := n22) (by omega) (by omega) (by omega)]
                            dsimp only [cond]
                            refine fe_s 7 (pc' := 72) (lc' := [(6, .int (27 + 1)), (5, .int 1), (4, .int 28), (3, .int 22), (2, .int 4), (0, .ref 0), (1, .ref 22)]) (stk' := [.int 28, .int (27 + 1)]) (mem' := fm g tp bt a b) (fun _ _ _ => rfl) ?_
                            rw [show (27 + 1 : Int32) = 28 from rfl]
                            refine fe_s 1 (pc' := cond (fx_cb .ge 28 28) 115 75) (lc' := [(6, .int 28), (5, .int 1), (4, .int 28), (3, .int 22), (2, .int 4), (0, .ref 0), (1, .ref 22)]) (stk' := []) (mem' := fm g tp bt a b) (fun _ _ _ => rfl) ?_
                            rw [show (fx_cb .ge 28 28) = true from by decide]
                            dsimp only [cond]
                            refine fe_s 1 (pc' := 117) (lc' := [(6, .int 28), (5, .int 1), (4, .int 28), (3, .int 22), (2, .int 4), (0, .ref 0), (1, .ref 22)]) (stk' := [.int 1]) (mem' := fm g tp bt a b) (fun _ _ _ => rfl) ?_
                            refine fe_s 1 (pc' := cond (fx_cb .eq 1 0) 122 120) (lc' := [(6, .int 28), (5, .int 1), (4, .int 28), (3, .int 22), (2, .int 4), (0, .ref 0), (1, .ref 22)]) (stk' := []) (mem' := fm g tp bt a b) (fun _ _ _ => rfl) ?_
                            rw [show (fx_cb .eq 1 0) = false from by decide]
                            dsimp only [cond]
                            refine fe_s 1 (pc' := 121) (lc' := [(6, .int 28), (5, .int 1), (4, .int 28), (3, .int 22), (2, .int 4), (0, .ref 0), (1, .ref 22)]) (stk' := [.int 4]) (mem' := fm g tp bt a b) (fun _ _ _ => rfl) ?_
                            exact fe_ret ⟨_, Or.inr ⟨4, by omega, rfl⟩, rfl⟩ (by rfl) (by rfl) (by rfl)
                          · rw [show (fx_cb .ne 114 (nI n22)) = true from cb_neT (a := 114) (b := n22) (by omega) (by omega) (by omega)]
                            dsimp only [cond]
                            refine fe_s 6 (pc' := 72) (lc' := [(6, .int (27 + 1)), (5, .int 0), (4, .int 28), (3, .int 22), (2, .int 4), (0, .ref 0), (1, .ref 22)]) (stk' := [.int 28, .int (27 + 1)]) (mem' := fm g tp bt a b) (fun _ _ _ => rfl) ?_
                            rw [show (27 + 1 : Int32) = 28 from rfl]
                            refine fe_s 1 (pc' := cond (fx_cb .ge 28 28) 115 75) (lc' := [(6, .int 28), (5, .int 0), (4, .int 28), (3, .int 22), (2, .int 4), (0, .ref 0), (1, .ref 22)]) (stk' := []) (mem' := fm g tp bt a b) (fun _ _ _ => rfl) ?_
                            rw [show (fx_cb .ge 28 28) = true from by decide]
                            dsimp only [cond]
                            refine fe_s 1 (pc' := 117) (lc' := [(6, .int 28), (5, .int 0), (4, .int 28), (3, .int 22), (2, .int 4), (0, .ref 0), (1, .ref 22)]) (stk' := [.int 0]) (mem' := fm g tp bt a b) (fun _ _ _ => rfl) ?_
                            refine fe_s 1 (pc' := cond (fx_cb .eq 0 0) 122 120) (lc' := [(6, .int 28), (5, .int 0), (4, .int 28), (3, .int 22), (2, .int 4), (0, .ref 0), (1, .ref 22)]) (stk' := []) (mem' := fm g tp bt a b) (fun _ _ _ => rfl) ?_
                            rw [show (fx_cb .eq 0 0) = true from by decide]
                            dsimp only [cond]
                            refine fe_s 6 (pc' := 14) (lc' := [(3, .int (28 + 1)), (2, .int (4 + 1)), (6, .int 28), (5, .int 0), (4, .int 28), (0, .ref 0), (1, .ref 22)]) (stk' := []) (mem' := fm g tp bt a b) (fun _ _ _ => rfl) ?_
                            rw [show (4 + 1 : Int32) = 5 from rfl]
                            rw [show (28 + 1 : Int32) = 29 from rfl]
                            refine fe_w (lc' := [(3, .int 29), (2, .int 5), (0, .ref 0), (1, .ref 22)]) ⟨rfl, rfl, rfl, rfl, trivial⟩ (by show List.Nodup [3, 2, 0, 1]; decide) (by show List.Nodup [3, 2, 6, 5, 4, 0, 1]; decide) ?_
                            exact fw_5 hxp
                      · rw [show (fx_cb .ne 101 (nI n18)) = true from cb_neT (a := 101) (b := n18) (by omega) (by omega) (by omega)]
                        dsimp only [cond]
                        refine fe_s 6 (pc' := 72) (lc' := [(6, .int (26 + 1)), (5, .int 0), (4, .int 28), (3, .int 22), (2, .int 4), (0, .ref 0), (1, .ref 22)]) (stk' := [.int 28, .int (26 + 1)]) (mem' := fm g tp bt a b) (fun _ _ _ => rfl) ?_
                        rw [show (26 + 1 : Int32) = 27 from rfl]
                        refine fe_s 1 (pc' := cond (fx_cb .ge 27 28) 115 75) (lc' := [(6, .int 27), (5, .int 0), (4, .int 28), (3, .int 22), (2, .int 4), (0, .ref 0), (1, .ref 22)]) (stk' := []) (mem' := fm g tp bt a b) (fun _ _ _ => rfl) ?_
                        rw [show (fx_cb .ge 27 28) = false from by decide]
                        dsimp only [cond]
                        refine fe_s 1 (pc' := 77) (lc' := [(6, .int 27), (5, .int 0), (4, .int 28), (3, .int 22), (2, .int 4), (0, .ref 0), (1, .ref 22)]) (stk' := [.int 0]) (mem' := fm g tp bt a b) (fun _ _ _ => rfl) ?_
                        refine fe_s 1 (pc' := cond (fx_cb .eq 0 0) 115 80) (lc' := [(6, .int 27), (5, .int 0), (4, .int 28), (3, .int 22), (2, .int 4), (0, .ref 0), (1, .ref 22)]) (stk' := []) (mem' := fm g tp bt a b) (fun _ _ _ => rfl) ?_
                        rw [show (fx_cb .eq 0 0) = true from by decide]
                        dsimp only [cond]
                        refine fe_s 1 (pc' := 117) (lc' := [(6, .int 27), (5, .int 0), (4, .int 28), (3, .int 22), (2, .int 4), (0, .ref 0), (1, .ref 22)]) (stk' := [.int 0]) (mem' := fm g tp bt a b) (fun _ _ _ => rfl) ?_
                        refine fe_s 1 (pc' := cond (fx_cb .eq 0 0) 122 120) (lc' := [(6, .int 27), (5, .int 0), (4, .int 28), (3, .int 22), (2, .int 4), (0, .ref 0), (1, .ref 22)]) (stk' := []) (mem' := fm g tp bt a b) (fun _ _ _ => rfl) ?_
                        rw [show (fx_cb .eq 0 0) = true from by decide]
                        dsimp only [cond]
                        refine fe_s 6 (pc' := 14) (lc' := [(3, .int (28 + 1)), (2, .int (4 + 1)), (6, .int 27), (5, .int 0), (4, .int 28), (0, .ref 0), (1, .ref 22)]) (stk' := []) (mem' := fm g tp bt a b) (fun _ _ _ => rfl) ?_
                        rw [show (4 + 1 : Int32) = 5 from rfl]
                        rw [show (28 + 1 : Int32) = 29 from rfl]
                        refine fe_w (lc' := [(3, .int 29), (2, .int 5), (0, .ref 0), (1, .ref 22)]) ⟨rfl, rfl, rfl, rfl, trivial⟩ (by show List.Nodup [3, 2, 0, 1]; decide) (by show List.Nodup [3, 2, 6, 5, 4, 0, 1]; decide) ?_
                        exact fw_5 hxp
                  · rw [show (fx_cb .ne 107 (nI n14)) = true from cb_neT (a := 107) (b := n14) (by omega) (by omega) (by omega)]
                    dsimp only [cond]
                    refine fe_s 6 (pc' := 72) (lc' := [(6, .int (25 + 1)), (5, .int 0), (4, .int 28), (3, .int 22), (2, .int 4), (0, .ref 0), (1, .ref 22)]) (stk' := [.int 28, .int (25 + 1)]) (mem' := fm g tp bt a b) (fun _ _ _ => rfl) ?_
                    rw [show (25 + 1 : Int32) = 26 from rfl]
                    refine fe_s 1 (pc' := cond (fx_cb .ge 26 28) 115 75) (lc' := [(6, .int 26), (5, .int 0), (4, .int 28), (3, .int 22), (2, .int 4), (0, .ref 0), (1, .ref 22)]) (stk' := []) (mem' := fm g tp bt a b) (fun _ _ _ => rfl) ?_
                    rw [show (fx_cb .ge 26 28) = false from by decide]
                    dsimp only [cond]
                    refine fe_s 1 (pc' := 77) (lc' := [(6, .int 26), (5, .int 0), (4, .int 28), (3, .int 22), (2, .int 4), (0, .ref 0), (1, .ref 22)]) (stk' := [.int 0]) (mem' := fm g tp bt a b) (fun _ _ _ => rfl) ?_
                    refine fe_s 1 (pc' := cond (fx_cb .eq 0 0) 115 80) (lc' := [(6, .int 26), (5, .int 0), (4, .int 28), (3, .int 22), (2, .int 4), (0, .ref 0), (1, .ref 22)]) (stk' := []) (mem' := fm g tp bt a b) (fun _ _ _ => rfl) ?_
                    rw [show (fx_cb .eq 0 0) = true from by decide]
                    dsimp only [cond]
                    refine fe_s 1 (pc' := 117) (lc' := [(6, .int 26), (5, .int 0), (4, .int 28), (3, .int 22), (2, .int 4), (0, .ref 0), (1, .ref 22)]) (stk' := [.int 0]) (mem' := fm g tp bt a b) (fun _ _ _ => rfl) ?_
                    refine fe_s 1 (pc' := cond (fx_cb .eq 0 0) 122 120) (lc' := [(6, .int 26), (5, .int 0), (4, .int 28), (3, .int 22), (2, .int 4), (0, .ref 0), (1, .ref 22)]) (stk' := []) (mem' := fm g tp bt a b) (fun _ _ _ => rfl) ?_
                    rw [show (fx_cb .eq 0 0) = true from by decide]
                    dsimp only [cond]
                    refine fe_s 6 (pc' := 14) (lc' := [(3, .int (28 + 1)), (2, .int (4 + 1)), (6, .int 26), (5, .int 0), (4, .int 28), (0, .ref 0), (1, .ref 22)]) (stk' := []) (mem' := fm g tp bt a b) (fun _ _ _ => rfl) ?_
                    rw [show (4 + 1 : Int32) = 5 from rfl]
                    rw [show (28 + 1 : Int32) = 29 from rfl]
                    refine fe_w (lc' := [(3, .int 29), (2, .int 5), (0, .ref 0), (1, .ref 22)]) ⟨rfl, rfl, rfl, rfl, trivial⟩ (by show List.Nodup [3, 2, 0, 1]; decide) (by show List.Nodup [3, 2, 6, 5, 4, 0, 1]; decide) ?_
                    exact fw_5 hxp
              · rw [show (fx_cb .ne 108 (nI n10)) = true from cb_neT (a := 108) (b := n10) (by omega) (by omega) (by omega)]
                dsimp only [cond]
                refine fe_s 6 (pc' := 72) (lc' := [(6, .int (24 + 1)), (5, .int 0), (4, .int 28), (3, .int 22), (2, .int 4), (0, .ref 0), (1, .ref 22)]) (stk' := [.int 28, .int (24 + 1)]) (mem' := fm g tp bt a b) (fun _ _ _ => rfl) ?_
                rw [show (24 + 1 : Int32) = 25 from rfl]
                refine fe_s 1 (pc' := cond (fx_cb .ge 25 28) 115 75) (lc' := [(6, .int 25), (5, .int 0), (4, .int 28), (3, .int 22), (2, .int 4), (0, .ref 0), (1, .ref 22)]) (stk' := []) (mem' := fm g tp bt a b) (fun _ _ _ => rfl) ?_
                rw [show (fx_cb .ge 25 28) = false from by decide]
                dsimp only [cond]
                refine fe_s 1 (pc' := 77) (lc' := [(6, .int 25), (5, .int 0), (4, .int 28), (3, .int 22), (2, .int 4), (0, .ref 0), (1, .ref 22)]) (stk' := [.int 0]) (mem' := fm g tp bt a b) (fun _ _ _ => rfl) ?_
                refine fe_s 1 (pc' := cond (fx_cb .eq 0 0) 115 80) (lc' := [(6, .int 25), (5, .int 0), (4, .int 28), (3, .int 22), (2, .int 4), (0, .ref 0), (1, .ref 22)]) (stk' := []) (mem' := fm g tp bt a b) (fun _ _ _ => rfl) ?_
                rw [show (fx_cb .eq 0 0) = true from by decide]
                dsimp only [cond]
                refine fe_s 1 (pc' := 117) (lc' := [(6, .int 25), (5, .int 0), (4, .int 28), (3, .int 22), (2, .int 4), (0, .ref 0), (1, .ref 22)]) (stk' := [.int 0]) (mem' := fm g tp bt a b) (fun _ _ _ => rfl) ?_
                refine fe_s 1 (pc' := cond (fx_cb .eq 0 0) 122 120) (lc' := [(6, .int 25), (5, .int 0), (4, .int 28), (3, .int 22), (2, .int 4), (0, .ref 0), (1, .ref 22)]) (stk' := []) (mem' := fm g tp bt a b) (fun _ _ _ => rfl) ?_
                rw [show (fx_cb .eq 0 0) = true from by decide]
                dsimp only [cond]
                refine fe_s 6 (pc' := 14) (lc' := [(3, .int (28 + 1)), (2, .int (4 + 1)), (6, .int 25), (5, .int 0), (4, .int 28), (0, .ref 0), (1, .ref 22)]) (stk' := []) (mem' := fm g tp bt a b) (fun _ _ _ => rfl) ?_
                rw [show (4 + 1 : Int32) = 5 from rfl]
                rw [show (28 + 1 : Int32) = 29 from rfl]
                refine fe_w (lc' := [(3, .int 29), (2, .int 5), (0, .ref 0), (1, .ref 22)]) ⟨rfl, rfl, rfl, rfl, trivial⟩ (by show List.Nodup [3, 2, 0, 1]; decide) (by show List.Nodup [3, 2, 6, 5, 4, 0, 1]; decide) ?_
                exact fw_5 hxp
          · rw [show (fx_cb .ne 97 (nI n6)) = true from cb_neT (a := 97) (b := n6) (by omega) (by omega) (by omega)]
            dsimp only [cond]
            refine fe_s 6 (pc' := 72) (lc' := [(6, .int (23 + 1)), (5, .int 0), (4, .int 28), (3, .int 22), (2, .int 4), (0, .ref 0), (1, .ref 22)]) (stk' := [.int 28, .int (23 + 1)]) (mem' := fm g tp bt a b) (fun _ _ _ => rfl) ?_
            rw [show (23 + 1 : Int32) = 24 from rfl]
            refine fe_s 1 (pc' := cond (fx_cb .ge 24 28) 115 75) (lc' := [(6, .int 24), (5, .int 0), (4, .int 28), (3, .int 22), (2, .int 4), (0, .ref 0), (1, .ref 22)]) (stk' := []) (mem' := fm g tp bt a b) (fun _ _ _ => rfl) ?_
            rw [show (fx_cb .ge 24 28) = false from by decide]
            dsimp only [cond]
            refine fe_s 1 (pc' := 77) (lc' := [(6, .int 24), (5, .int 0), (4, .int 28), (3, .int 22), (2, .int 4), (0, .ref 0), (1, .ref 22)]) (stk' := [.int 0]) (mem' := fm g tp bt a b) (fun _ _ _ => rfl) ?_
            refine fe_s 1 (pc' := cond (fx_cb .eq 0 0) 115 80) (lc' := [(6, .int 24), (5, .int 0), (4, .int 28), (3, .int 22), (2, .int 4), (0, .ref 0), (1, .ref 22)]) (stk' := []) (mem' := fm g tp bt a b) (fun _ _ _ => rfl) ?_
            rw [show (fx_cb .eq 0 0) = true from by decide]
            dsimp only [cond]
            refine fe_s 1 (pc' := 117) (lc' := [(6, .int 24), (5, .int 0), (4, .int 28), (3, .int 22), (2, .int 4), (0, .ref 0), (1, .ref 22)]) (stk' := [.int 0]) (mem' := fm g tp bt a b) (fun _ _ _ => rfl) ?_
            refine fe_s 1 (pc' := cond (fx_cb .eq 0 0) 122 120) (lc' := [(6, .int 24), (5, .int 0), (4, .int 28), (3, .int 22), (2, .int 4), (0, .ref 0), (1, .ref 22)]) (stk' := []) (mem' := fm g tp bt a b) (fun _ _ _ => rfl) ?_
            rw [show (fx_cb .eq 0 0) = true from by decide]
            dsimp only [cond]
            refine fe_s 6 (pc' := 14) (lc' := [(3, .int (28 + 1)), (2, .int (4 + 1)), (6, .int 24), (5, .int 0), (4, .int 28), (0, .ref 0), (1, .ref 22)]) (stk' := []) (mem' := fm g tp bt a b) (fun _ _ _ => rfl) ?_
            rw [show (4 + 1 : Int32) = 5 from rfl]
            rw [show (28 + 1 : Int32) = 29 from rfl]
            refine fe_w (lc' := [(3, .int 29), (2, .int 5), (0, .ref 0), (1, .ref 22)]) ⟨rfl, rfl, rfl, rfl, trivial⟩ (by show List.Nodup [3, 2, 0, 1]; decide) (by show List.Nodup [3, 2, 6, 5, 4, 0, 1]; decide) ?_
            exact fw_5 hxp
      · rw [show (fx_cb .ne 119 (nI n2)) = true from cb_neT (a := 119) (b := n2) (by omega) (by omega) (by omega)]
        dsimp only [cond]
        refine fe_s 6 (pc' := 72) (lc' := [(6, .int (22 + 1)), (5, .int 0), (4, .int 28), (3, .int 22), (2, .int 4), (0, .ref 0), (1, .ref 22)]) (stk' := [.int 28, .int (22 + 1)]) (mem' := fm g tp bt a b) (fun _ _ _ => rfl) ?_
        rw [show (22 + 1 : Int32) = 23 from rfl]
        refine fe_s 1 (pc' := cond (fx_cb .ge 23 28) 115 75) (lc' := [(6, .int 23), (5, .int 0), (4, .int 28), (3, .int 22), (2, .int 4), (0, .ref 0), (1, .ref 22)]) (stk' := []) (mem' := fm g tp bt a b) (fun _ _ _ => rfl) ?_
        rw [show (fx_cb .ge 23 28) = false from by decide]
        dsimp only [cond]
        refine fe_s 1 (pc' := 77) (lc' := [(6, .int 23), (5, .int 0), (4, .int 28), (3, .int 22), (2, .int 4), (0, .ref 0), (1, .ref 22)]) (stk' := [.int 0]) (mem' := fm g tp bt a b) (fun _ _ _ => rfl) ?_
        refine fe_s 1 (pc' := cond (fx_cb .eq 0 0) 115 80) (lc' := [(6, .int 23), (5, .int 0), (4, .int 28), (3, .int 22), (2, .int 4), (0, .ref 0), (1, .ref 22)]) (stk' := []) (mem' := fm g tp bt a b) (fun _ _ _ => rfl) ?_
        rw [show (fx_cb .eq 0 0) = true from by decide]
        dsimp only [cond]
        refine fe_s 1 (pc' := 117) (lc' := [(6, .int 23), (5, .int 0), (4, .int 28), (3, .int 22), (2, .int 4), (0, .ref 0), (1, .ref 22)]) (stk' := [.int 0]) (mem' := fm g tp bt a b) (fun _ _ _ => rfl) ?_
        refine fe_s 1 (pc' := cond (fx_cb .eq 0 0) 122 120) (lc' := [(6, .int 23), (5, .int 0), (4, .int 28), (3, .int 22), (2, .int 4), (0, .ref 0), (1, .ref 22)]) (stk' := []) (mem' := fm g tp bt a b) (fun _ _ _ => rfl) ?_
        rw [show (fx_cb .eq 0 0) = true from by decide]
        dsimp only [cond]
        refine fe_s 6 (pc' := 14) (lc' := [(3, .int (28 + 1)), (2, .int (4 + 1)), (6, .int 23), (5, .int 0), (4, .int 28), (0, .ref 0), (1, .ref 22)]) (stk' := []) (mem' := fm g tp bt a b) (fun _ _ _ => rfl) ?_
        rw [show (4 + 1 : Int32) = 5 from rfl]
        rw [show (28 + 1 : Int32) = 29 from rfl]
        refine fe_w (lc' := [(3, .int 29), (2, .int 5), (0, .ref 0), (1, .ref 22)]) ⟨rfl, rfl, rfl, rfl, trivial⟩ (by show List.Nodup [3, 2, 0, 1]; decide) (by show List.Nodup [3, 2, 6, 5, 4, 0, 1]; decide) ?_
        exact fw_5 hxp
  · rw [show (fx_cb .ne 6 (nI (E - F))) = true from cb_neT (a := 6) (b := E - F) (by omega) (by omega) (by omega)]
    dsimp only [cond]
    refine fe_s 6 (pc' := 72) (lc' := [(6, .int 22), (5, .int 0), (4, .int 28), (3, .int 22), (2, .int 4), (0, .ref 0), (1, .ref 22)]) (stk' := [.int 28, .int 22]) (mem' := fm g tp bt a b) (fun _ _ _ => rfl) ?_
    refine fe_s 1 (pc' := cond (fx_cb .ge 22 28) 115 75) (lc' := [(6, .int 22), (5, .int 0), (4, .int 28), (3, .int 22), (2, .int 4), (0, .ref 0), (1, .ref 22)]) (stk' := []) (mem' := fm g tp bt a b) (fun _ _ _ => rfl) ?_
    rw [show (fx_cb .ge 22 28) = false from by decide]
    dsimp only [cond]
    refine fe_s 1 (pc' := 77) (lc' := [(6, .int 22), (5, .int 0), (4, .int 28), (3, .int 22), (2, .int 4), (0, .ref 0), (1, .ref 22)]) (stk' := [.int 0]) (mem' := fm g tp bt a b) (fun _ _ _ => rfl) ?_
    refine fe_s 1 (pc' := cond (fx_cb .eq 0 0) 115 80) (lc' := [(6, .int 22), (5, .int 0), (4, .int 28), (3, .int 22), (2, .int 4), (0, .ref 0), (1, .ref 22)]) (stk' := []) (mem' := fm g tp bt a b) (fun _ _ _ => rfl) ?_
    rw [show (fx_cb .eq 0 0) = true from by decide]
    dsimp only [cond]
    refine fe_s 1 (pc' := 117) (lc' := [(6, .int 22), (5, .int 0), (4, .int 28), (3, .int 22), (2, .int 4), (0, .ref 0), (1, .ref 22)]) (stk' := [.int 0]) (mem' := fm g tp bt a b) (fun _ _ _ => rfl) ?_
    refine fe_s 1 (pc' := cond (fx_cb .eq 0 0) 122 120) (lc' := [(6, .int 22), (5, .int 0), (4, .int 28), (3, .int 22), (2, .int 4), (0, .ref 0), (1, .ref 22)]) (stk' := []) (mem' := fm g tp bt a b) (fun _ _ _ => rfl) ?_
    rw [show (fx_cb .eq 0 0) = true from by decide]
    dsimp only [cond]
    refine fe_s 6 (pc' := 14) (lc' := [(3, .int (28 + 1)), (2, .int (4 + 1)), (6, .int 22), (5, .int 0), (4, .int 28), (0, .ref 0), (1, .ref 22)]) (stk' := []) (mem' := fm g tp bt a b) (fun _ _ _ => rfl) ?_
    rw [show (4 + 1 : Int32) = 5 from rfl]
    rw [show (28 + 1 : Int32) = 29 from rfl]
    refine fe_w (lc' := [(3, .int 29), (2, .int 5), (0, .ref 0), (1, .ref 22)]) ⟨rfl, rfl, rfl, rfl, trivial⟩ (by show List.Nodup [3, 2, 0, 1]; decide) (by show List.Nodup [3, 2, 6, 5, 4, 0, 1]; decide) ?_
    exact fw_5 hxp
theorem fw_3 {S E F : Nat} (hxp : fm_xp g S E F) : fe_R 1 gk_m226 14 [(3, .int 15), (2, .int 3), (0, .ref 0), (1, .ref 22)] [] (fm g tp bt a b) (fm_FI (fm g tp bt a b)) := by
  obtain ⟨h11, hS9, h14, hES, h13, hFE, -, -, -⟩ := id hxp
  refine fe_s 2 (pc' := 16) (lc' := [(3, .int 15), (2, .int 3), (0, .ref 0), (1, .ref 22)]) (stk' := [.ref 22, .int 15]) (mem' := fm g tp bt a b) (fun _ _ _ => rfl) ?_
  refine fe_s 1 (pc' := 19) (lc' := [(3, .int 15), (2, .int 3), (0, .ref 0), (1, .ref 22)]) (stk' := [.int 117, .int 15]) (mem' := fm g tp bt a b) (fun _ _ _ => rfl) ?_
  refine fe_s 1 (pc' := cond (fx_cb .ge 15 117) 133 22) (lc' := [(3, .int 15), (2, .int 3), (0, .ref 0), (1, .ref 22)]) (stk' := []) (mem' := fm g tp bt a b) (fun _ _ _ => rfl) ?_
  rw [show (fx_cb .ge 15 117) = false from by decide]
  dsimp only [cond]
  refine fe_s 4 (pc' := 28) (lc' := [(4, .int 15), (3, .int 15), (2, .int 3), (0, .ref 0), (1, .ref 22)]) (stk' := [.int 15, .ref 22]) (mem' := fm g tp bt a b) (fun _ _ _ => rfl) ?_
  refine fe_chr (i := 15) (by omega) (by rfl) (by rfl) ⟨by rfl, by rfl⟩ (by rfl) ?_
  rw [show sk_b.getD 15 0 = 98 from rfl]
  refine fe_s 1 (pc' := 33) (lc' := [(4, .int 15), (3, .int 15), (2, .int 3), (0, .ref 0), (1, .ref 22)]) (stk' := [.int 32, .int 98]) (mem' := fm g tp bt a b) (fun _ _ _ => rfl) ?_
  refine fe_s 1 (pc' := cond (fx_cb .eq 98 32) 42 36) (lc' := [(4, .int 15), (3, .int 15), (2, .int 3), (0, .ref 0), (1, .ref 22)]) (stk' := []) (mem' := fm g tp bt a b) (fun _ _ _ => rfl) ?_
  rw [show (fx_cb .eq 98 32) = false from by decide]
  dsimp only [cond]
  refine fe_s 4 (pc' := 28) (lc' := [(4, .int (15 + 1)), (3, .int 15), (2, .int 3), (0, .ref 0), (1, .ref 22)]) (stk' := [.int (15 + 1), .ref 22]) (mem' := fm g tp bt a b) (fun _ _ _ => rfl) ?_
  rw [show (15 + 1 : Int32) = 16 from rfl]
  refine fe_chr (i := 16) (by omega) (by rfl) (by rfl) ⟨by rfl, by rfl⟩ (by rfl) ?_
  rw [show sk_b.getD 16 0 = 101 from rfl]
  refine fe_s 1 (pc' := 33) (lc' := [(4, .int 16), (3, .int 15), (2, .int 3), (0, .ref 0), (1, .ref 22)]) (stk' := [.int 32, .int 101]) (mem' := fm g tp bt a b) (fun _ _ _ => rfl) ?_
  refine fe_s 1 (pc' := cond (fx_cb .eq 101 32) 42 36) (lc' := [(4, .int 16), (3, .int 15), (2, .int 3), (0, .ref 0), (1, .ref 22)]) (stk' := []) (mem' := fm g tp bt a b) (fun _ _ _ => rfl) ?_
  rw [show (fx_cb .eq 101 32) = false from by decide]
  dsimp only [cond]
  refine fe_s 4 (pc' := 28) (lc' := [(4, .int (16 + 1)), (3, .int 15), (2, .int 3), (0, .ref 0), (1, .ref 22)]) (stk' := [.int (16 + 1), .ref 22]) (mem' := fm g tp bt a b) (fun _ _ _ => rfl) ?_
  rw [show (16 + 1 : Int32) = 17 from rfl]
  refine fe_chr (i := 17) (by omega) (by rfl) (by rfl) ⟨by rfl, by rfl⟩ (by rfl) ?_
  rw [show sk_b.getD 17 0 = 115 from rfl]
  refine fe_s 1 (pc' := 33) (lc' := [(4, .int 17), (3, .int 15), (2, .int 3), (0, .ref 0), (1, .ref 22)]) (stk' := [.int 32, .int 115]) (mem' := fm g tp bt a b) (fun _ _ _ => rfl) ?_
  refine fe_s 1 (pc' := cond (fx_cb .eq 115 32) 42 36) (lc' := [(4, .int 17), (3, .int 15), (2, .int 3), (0, .ref 0), (1, .ref 22)]) (stk' := []) (mem' := fm g tp bt a b) (fun _ _ _ => rfl) ?_
  rw [show (fx_cb .eq 115 32) = false from by decide]
  dsimp only [cond]
  refine fe_s 4 (pc' := 28) (lc' := [(4, .int (17 + 1)), (3, .int 15), (2, .int 3), (0, .ref 0), (1, .ref 22)]) (stk' := [.int (17 + 1), .ref 22]) (mem' := fm g tp bt a b) (fun _ _ _ => rfl) ?_
  rw [show (17 + 1 : Int32) = 18 from rfl]
  refine fe_chr (i := 18) (by omega) (by rfl) (by rfl) ⟨by rfl, by rfl⟩ (by rfl) ?_
  rw [show sk_b.getD 18 0 = 105 from rfl]
  refine fe_s 1 (pc' := 33) (lc' := [(4, .int 18), (3, .int 15), (2, .int 3), (0, .ref 0), (1, .ref 22)]) (stk' := [.int 32, .int 105]) (mem' := fm g tp bt a b) (fun _ _ _ => rfl) ?_
  refine fe_s 1 (pc' := cond (fx_cb .eq 105 32) 42 36) (lc' := [(4, .int 18), (3, .int 15), (2, .int 3), (0, .ref 0), (1, .ref 22)]) (stk' := []) (mem' := fm g tp bt a b) (fun _ _ _ => rfl) ?_
  rw [show (fx_cb .eq 105 32) = false from by decide]
  dsimp only [cond]
  refine fe_s 4 (pc' := 28) (lc' := [(4, .int (18 + 1)), (3, .int 15), (2, .int 3), (0, .ref 0), (1, .ref 22)]) (stk' := [.int (18 + 1), .ref 22]) (mem' := fm g tp bt a b) (fun _ _ _ => rfl) ?_
  rw [show (18 + 1 : Int32) = 19 from rfl]
  refine fe_chr (i := 19) (by omega) (by rfl) (by rfl) ⟨by rfl, by rfl⟩ (by rfl) ?_
  rw [show sk_b.getD 19 0 = 100 from rfl]
  refine fe_s 1 (pc' := 33) (lc' := [(4, .int 19), (3, .int 15), (2, .int 3), (0, .ref 0), (1, .ref 22)]) (stk' := [.int 32, .int 100]) (mem' := fm g tp bt a b) (fun _ _ _ => rfl) ?_
  refine fe_s 1 (pc' := cond (fx_cb .eq 100 32) 42 36) (lc' := [(4, .int 19), (3, .int 15), (2, .int 3), (0, .ref 0), (1, .ref 22)]) (stk' := []) (mem' := fm g tp bt a b) (fun _ _ _ => rfl) ?_
  rw [show (fx_cb .eq 100 32) = false from by decide]
  dsimp only [cond]
  refine fe_s 4 (pc' := 28) (lc' := [(4, .int (19 + 1)), (3, .int 15), (2, .int 3), (0, .ref 0), (1, .ref 22)]) (stk' := [.int (19 + 1), .ref 22]) (mem' := fm g tp bt a b) (fun _ _ _ => rfl) ?_
  rw [show (19 + 1 : Int32) = 20 from rfl]
  refine fe_chr (i := 20) (by omega) (by rfl) (by rfl) ⟨by rfl, by rfl⟩ (by rfl) ?_
  rw [show sk_b.getD 20 0 = 101 from rfl]
  refine fe_s 1 (pc' := 33) (lc' := [(4, .int 20), (3, .int 15), (2, .int 3), (0, .ref 0), (1, .ref 22)]) (stk' := [.int 32, .int 101]) (mem' := fm g tp bt a b) (fun _ _ _ => rfl) ?_
  refine fe_s 1 (pc' := cond (fx_cb .eq 101 32) 42 36) (lc' := [(4, .int 20), (3, .int 15), (2, .int 3), (0, .ref 0), (1, .ref 22)]) (stk' := []) (mem' := fm g tp bt a b) (fun _ _ _ => rfl) ?_
  rw [show (fx_cb .eq 101 32) = false from by decide]
  dsimp only [cond]
  refine fe_s 4 (pc' := 28) (lc' := [(4, .int (20 + 1)), (3, .int 15), (2, .int 3), (0, .ref 0), (1, .ref 22)]) (stk' := [.int (20 + 1), .ref 22]) (mem' := fm g tp bt a b) (fun _ _ _ => rfl) ?_
  rw [show (20 + 1 : Int32) = 21 from rfl]
  refine fe_chr (i := 21) (by omega) (by rfl) (by rfl) ⟨by rfl, by rfl⟩ (by rfl) ?_
  rw [show sk_b.getD 21 0 = 32 from rfl]
  refine fe_s 1 (pc' := 33) (lc' := [(4, .int 21), (3, .int 15), (2, .int 3), (0, .ref 0), (1, .ref 22)]) (stk' := [.int 32, .int 32]) (mem' := fm g tp bt a b) (fun _ _ _ => rfl) ?_
  refine fe_s 1 (pc' := cond (fx_cb .eq 32 32) 42 36) (lc' := [(4, .int 21), (3, .int 15), (2, .int 3), (0, .ref 0), (1, .ref 22)]) (stk' := []) (mem' := fm g tp bt a b) (fun _ _ _ => rfl) ?_
  rw [show (fx_cb .eq 32 32) = true from by decide]
  dsimp only [cond]
  refine fe_s 8 (pc' := 55) (lc' := [(4, .int 21), (3, .int 15), (2, .int 3), (0, .ref 0), (1, .ref 22)]) (stk' := [.int ((g 14) - (g 13)), .int (21 - 15)]) (mem' := fm g tp bt a b) (fun _ _ _ => rfl) ?_
  try rw [h14]
  try rw [h13]
  rw [show (21 - 15 : Int32) = 6 from rfl]
  rw [show ((nI E) - (nI F) : Int32) = nI (E - F) from by simp only [tg_sub2 (x := E) (y := F) (by omega), nI_add, fm_mul]]
  refine fe_s 1 (pc' := cond (fx_cb .ne 6 (nI (E - F))) 62 58) (lc' := [(4, .int 21), (3, .int 15), (2, .int 3), (0, .ref 0), (1, .ref 22)]) (stk' := []) (mem' := fm g tp bt a b) (fun _ _ _ => rfl) ?_
  by_cases h1 : 6 = (E - F)
  · rw [show (fx_cb .ne 6 (nI (E - F))) = false from cb_neF (a := 6) (b := E - F) (by omega) (by omega) (by omega)]
    dsimp only [cond]
    refine fe_s 7 (pc' := 72) (lc' := [(6, .int 15), (5, .int 1), (4, .int 21), (3, .int 15), (2, .int 3), (0, .ref 0), (1, .ref 22)]) (stk' := [.int 21, .int 15]) (mem' := fm g tp bt a b) (fun _ _ _ => rfl) ?_
    refine fe_s 1 (pc' := cond (fx_cb .ge 15 21) 115 75) (lc' := [(6, .int 15), (5, .int 1), (4, .int 21), (3, .int 15), (2, .int 3), (0, .ref 0), (1, .ref 22)]) (stk' := []) (mem' := fm g tp bt a b) (fun _ _ _ => rfl) ?_
    rw [show (fx_cb .ge 15 21) = false from by decide]
    dsimp only [cond]
    refine fe_s 1 (pc' := 77) (lc' := [(6, .int 15), (5, .int 1), (4, .int 21), (3, .int 15), (2, .int 3), (0, .ref 0), (1, .ref 22)]) (stk' := [.int 1]) (mem' := fm g tp bt a b) (fun _ _ _ => rfl) ?_
    refine fe_s 1 (pc' := cond (fx_cb .eq 1 0) 115 80) (lc' := [(6, .int 15), (5, .int 1), (4, .int 21), (3, .int 15), (2, .int 3), (0, .ref 0), (1, .ref 22)]) (stk' := []) (mem' := fm g tp bt a b) (fun _ _ _ => rfl) ?_
    rw [show (fx_cb .eq 1 0) = false from by decide]
    dsimp only [cond]
    refine fe_s 2 (pc' := 83) (lc' := [(6, .int 15), (5, .int 1), (4, .int 21), (3, .int 15), (2, .int 3), (0, .ref 0), (1, .ref 22)]) (stk' := [.int 15, .ref 22]) (mem' := fm g tp bt a b) (fun _ _ _ => rfl) ?_
    refine fe_chr (i := 15) (by omega) (by rfl) (by rfl) ⟨by rfl, by rfl⟩ (by rfl) ?_
    rw [show sk_b.getD 15 0 = 98 from rfl]
    refine fe_s 7 (pc' := 96) (lc' := [(6, .int 15), (5, .int 1), (4, .int 21), (3, .int 15), (2, .int 3), (0, .ref 0), (1, .ref 22)]) (stk' := [.int (((g 13) + 15) - 15), .ref 0, .int 98]) (mem' := fm g tp bt a b) (fun _ _ _ => rfl) ?_
    try rw [h13]
    rw [show (((nI F) + 15) - 15 : Int32) = nI ((F + 15) - 15) from by simp only [show (15 : Int32) = nI 15 from rfl, tg_sub2 (x := F + 15) (y := 15) (by omega), nI_add, fm_mul]]
    refine fe_ivV (fr_byteAt (S := S) (k := (F + 15) - 15) (g := g) (tp := tp) (bt := bt) (a := a) (b := b) h11 (by omega) (by omega)) (by omega) (by rfl) (by rfl) (by rfl) (by rfl) (by rfl) (by rfl) ?_
    rcases fm_byte_or a S ((F + 15) - 15) with ⟨e3, q4⟩ | ⟨q4, n2, qn2, e3⟩
    · rw [e3]
      refine fe_s 1 (pc' := cond (fx_cb .ne 98 (-1)) 106 102) (lc' := [(6, .int 15), (5, .int 1), (4, .int 21), (3, .int 15), (2, .int 3), (0, .ref 0), (1, .ref 22)]) (stk' := []) (mem' := fm g tp bt a b) (fun _ _ _ => rfl) ?_
      rw [show (fx_cb .ne 98 (-1)) = true from by decide]
      dsimp only [cond]
      refine fe_s 6 (pc' := 72) (lc' := [(6, .int (15 + 1)), (5, .int 0), (4, .int 21), (3, .int 15), (2, .int 3), (0, .ref 0), (1, .ref 22)]) (stk' := [.int 21, .int (15 + 1)]) (mem' := fm g tp bt a b) (fun _ _ _ => rfl) ?_
      rw [show (15 + 1 : Int32) = 16 from rfl]
      refine fe_s 1 (pc' := cond (fx_cb .ge 16 21) 115 75) (lc' := [(6, .int 16), (5, .int 0), (4, .int 21), (3, .int 15), (2, .int 3), (0, .ref 0), (1, .ref 22)]) (stk' := []) (mem' := fm g tp bt a b) (fun _ _ _ => rfl) ?_
      rw [show (fx_cb .ge 16 21) = false from by decide]
      dsimp only [cond]
      refine fe_s 1 (pc' := 77) (lc' := [(6, .int 16), (5, .int 0), (4, .int 21), (3, .int 15), (2, .int 3), (0, .ref 0), (1, .ref 22)]) (stk' := [.int 0]) (mem' := fm g tp bt a b) (fun _ _ _ => rfl) ?_
      refine fe_s 1 (pc' := cond (fx_cb .eq 0 0) 115 80) (lc' := [(6, .int 16), (5, .int 0), (4, .int 21), (3, .int 15), (2, .int 3), (0, .ref 0), (1, .ref 22)]) (stk' := []) (mem' := fm g tp bt a b) (fun _ _ _ => rfl) ?_
      rw [show (fx_cb .eq 0 0) = true from by decide]
      dsimp only [cond]
      refine fe_s 1 (pc' := 117) (lc' := [(6, .int 16), (5, .int 0), (4, .int 21), (3, .int 15), (2, .int 3), (0, .ref 0), (1, .ref 22)]) (stk' := [.int 0]) (mem' := fm g tp bt a b) (fun _ _ _ => rfl) ?_
      refine fe_s 1 (pc' := cond (fx_cb .eq 0 0) 122 120) (lc' := [(6, .int 16), (5, .int 0), (4, .int 21), (3, .int 15), (2, .int 3), (0, .ref 0), (1, .ref 22)]) (stk' := []) (mem' := fm g tp bt a b) (fun _ _ _ => rfl) ?_
      rw [show (fx_cb .eq 0 0) = true from by decide]
      dsimp only [cond]
      refine fe_s 6 (pc' := 14) (lc' := [(3, .int (21 + 1)), (2, .int (3 + 1)), (6, .int 16), (5, .int 0), (4, .int 21), (0, .ref 0), (1, .ref 22)]) (stk' := []) (mem' := fm g tp bt a b) (fun _ _ _ => rfl) ?_
      rw [show (3 + 1 : Int32) = 4 from rfl]
      rw [show (21 + 1 : Int32) = 22 from rfl]
      refine fe_w (lc' := [(3, .int 22), (2, .int 4), (0, .ref 0), (1, .ref 22)]) ⟨rfl, rfl, rfl, rfl, trivial⟩ (by show List.Nodup [3, 2, 0, 1]; decide) (by show List.Nodup [3, 2, 6, 5, 4, 0, 1]; decide) ?_
      exact fw_4 hxp
    · rw [e3]
      refine fe_s 1 (pc' := cond (fx_cb .ne 98 (nI n2)) 106 102) (lc' := [(6, .int 15), (5, .int 1), (4, .int 21), (3, .int 15), (2, .int 3), (0, .ref 0), (1, .ref 22)]) (stk' := []) (mem' := fm g tp bt a b) (fun _ _ _ => rfl) ?_
      by_cases h5 : 98 = n2
      · rw [show (fx_cb .ne 98 (nI n2)) = false from cb_neF (a := 98) (b := n2) (by omega) (by omega) (by omega)]
        dsimp only [cond]
        refine fe_s 7 (pc' := 72) (lc' := [(6, .int (15 + 1)), (5, .int 1), (4, .int 21), (3, .int 15), (2, .int 3), (0, .ref 0), (1, .ref 22)]) (stk' := [.int 21, .int (15 + 1)]) (mem' := fm g tp bt a b) (fun _ _ _ => rfl) ?_
        rw [show (15 + 1 : Int32) = 16 from rfl]
        refine fe_s 1 (pc' := cond (fx_cb .ge 16 21) 115 75) (lc' := [(6, .int 16), (5, .int 1), (4, .int 21), (3, .int 15), (2, .int 3), (0, .ref 0), (1, .ref 22)]) (stk' := []) (mem' := fm g tp bt a b) (fun _ _ _ => rfl) ?_
        rw [show (fx_cb .ge 16 21) = false from by decide]
        dsimp only [cond]
        refine fe_s 1 (pc' := 77) (lc' := [(6, .int 16), (5, .int 1), (4, .int 21), (3, .int 15), (2, .int 3), (0, .ref 0), (1, .ref 22)]) (stk' := [.int 1]) (mem' := fm g tp bt a b) (fun _ _ _ => rfl) ?_
        refine fe_s 1 (pc' := cond (fx_cb .eq 1 0) 115 80) (lc' := [(6, .int 16), (5, .int 1), (4, .int 21), (3, .int 15), (2, .int 3), (0, .ref 0), (1, .ref 22)]) (stk' := []) (mem' := fm g tp bt a b) (fun _ _ _ => rfl) ?_
        rw [show (fx_cb .eq 1 0) = false from by decide]
        dsimp only [cond]
        refine fe_s 2 (pc' := 83) (lc' := [(6, .int 16), (5, .int 1), (4, .int 21), (3, .int 15), (2, .int 3), (0, .ref 0), (1, .ref 22)]) (stk' := [.int 16, .ref 22]) (mem' := fm g tp bt a b) (fun _ _ _ => rfl) ?_
        refine fe_chr (i := 16) (by omega) (by rfl) (by rfl) ⟨by rfl, by rfl⟩ (by rfl) ?_
        rw [show sk_b.getD 16 0 = 101 from rfl]
        refine fe_s 7 (pc' := 96) (lc' := [(6, .int 16), (5, .int 1), (4, .int 21), (3, .int 15), (2, .int 3), (0, .ref 0), (1, .ref 22)]) (stk' := [.int (((g 13) + 16) - 15), .ref 0, .int 101]) (mem' := fm g tp bt a b) (fun _ _ _ => rfl) ?_
        try rw [h13]
        rw [show (((nI F) + 16) - 15 : Int32) = nI ((F + 16) - 15) from by simp only [show (16 : Int32) = nI 16 from rfl, show (15 : Int32) = nI 15 from rfl, tg_sub2 (x := F + 16) (y := 15) (by omega), nI_add, fm_mul]]
        refine fe_ivV (fr_byteAt (S := S) (k := (F + 16) - 15) (g := g) (tp := tp) (bt := bt) (a := a) (b := b) h11 (by omega) (by omega)) (by omega) (by rfl) (by rfl) (by rfl) (by rfl) (by rfl) (by rfl) ?_
        rcases fm_byte_or a S ((F + 16) - 15) with ⟨e7, q8⟩ | ⟨q8, n6, qn6, e7⟩
        · rw [e7]
          refine fe_s 1 (pc' := cond (fx_cb .ne 101 (-1)) 106 102) (lc' := [(6, .int 16), (5, .int 1), (4, .int 21), (3, .int 15), (2, .int 3), (0, .ref 0), (1, .ref 22)]) (stk' := []) (mem' := fm g tp bt a b) (fun _ _ _ => rfl) ?_
          rw [show (fx_cb .ne 101 (-1)) = true from by decide]
          dsimp only [cond]
          refine fe_s 6 (pc' := 72) (lc' := [(6, .int (16 + 1)), (5, .int 0), (4, .int 21), (3, .int 15), (2, .int 3), (0, .ref 0), (1, .ref 22)]) (stk' := [.int 21, .int (16 + 1)]) (mem' := fm g tp bt a b) (fun _ _ _ => rfl) ?_
          rw [show (16 + 1 : Int32) = 17 from rfl]
          refine fe_s 1 (pc' := cond (fx_cb .ge 17 21) 115 75) (lc' := [(6, .int 17), (5, .int 0), (4, .int 21), (3, .int 15), (2, .int 3), (0, .ref 0), (1, .ref 22)]) (stk' := []) (mem' := fm g tp bt a b) (fun _ _ _ => rfl) ?_
          rw [show (fx_cb .ge 17 21) = false from by decide]
          dsimp only [cond]
          refine fe_s 1 (pc' := 77) (lc' := [(6, .int 17), (5, .int 0), (4, .int 21), (3, .int 15), (2, .int 3), (0, .ref 0), (1, .ref 22)]) (stk' := [.int 0]) (mem' := fm g tp bt a b) (fun _ _ _ => rfl) ?_
          refine fe_s 1 (pc' := cond (fx_cb .eq 0 0) 115 80) (lc' := [(6, .int 17), (5, .int 0), (4, .int 21), (3, .int 15), (2, .int 3), (0, .ref 0), (1, .ref 22)]) (stk' := []) (mem' := fm g tp bt a b) (fun _ _ _ => rfl) ?_
          rw [show (fx_cb .eq 0 0) = true from by decide]
          dsimp only [cond]
          refine fe_s 1 (pc' := 117) (lc' := [(6, .int 17), (5, .int 0), (4, .int 21), (3, .int 15), (2, .int 3), (0, .ref 0), (1, .ref 22)]) (stk' := [.int 0]) (mem' := fm g tp bt a b) (fun _ _ _ => rfl) ?_
          refine fe_s 1 (pc' := cond (fx_cb .eq 0 0) 122 120) (lc' := [(6, .int 17), (5, .int 0), (4, .int 21), (3, .int 15), (2, .int 3), (0, .ref 0), (1, .ref 22)]) (stk' := []) (mem' := fm g tp bt a b) (fun _ _ _ => rfl) ?_
          rw [show (fx_cb .eq 0 0) = true from by decide]
          dsimp only [cond]
          refine fe_s 6 (pc' := 14) (lc' := [(3, .int (21 + 1)), (2, .int (3 + 1)), (6, .int 17), (5, .int 0), (4, .int 21), (0, .ref 0), (1, .ref 22)]) (stk' := []) (mem' := fm g tp bt a b) (fun _ _ _ => rfl) ?_
          rw [show (3 + 1 : Int32) = 4 from rfl]
          rw [show (21 + 1 : Int32) = 22 from rfl]
          refine fe_w (lc' := [(3, .int 22), (2, .int 4), (0, .ref 0), (1, .ref 22)]) ⟨rfl, rfl, rfl, rfl, trivial⟩ (by show List.Nodup [3, 2, 0, 1]; decide) (by show List.Nodup [3, 2, 6, 5, 4, 0, 1]; decide) ?_
          exact fw_4 hxp
        · rw [e7]
          refine fe_s 1 (pc' := cond (fx_cb .ne 101 (nI n6)) 106 102) (lc' := [(6, .int 16), (5, .int 1), (4, .int 21), (3, .int 15), (2, .int 3), (0, .ref 0), (1, .ref 22)]) (stk' := []) (mem' := fm g tp bt a b) (fun _ _ _ => rfl) ?_
          by_cases h9 : 101 = n6
          · rw [show (fx_cb .ne 101 (nI n6)) = false from cb_neF (a := 101) (b := n6) (by omega) (by omega) (by omega)]
            dsimp only [cond]
            refine fe_s 7 (pc' := 72) (lc' := [(6, .int (16 + 1)), (5, .int 1), (4, .int 21), (3, .int 15), (2, .int 3), (0, .ref 0), (1, .ref 22)]) (stk' := [.int 21, .int (16 + 1)]) (mem' := fm g tp bt a b) (fun _ _ _ => rfl) ?_
            rw [show (16 + 1 : Int32) = 17 from rfl]
            refine fe_s 1 (pc' := cond (fx_cb .ge 17 21) 115 75) (lc' := [(6, .int 17), (5, .int 1), (4, .int 21), (3, .int 15), (2, .int 3), (0, .ref 0), (1, .ref 22)]) (stk' := []) (mem' := fm g tp bt a b) (fun _ _ _ => rfl) ?_
            rw [show (fx_cb .ge 17 21) = false from by decide]
            dsimp only [cond]
            refine fe_s 1 (pc' := 77) (lc' := [(6, .int 17), (5, .int 1), (4, .int 21), (3, .int 15), (2, .int 3), (0, .ref 0), (1, .ref 22)]) (stk' := [.int 1]) (mem' := fm g tp bt a b) (fun _ _ _ => rfl) ?_
            refine fe_s 1 (pc' := cond (fx_cb .eq 1 0) 115 80) (lc' := [(6, .int 17), (5, .int 1), (4, .int 21), (3, .int 15), (2, .int 3), (0, .ref 0), (1, .ref 22)]) (stk' := []) (mem' := fm g tp bt a b) (fun _ _ _ => rfl) ?_
            rw [show (fx_cb .eq 1 0) = false from by decide]
            dsimp only [cond]
            refine fe_s 2 (pc' := 83) (lc' := [(6, .int 17), (5, .int 1), (4, .int 21), (3, .int 15), (2, .int 3), (0, .ref 0), (1, .ref 22)]) (stk' := [.int 17, .ref 22]) (mem' := fm g tp bt a b) (fun _ _ _ => rfl) ?_
            refine fe_chr (i := 17) (by omega) (by rfl) (by rfl) ⟨by rfl, by rfl⟩ (by rfl) ?_
            rw [show sk_b.getD 17 0 = 115 from rfl]
            refine fe_s 7 (pc' := 96) (lc' := [(6, .int 17), (5, .int 1), (4, .int 21), (3, .int 15), (2, .int 3), (0, .ref 0), (1, .ref 22)]) (stk' := [.int (((g 13) + 17) - 15), .ref 0, .int 115]) (mem' := fm g tp bt a b) (fun _ _ _ => rfl) ?_
            try rw [h13]
            rw [show (((nI F) + 17) - 15 : Int32) = nI ((F + 17) - 15) from by simp only [show (17 : Int32) = nI 17 from rfl, show (15 : Int32) = nI 15 from rfl, tg_sub2 (x := F + 17) (y := 15) (by omega), nI_add, fm_mul]]
            refine fe_ivV (fr_byteAt (S := S) (k := (F + 17) - 15) (g := g) (tp := tp) (bt := bt) (a := a) (b := b) h11 (by omega) (by omega)) (by omega) (by rfl) (by rfl) (by rfl) (by rfl) (by rfl) (by rfl) ?_
            rcases fm_byte_or a S ((F + 17) - 15) with ⟨e11, q12⟩ | ⟨q12, n10, qn10, e11⟩
            · rw [e11]
              refine fe_s 1 (pc' := cond (fx_cb .ne 115 (-1)) 106 102) (lc' := [(6, .int 17), (5, .int 1), (4, .int 21), (3, .int 15), (2, .int 3), (0, .ref 0), (1, .ref 22)]) (stk' := []) (mem' := fm g tp bt a b) (fun _ _ _ => rfl) ?_
              rw [show (fx_cb .ne 115 (-1)) = true from by decide]
              dsimp only [cond]
              refine fe_s 6 (pc' := 72) (lc' := [(6, .int (17 + 1)), (5, .int 0), (4, .int 21), (3, .int 15), (2, .int 3), (0, .ref 0), (1, .ref 22)]) (stk' := [.int 21, .int (17 + 1)]) (mem' := fm g tp bt a b) (fun _ _ _ => rfl) ?_
              rw [show (17 + 1 : Int32) = 18 from rfl]
              refine fe_s 1 (pc' := cond (fx_cb .ge 18 21) 115 75) (lc' := [(6, .int 18), (5, .int 0), (4, .int 21), (3, .int 15), (2, .int 3), (0, .ref 0), (1, .ref 22)]) (stk' := []) (mem' := fm g tp bt a b) (fun _ _ _ => rfl) ?_
              rw [show (fx_cb .ge 18 21) = false from by decide]
              dsimp only [cond]
              refine fe_s 1 (pc' := 77) (lc' := [(6, .int 18), (5, .int 0), (4, .int 21), (3, .int 15), (2, .int 3), (0, .ref 0), (1, .ref 22)]) (stk' := [.int 0]) (mem' := fm g tp bt a b) (fun _ _ _ => rfl) ?_
              refine fe_s 1 (pc' := cond (fx_cb .eq 0 0) 115 80) (lc' := [(6, .int 18), (5, .int 0), (4, .int 21), (3, .int 15), (2, .int 3), (0, .ref 0), (1, .ref 22)]) (stk' := []) (mem' := fm g tp bt a b) (fun _ _ _ => rfl) ?_
              rw [show (fx_cb .eq 0 0) = true from by decide]
              dsimp only [cond]
              refine fe_s 1 (pc' := 117) (lc' := [(6, .int 18), (5, .int 0), (4, .int 21), (3, .int 15), (2, .int 3), (0, .ref 0), (1, .ref 22)]) (stk' := [.int 0]) (mem' := fm g tp bt a b) (fun _ _ _ => rfl) ?_
              refine fe_s 1 (pc' := cond (fx_cb .eq 0 0) 122 120) (lc' := [(6, .int 18), (5, .int 0), (4, .int 21), (3, .int 15), (2, .int 3), (0, .ref 0), (1, .ref 22)]) (stk' := []) (mem' := fm g tp bt a b) (fun _ _ _ => rfl) ?_
              rw [show (fx_cb .eq 0 0) = true from by decide]
              dsimp only [cond]
              refine fe_s 6 (pc' := 14) (lc' := [(3, .int (21 + 1)), (2, .int (3 + 1)), (6, .int 18), (5, .int 0), (4, .int 21), (0, .ref 0), (1, .ref 22)]) (stk' := []) (mem' := fm g tp bt a b) (fun _ _ _ => rfl) ?_
              rw [show (3 + 1 : Int32) = 4 from rfl]
              rw [show (21 + 1 : Int32) = 22 from rfl]
              refine fe_w (lc' := [(3, .int 22), (2, .int 4), (0, .ref 0), (1, .ref 22)]) ⟨rfl, rfl, rfl, rfl, trivial⟩ (by show List.Nodup [3, 2, 0, 1]; decide) (by show List.Nodup [3, 2, 6, 5, 4, 0, 1]; decide) ?_
              exact fw_4 hxp
            · rw [e11]
              refine fe_s 1 (pc' := cond (fx_cb .ne 115 (nI n10)) 106 102) (lc' := [(6, .int 17), (5, .int 1), (4, .int 21), (3, .int 15), (2, .int 3), (0, .ref 0), (1, .ref 22)]) (stk' := []) (mem' := fm g tp bt a b) (fun _ _ _ => rfl) ?_
              by_cases h13 : 115 = n10
              · rw [show (fx_cb .ne 115 (nI n10)) = false from cb_neF (a := 115) (b := n10) (by omega) (by omega) (by omega)]
                dsimp only [cond]
                refine fe_s 7 (pc' := 72) (lc' := [(6, .int (17 + 1)), (5, .int 1), (4, .int 21), (3, .int 15), (2, .int 3), (0, .ref 0), (1, .ref 22)]) (stk' := [.int 21, .int (17 + 1)]) (mem' := fm g tp bt a b) (fun _ _ _ => rfl) ?_
                rw [show (17 + 1 : Int32) = 18 from rfl]
                refine fe_s 1 (pc' := cond (fx_cb .ge 18 21) 115 75) (lc' := [(6, .int 18), (5, .int 1), (4, .int 21), (3, .int 15), (2, .int 3), (0, .ref 0), (1, .ref 22)]) (stk' := []) (mem' := fm g tp bt a b) (fun _ _ _ => rfl) ?_
                rw [show (fx_cb .ge 18 21) = false from by decide]
                dsimp only [cond]
                refine fe_s 1 (pc' := 77) (lc' := [(6, .int 18), (5, .int 1), (4, .int 21), (3, .int 15), (2, .int 3), (0, .ref 0), (1, .ref 22)]) (stk' := [.int 1]) (mem' := fm g tp bt a b) (fun _ _ _ => rfl) ?_
                refine fe_s 1 (pc' := cond (fx_cb .eq 1 0) 115 80) (lc' := [(6, .int 18), (5, .int 1), (4, .int 21), (3, .int 15), (2, .int 3), (0, .ref 0), (1, .ref 22)]) (stk' := []) (mem' := fm g tp bt a b) (fun _ _ _ => rfl) ?_
                rw [show (fx_cb .eq 1 0) = false from by decide]
                dsimp only [cond]
                refine fe_s 2 (pc' := 83) (lc' := [(6, .int 18), (5, .int 1), (4, .int 21), (3, .int 15), (2, .int 3), (0, .ref 0), (1, .ref 22)]) (stk' := [.int 18, .ref 22]) (mem' := fm g tp bt a b) (fun _ _ _ => rfl) ?_
                refine fe_chr (i := 18) (by omega) (by rfl) (by rfl) ⟨by rfl, by rfl⟩ (by rfl) ?_
                rw [show sk_b.getD 18 0 = 105 from rfl]
                refine fe_s 7 (pc' := 96) (lc' := [(6, .int 18), (5, .int 1), (4, .int 21), (3, .int 15), (2, .int 3), (0, .ref 0), (1, .ref 22)]) (stk' := [.int (((g 13) + 18) - 15), .ref 0, .int 105]) (mem' := fm g tp bt a b) (fun _ _ _ => rfl) ?_
                try rw [h13]
                rw [show (((nI F) + 18) - 15 : Int32) = nI ((F + 18) - 15) from by simp only [show (18 : Int32) = nI 18 from rfl, show (15 : Int32) = nI 15 from rfl, tg_sub2 (x := F + 18) (y := 15) (by omega), nI_add, fm_mul]]
                refine fe_ivV (fr_byteAt (S := S) (k := (F + 18) - 15) (g := g) (tp := tp) (bt := bt) (a := a) (b := b) h11 (by omega) (by omega)) (by omega) (by rfl) (by rfl) (by rfl) (by rfl) (by rfl) (by rfl) ?_
                rcases fm_byte_or a S ((F + 18) - 15) with ⟨e15, q16⟩ | ⟨q16, n14, qn14, e15⟩
                · rw [e15]
                  refine fe_s 1 (pc' := cond (fx_cb .ne 105 (-1)) 106 102) (lc' := [(6, .int 18), (5, .int 1), (4, .int 21), (3, .int 15), (2, .int 3), (0, .ref 0), (1, .ref 22)]) (stk' := []) (mem' := fm g tp bt a b) (fun _ _ _ => rfl) ?_
                  rw [show (fx_cb .ne 105 (-1)) = true from by decide]
                  dsimp only [cond]
                  refine fe_s 6 (pc' := 72) (lc' := [(6, .int (18 + 1)), (5, .int 0), (4, .int 21), (3, .int 15), (2, .int 3), (0, .ref 0), (1, .ref 22)]) (stk' := [.int 21, .int (18 + 1)]) (mem' := fm g tp bt a b) (fun _ _ _ => rfl) ?_
                  rw [show (18 + 1 : Int32) = 19 from rfl]
                  refine fe_s 1 (pc' := cond (fx_cb .ge 19 21) 115 75) (lc' := [(6, .int 19), (5, .int 0), (4, .int 21), (3, .int 15), (2, .int 3), (0, .ref 0), (1, .ref 22)]) (stk' := []) (mem' := fm g tp bt a b) (fun _ _ _ => rfl) ?_
                  rw [show (fx_cb .ge 19 21) = false from by decide]
                  dsimp only [cond]
                  refine fe_s 1 (pc' := 77) (lc' := [(6, .int 19), (5, .int 0), (4, .int 21), (3, .int 15), (2, .int 3), (0, .ref 0), (1, .ref 22)]) (stk' := [.int 0]) (mem' := fm g tp bt a b) (fun _ _ _ => rfl) ?_
                  refine fe_s 1 (pc' := cond (fx_cb .eq 0 0) 115 80) (lc' := [(6, .int 19), (5, .int 0), (4, .int 21), (3, .int 15), (2, .int 3), (0, .ref 0), (1, .ref 22)]) (stk' := []) (mem' := fm g tp bt a b) (fun _ _ _ => rfl) ?_
                  rw [show (fx_cb .eq 0 0) = true from by decide]
                  dsimp only [cond]
                  refine fe_s 1 (pc' := 117) (lc' := [(6, .int 19), (5, .int 0), (4, .int 21), (3, .int 15), (2, .int 3), (0, .ref 0), (1, .ref 22)]) (stk' := [.int 0]) (mem' := fm g tp bt a b) (fun _ _ _ => rfl) ?_
                  refine fe_s 1 (pc' := cond (fx_cb .eq 0 0) 122 120) (lc' := [(6, .int 19), (5, .int 0), (4, .int 21), (3, .int 15), (2, .int 3), (0, .ref 0), (1, .ref 22)]) (stk' := []) (mem' := fm g tp bt a b) (fun _ _ _ => rfl) ?_
                  rw [show (fx_cb .eq 0 0) = true from by decide]
                  dsimp only [cond]
                  refine fe_s 6 (pc' := 14) (lc' := [(3, .int (21 + 1)), (2, .int (3 + 1)), (6, .int 19), (5, .int 0), (4, .int 21), (0, .ref 0), (1, .ref 22)]) (stk' := []) (mem' := fm g tp bt a b) (fun _ _ _ => rfl) ?_
                  rw [show (3 + 1 : Int32) = 4 from rfl]
                  rw [show (21 + 1 : Int32) = 22 from rfl]
                  refine fe_w (lc' := [(3, .int 22), (2, .int 4), (0, .ref 0), (1, .ref 22)]) ⟨rfl, rfl, rfl, rfl, trivial⟩ (by show List.Nodup [3, 2, 0, 1]; decide) (by show List.Nodup [3, 2, 6, 5, 4, 0, 1]; decide) ?_
                  exact fw_4 hxp
                · rw [e15]
                  refine fe_s 1 (pc' := cond (fx_cb .ne 105 (nI n14)) 106 102) (lc' := [(6, .int 18), (5, .int 1), (4, .int 21), (3, .int 15), (2, .int 3), (0, .ref 0), (1, .ref 22)]) (stk' := []) (mem' := fm g tp bt a b) (fun _ _ _ => rfl) ?_
                  by_cases h17 : 105 = n14
                  · rw [show (fx_cb .ne 105 (nI n14)) = false from cb_neF (a := 105) (b := n14) (by omega) (by omega) (by omega)]
                    dsimp only [cond]
                    refine fe_s 7 (pc' := 72) (lc' := [(6, .int (18 + 1)), (5, .int 1), (4, .int 21), (3, .int 15), (2, .int 3), (0, .ref 0), (1, .ref 22)]) (stk' := [.int 21, .int (18 + 1)]) (mem' := fm g tp bt a b) (fun _ _ _ => rfl) ?_
                    rw [show (18 + 1 : Int32) = 19 from rfl]
                    refine fe_s 1 (pc' := cond (fx_cb .ge 19 21) 115 75) (lc' := [(6, .int 19), (5, .int 1), (4, .int 21), (3, .int 15), (2, .int 3), (0, .ref 0), (1, .ref 22)]) (stk' := []) (mem' := fm g tp bt a b) (fun _ _ _ => rfl) ?_
                    rw [show (fx_cb .ge 19 21) = false from by decide]
                    dsimp only [cond]
                    refine fe_s 1 (pc' := 77) (lc' := [(6, .int 19), (5, .int 1), (4, .int 21), (3, .int 15), (2, .int 3), (0, .ref 0), (1, .ref 22)]) (stk' := [.int 1]) (mem' := fm g tp bt a b) (fun _ _ _ => rfl) ?_
                    refine fe_s 1 (pc' := cond (fx_cb .eq 1 0) 115 80) (lc' := [(6, .int 19), (5, .int 1), (4, .int 21), (3, .int 15), (2, .int 3), (0, .ref 0), (1, .ref 22)]) (stk' := []) (mem' := fm g tp bt a b) (fun _ _ _ => rfl) ?_
                    rw [show (fx_cb .eq 1 0) = false from by decide]
                    dsimp only [cond]
                    refine fe_s 2 (pc' := 83) (lc' := [(6, .int 19), (5, .int 1), (4, .int 21), (3, .int 15), (2, .int 3), (0, .ref 0), (1, .ref 22)]) (stk' := [.int 19, .ref 22]) (mem' := fm g tp bt a b) (fun _ _ _ => rfl) ?_
                    refine fe_chr (i := 19) (by omega) (by rfl) (by rfl) ⟨by rfl, by rfl⟩ (by rfl) ?_
                    rw [show sk_b.getD 19 0 = 100 from rfl]
                    refine fe_s 7 (pc' := 96) (lc' := [(6, .int 19), (5, .int 1), (4, .int 21), (3, .int 15), (2, .int 3), (0, .ref 0), (1, .ref 22)]) (stk' := [.int (((g 13) + 19) - 15), .ref 0, .int 100]) (mem' := fm g tp bt a b) (fun _ _ _ => rfl) ?_
                    try rw [h13]
                    rw [show (((nI F) + 19) - 15 : Int32) = nI ((F + 19) - 15) from by simp only [show (19 : Int32) = nI 19 from rfl, show (15 : Int32) = nI 15 from rfl, tg_sub2 (x := F + 19) (y := 15) (by omega), nI_add, fm_mul]]
                    refine fe_ivV (fr_byteAt (S := S) (k := (F + 19) - 15) (g := g) (tp := tp) (bt := bt) (a := a) (b := b) h11 (by omega) (by omega)) (by omega) (by rfl) (by rfl) (by rfl) (by rfl) (by rfl) (by rfl) ?_
                    rcases fm_byte_or a S ((F + 19) - 15) with ⟨e19, q20⟩ | ⟨q20, n18, qn18, e19⟩
                    · rw [e19]
                      refine fe_s 1 (pc' := cond (fx_cb .ne 100 (-1)) 106 102) (lc' := [(6, .int 19), (5, .int 1), (4, .int 21), (3, .int 15), (2, .int 3), (0, .ref 0), (1, .ref 22)]) (stk' := []) (mem' := fm g tp bt a b) (fun _ _ _ => rfl) ?_
                      rw [show (fx_cb .ne 100 (-1)) = true from by decide]
                      dsimp only [cond]
                      refine fe_s 6 (pc' := 72) (lc' := [(6, .int (19 + 1)), (5, .int 0), (4, .int 21), (3, .int 15), (2, .int 3), (0, .ref 0), (1, .ref 22)]) (stk' := [.int 21, .int (19 + 1)]) (mem' := fm g tp bt a b) (fun _ _ _ => rfl) ?_
                      rw [show (19 + 1 : Int32) = 20 from rfl]
                      refine fe_s 1 (pc' := cond (fx_cb .ge 20 21) 115 75) (lc' := [(6, .int 20), (5, .int 0), (4, .int 21), (3, .int 15), (2, .int 3), (0, .ref 0), (1, .ref 22)]) (stk' := []) (mem' := fm g tp bt a b) (fun _ _ _ => rfl) ?_
                      rw [show (fx_cb .ge 20 21) = false from by decide]
                      dsimp only [cond]
                      refine fe_s 1 (pc' := 77) (lc' := [(6, .int 20), (5, .int 0), (4, .int 21), (3, .int 15), (2, .int 3), (0, .ref 0), (1, .ref 22)]) (stk' := [.int 0]) (mem' := fm g tp bt a b) (fun _ _ _ => rfl) ?_
                      refine fe_s 1 (pc' := cond (fx_cb .eq 0 0) 115 80) (lc' := [(6, .int 20), (5, .int 0), (4, .int 21), (3, .int 15), (2, .int 3), (0, .ref 0), (1, .ref 22)]) (stk' := []) (mem' := fm g tp bt a b) (fun _ _ _ => rfl) ?_
                      rw [show (fx_cb .eq 0 0) = true from by decide]
                      dsimp only [cond]
                      refine fe_s 1 (pc' := 117) (lc' := [(6, .int 20), (5, .int 0), (4, .int 21), (3, .int 15), (2, .int 3), (0, .ref 0), (1, .ref 22)]) (stk' := [.int 0]) (mem' := fm g tp bt a b) (fun _ _ _ => rfl) ?_
                      refine fe_s 1 (pc' := cond (fx_cb .eq 0 0) 122 120) (lc' := [(6, .int 20), (5, .int 0), (4, .int 21), (3, .int 15), (2, .int 3), (0, .ref 0), (1, .ref 22)]) (stk' := []) (mem' := fm g tp bt a b) (fun _ _ _ => rfl) ?_
                      rw [show (fx_cb .eq 0 0) = true from by decide]
                      dsimp only [cond]
                      refine fe_s 6 (pc' := 14) (lc' := [(3, .int (21 + 1)), (2, .int (3 + 1)), (6, .int 20), (5, .int 0), (4, .int 21), (0, .ref 0), (1, .ref 22)]) (stk' := []) (mem' := fm g tp bt a b) (fun _ _ _ => rfl) ?_
                      rw [show (3 + 1 : Int32) = 4 from rfl]
                      rw [show (21 + 1 : Int32) = 22 from rfl]
                      refine fe_w (lc' := [(3, .int 22), (2, .int 4), (0, .ref 0), (1, .ref 22)]) ⟨rfl, rfl, rfl, rfl, trivial⟩ (by show List.Nodup [3, 2, 0, 1]; decide) (by show List.Nodup [3, 2, 6, 5, 4, 0, 1]; decide) ?_
                      exact fw_4 hxp
                    · rw [e19]
                      refine fe_s 1 (pc' := cond (fx_cb .ne 100 (nI n18)) 106 102) (lc' := [(6, .int 19), (5, .int 1), (4, .int 21), (3, .int 15), (2, .int 3), (0, .ref 0), (1, .ref 22)]) (stk' := []) (mem' := fm g tp bt a b) (fun _ _ _ => rfl) ?_
                      by_cases h21 : 100 = n18
                      · rw [show (fx_cb .ne 100 (nI n18)) = false from cb_neF (a := 100) (b := n18) (by omega) (by omega) (by omega)]
                        dsimp only [cond]
                        refine fe_s 7 (pc' := 72) (lc' := [(6, .int (19 + 1)), (5, .int 1), (4, .int 21), (3, .int 15), (2, .int 3), (0, .ref 0), (1, .ref 22)]) (stk' := [.int 21, .int (19 + 1)]) (mem' := fm g tp bt a b) (fun _ _ _ => rfl) ?_
                        rw [show (19 + 1 : Int32) = 20 from rfl]
                        refine fe_s 1 (pc' := cond (fx_cb .ge 20 21) 115 75) (lc' := [(6, .int 20), (5, .int 1), (4, .int 21), (3, .int 15), (2, .int 3), (0, .ref 0), (1, .ref 22)]) (stk' := []) (mem' := fm g tp bt a b) (fun _ _ _ => rfl) ?_
                        rw [show (fx_cb .ge 20 21) = false from by decide]
                        dsimp only [cond]
                        refine fe_s 1 (pc' := 77) (lc' := [(6, .int 20), (5, .int 1), (4, .int 21), (3, .int 15), (2, .int 3), (0, .ref 0), (1, .ref 22)]) (stk' := [.int 1]) (mem' := fm g tp bt a b) (fun _ _ _ => rfl) ?_
                        refine fe_s 1 (pc' := cond (fx_cb .eq 1 0) 115 80) (lc' := [(6, .int 20), (5, .int 1), (4, .int 21), (3, .int 15), (2, .int 3), (0, .ref 0), (1, .ref 22)]) (stk' := []) (mem' := fm g tp bt a b) (fun _ _ _ => rfl) ?_
                        rw [show (fx_cb .eq 1 0) = false from by decide]
                        dsimp only [cond]
                        refine fe_s 2 (pc' := 83) (lc' := [(6, .int 20), (5, .int 1), (4, .int 21), (3, .int 15), (2, .int 3), (0, .ref 0), (1, .ref 22)]) (stk' := [.int 20, .ref 22]) (mem' := fm g tp bt a b) (fun _ _ _ => rfl) ?_
                        refine fe_chr (i := 20) (by omega) (by rfl) (by rfl) ⟨by rfl, by rfl⟩ (by rfl) ?_
                        rw [show sk_b.getD 20 0 = 101 from rfl]
                        refine fe_s 7 (pc' := 96) (lc' := [(6, .int 20), (5, .int 1), (4, .int 21), (3, .int 15), (2, .int 3), (0, .ref 0), (1, .ref 22)]) (stk' := [.int (((g 13) + 20) - 15), .ref 0, .int 101]) (mem' := fm g tp bt a b) (fun _ _ _ => rfl) ?_
                        try rw [h13]
                        rw [show (((nI F) + 20) - 15 : Int32) = nI ((F + 20) - 15) from by simp only [show (20 : Int32) = nI 20 from rfl, show (15 : Int32) = nI 15 from rfl, tg_sub2 (x := F + 20) (y := 15) (by omega), nI_add, fm_mul]]
                        refine fe_ivV (fr_byteAt (S := S) (k := (F + 20) - 15) (g := g) (tp := tp) (bt := bt) (a := a) (b := b) h11 (by omega) (by omega)) (by omega) (by rfl) (by rfl) (by rfl) (by rfl) (by rfl) (by rfl) ?_
                        rcases fm_byte_or a S ((F + 20) - 15) with ⟨e23, q24⟩ | ⟨q24, n22, qn22, e23⟩
                        · rw [e23]
                          refine fe_s 1 (pc' := cond (fx_cb .ne 101 (-1)) 106 102) (lc' := [(6, .int 20), (5, .int 1), (4, .int 21), (3, .int 15), (2, .int 3), (0, .ref 0), (1, .ref 22)]) (stk' := []) (mem' := fm g tp bt a b) (fun _ _ _ => rfl) ?_
                          rw [show (fx_cb .ne 101 (-1)) = true from by decide]
                          dsimp only [cond]
                          refine fe_s 6 (pc' := 72) (lc' := [(6, .int (20 + 1)), (5, .int 0), (4, .int 21), (3, .int 15), (2, .int 3), (0, .ref 0), (1, .ref 22)]) (stk' := [.int 21, .int (20 + 1)]) (mem' := fm g tp bt a b) (fun _ _ _ => rfl) ?_
                          rw [show (20 + 1 : Int32) = 21 from rfl]
                          refine fe_s 1 (pc' := cond (fx_cb .ge 21 21) 115 75) (lc' := [(6, .int 21), (5, .int 0), (4, .int 21), (3, .int 15), (2, .int 3), (0, .ref 0), (1, .ref 22)]) (stk' := []) (mem' := fm g tp bt a b) (fun _ _ _ => rfl) ?_
                          rw [show (fx_cb .ge 21 21) = true from by decide]
                          dsimp only [cond]
                          refine fe_s 1 (pc' := 117) (lc' := [(6, .int 21), (5, .int 0), (4, .int 21), (3, .int 15), (2, .int 3), (0, .ref 0), (1, .ref 22)]) (stk' := [.int 0]) (mem' := fm g tp bt a b) (fun _ _ _ => rfl) ?_
                          refine fe_s 1 (pc' := cond (fx_cb .eq 0 0) 122 120) (lc' := [(6, .int 21), (5, .int 0), (4, .int 21), (3, .int 15), (2, .int 3), (0, .ref 0), (1, .ref 22)]) (stk' := []) (mem' := fm g tp bt a b) (fun _ _ _ => rfl) ?_
                          rw [show (fx_cb .eq 0 0) = true from by decide]
                          dsimp only [cond]
                          refine fe_s 6 (pc' := 14) (lc' := [(3, .int (21 + 1)), (2, .int (3 + 1)), (6, .int 21), (5, .int 0), (4, .int 21), (0, .ref 0), (1, .ref 22)]) (stk' := []) (mem' := fm g tp bt a b) (fun _ _ _ => rfl) ?_
                          rw [show (3 + 1 : Int32) = 4 from rfl]
                          rw [show (21 + 1 : Int32) = 22 from rfl]
                          refine fe_w (lc' := [(3, .int 22), (2, .int 4), (0, .ref 0), (1, .ref 22)]) ⟨rfl, rfl, rfl, rfl, trivial⟩ (by show List.Nodup [3, 2, 0, 1]; decide) (by show List.Nodup [3, 2, 6, 5, 4, 0, 1]; decide) ?_
                          exact fw_4 hxp
                        · rw [e23]
                          refine fe_s 1 (pc' := cond (fx_cb .ne 101 (nI n22)) 106 102) (lc' := [(6, .int 20), (5, .int 1), (4, .int 21), (3, .int 15), (2, .int 3), (0, .ref 0), (1, .ref 22)]) (stk' := []) (mem' := fm g tp bt a b) (fun _ _ _ => rfl) ?_
                          by_cases h25 : 101 = n22
                          · rw [show (fx_cb .ne 101 (nI n22)) = false from cb_neF (a := 101) (b := n22) (by omega) (by omega) (by omega)]
                            dsimp only [cond]
                            refine fe_s 7 (pc' := 72) (lc' := [(6, .int (20 + 1)), (5, .int 1), (4, .int 21), (3, .int 15), (2, .int 3), (0, .ref 0), (1, .ref 22)]) (stk' := [.int 21, .int (20 + 1)]) (mem' := fm g tp bt a b) (fun _ _ _ => rfl) ?_
                            rw [show (20 + 1 : Int32) = 21 from rfl]
                            refine fe_s 1 (pc' := cond (fx_cb .ge 21 21) 115 75) (lc' := [(6, .int 21), (5, .int 1), (4, .int 21), (3, .int 15), (2, .int 3), (0, .ref 0), (1, .ref 22)]) (stk' := []) (mem' := fm g tp bt a b) (fun _ _ _ => rfl) ?_
                            rw [show (fx_cb .ge 21 21) = true from by decide]
                            dsimp only [cond]
                            refine fe_s 1 (pc' := 117) (lc' := [(6, .int 21), (5, .int 1), (4, .int 21), (3, .int 15), (2, .int 3), (0, .ref 0), (1, .ref 22)]) (stk' := [.int 1]) (mem' := fm g tp bt a b) (fun _ _ _ => rfl) ?_
                            refine fe_s 1 (pc' := cond (fx_cb .eq 1 0) 122 120) (lc' := [(6, .int 21), (5, .int 1), (4, .int 21), (3, .int 15), (2, .int 3), (0, .ref 0), (1, .ref 22)]) (stk' := []) (mem' := fm g tp bt a b) (fun _ _ _ => rfl) ?_
                            rw [show (fx_cb .eq 1 0) = false from by decide]
                            dsimp only [cond]
                            refine fe_s 1 (pc' := 121) (lc' := [(6, .int 21), (5, .int 1), (4, .int 21), (3, .int 15), (2, .int 3), (0, .ref 0), (1, .ref 22)]) (stk' := [.int 3]) (mem' := fm g tp bt a b) (fun _ _ _ => rfl) ?_
                            exact fe_ret ⟨_, Or.inr ⟨3, by omega, rfl⟩, rfl⟩ (by rfl) (by rfl) (by rfl)
                          · rw [show (fx_cb .ne 101 (nI n22)) = true from cb_neT (a := 101) (b := n22) (by omega) (by omega) (by omega)]
                            dsimp only [cond]
                            refine fe_s 6 (pc' := 72) (lc' := [(6, .int (20 + 1)), (5, .int 0), (4, .int 21), (3, .int 15), (2, .int 3), (0, .ref 0), (1, .ref 22)]) (stk' := [.int 21, .int (20 + 1)]) (mem' := fm g tp bt a b) (fun _ _ _ => rfl) ?_
                            rw [show (20 + 1 : Int32) = 21 from rfl]
                            refine fe_s 1 (pc' := cond (fx_cb .ge 21 21) 115 75) (lc' := [(6, .int 21), (5, .int 0), (4, .int 21), (3, .int 15), (2, .int 3), (0, .ref 0), (1, .ref 22)]) (stk' := []) (mem' := fm g tp bt a b) (fun _ _ _ => rfl) ?_
                            rw [show (fx_cb .ge 21 21) = true from by decide]
                            dsimp only [cond]
                            refine fe_s 1 (pc' := 117) (lc' := [(6, .int 21), (5, .int 0), (4, .int 21), (3, .int 15), (2, .int 3), (0, .ref 0), (1, .ref 22)]) (stk' := [.int 0]) (mem' := fm g tp bt a b) (fun _ _ _ => rfl) ?_
                            refine fe_s 1 (pc' := cond (fx_cb .eq 0 0) 122 120) (lc' := [(6, .int 21), (5, .int 0), (4, .int 21), (3, .int 15), (2, .int 3), (0, .ref 0), (1, .ref 22)]) (stk' := []) (mem' := fm g tp bt a b) (fun _ _ _ => rfl) ?_
                            rw [show (fx_cb .eq 0 0) = true from by decide]
                            dsimp only [cond]
                            refine fe_s 6 (pc' := 14) (lc' := [(3, .int (21 + 1)), (2, .int (3 + 1)), (6, .int 21), (5, .int 0), (4, .int 21), (0, .ref 0), (1, .ref 22)]) (stk' := []) (mem' := fm g tp bt a b) (fun _ _ _ => rfl) ?_
                            rw [show (3 + 1 : Int32) = 4 from rfl]
                            rw [show (21 + 1 : Int32) = 22 from rfl]
                            refine fe_w (lc' := [(3, .int 22), (2, .int 4), (0, .ref 0), (1, .ref 22)]) ⟨rfl, rfl, rfl, rfl, trivial⟩ (by show List.Nodup [3, 2, 0, 1]; decide) (by show List.Nodup [3, 2, 6, 5, 4, 0, 1]; decide) ?_
                            exact fw_4 hxp
                      · rw [show (fx_cb .ne 100 (nI n18)) = true from cb_neT (a := 100) (b := n18) (by omega) (by omega) (by omega)]
                        dsimp only [cond]
                        refine fe_s 6 (pc' := 72) (lc' := [(6, .int (19 + 1)), (5, .int 0), (4, .int 21), (3, .int 15), (2, .int 3), (0, .ref 0), (1, .ref 22)]) (stk' := [.int 21, .int (19 + 1)]) (mem' := fm g tp bt a b) (fun _ _ _ => rfl) ?_
                        rw [show (19 + 1 : Int32) = 20 from rfl]
                        refine fe_s 1 (pc' := cond (fx_cb .ge 20 21) 115 75) (lc' := [(6, .int 20), (5, .int 0), (4, .int 21), (3, .int 15), (2, .int 3), (0, .ref 0), (1, .ref 22)]) (stk' := []) (mem' := fm g tp bt a b) (fun _ _ _ => rfl) ?_
                        rw [show (fx_cb .ge 20 21) = false from by decide]
                        dsimp only [cond]
                        refine fe_s 1 (pc' := 77) (lc' := [(6, .int 20), (5, .int 0), (4, .int 21), (3, .int 15), (2, .int 3), (0, .ref 0), (1, .ref 22)]) (stk' := [.int 0]) (mem' := fm g tp bt a b) (fun _ _ _ => rfl) ?_
                        refine fe_s 1 (pc' := cond (fx_cb .eq 0 0) 115 80) (lc' := [(6, .int 20), (5, .int 0), (4, .int 21), (3, .int 15), (2, .int 3), (0, .ref 0), (1, .ref 22)]) (stk' := []) (mem' := fm g tp bt a b) (fun _ _ _ => rfl) ?_
                        rw [show (fx_cb .eq 0 0) = true from by decide]
                        dsimp only [cond]
                        refine fe_s 1 (pc' := 117) (lc' := [(6, .int 20), (5, .int 0), (4, .int 21), (3, .int 15), (2, .int 3), (0, .ref 0), (1, .ref 22)]) (stk' := [.int 0]) (mem' := fm g tp bt a b) (fun _ _ _ => rfl) ?_
                        refine fe_s 1 (pc' := cond (fx_cb .eq 0 0) 122 120) (lc' := [(6, .int 20), (5, .int 0), (4, .int 21), (3, .int 15), (2, .int 3), (0, .ref 0), (1, .ref 22)]) (stk' := []) (mem' := fm g tp bt a b) (fun _ _ _ => rfl) ?_
                        rw [show (fx_cb .eq 0 0) = true from by decide]
                        dsimp only [cond]
                        refine fe_s 6 (pc' := 14) (lc' := [(3, .int (21 + 1)), (2, .int (3 + 1)), (6, .int 20), (5, .int 0), (4, .int 21), (0, .ref 0), (1, .ref 22)]) (stk' := []) (mem' := fm g tp bt a b) (fun _ _ _ => rfl) ?_
                        rw [show (3 + 1 : Int32) = 4 from rfl]
                        rw [show (21 + 1 : Int32) = 22 from rfl]
                        refine fe_w (lc' := [(3, .int 22), (2, .int 4), (0, .ref 0), (1, .ref 22)]) ⟨rfl, rfl, rfl, rfl, trivial⟩ (by show List.Nodup [3, 2, 0, 1]; decide) (by show List.Nodup [3, 2, 6, 5, 4, 0, 1]; decide) ?_
                        exact fw_4 hxp
                  · rw [show (fx_cb .ne 105 (nI n14)) = true from cb_neT (a := 105) (b := n14) (by omega) (by omega) (by omega)]
                    dsimp only [cond]
                    refine fe_s 6 (pc' := 72) (lc' := [(6, .int (18 + 1)), (5, .int 0), (4, .int 21), (3, .int 15), (2, .int 3), (0, .ref 0), (1, .ref 22)]) (stk' := [.int 21, .int (18 + 1)]) (mem' := fm g tp bt a b) (fun _ _ _ => rfl) ?_
                    rw [show (18 + 1 : Int32) = 19 from rfl]
                    refine fe_s 1 (pc' := cond (fx_cb .ge 19 21) 115 75) (lc' := [(6, .int 19), (5, .int 0), (4, .int 21), (3, .int 15), (2, .int 3), (0, .ref 0), (1, .ref 22)]) (stk' := []) (mem' := fm g tp bt a b) (fun _ _ _ => rfl) ?_
                    rw [show (fx_cb .ge 19 21) = false from by decide]
                    dsimp only [cond]
                    refine fe_s 1 (pc' := 77) (lc' := [(6, .int 19), (5, .int 0), (4, .int 21), (3, .int 15), (2, .int 3), (0, .ref 0), (1, .ref 22)]) (stk' := [.int 0]) (mem' := fm g tp bt a b) (fun _ _ _ => rfl) ?_
                    refine fe_s 1 (pc' := cond (fx_cb .eq 0 0) 115 80) (lc' := [(6, .int 19), (5, .int 0), (4, .int 21), (3, .int 15), (2, .int 3), (0, .ref 0), (1, .ref 22)]) (stk' := []) (mem' := fm g tp bt a b) (fun _ _ _ => rfl) ?_
                    rw [show (fx_cb .eq 0 0) = true from by decide]
                    dsimp only [cond]
                    refine fe_s 1 (pc' := 117) (lc' := [(6, .int 19), (5, .int 0), (4, .int 21), (3, .int 15), (2, .int 3), (0, .ref 0), (1, .ref 22)]) (stk' := [.int 0]) (mem' := fm g tp bt a b) (fun _ _ _ => rfl) ?_
                    refine fe_s 1 (pc' := cond (fx_cb .eq 0 0) 122 120) (lc' := [(6, .int 19), (5, .int 0), (4, .int 21), (3, .int 15), (2, .int 3), (0, .ref 0), (1, .ref 22)]) (stk' := []) (mem' := fm g tp bt a b) (fun _ _ _ => rfl) ?_
                    rw [show (fx_cb .eq 0 0) = true from by decide]
                    dsimp only [cond]
                    refine fe_s 6 (pc' := 14) (lc' := [(3, .int (21 + 1)), (2, .int (3 + 1)), (6, .int 19), (5, .int 0), (4, .int 21), (0, .ref 0), (1, .ref 22)]) (stk' := []) (mem' := fm g tp bt a b) (fun _ _ _ => rfl) ?_
                    rw [show (3 + 1 : Int32) = 4 from rfl]
                    rw [show (21 + 1 : Int32) = 22 from rfl]
                    refine fe_w (lc' := [(3, .int 22), (2, .int 4), (0, .ref 0), (1, .ref 22)]) ⟨rfl, rfl, rfl, rfl, trivial⟩ (by show List.Nodup [3, 2, 0, 1]; decide) (by show List.Nodup [3, 2, 6, 5, 4, 0, 1]; decide) ?_
                    exact fw_4 hxp
              · rw [show (fx_cb .ne 115 (nI n10)) = true from cb_neT (a := 115) (b := n10) (by omega) (by omega) (by omega)]
                dsimp only [cond]
                refine fe_s 6 (pc' := 72) (lc' := [(6, .int (17 + 1)), (5, .int 0), (4, .int 21), (3, .int 15), (2, .int 3), (0, .ref 0), (1, .ref 22)]) (stk' := [.int 21, .int (17 + 1)]) (mem' := fm g tp bt a b) (fun _ _ _ => rfl) ?_
                rw [show (17 + 1 : Int32) = 18 from rfl]
                refine fe_s 1 (pc' := cond (fx_cb .ge 18 21) 115 75) (lc' := [(6, .int 18), (5, .int 0), (4, .int 21), (3, .int 15), (2, .int 3), (0, .ref 0), (1, .ref 22)]) (stk' := []) (mem' := fm g tp bt a b) (fun _ _ _ => rfl) ?_
                rw [show (fx_cb .ge 18 21) = false from by decide]
                dsimp only [cond]
                refine fe_s 1 (pc' := 77) (lc' := [(6, .int 18), (5, .int 0), (4, .int 21), (3, .int 15), (2, .int 3), (0, .ref 0), (1, .ref 22)]) (stk' := [.int 0]) (mem' := fm g tp bt a b) (fun _ _ _ => rfl) ?_
                refine fe_s 1 (pc' := cond (fx_cb .eq 0 0) 115 80) (lc' := [(6, .int 18), (5, .int 0), (4, .int 21), (3, .int 15), (2, .int 3), (0, .ref 0), (1, .ref 22)]) (stk' := []) (mem' := fm g tp bt a b) (fun _ _ _ => rfl) ?_
                rw [show (fx_cb .eq 0 0) = true from by decide]
                dsimp only [cond]
                refine fe_s 1 (pc' := 117) (lc' := [(6, .int 18), (5, .int 0), (4, .int 21), (3, .int 15), (2, .int 3), (0, .ref 0), (1, .ref 22)]) (stk' := [.int 0]) (mem' := fm g tp bt a b) (fun _ _ _ => rfl) ?_
                refine fe_s 1 (pc' := cond (fx_cb .eq 0 0) 122 120) (lc' := [(6, .int 18), (5, .int 0), (4, .int 21), (3, .int 15), (2, .int 3), (0, .ref 0), (1, .ref 22)]) (stk' := []) (mem' := fm g tp bt a b) (fun _ _ _ => rfl) ?_
                rw [show (fx_cb .eq 0 0) = true from by decide]
                dsimp only [cond]
                refine fe_s 6 (pc' := 14) (lc' := [(3, .int (21 + 1)), (2, .int (3 + 1)), (6, .int 18), (5, .int 0), (4, .int 21), (0, .ref 0), (1, .ref 22)]) (stk' := []) (mem' := fm g tp bt a b) (fun _ _ _ => rfl) ?_
                rw [show (3 + 1 : Int32) = 4 from rfl]
                rw [show (21 + 1 : Int32) = 22 from rfl]
                refine fe_w (lc' := [(3, .int 22), (2, .int 4), (0, .ref 0), (1, .ref 22)]) ⟨rfl, rfl, rfl, rfl, trivial⟩ (by show List.Nodup [3, 2, 0, 1]; decide) (by show List.Nodup [3, 2, 6, 5, 4, 0, 1]; decide) ?_
                exact fw_4 hxp
          · rw [show (fx_cb .ne 101 (nI n6)) = true from cb_neT (a := 101) (b := n6) (by omega) (by omega) (by omega)]
            dsimp only [cond]
            refine fe_s 6 (pc' := 72) (lc' := [(6, .int (16 + 1)), (5, .int 0), (4, .int 21), (3, .int 15), (2, .int 3), (0, .ref 0), (1, .ref 22)]) (stk' := [.int 21, .int (16 + 1)]) (mem' := fm g tp bt a b) (fun _ _ _ => rfl) ?_
            rw [show (16 + 1 : Int32) = 17 from rfl]
            refine fe_s 1 (pc' := cond (fx_cb .ge 17 21) 115 75) (lc' := [(6, .int 17), (5, .int 0), (4, .int 21), (3, .int 15), (2, .int 3), (0, .ref 0), (1, .ref 22)]) (stk' := []) (mem' := fm g tp bt a b) (fun _ _ _ => rfl) ?_
            rw [show (fx_cb .ge 17 21) = false from by decide]
            dsimp only [cond]
            refine fe_s 1 (pc' := 77) (lc' := [(6, .int 17), (5, .int 0), (4, .int 21), (3, .int 15), (2, .int 3), (0, .ref 0), (1, .ref 22)]) (stk' := [.int 0]) (mem' := fm g tp bt a b) (fun _ _ _ => rfl) ?_
            refine fe_s 1 (pc' := cond (fx_cb .eq 0 0) 115 80) (lc' := [(6, .int 17), (5, .int 0), (4, .int 21), (3, .int 15), (2, .int 3), (0, .ref 0), (1, .ref 22)]) (stk' := []) (mem' := fm g tp bt a b) (fun _ _ _ => rfl) ?_
            rw [show (fx_cb .eq 0 0) = true from by decide]
            dsimp only [cond]
            refine fe_s 1 (pc' := 117) (lc' := [(6, .int 17), (5, .int 0), (4, .int 21), (3, .int 15), (2, .int 3), (0, .ref 0), (1, .ref 22)]) (stk' := [.int 0]) (mem' := fm g tp bt a b) (fun _ _ _ => rfl) ?_
            refine fe_s 1 (pc' := cond (fx_cb .eq 0 0) 122 120) (lc' := [(6, .int 17), (5, .int 0), (4, .int 21), (3, .int 15), (2, .int 3), (0, .ref 0), (1, .ref 22)]) (stk' := []) (mem' := fm g tp bt a b) (fun _ _ _ => rfl) ?_
            rw [show (fx_cb .eq 0 0) = true from by decide]
            dsimp only [cond]
            refine fe_s 6 (pc' := 14) (lc' := [(3, .int (21 + 1)), (2, .int (3 + 1)), (6, .int 17), (5, .int 0), (4, .int 21), (0, .ref 0), (1, .ref 22)]) (stk' := []) (mem' := fm g tp bt a b) (fun _ _ _ => rfl) ?_
            rw [show (3 + 1 : Int32) = 4 from rfl]
            rw [show (21 + 1 : Int32) = 22 from rfl]
            refine fe_w (lc' := [(3, .int 22), (2, .int 4), (0, .ref 0), (1, .ref 22)]) ⟨rfl, rfl, rfl, rfl, trivial⟩ (by show List.Nodup [3, 2, 0, 1]; decide) (by show List.Nodup [3, 2, 6, 5, 4, 0, 1]; decide) ?_
            exact fw_4 hxp
      · rw [show (fx_cb .ne 98 (nI n2)) = true from cb_neT (a := 98) (b := n2) (by omega) (by omega) (by omega)]
        dsimp only [cond]
        refine fe_s 6 (pc' := 72) (lc' := [(6, .int (15 + 1)), (5, .int 0), (4, .int 21), (3, .int 15), (2, .int 3), (0, .ref 0), (1, .ref 22)]) (stk' := [.int 21, .int (15 + 1)]) (mem' := fm g tp bt a b) (fun _ _ _ => rfl) ?_
        rw [show (15 + 1 : Int32) = 16 from rfl]
        refine fe_s 1 (pc' := cond (fx_cb .ge 16 21) 115 75) (lc' := [(6, .int 16), (5, .int 0), (4, .int 21), (3, .int 15), (2, .int 3), (0, .ref 0), (1, .ref 22)]) (stk' := []) (mem' := fm g tp bt a b) (fun _ _ _ => rfl) ?_
        rw [show (fx_cb .ge 16 21) = false from by decide]
        dsimp only [cond]
        refine fe_s 1 (pc' := 77) (lc' := [(6, .int 16), (5, .int 0), (4, .int 21), (3, .int 15), (2, .int 3), (0, .ref 0), (1, .ref 22)]) (stk' := [.int 0]) (mem' := fm g tp bt a b) (fun _ _ _ => rfl) ?_
        refine fe_s 1 (pc' := cond (fx_cb .eq 0 0) 115 80) (lc' := [(6, .int 16), (5, .int 0), (4, .int 21), (3, .int 15), (2, .int 3), (0, .ref 0), (1, .ref 22)]) (stk' := []) (mem' := fm g tp bt a b) (fun _ _ _ => rfl) ?_
        rw [show (fx_cb .eq 0 0) = true from by decide]
        dsimp only [cond]
        refine fe_s 1 (pc' := 117) (lc' := [(6, .int 16), (5, .int 0), (4, .int 21), (3, .int 15), (2, .int 3), (0, .ref 0), (1, .ref 22)]) (stk' := [.int 0]) (mem' := fm g tp bt a b) (fun _ _ _ => rfl) ?_
        refine fe_s 1 (pc' := cond (fx_cb .eq 0 0) 122 120) (lc' := [(6, .int 16), (5, .int 0), (4, .int 21), (3, .int 15), (2, .int 3), (0, .ref 0), (1, .ref 22)]) (stk' := []) (mem' := fm g tp bt a b) (fun _ _ _ => rfl) ?_
        rw [show (fx_cb .eq 0 0) = true from by decide]
        dsimp only [cond]
        refine fe_s 6 (pc' := 14) (lc' := [(3, .int (21 + 1)), (2, .int (3 + 1)), (6, .int 16), (5, .int 0), (4, .int 21), (0, .ref 0), (1, .ref 22)]) (stk' := []) (mem' := fm g tp bt a b) (fun _ _ _ => rfl) ?_
        rw [show (3 + 1 : Int32) = 4 from rfl]
        rw [show (21 + 1 : Int32) = 22 from rfl]
        refine fe_w (lc' := [(3, .int 22), (2, .int 4), (0, .ref 0), (1, .ref 22)]) ⟨rfl, rfl, rfl, rfl, trivial⟩ (by show List.Nodup [3, 2, 0, 1]; decide) (by show List.Nodup [3, 2, 6, 5, 4, 0, 1]; decide) ?_
        exact fw_4 hxp
  · rw [show (fx_cb .ne 6 (nI (E - F))) = true from cb_neT (a := 6) (b := E - F) (by omega) (by omega) (by omega)]
    dsimp only [cond]
    refine fe_s 6 (pc' := 72) (lc' := [(6, .int 15), (5, .int 0), (4, .int 21), (3, .int 15), (2, .int 3), (0, .ref 0), (1, .ref 22)]) (stk' := [.int 21, .int 15]) (mem' := fm g tp bt a b) (fun _ _ _ => rfl) ?_
    refine fe_s 1 (pc' := cond (fx_cb .ge 15 21) 115 75) (lc' := [(6, .int 15), (5, .int 0), (4, .int 21), (3, .int 15), (2, .int 3), (0, .ref 0), (1, .ref 22)]) (stk' := []) (mem' := fm g tp bt a b) (fun _ _ _ => rfl) ?_
    rw [show (fx_cb .ge 15 21) = false from by decide]
    dsimp only [cond]
    refine fe_s 1 (pc' := 77) (lc' := [(6, .int 15), (5, .int 0), (4, .int 21), (3, .int 15), (2, .int 3), (0, .ref 0), (1, .ref 22)]) (stk' := [.int 0]) (mem' := fm g tp bt a b) (fun _ _ _ => rfl) ?_
    refine fe_s 1 (pc' := cond (fx_cb .eq 0 0) 115 80) (lc' := [(6, .int 15), (5, .int 0), (4, .int 21), (3, .int 15), (2, .int 3), (0, .ref 0), (1, .ref 22)]) (stk' := []) (mem' := fm g tp bt a b) (fun _ _ _ => rfl) ?_
    rw [show (fx_cb .eq 0 0) = true from by decide]
    dsimp only [cond]
    refine fe_s 1 (pc' := 117) (lc' := [(6, .int 15), (5, .int 0), (4, .int 21), (3, .int 15), (2, .int 3), (0, .ref 0), (1, .ref 22)]) (stk' := [.int 0]) (mem' := fm g tp bt a b) (fun _ _ _ => rfl) ?_
    refine fe_s 1 (pc' := cond (fx_cb .eq 0 0) 122 120) (lc' := [(6, .int 15), (5, .int 0), (4, .int 21), (3, .int 15), (2, .int 3), (0, .ref 0), (1, .ref 22)]) (stk' := []) (mem' := fm g tp bt a b) (fun _ _ _ => rfl) ?_
    rw [show (fx_cb .eq 0 0) = true from by decide]
    dsimp only [cond]
    refine fe_s 6 (pc' := 14) (lc' := [(3, .int (21 + 1)), (2, .int (3 + 1)), (6, .int 15), (5, .int 0), (4, .int 21), (0, .ref 0), (1, .ref 22)]) (stk' := []) (mem' := fm g tp bt a b) (fun _ _ _ => rfl) ?_
    rw [show (3 + 1 : Int32) = 4 from rfl]
    rw [show (21 + 1 : Int32) = 22 from rfl]
    refine fe_w (lc' := [(3, .int 22), (2, .int 4), (0, .ref 0), (1, .ref 22)]) ⟨rfl, rfl, rfl, rfl, trivial⟩ (by show List.Nodup [3, 2, 0, 1]; decide) (by show List.Nodup [3, 2, 6, 5, 4, 0, 1]; decide) ?_
    exact fw_4 hxp
theorem fw_2 {S E F : Nat} (hxp : fm_xp g S E F) : fe_R 1 gk_m226 14 [(3, .int 11), (2, .int 2), (0, .ref 0), (1, .ref 22)] [] (fm g tp bt a b) (fm_FI (fm g tp bt a b)) := by
  obtain ⟨h11, hS9, h14, hES, h13, hFE, -, -, -⟩ := id hxp
  refine fe_s 2 (pc' := 16) (lc' := [(3, .int 11), (2, .int 2), (0, .ref 0), (1, .ref 22)]) (stk' := [.ref 22, .int 11]) (mem' := fm g tp bt a b) (fun _ _ _ => rfl) ?_
  refine fe_s 1 (pc' := 19) (lc' := [(3, .int 11), (2, .int 2), (0, .ref 0), (1, .ref 22)]) (stk' := [.int 117, .int 11]) (mem' := fm g tp bt a b) (fun _ _ _ => rfl) ?_
  refine fe_s 1 (pc' := cond (fx_cb .ge 11 117) 133 22) (lc' := [(3, .int 11), (2, .int 2), (0, .ref 0), (1, .ref 22)]) (stk' := []) (mem' := fm g tp bt a b) (fun _ _ _ => rfl) ?_
  rw [show (fx_cb .ge 11 117) = false from by decide]
  dsimp only [cond]
  refine fe_s 4 (pc' := 28) (lc' := [(4, .int 11), (3, .int 11), (2, .int 2), (0, .ref 0), (1, .ref 22)]) (stk' := [.int 11, .ref 22]) (mem' := fm g tp bt a b) (fun _ _ _ => rfl) ?_
  refine fe_chr (i := 11) (by omega) (by rfl) (by rfl) ⟨by rfl, by rfl⟩ (by rfl) ?_
  rw [show sk_b.getD 11 0 = 119 from rfl]
  refine fe_s 1 (pc' := 33) (lc' := [(4, .int 11), (3, .int 11), (2, .int 2), (0, .ref 0), (1, .ref 22)]) (stk' := [.int 32, .int 119]) (mem' := fm g tp bt a b) (fun _ _ _ => rfl) ?_
  refine fe_s 1 (pc' := cond (fx_cb .eq 119 32) 42 36) (lc' := [(4, .int 11), (3, .int 11), (2, .int 2), (0, .ref 0), (1, .ref 22)]) (stk' := []) (mem' := fm g tp bt a b) (fun _ _ _ => rfl) ?_
  rw [show (fx_cb .eq 119 32) = false from by decide]
  dsimp only [cond]
  refine fe_s 4 (pc' := 28) (lc' := [(4, .int (11 + 1)), (3, .int 11), (2, .int 2), (0, .ref 0), (1, .ref 22)]) (stk' := [.int (11 + 1), .ref 22]) (mem' := fm g tp bt a b) (fun _ _ _ => rfl) ?_
  rw [show (11 + 1 : Int32) = 12 from rfl]
  refine fe_chr (i := 12) (by omega) (by rfl) (by rfl) ⟨by rfl, by rfl⟩ (by rfl) ?_
  rw [show sk_b.getD 12 0 = 97 from rfl]
  refine fe_s 1 (pc' := 33) (lc' := [(4, .int 12), (3, .int 11), (2, .int 2), (0, .ref 0), (1, .ref 22)]) (stk' := [.int 32, .int 97]) (mem' := fm g tp bt a b) (fun _ _ _ => rfl) ?_
  refine fe_s 1 (pc' := cond (fx_cb .eq 97 32) 42 36) (lc' := [(4, .int 12), (3, .int 11), (2, .int 2), (0, .ref 0), (1, .ref 22)]) (stk' := []) (mem' := fm g tp bt a b) (fun _ _ _ => rfl) ?_
  rw [show (fx_cb .eq 97 32) = false from by decide]
  dsimp only [cond]
  refine fe_s 4 (pc' := 28) (lc' := [(4, .int (12 + 1)), (3, .int 11), (2, .int 2), (0, .ref 0), (1, .ref 22)]) (stk' := [.int (12 + 1), .ref 22]) (mem' := fm g tp bt a b) (fun _ _ _ => rfl) ?_
  rw [show (12 + 1 : Int32) = 13 from rfl]
  refine fe_chr (i := 13) (by omega) (by rfl) (by rfl) ⟨by rfl, by rfl⟩ (by rfl) ?_
  rw [show sk_b.getD 13 0 = 121 from rfl]
  refine fe_s 1 (pc' := 33) (lc' := [(4, .int 13), (3, .int 11), (2, .int 2), (0, .ref 0), (1, .ref 22)]) (stk' := [.int 32, .int 121]) (mem' := fm g tp bt a b) (fun _ _ _ => rfl) ?_
  refine fe_s 1 (pc' := cond (fx_cb .eq 121 32) 42 36) (lc' := [(4, .int 13), (3, .int 11), (2, .int 2), (0, .ref 0), (1, .ref 22)]) (stk' := []) (mem' := fm g tp bt a b) (fun _ _ _ => rfl) ?_
  rw [show (fx_cb .eq 121 32) = false from by decide]
  dsimp only [cond]
  refine fe_s 4 (pc' := 28) (lc' := [(4, .int (13 + 1)), (3, .int 11), (2, .int 2), (0, .ref 0), (1, .ref 22)]) (stk' := [.int (13 + 1), .ref 22]) (mem' := fm g tp bt a b) (fun _ _ _ => rfl) ?_
  rw [show (13 + 1 : Int32) = 14 from rfl]
  refine fe_chr (i := 14) (by omega) (by rfl) (by rfl) ⟨by rfl, by rfl⟩ (by rfl) ?_
  rw [show sk_b.getD 14 0 = 32 from rfl]
  refine fe_s 1 (pc' := 33) (lc' := [(4, .int 14), (3, .int 11), (2, .int 2), (0, .ref 0), (1, .ref 22)]) (stk' := [.int 32, .int 32]) (mem' := fm g tp bt a b) (fun _ _ _ => rfl) ?_
  refine fe_s 1 (pc' := cond (fx_cb .eq 32 32) 42 36) (lc' := [(4, .int 14), (3, .int 11), (2, .int 2), (0, .ref 0), (1, .ref 22)]) (stk' := []) (mem' := fm g tp bt a b) (fun _ _ _ => rfl) ?_
  rw [show (fx_cb .eq 32 32) = true from by decide]
  dsimp only [cond]
  refine fe_s 8 (pc' := 55) (lc' := [(4, .int 14), (3, .int 11), (2, .int 2), (0, .ref 0), (1, .ref 22)]) (stk' := [.int ((g 14) - (g 13)), .int (14 - 11)]) (mem' := fm g tp bt a b) (fun _ _ _ => rfl) ?_
  try rw [h14]
  try rw [h13]
  rw [show (14 - 11 : Int32) = 3 from rfl]
  rw [show ((nI E) - (nI F) : Int32) = nI (E - F) from by simp only [tg_sub2 (x := E) (y := F) (by omega), nI_add, fm_mul]]
  refine fe_s 1 (pc' := cond (fx_cb .ne 3 (nI (E - F))) 62 58) (lc' := [(4, .int 14), (3, .int 11), (2, .int 2), (0, .ref 0), (1, .ref 22)]) (stk' := []) (mem' := fm g tp bt a b) (fun _ _ _ => rfl) ?_
  by_cases h1 : 3 = (E - F)
  · rw [show (fx_cb .ne 3 (nI (E - F))) = false from cb_neF (a := 3) (b := E - F) (by omega) (by omega) (by omega)]
    dsimp only [cond]
    refine fe_s 7 (pc' := 72) (lc' := [(6, .int 11), (5, .int 1), (4, .int 14), (3, .int 11), (2, .int 2), (0, .ref 0), (1, .ref 22)]) (stk' := [.int 14, .int 11]) (mem' := fm g tp bt a b) (fun _ _ _ => rfl) ?_
    refine fe_s 1 (pc' := cond (fx_cb .ge 11 14) 115 75) (lc' := [(6, .int 11), (5, .int 1), (4, .int 14), (3, .int 11), (2, .int 2), (0, .ref 0), (1, .ref 22)]) (stk' := []) (mem' := fm g tp bt a b) (fun _ _ _ => rfl) ?_
    rw [show (fx_cb .ge 11 14) = false from by decide]
    dsimp only [cond]
    refine fe_s 1 (pc' := 77) (lc' := [(6, .int 11), (5, .int 1), (4, .int 14), (3, .int 11), (2, .int 2), (0, .ref 0), (1, .ref 22)]) (stk' := [.int 1]) (mem' := fm g tp bt a b) (fun _ _ _ => rfl) ?_
    refine fe_s 1 (pc' := cond (fx_cb .eq 1 0) 115 80) (lc' := [(6, .int 11), (5, .int 1), (4, .int 14), (3, .int 11), (2, .int 2), (0, .ref 0), (1, .ref 22)]) (stk' := []) (mem' := fm g tp bt a b) (fun _ _ _ => rfl) ?_
    rw [show (fx_cb .eq 1 0) = false from by decide]
    dsimp only [cond]
    refine fe_s 2 (pc' := 83) (lc' := [(6, .int 11), (5, .int 1), (4, .int 14), (3, .int 11), (2, .int 2), (0, .ref 0), (1, .ref 22)]) (stk' := [.int 11, .ref 22]) (mem' := fm g tp bt a b) (fun _ _ _ => rfl) ?_
    refine fe_chr (i := 11) (by omega) (by rfl) (by rfl) ⟨by rfl, by rfl⟩ (by rfl) ?_
    rw [show sk_b.getD 11 0 = 119 from rfl]
    refine fe_s 7 (pc' := 96) (lc' := [(6, .int 11), (5, .int 1), (4, .int 14), (3, .int 11), (2, .int 2), (0, .ref 0), (1, .ref 22)]) (stk' := [.int (((g 13) + 11) - 11), .ref 0, .int 119]) (mem' := fm g tp bt a b) (fun _ _ _ => rfl) ?_
    try rw [h13]
    rw [show (((nI F) + 11) - 11 : Int32) = nI ((F + 11) - 11) from by simp only [show (11 : Int32) = nI 11 from rfl, tg_sub2 (x := F + 11) (y := 11) (by omega), nI_add, fm_mul]]
    refine fe_ivV (fr_byteAt (S := S) (k := (F + 11) - 11) (g := g) (tp := tp) (bt := bt) (a := a) (b := b) h11 (by omega) (by omega)) (by omega) (by rfl) (by rfl) (by rfl) (by rfl) (by rfl) (by rfl) ?_
    rcases fm_byte_or a S ((F + 11) - 11) with ⟨e3, q4⟩ | ⟨q4, n2, qn2, e3⟩
    · rw [e3]
      refine fe_s 1 (pc' := cond (fx_cb .ne 119 (-1)) 106 102) (lc' := [(6, .int 11), (5, .int 1), (4, .int 14), (3, .int 11), (2, .int 2), (0, .ref 0), (1, .ref 22)]) (stk' := []) (mem' := fm g tp bt a b) (fun _ _ _ => rfl) ?_
      rw [show (fx_cb .ne 119 (-1)) = true from by decide]
      dsimp only [cond]
      refine fe_s 6 (pc' := 72) (lc' := [(6, .int (11 + 1)), (5, .int 0), (4, .int 14), (3, .int 11), (2, .int 2), (0, .ref 0), (1, .ref 22)]) (stk' := [.int 14, .int (11 + 1)]) (mem' := fm g tp bt a b) (fun _ _ _ => rfl) ?_
      rw [show (11 + 1 : Int32) = 12 from rfl]
      refine fe_s 1 (pc' := cond (fx_cb .ge 12 14) 115 75) (lc' := [(6, .int 12), (5, .int 0), (4, .int 14), (3, .int 11), (2, .int 2), (0, .ref 0), (1, .ref 22)]) (stk' := []) (mem' := fm g tp bt a b) (fun _ _ _ => rfl) ?_
      rw [show (fx_cb .ge 12 14) = false from by decide]
      dsimp only [cond]
      refine fe_s 1 (pc' := 77) (lc' := [(6, .int 12), (5, .int 0), (4, .int 14), (3, .int 11), (2, .int 2), (0, .ref 0), (1, .ref 22)]) (stk' := [.int 0]) (mem' := fm g tp bt a b) (fun _ _ _ => rfl) ?_
      refine fe_s 1 (pc' := cond (fx_cb .eq 0 0) 115 80) (lc' := [(6, .int 12), (5, .int 0), (4, .int 14), (3, .int 11), (2, .int 2), (0, .ref 0), (1, .ref 22)]) (stk' := []) (mem' := fm g tp bt a b) (fun _ _ _ => rfl) ?_
      rw [show (fx_cb .eq 0 0) = true from by decide]
      dsimp only [cond]
      refine fe_s 1 (pc' := 117) (lc' := [(6, .int 12), (5, .int 0), (4, .int 14), (3, .int 11), (2, .int 2), (0, .ref 0), (1, .ref 22)]) (stk' := [.int 0]) (mem' := fm g tp bt a b) (fun _ _ _ => rfl) ?_
      refine fe_s 1 (pc' := cond (fx_cb .eq 0 0) 122 120) (lc' := [(6, .int 12), (5, .int 0), (4, .int 14), (3, .int 11), (2, .int 2), (0, .ref 0), (1, .ref 22)]) (stk' := []) (mem' := fm g tp bt a b) (fun _ _ _ => rfl) ?_
      rw [show (fx_cb .eq 0 0) = true from by decide]
      dsimp only [cond]
      refine fe_s 6 (pc' := 14) (lc' := [(3, .int (14 + 1)), (2, .int (2 + 1)), (6, .int 12), (5, .int 0), (4, .int 14), (0, .ref 0), (1, .ref 22)]) (stk' := []) (mem' := fm g tp bt a b) (fun _ _ _ => rfl) ?_
      rw [show (2 + 1 : Int32) = 3 from rfl]
      rw [show (14 + 1 : Int32) = 15 from rfl]
      refine fe_w (lc' := [(3, .int 15), (2, .int 3), (0, .ref 0), (1, .ref 22)]) ⟨rfl, rfl, rfl, rfl, trivial⟩ (by show List.Nodup [3, 2, 0, 1]; decide) (by show List.Nodup [3, 2, 6, 5, 4, 0, 1]; decide) ?_
      exact fw_3 hxp
    · rw [e3]
      refine fe_s 1 (pc' := cond (fx_cb .ne 119 (nI n2)) 106 102) (lc' := [(6, .int 11), (5, .int 1), (4, .int 14), (3, .int 11), (2, .int 2), (0, .ref 0), (1, .ref 22)]) (stk' := []) (mem' := fm g tp bt a b) (fun _ _ _ => rfl) ?_
      by_cases h5 : 119 = n2
      · rw [show (fx_cb .ne 119 (nI n2)) = false from cb_neF (a := 119) (b := n2) (by omega) (by omega) (by omega)]
        dsimp only [cond]
        refine fe_s 7 (pc' := 72) (lc' := [(6, .int (11 + 1)), (5, .int 1), (4, .int 14), (3, .int 11), (2, .int 2), (0, .ref 0), (1, .ref 22)]) (stk' := [.int 14, .int (11 + 1)]) (mem' := fm g tp bt a b) (fun _ _ _ => rfl) ?_
        rw [show (11 + 1 : Int32) = 12 from rfl]
        refine fe_s 1 (pc' := cond (fx_cb .ge 12 14) 115 75) (lc' := [(6, .int 12), (5, .int 1), (4, .int 14), (3, .int 11), (2, .int 2), (0, .ref 0), (1, .ref 22)]) (stk' := []) (mem' := fm g tp bt a b) (fun _ _ _ => rfl) ?_
        rw [show (fx_cb .ge 12 14) = false from by decide]
        dsimp only [cond]
        refine fe_s 1 (pc' := 77) (lc' := [(6, .int 12), (5, .int 1), (4, .int 14), (3, .int 11), (2, .int 2), (0, .ref 0), (1, .ref 22)]) (stk' := [.int 1]) (mem' := fm g tp bt a b) (fun _ _ _ => rfl) ?_
        refine fe_s 1 (pc' := cond (fx_cb .eq 1 0) 115 80) (lc' := [(6, .int 12), (5, .int 1), (4, .int 14), (3, .int 11), (2, .int 2), (0, .ref 0), (1, .ref 22)]) (stk' := []) (mem' := fm g tp bt a b) (fun _ _ _ => rfl) ?_
        rw [show (fx_cb .eq 1 0) = false from by decide]
        dsimp only [cond]
        refine fe_s 2 (pc' := 83) (lc' := [(6, .int 12), (5, .int 1), (4, .int 14), (3, .int 11), (2, .int 2), (0, .ref 0), (1, .ref 22)]) (stk' := [.int 12, .ref 22]) (mem' := fm g tp bt a b) (fun _ _ _ => rfl) ?_
        refine fe_chr (i := 12) (by omega) (by rfl) (by rfl) ⟨by rfl, by rfl⟩ (by rfl) ?_
        rw [show sk_b.getD 12 0 = 97 from rfl]
        refine fe_s 7 (pc' := 96) (lc' := [(6, .int 12), (5, .int 1), (4, .int 14), (3, .int 11), (2, .int 2), (0, .ref 0), (1, .ref 22)]) (stk' := [.int (((g 13) + 12) - 11), .ref 0, .int 97]) (mem' := fm g tp bt a b) (fun _ _ _ => rfl) ?_
        try rw [h13]
        rw [show (((nI F) + 12) - 11 : Int32) = nI ((F + 12) - 11) from by simp only [show (12 : Int32) = nI 12 from rfl, show (11 : Int32) = nI 11 from rfl, tg_sub2 (x := F + 12) (y := 11) (by omega), nI_add, fm_mul]]
        refine fe_ivV (fr_byteAt (S := S) (k := (F + 12) - 11) (g := g) (tp := tp) (bt := bt) (a := a) (b := b) h11 (by omega) (by omega)) (by omega) (by rfl) (by rfl) (by rfl) (by rfl) (by rfl) (by rfl) ?_
        rcases fm_byte_or a S ((F + 12) - 11) with ⟨e7, q8⟩ | ⟨q8, n6, qn6, e7⟩
        · rw [e7]
          refine fe_s 1 (pc' := cond (fx_cb .ne 97 (-1)) 106 102) (lc' := [(6, .int 12), (5, .int 1), (4, .int 14), (3, .int 11), (2, .int 2), (0, .ref 0), (1, .ref 22)]) (stk' := []) (mem' := fm g tp bt a b) (fun _ _ _ => rfl) ?_
          rw [show (fx_cb .ne 97 (-1)) = true from by decide]
          dsimp only [cond]
          refine fe_s 6 (pc' := 72) (lc' := [(6, .int (12 + 1)), (5, .int 0), (4, .int 14), (3, .int 11), (2, .int 2), (0, .ref 0), (1, .ref 22)]) (stk' := [.int 14, .int (12 + 1)]) (mem' := fm g tp bt a b) (fun _ _ _ => rfl) ?_
          rw [show (12 + 1 : Int32) = 13 from rfl]
          refine fe_s 1 (pc' := cond (fx_cb .ge 13 14) 115 75) (lc' := [(6, .int 13), (5, .int 0), (4, .int 14), (3, .int 11), (2, .int 2), (0, .ref 0), (1, .ref 22)]) (stk' := []) (mem' := fm g tp bt a b) (fun _ _ _ => rfl) ?_
          rw [show (fx_cb .ge 13 14) = false from by decide]
          dsimp only [cond]
          refine fe_s 1 (pc' := 77) (lc' := [(6, .int 13), (5, .int 0), (4, .int 14), (3, .int 11), (2, .int 2), (0, .ref 0), (1, .ref 22)]) (stk' := [.int 0]) (mem' := fm g tp bt a b) (fun _ _ _ => rfl) ?_
          refine fe_s 1 (pc' := cond (fx_cb .eq 0 0) 115 80) (lc' := [(6, .int 13), (5, .int 0), (4, .int 14), (3, .int 11), (2, .int 2), (0, .ref 0), (1, .ref 22)]) (stk' := []) (mem' := fm g tp bt a b) (fun _ _ _ => rfl) ?_
          rw [show (fx_cb .eq 0 0) = true from by decide]
          dsimp only [cond]
          refine fe_s 1 (pc' := 117) (lc' := [(6, .int 13), (5, .int 0), (4, .int 14), (3, .int 11), (2, .int 2), (0, .ref 0), (1, .ref 22)]) (stk' := [.int 0]) (mem' := fm g tp bt a b) (fun _ _ _ => rfl) ?_
          refine fe_s 1 (pc' := cond (fx_cb .eq 0 0) 122 120) (lc' := [(6, .int 13), (5, .int 0), (4, .int 14), (3, .int 11), (2, .int 2), (0, .ref 0), (1, .ref 22)]) (stk' := []) (mem' := fm g tp bt a b) (fun _ _ _ => rfl) ?_
          rw [show (fx_cb .eq 0 0) = true from by decide]
          dsimp only [cond]
          refine fe_s 6 (pc' := 14) (lc' := [(3, .int (14 + 1)), (2, .int (2 + 1)), (6, .int 13), (5, .int 0), (4, .int 14), (0, .ref 0), (1, .ref 22)]) (stk' := []) (mem' := fm g tp bt a b) (fun _ _ _ => rfl) ?_
          rw [show (2 + 1 : Int32) = 3 from rfl]
          rw [show (14 + 1 : Int32) = 15 from rfl]
          refine fe_w (lc' := [(3, .int 15), (2, .int 3), (0, .ref 0), (1, .ref 22)]) ⟨rfl, rfl, rfl, rfl, trivial⟩ (by show List.Nodup [3, 2, 0, 1]; decide) (by show List.Nodup [3, 2, 6, 5, 4, 0, 1]; decide) ?_
          exact fw_3 hxp
        · rw [e7]
          refine fe_s 1 (pc' := cond (fx_cb .ne 97 (nI n6)) 106 102) (lc' := [(6, .int 12), (5, .int 1), (4, .int 14), (3, .int 11), (2, .int 2), (0, .ref 0), (1, .ref 22)]) (stk' := []) (mem' := fm g tp bt a b) (fun _ _ _ => rfl) ?_
          by_cases h9 : 97 = n6
          · rw [show (fx_cb .ne 97 (nI n6)) = false from cb_neF (a := 97) (b := n6) (by omega) (by omega) (by omega)]
            dsimp only [cond]
            refine fe_s 7 (pc' := 72) (lc' := [(6, .int (12 + 1)), (5, .int 1), (4, .int 14), (3, .int 11), (2, .int 2), (0, .ref 0), (1, .ref 22)]) (stk' := [.int 14, .int (12 + 1)]) (mem' := fm g tp bt a b) (fun _ _ _ => rfl) ?_
            rw [show (12 + 1 : Int32) = 13 from rfl]
            refine fe_s 1 (pc' := cond (fx_cb .ge 13 14) 115 75) (lc' := [(6, .int 13), (5, .int 1), (4, .int 14), (3, .int 11), (2, .int 2), (0, .ref 0), (1, .ref 22)]) (stk' := []) (mem' := fm g tp bt a b) (fun _ _ _ => rfl) ?_
            rw [show (fx_cb .ge 13 14) = false from by decide]
            dsimp only [cond]
            refine fe_s 1 (pc' := 77) (lc' := [(6, .int 13), (5, .int 1), (4, .int 14), (3, .int 11), (2, .int 2), (0, .ref 0), (1, .ref 22)]) (stk' := [.int 1]) (mem' := fm g tp bt a b) (fun _ _ _ => rfl) ?_
            refine fe_s 1 (pc' := cond (fx_cb .eq 1 0) 115 80) (lc' := [(6, .int 13), (5, .int 1), (4, .int 14), (3, .int 11), (2, .int 2), (0, .ref 0), (1, .ref 22)]) (stk' := []) (mem' := fm g tp bt a b) (fun _ _ _ => rfl) ?_
            rw [show (fx_cb .eq 1 0) = false from by decide]
            dsimp only [cond]
            refine fe_s 2 (pc' := 83) (lc' := [(6, .int 13), (5, .int 1), (4, .int 14), (3, .int 11), (2, .int 2), (0, .ref 0), (1, .ref 22)]) (stk' := [.int 13, .ref 22]) (mem' := fm g tp bt a b) (fun _ _ _ => rfl) ?_
            refine fe_chr (i := 13) (by omega) (by rfl) (by rfl) ⟨by rfl, by rfl⟩ (by rfl) ?_
            rw [show sk_b.getD 13 0 = 121 from rfl]
            refine fe_s 7 (pc' := 96) (lc' := [(6, .int 13), (5, .int 1), (4, .int 14), (3, .int 11), (2, .int 2), (0, .ref 0), (1, .ref 22)]) (stk' := [.int (((g 13) + 13) - 11), .ref 0, .int 121]) (mem' := fm g tp bt a b) (fun _ _ _ => rfl) ?_
            try rw [h13]
            rw [show (((nI F) + 13) - 11 : Int32) = nI ((F + 13) - 11) from by simp only [show (13 : Int32) = nI 13 from rfl, show (11 : Int32) = nI 11 from rfl, tg_sub2 (x := F + 13) (y := 11) (by omega), nI_add, fm_mul]]
            refine fe_ivV (fr_byteAt (S := S) (k := (F + 13) - 11) (g := g) (tp := tp) (bt := bt) (a := a) (b := b) h11 (by omega) (by omega)) (by omega) (by rfl) (by rfl) (by rfl) (by rfl) (by rfl) (by rfl) ?_
            rcases fm_byte_or a S ((F + 13) - 11) with ⟨e11, q12⟩ | ⟨q12, n10, qn10, e11⟩
            · rw [e11]
              refine fe_s 1 (pc' := cond (fx_cb .ne 121 (-1)) 106 102) (lc' := [(6, .int 13), (5, .int 1), (4, .int 14), (3, .int 11), (2, .int 2), (0, .ref 0), (1, .ref 22)]) (stk' := []) (mem' := fm g tp bt a b) (fun _ _ _ => rfl) ?_
              rw [show (fx_cb .ne 121 (-1)) = true from by decide]
              dsimp only [cond]
              refine fe_s 6 (pc' := 72) (lc' := [(6, .int (13 + 1)), (5, .int 0), (4, .int 14), (3, .int 11), (2, .int 2), (0, .ref 0), (1, .ref 22)]) (stk' := [.int 14, .int (13 + 1)]) (mem' := fm g tp bt a b) (fun _ _ _ => rfl) ?_
              rw [show (13 + 1 : Int32) = 14 from rfl]
              refine fe_s 1 (pc' := cond (fx_cb .ge 14 14) 115 75) (lc' := [(6, .int 14), (5, .int 0), (4, .int 14), (3, .int 11), (2, .int 2), (0, .ref 0), (1, .ref 22)]) (stk' := []) (mem' := fm g tp bt a b) (fun _ _ _ => rfl) ?_
              rw [show (fx_cb .ge 14 14) = true from by decide]
              dsimp only [cond]
              refine fe_s 1 (pc' := 117) (lc' := [(6, .int 14), (5, .int 0), (4, .int 14), (3, .int 11), (2, .int 2), (0, .ref 0), (1, .ref 22)]) (stk' := [.int 0]) (mem' := fm g tp bt a b) (fun _ _ _ => rfl) ?_
              refine fe_s 1 (pc' := cond (fx_cb .eq 0 0) 122 120) (lc' := [(6, .int 14), (5, .int 0), (4, .int 14), (3, .int 11), (2, .int 2), (0, .ref 0), (1, .ref 22)]) (stk' := []) (mem' := fm g tp bt a b) (fun _ _ _ => rfl) ?_
              rw [show (fx_cb .eq 0 0) = true from by decide]
              dsimp only [cond]
              refine fe_s 6 (pc' := 14) (lc' := [(3, .int (14 + 1)), (2, .int (2 + 1)), (6, .int 14), (5, .int 0), (4, .int 14), (0, .ref 0), (1, .ref 22)]) (stk' := []) (mem' := fm g tp bt a b) (fun _ _ _ => rfl) ?_
              rw [show (2 + 1 : Int32) = 3 from rfl]
              rw [show (14 + 1 : Int32) = 15 from rfl]
              refine fe_w (lc' := [(3, .int 15), (2, .int 3), (0, .ref 0), (1, .ref 22)]) ⟨rfl, rfl, rfl, rfl, trivial⟩ (by show List.Nodup [3, 2, 0, 1]; decide) (by show List.Nodup [3, 2, 6, 5, 4, 0, 1]; decide) ?_
              exact fw_3 hxp
            · rw [e11]
              refine fe_s 1 (pc' := cond (fx_cb .ne 121 (nI n10)) 106 102) (lc' := [(6, .int 13), (5, .int 1), (4, .int 14), (3, .int 11), (2, .int 2), (0, .ref 0), (1, .ref 22)]) (stk' := []) (mem' := fm g tp bt a b) (fun _ _ _ => rfl) ?_
              by_cases h13 : 121 = n10
              · rw [show (fx_cb .ne 121 (nI n10)) = false from cb_neF (a := 121) (b := n10) (by omega) (by omega) (by omega)]
                dsimp only [cond]
                refine fe_s 7 (pc' := 72) (lc' := [(6, .int (13 + 1)), (5, .int 1), (4, .int 14), (3, .int 11), (2, .int 2), (0, .ref 0), (1, .ref 22)]) (stk' := [.int 14, .int (13 + 1)]) (mem' := fm g tp bt a b) (fun _ _ _ => rfl) ?_
                rw [show (13 + 1 : Int32) = 14 from rfl]
                refine fe_s 1 (pc' := cond (fx_cb .ge 14 14) 115 75) (lc' := [(6, .int 14), (5, .int 1), (4, .int 14), (3, .int 11), (2, .int 2), (0, .ref 0), (1, .ref 22)]) (stk' := []) (mem' := fm g tp bt a b) (fun _ _ _ => rfl) ?_
                rw [show (fx_cb .ge 14 14) = true from by decide]
                dsimp only [cond]
                refine fe_s 1 (pc' := 117) (lc' := [(6, .int 14), (5, .int 1), (4, .int 14), (3, .int 11), (2, .int 2), (0, .ref 0), (1, .ref 22)]) (stk' := [.int 1]) (mem' := fm g tp bt a b) (fun _ _ _ => rfl) ?_
                refine fe_s 1 (pc' := cond (fx_cb .eq 1 0) 122 120) (lc' := [(6, .int 14), (5, .int 1), (4, .int 14), (3, .int 11), (2, .int 2), (0, .ref 0), (1, .ref 22)]) (stk' := []) (mem' := fm g tp bt a b) (fun _ _ _ => rfl) ?_
                rw [show (fx_cb .eq 1 0) = false from by decide]
                dsimp only [cond]
                refine fe_s 1 (pc' := 121) (lc' := [(6, .int 14), (5, .int 1), (4, .int 14), (3, .int 11), (2, .int 2), (0, .ref 0), (1, .ref 22)]) (stk' := [.int 2]) (mem' := fm g tp bt a b) (fun _ _ _ => rfl) ?_
                exact fe_ret ⟨_, Or.inr ⟨2, by omega, rfl⟩, rfl⟩ (by rfl) (by rfl) (by rfl)
              · rw [show (fx_cb .ne 121 (nI n10)) = true from cb_neT (a := 121) (b := n10) (by omega) (by omega) (by omega)]
                dsimp only [cond]
                refine fe_s 6 (pc' := 72) (lc' := [(6, .int (13 + 1)), (5, .int 0), (4, .int 14), (3, .int 11), (2, .int 2), (0, .ref 0), (1, .ref 22)]) (stk' := [.int 14, .int (13 + 1)]) (mem' := fm g tp bt a b) (fun _ _ _ => rfl) ?_
                rw [show (13 + 1 : Int32) = 14 from rfl]
                refine fe_s 1 (pc' := cond (fx_cb .ge 14 14) 115 75) (lc' := [(6, .int 14), (5, .int 0), (4, .int 14), (3, .int 11), (2, .int 2), (0, .ref 0), (1, .ref 22)]) (stk' := []) (mem' := fm g tp bt a b) (fun _ _ _ => rfl) ?_
                rw [show (fx_cb .ge 14 14) = true from by decide]
                dsimp only [cond]
                refine fe_s 1 (pc' := 117) (lc' := [(6, .int 14), (5, .int 0), (4, .int 14), (3, .int 11), (2, .int 2), (0, .ref 0), (1, .ref 22)]) (stk' := [.int 0]) (mem' := fm g tp bt a b) (fun _ _ _ => rfl) ?_
                refine fe_s 1 (pc' := cond (fx_cb .eq 0 0) 122 120) (lc' := [(6, .int 14), (5, .int 0), (4, .int 14), (3, .int 11), (2, .int 2), (0, .ref 0), (1, .ref 22)]) (stk' := []) (mem' := fm g tp bt a b) (fun _ _ _ => rfl) ?_
                rw [show (fx_cb .eq 0 0) = true from by decide]
                dsimp only [cond]
                refine fe_s 6 (pc' := 14) (lc' := [(3, .int (14 + 1)), (2, .int (2 + 1)), (6, .int 14), (5, .int 0), (4, .int 14), (0, .ref 0), (1, .ref 22)]) (stk' := []) (mem' := fm g tp bt a b) (fun _ _ _ => rfl) ?_
                rw [show (2 + 1 : Int32) = 3 from rfl]
                rw [show (14 + 1 : Int32) = 15 from rfl]
                refine fe_w (lc' := [(3, .int 15), (2, .int 3), (0, .ref 0), (1, .ref 22)]) ⟨rfl, rfl, rfl, rfl, trivial⟩ (by show List.Nodup [3, 2, 0, 1]; decide) (by show List.Nodup [3, 2, 6, 5, 4, 0, 1]; decide) ?_
                exact fw_3 hxp
          · rw [show (fx_cb .ne 97 (nI n6)) = true from cb_neT (a := 97) (b := n6) (by omega) (by omega) (by omega)]
            dsimp only [cond]
            refine fe_s 6 (pc' := 72) (lc' := [(6, .int (12 + 1)), (5, .int 0), (4, .int 14), (3, .int 11), (2, .int 2), (0, .ref 0), (1, .ref 22)]) (stk' := [.int 14, .int (12 + 1)]) (mem' := fm g tp bt a b) (fun _ _ _ => rfl) ?_
            rw [show (12 + 1 : Int32) = 13 from rfl]
            refine fe_s 1 (pc' := cond (fx_cb .ge 13 14) 115 75) (lc' := [(6, .int 13), (5, .int 0), (4, .int 14), (3, .int 11), (2, .int 2), (0, .ref 0), (1, .ref 22)]) (stk' := []) (mem' := fm g tp bt a b) (fun _ _ _ => rfl) ?_
            rw [show (fx_cb .ge 13 14) = false from by decide]
            dsimp only [cond]
            refine fe_s 1 (pc' := 77) (lc' := [(6, .int 13), (5, .int 0), (4, .int 14), (3, .int 11), (2, .int 2), (0, .ref 0), (1, .ref 22)]) (stk' := [.int 0]) (mem' := fm g tp bt a b) (fun _ _ _ => rfl) ?_
            refine fe_s 1 (pc' := cond (fx_cb .eq 0 0) 115 80) (lc' := [(6, .int 13), (5, .int 0), (4, .int 14), (3, .int 11), (2, .int 2), (0, .ref 0), (1, .ref 22)]) (stk' := []) (mem' := fm g tp bt a b) (fun _ _ _ => rfl) ?_
            rw [show (fx_cb .eq 0 0) = true from by decide]
            dsimp only [cond]
            refine fe_s 1 (pc' := 117) (lc' := [(6, .int 13), (5, .int 0), (4, .int 14), (3, .int 11), (2, .int 2), (0, .ref 0), (1, .ref 22)]) (stk' := [.int 0]) (mem' := fm g tp bt a b) (fun _ _ _ => rfl) ?_
            refine fe_s 1 (pc' := cond (fx_cb .eq 0 0) 122 120) (lc' := [(6, .int 13), (5, .int 0), (4, .int 14), (3, .int 11), (2, .int 2), (0, .ref 0), (1, .ref 22)]) (stk' := []) (mem' := fm g tp bt a b) (fun _ _ _ => rfl) ?_
            rw [show (fx_cb .eq 0 0) = true from by decide]
            dsimp only [cond]
            refine fe_s 6 (pc' := 14) (lc' := [(3, .int (14 + 1)), (2, .int (2 + 1)), (6, .int 13), (5, .int 0), (4, .int 14), (0, .ref 0), (1, .ref 22)]) (stk' := []) (mem' := fm g tp bt a b) (fun _ _ _ => rfl) ?_
            rw [show (2 + 1 : Int32) = 3 from rfl]
            rw [show (14 + 1 : Int32) = 15 from rfl]
            refine fe_w (lc' := [(3, .int 15), (2, .int 3), (0, .ref 0), (1, .ref 22)]) ⟨rfl, rfl, rfl, rfl, trivial⟩ (by show List.Nodup [3, 2, 0, 1]; decide) (by show List.Nodup [3, 2, 6, 5, 4, 0, 1]; decide) ?_
            exact fw_3 hxp
      · rw [show (fx_cb .ne 119 (nI n2)) = true from cb_neT (a := 119) (b := n2) (by omega) (by omega) (by omega)]
        dsimp only [cond]
        refine fe_s 6 (pc' := 72) (lc' := [(6, .int (11 + 1)), (5, .int 0), (4, .int 14), (3, .int 11), (2, .int 2), (0, .ref 0), (1, .ref 22)]) (stk' := [.int 14, .int (11 + 1)]) (mem' := fm g tp bt a b) (fun _ _ _ => rfl) ?_
        rw [show (11 + 1 : Int32) = 12 from rfl]
        refine fe_s 1 (pc' := cond (fx_cb .ge 12 14) 115 75) (lc' := [(6, .int 12), (5, .int 0), (4, .int 14), (3, .int 11), (2, .int 2), (0, .ref 0), (1, .ref 22)]) (stk' := []) (mem' := fm g tp bt a b) (fun _ _ _ => rfl) ?_
        rw [show (fx_cb .ge 12 14) = false from by decide]
        dsimp only [cond]
        refine fe_s 1 (pc' := 77) (lc' := [(6, .int 12), (5, .int 0), (4, .int 14), (3, .int 11), (2, .int 2), (0, .ref 0), (1, .ref 22)]) (stk' := [.int 0]) (mem' := fm g tp bt a b) (fun _ _ _ => rfl) ?_
        refine fe_s 1 (pc' := cond (fx_cb .eq 0 0) 115 80) (lc' := [(6, .int 12), (5, .int 0), (4, .int 14), (3, .int 11), (2, .int 2), (0, .ref 0), (1, .ref 22)]) (stk' := []) (mem' := fm g tp bt a b) (fun _ _ _ => rfl) ?_
        rw [show (fx_cb .eq 0 0) = true from by decide]
        dsimp only [cond]
        refine fe_s 1 (pc' := 117) (lc' := [(6, .int 12), (5, .int 0), (4, .int 14), (3, .int 11), (2, .int 2), (0, .ref 0), (1, .ref 22)]) (stk' := [.int 0]) (mem' := fm g tp bt a b) (fun _ _ _ => rfl) ?_
        refine fe_s 1 (pc' := cond (fx_cb .eq 0 0) 122 120) (lc' := [(6, .int 12), (5, .int 0), (4, .int 14), (3, .int 11), (2, .int 2), (0, .ref 0), (1, .ref 22)]) (stk' := []) (mem' := fm g tp bt a b) (fun _ _ _ => rfl) ?_
        rw [show (fx_cb .eq 0 0) = true from by decide]
        dsimp only [cond]
        refine fe_s 6 (pc' := 14) (lc' := [(3, .int (14 + 1)), (2, .int (2 + 1)), (6, .int 12), (5, .int 0), (4, .int 14), (0, .ref 0), (1, .ref 22)]) (stk' := []) (mem' := fm g tp bt a b) (fun _ _ _ => rfl) ?_
        rw [show (2 + 1 : Int32) = 3 from rfl]
        rw [show (14 + 1 : Int32) = 15 from rfl]
        refine fe_w (lc' := [(3, .int 15), (2, .int 3), (0, .ref 0), (1, .ref 22)]) ⟨rfl, rfl, rfl, rfl, trivial⟩ (by show List.Nodup [3, 2, 0, 1]; decide) (by show List.Nodup [3, 2, 6, 5, 4, 0, 1]; decide) ?_
        exact fw_3 hxp
  · rw [show (fx_cb .ne 3 (nI (E - F))) = true from cb_neT (a := 3) (b := E - F) (by omega) (by omega) (by omega)]
    dsimp only [cond]
    refine fe_s 6 (pc' := 72) (lc' := [(6, .int 11), (5, .int 0), (4, .int 14), (3, .int 11), (2, .int 2), (0, .ref 0), (1, .ref 22)]) (stk' := [.int 14, .int 11]) (mem' := fm g tp bt a b) (fun _ _ _ => rfl) ?_
    refine fe_s 1 (pc' := cond (fx_cb .ge 11 14) 115 75) (lc' := [(6, .int 11), (5, .int 0), (4, .int 14), (3, .int 11), (2, .int 2), (0, .ref 0), (1, .ref 22)]) (stk' := []) (mem' := fm g tp bt a b) (fun _ _ _ => rfl) ?_
    rw [show (fx_cb .ge 11 14) = false from by decide]
    dsimp only [cond]
    refine fe_s 1 (pc' := 77) (lc' := [(6, .int 11), (5, .int 0), (4, .int 14), (3, .int 11), (2, .int 2), (0, .ref 0), (1, .ref 22)]) (stk' := [.int 0]) (mem' := fm g tp bt a b) (fun _ _ _ => rfl) ?_
    refine fe_s 1 (pc' := cond (fx_cb .eq 0 0) 115 80) (lc' := [(6, .int 11), (5, .int 0), (4, .int 14), (3, .int 11), (2, .int 2), (0, .ref 0), (1, .ref 22)]) (stk' := []) (mem' := fm g tp bt a b) (fun _ _ _ => rfl) ?_
    rw [show (fx_cb .eq 0 0) = true from by decide]
    dsimp only [cond]
    refine fe_s 1 (pc' := 117) (lc' := [(6, .int 11), (5, .int 0), (4, .int 14), (3, .int 11), (2, .int 2), (0, .ref 0), (1, .ref 22)]) (stk' := [.int 0]) (mem' := fm g tp bt a b) (fun _ _ _ => rfl) ?_
    refine fe_s 1 (pc' := cond (fx_cb .eq 0 0) 122 120) (lc' := [(6, .int 11), (5, .int 0), (4, .int 14), (3, .int 11), (2, .int 2), (0, .ref 0), (1, .ref 22)]) (stk' := []) (mem' := fm g tp bt a b) (fun _ _ _ => rfl) ?_
    rw [show (fx_cb .eq 0 0) = true from by decide]
    dsimp only [cond]
    refine fe_s 6 (pc' := 14) (lc' := [(3, .int (14 + 1)), (2, .int (2 + 1)), (6, .int 11), (5, .int 0), (4, .int 14), (0, .ref 0), (1, .ref 22)]) (stk' := []) (mem' := fm g tp bt a b) (fun _ _ _ => rfl) ?_
    rw [show (2 + 1 : Int32) = 3 from rfl]
    rw [show (14 + 1 : Int32) = 15 from rfl]
    refine fe_w (lc' := [(3, .int 15), (2, .int 3), (0, .ref 0), (1, .ref 22)]) ⟨rfl, rfl, rfl, rfl, trivial⟩ (by show List.Nodup [3, 2, 0, 1]; decide) (by show List.Nodup [3, 2, 6, 5, 4, 0, 1]; decide) ?_
    exact fw_3 hxp
theorem fw_1 {S E F : Nat} (hxp : fm_xp g S E F) : fe_R 1 gk_m226 14 [(3, .int 5), (2, .int 1), (0, .ref 0), (1, .ref 22)] [] (fm g tp bt a b) (fm_FI (fm g tp bt a b)) := by
  obtain ⟨h11, hS9, h14, hES, h13, hFE, -, -, -⟩ := id hxp
  refine fe_s 2 (pc' := 16) (lc' := [(3, .int 5), (2, .int 1), (0, .ref 0), (1, .ref 22)]) (stk' := [.ref 22, .int 5]) (mem' := fm g tp bt a b) (fun _ _ _ => rfl) ?_
  refine fe_s 1 (pc' := 19) (lc' := [(3, .int 5), (2, .int 1), (0, .ref 0), (1, .ref 22)]) (stk' := [.int 117, .int 5]) (mem' := fm g tp bt a b) (fun _ _ _ => rfl) ?_
  refine fe_s 1 (pc' := cond (fx_cb .ge 5 117) 133 22) (lc' := [(3, .int 5), (2, .int 1), (0, .ref 0), (1, .ref 22)]) (stk' := []) (mem' := fm g tp bt a b) (fun _ _ _ => rfl) ?_
  rw [show (fx_cb .ge 5 117) = false from by decide]
  dsimp only [cond]
  refine fe_s 4 (pc' := 28) (lc' := [(4, .int 5), (3, .int 5), (2, .int 1), (0, .ref 0), (1, .ref 22)]) (stk' := [.int 5, .ref 22]) (mem' := fm g tp bt a b) (fun _ _ _ => rfl) ?_
  refine fe_chr (i := 5) (by omega) (by rfl) (by rfl) ⟨by rfl, by rfl⟩ (by rfl) ?_
  rw [show sk_b.getD 5 0 = 115 from rfl]
  refine fe_s 1 (pc' := 33) (lc' := [(4, .int 5), (3, .int 5), (2, .int 1), (0, .ref 0), (1, .ref 22)]) (stk' := [.int 32, .int 115]) (mem' := fm g tp bt a b) (fun _ _ _ => rfl) ?_
  refine fe_s 1 (pc' := cond (fx_cb .eq 115 32) 42 36) (lc' := [(4, .int 5), (3, .int 5), (2, .int 1), (0, .ref 0), (1, .ref 22)]) (stk' := []) (mem' := fm g tp bt a b) (fun _ _ _ => rfl) ?_
  rw [show (fx_cb .eq 115 32) = false from by decide]
  dsimp only [cond]
  refine fe_s 4 (pc' := 28) (lc' := [(4, .int (5 + 1)), (3, .int 5), (2, .int 1), (0, .ref 0), (1, .ref 22)]) (stk' := [.int (5 + 1), .ref 22]) (mem' := fm g tp bt a b) (fun _ _ _ => rfl) ?_
  rw [show (5 + 1 : Int32) = 6 from rfl]
  refine fe_chr (i := 6) (by omega) (by rfl) (by rfl) ⟨by rfl, by rfl⟩ (by rfl) ?_
  rw [show sk_b.getD 6 0 = 104 from rfl]
  refine fe_s 1 (pc' := 33) (lc' := [(4, .int 6), (3, .int 5), (2, .int 1), (0, .ref 0), (1, .ref 22)]) (stk' := [.int 32, .int 104]) (mem' := fm g tp bt a b) (fun _ _ _ => rfl) ?_
  refine fe_s 1 (pc' := cond (fx_cb .eq 104 32) 42 36) (lc' := [(4, .int 6), (3, .int 5), (2, .int 1), (0, .ref 0), (1, .ref 22)]) (stk' := []) (mem' := fm g tp bt a b) (fun _ _ _ => rfl) ?_
  rw [show (fx_cb .eq 104 32) = false from by decide]
  dsimp only [cond]
  refine fe_s 4 (pc' := 28) (lc' := [(4, .int (6 + 1)), (3, .int 5), (2, .int 1), (0, .ref 0), (1, .ref 22)]) (stk' := [.int (6 + 1), .ref 22]) (mem' := fm g tp bt a b) (fun _ _ _ => rfl) ?_
  rw [show (6 + 1 : Int32) = 7 from rfl]
  refine fe_chr (i := 7) (by omega) (by rfl) (by rfl) ⟨by rfl, by rfl⟩ (by rfl) ?_
  rw [show sk_b.getD 7 0 = 111 from rfl]
  refine fe_s 1 (pc' := 33) (lc' := [(4, .int 7), (3, .int 5), (2, .int 1), (0, .ref 0), (1, .ref 22)]) (stk' := [.int 32, .int 111]) (mem' := fm g tp bt a b) (fun _ _ _ => rfl) ?_
  refine fe_s 1 (pc' := cond (fx_cb .eq 111 32) 42 36) (lc' := [(4, .int 7), (3, .int 5), (2, .int 1), (0, .ref 0), (1, .ref 22)]) (stk' := []) (mem' := fm g tp bt a b) (fun _ _ _ => rfl) ?_
  rw [show (fx_cb .eq 111 32) = false from by decide]
  dsimp only [cond]
  refine fe_s 4 (pc' := 28) (lc' := [(4, .int (7 + 1)), (3, .int 5), (2, .int 1), (0, .ref 0), (1, .ref 22)]) (stk' := [.int (7 + 1), .ref 22]) (mem' := fm g tp bt a b) (fun _ _ _ => rfl) ?_
  rw [show (7 + 1 : Int32) = 8 from rfl]
  refine fe_chr (i := 8) (by omega) (by rfl) (by rfl) ⟨by rfl, by rfl⟩ (by rfl) ?_
  rw [show sk_b.getD 8 0 = 114 from rfl]
  refine fe_s 1 (pc' := 33) (lc' := [(4, .int 8), (3, .int 5), (2, .int 1), (0, .ref 0), (1, .ref 22)]) (stk' := [.int 32, .int 114]) (mem' := fm g tp bt a b) (fun _ _ _ => rfl) ?_
  refine fe_s 1 (pc' := cond (fx_cb .eq 114 32) 42 36) (lc' := [(4, .int 8), (3, .int 5), (2, .int 1), (0, .ref 0), (1, .ref 22)]) (stk' := []) (mem' := fm g tp bt a b) (fun _ _ _ => rfl) ?_
  rw [show (fx_cb .eq 114 32) = false from by decide]
  dsimp only [cond]
  refine fe_s 4 (pc' := 28) (lc' := [(4, .int (8 + 1)), (3, .int 5), (2, .int 1), (0, .ref 0), (1, .ref 22)]) (stk' := [.int (8 + 1), .ref 22]) (mem' := fm g tp bt a b) (fun _ _ _ => rfl) ?_
  rw [show (8 + 1 : Int32) = 9 from rfl]
  refine fe_chr (i := 9) (by omega) (by rfl) (by rfl) ⟨by rfl, by rfl⟩ (by rfl) ?_
  rw [show sk_b.getD 9 0 = 101 from rfl]
  refine fe_s 1 (pc' := 33) (lc' := [(4, .int 9), (3, .int 5), (2, .int 1), (0, .ref 0), (1, .ref 22)]) (stk' := [.int 32, .int 101]) (mem' := fm g tp bt a b) (fun _ _ _ => rfl) ?_
  refine fe_s 1 (pc' := cond (fx_cb .eq 101 32) 42 36) (lc' := [(4, .int 9), (3, .int 5), (2, .int 1), (0, .ref 0), (1, .ref 22)]) (stk' := []) (mem' := fm g tp bt a b) (fun _ _ _ => rfl) ?_
  rw [show (fx_cb .eq 101 32) = false from by decide]
  dsimp only [cond]
  refine fe_s 4 (pc' := 28) (lc' := [(4, .int (9 + 1)), (3, .int 5), (2, .int 1), (0, .ref 0), (1, .ref 22)]) (stk' := [.int (9 + 1), .ref 22]) (mem' := fm g tp bt a b) (fun _ _ _ => rfl) ?_
  rw [show (9 + 1 : Int32) = 10 from rfl]
  refine fe_chr (i := 10) (by omega) (by rfl) (by rfl) ⟨by rfl, by rfl⟩ (by rfl) ?_
  rw [show sk_b.getD 10 0 = 32 from rfl]
  refine fe_s 1 (pc' := 33) (lc' := [(4, .int 10), (3, .int 5), (2, .int 1), (0, .ref 0), (1, .ref 22)]) (stk' := [.int 32, .int 32]) (mem' := fm g tp bt a b) (fun _ _ _ => rfl) ?_
  refine fe_s 1 (pc' := cond (fx_cb .eq 32 32) 42 36) (lc' := [(4, .int 10), (3, .int 5), (2, .int 1), (0, .ref 0), (1, .ref 22)]) (stk' := []) (mem' := fm g tp bt a b) (fun _ _ _ => rfl) ?_
  rw [show (fx_cb .eq 32 32) = true from by decide]
  dsimp only [cond]
  refine fe_s 8 (pc' := 55) (lc' := [(4, .int 10), (3, .int 5), (2, .int 1), (0, .ref 0), (1, .ref 22)]) (stk' := [.int ((g 14) - (g 13)), .int (10 - 5)]) (mem' := fm g tp bt a b) (fun _ _ _ => rfl) ?_
  try rw [h14]
  try rw [h13]
  rw [show (10 - 5 : Int32) = 5 from rfl]
  rw [show ((nI E) - (nI F) : Int32) = nI (E - F) from by simp only [tg_sub2 (x := E) (y := F) (by omega), nI_add, fm_mul]]
  refine fe_s 1 (pc' := cond (fx_cb .ne 5 (nI (E - F))) 62 58) (lc' := [(4, .int 10), (3, .int 5), (2, .int 1), (0, .ref 0), (1, .ref 22)]) (stk' := []) (mem' := fm g tp bt a b) (fun _ _ _ => rfl) ?_
  by_cases h1 : 5 = (E - F)
  · rw [show (fx_cb .ne 5 (nI (E - F))) = false from cb_neF (a := 5) (b := E - F) (by omega) (by omega) (by omega)]
    dsimp only [cond]
    refine fe_s 7 (pc' := 72) (lc' := [(6, .int 5), (5, .int 1), (4, .int 10), (3, .int 5), (2, .int 1), (0, .ref 0), (1, .ref 22)]) (stk' := [.int 10, .int 5]) (mem' := fm g tp bt a b) (fun _ _ _ => rfl) ?_
    refine fe_s 1 (pc' := cond (fx_cb .ge 5 10) 115 75) (lc' := [(6, .int 5), (5, .int 1), (4, .int 10), (3, .int 5), (2, .int 1), (0, .ref 0), (1, .ref 22)]) (stk' := []) (mem' := fm g tp bt a b) (fun _ _ _ => rfl) ?_
    rw [show (fx_cb .ge 5 10) = false from by decide]
    dsimp only [cond]
    refine fe_s 1 (pc' := 77) (lc' := [(6, .int 5), (5, .int 1), (4, .int 10), (3, .int 5), (2, .int 1), (0, .ref 0), (1, .ref 22)]) (stk' := [.int 1]) (mem' := fm g tp bt a b) (fun _ _ _ => rfl) ?_
    refine fe_s 1 (pc' := cond (fx_cb .eq 1 0) 115 80) (lc' := [(6, .int 5), (5, .int 1), (4, .int 10), (3, .int 5), (2, .int 1), (0, .ref 0), (1, .ref 22)]) (stk' := []) (mem' := fm g tp bt a b) (fun _ _ _ => rfl) ?_
    rw [show (fx_cb .eq 1 0) = false from by decide]
    dsimp only [cond]
    refine fe_s 2 (pc' := 83) (lc' := [(6, .int 5), (5, .int 1), (4, .int 10), (3, .int 5), (2, .int 1), (0, .ref 0), (1, .ref 22)]) (stk' := [.int 5, .ref 22]) (mem' := fm g tp bt a b) (fun _ _ _ => rfl) ?_
    refine fe_chr (i := 5) (by omega) (by rfl) (by rfl) ⟨by rfl, by rfl⟩ (by rfl) ?_
    rw [show sk_b.getD 5 0 = 115 from rfl]
    refine fe_s 7 (pc' := 96) (lc' := [(6, .int 5), (5, .int 1), (4, .int 10), (3, .int 5), (2, .int 1), (0, .ref 0), (1, .ref 22)]) (stk' := [.int (((g 13) + 5) - 5), .ref 0, .int 115]) (mem' := fm g tp bt a b) (fun _ _ _ => rfl) ?_
    try rw [h13]
    rw [show (((nI F) + 5) - 5 : Int32) = nI ((F + 5) - 5) from by simp only [show (5 : Int32) = nI 5 from rfl, tg_sub2 (x := F + 5) (y := 5) (by omega), nI_add, fm_mul]]
    refine fe_ivV (fr_byteAt (S := S) (k := (F + 5) - 5) (g := g) (tp := tp) (bt := bt) (a := a) (b := b) h11 (by omega) (by omega)) (by omega) (by rfl) (by rfl) (by rfl) (by rfl) (by rfl) (by rfl) ?_
    rcases fm_byte_or a S ((F + 5) - 5) with ⟨e3, q4⟩ | ⟨q4, n2, qn2, e3⟩
    · rw [e3]
      refine fe_s 1 (pc' := cond (fx_cb .ne 115 (-1)) 106 102) (lc' := [(6, .int 5), (5, .int 1), (4, .int 10), (3, .int 5), (2, .int 1), (0, .ref 0), (1, .ref 22)]) (stk' := []) (mem' := fm g tp bt a b) (fun _ _ _ => rfl) ?_
      rw [show (fx_cb .ne 115 (-1)) = true from by decide]
      dsimp only [cond]
      refine fe_s 6 (pc' := 72) (lc' := [(6, .int (5 + 1)), (5, .int 0), (4, .int 10), (3, .int 5), (2, .int 1), (0, .ref 0), (1, .ref 22)]) (stk' := [.int 10, .int (5 + 1)]) (mem' := fm g tp bt a b) (fun _ _ _ => rfl) ?_
      rw [show (5 + 1 : Int32) = 6 from rfl]
      refine fe_s 1 (pc' := cond (fx_cb .ge 6 10) 115 75) (lc' := [(6, .int 6), (5, .int 0), (4, .int 10), (3, .int 5), (2, .int 1), (0, .ref 0), (1, .ref 22)]) (stk' := []) (mem' := fm g tp bt a b) (fun _ _ _ => rfl) ?_
      rw [show (fx_cb .ge 6 10) = false from by decide]
      dsimp only [cond]
      refine fe_s 1 (pc' := 77) (lc' := [(6, .int 6), (5, .int 0), (4, .int 10), (3, .int 5), (2, .int 1), (0, .ref 0), (1, .ref 22)]) (stk' := [.int 0]) (mem' := fm g tp bt a b) (fun _ _ _ => rfl) ?_
      refine fe_s 1 (pc' := cond (fx_cb .eq 0 0) 115 80) (lc' := [(6, .int 6), (5, .int 0), (4, .int 10), (3, .int 5), (2, .int 1), (0, .ref 0), (1, .ref 22)]) (stk' := []) (mem' := fm g tp bt a b) (fun _ _ _ => rfl) ?_
      rw [show (fx_cb .eq 0 0) = true from by decide]
      dsimp only [cond]
      refine fe_s 1 (pc' := 117) (lc' := [(6, .int 6), (5, .int 0), (4, .int 10), (3, .int 5), (2, .int 1), (0, .ref 0), (1, .ref 22)]) (stk' := [.int 0]) (mem' := fm g tp bt a b) (fun _ _ _ => rfl) ?_
      refine fe_s 1 (pc' := cond (fx_cb .eq 0 0) 122 120) (lc' := [(6, .int 6), (5, .int 0), (4, .int 10), (3, .int 5), (2, .int 1), (0, .ref 0), (1, .ref 22)]) (stk' := []) (mem' := fm g tp bt a b) (fun _ _ _ => rfl) ?_
      rw [show (fx_cb .eq 0 0) = true from by decide]
      dsimp only [cond]
      refine fe_s 6 (pc' := 14) (lc' := [(3, .int (10 + 1)), (2, .int (1 + 1)), (6, .int 6), (5, .int 0), (4, .int 10), (0, .ref 0), (1, .ref 22)]) (stk' := []) (mem' := fm g tp bt a b) (fun _ _ _ => rfl) ?_
      rw [show (1 + 1 : Int32) = 2 from rfl]
      rw [show (10 + 1 : Int32) = 11 from rfl]
      refine fe_w (lc' := [(3, .int 11), (2, .int 2), (0, .ref 0), (1, .ref 22)]) ⟨rfl, rfl, rfl, rfl, trivial⟩ (by show List.Nodup [3, 2, 0, 1]; decide) (by show List.Nodup [3, 2, 6, 5, 4, 0, 1]; decide) ?_
      exact fw_2 hxp
    · rw [e3]
      refine fe_s 1 (pc' := cond (fx_cb .ne 115 (nI n2)) 106 102) (lc' := [(6, .int 5), (5, .int 1), (4, .int 10), (3, .int 5), (2, .int 1), (0, .ref 0), (1, .ref 22)]) (stk' := []) (mem' := fm g tp bt a b) (fun _ _ _ => rfl) ?_
      by_cases h5 : 115 = n2
      · rw [show (fx_cb .ne 115 (nI n2)) = false from cb_neF (a := 115) (b := n2) (by omega) (by omega) (by omega)]
        dsimp only [cond]
        refine fe_s 7 (pc' := 72) (lc' := [(6, .int (5 + 1)), (5, .int 1), (4, .int 10), (3, .int 5), (2, .int 1), (0, .ref 0), (1, .ref 22)]) (stk' := [.int 10, .int (5 + 1)]) (mem' := fm g tp bt a b) (fun _ _ _ => rfl) ?_
        rw [show (5 + 1 : Int32) = 6 from rfl]
        refine fe_s 1 (pc' := cond (fx_cb .ge 6 10) 115 75) (lc' := [(6, .int 6), (5, .int 1), (4, .int 10), (3, .int 5), (2, .int 1), (0, .ref 0), (1, .ref 22)]) (stk' := []) (mem' := fm g tp bt a b) (fun _ _ _ => rfl) ?_
        rw [show (fx_cb .ge 6 10) = false from by decide]
        dsimp only [cond]
        refine fe_s 1 (pc' := 77) (lc' := [(6, .int 6), (5, .int 1), (4, .int 10), (3, .int 5), (2, .int 1), (0, .ref 0), (1, .ref 22)]) (stk' := [.int 1]) (mem' := fm g tp bt a b) (fun _ _ _ => rfl) ?_
        refine fe_s 1 (pc' := cond (fx_cb .eq 1 0) 115 80) (lc' := [(6, .int 6), (5, .int 1), (4, .int 10), (3, .int 5), (2, .int 1), (0, .ref 0), (1, .ref 22)]) (stk' := []) (mem' := fm g tp bt a b) (fun _ _ _ => rfl) ?_
        rw [show (fx_cb .eq 1 0) = false from by decide]
        dsimp only [cond]
        refine fe_s 2 (pc' := 83) (lc' := [(6, .int 6), (5, .int 1), (4, .int 10), (3, .int 5), (2, .int 1), (0, .ref 0), (1, .ref 22)]) (stk' := [.int 6, .ref 22]) (mem' := fm g tp bt a b) (fun _ _ _ => rfl) ?_
        refine fe_chr (i := 6) (by omega) (by rfl) (by rfl) ⟨by rfl, by rfl⟩ (by rfl) ?_
        rw [show sk_b.getD 6 0 = 104 from rfl]
        refine fe_s 7 (pc' := 96) (lc' := [(6, .int 6), (5, .int 1), (4, .int 10), (3, .int 5), (2, .int 1), (0, .ref 0), (1, .ref 22)]) (stk' := [.int (((g 13) + 6) - 5), .ref 0, .int 104]) (mem' := fm g tp bt a b) (fun _ _ _ => rfl) ?_
        try rw [h13]
        rw [show (((nI F) + 6) - 5 : Int32) = nI ((F + 6) - 5) from by simp only [show (6 : Int32) = nI 6 from rfl, show (5 : Int32) = nI 5 from rfl, tg_sub2 (x := F + 6) (y := 5) (by omega), nI_add, fm_mul]]
        refine fe_ivV (fr_byteAt (S := S) (k := (F + 6) - 5) (g := g) (tp := tp) (bt := bt) (a := a) (b := b) h11 (by omega) (by omega)) (by omega) (by rfl) (by rfl) (by rfl) (by rfl) (by rfl) (by rfl) ?_
        rcases fm_byte_or a S ((F + 6) - 5) with ⟨e7, q8⟩ | ⟨q8, n6, qn6, e7⟩
        · rw [e7]
          refine fe_s 1 (pc' := cond (fx_cb .ne 104 (-1)) 106 102) (lc' := [(6, .int 6), (5, .int 1), (4, .int 10), (3, .int 5), (2, .int 1), (0, .ref 0), (1, .ref 22)]) (stk' := []) (mem' := fm g tp bt a b) (fun _ _ _ => rfl) ?_
          rw [show (fx_cb .ne 104 (-1)) = true from by decide]
          dsimp only [cond]
          refine fe_s 6 (pc' := 72) (lc' := [(6, .int (6 + 1)), (5, .int 0), (4, .int 10), (3, .int 5), (2, .int 1), (0, .ref 0), (1, .ref 22)]) (stk' := [.int 10, .int (6 + 1)]) (mem' := fm g tp bt a b) (fun _ _ _ => rfl) ?_
          rw [show (6 + 1 : Int32) = 7 from rfl]
          refine fe_s 1 (pc' := cond (fx_cb .ge 7 10) 115 75) (lc' := [(6, .int 7), (5, .int 0), (4, .int 10), (3, .int 5), (2, .int 1), (0, .ref 0), (1, .ref 22)]) (stk' := []) (mem' := fm g tp bt a b) (fun _ _ _ => rfl) ?_
          rw [show (fx_cb .ge 7 10) = false from by decide]
          dsimp only [cond]
          refine fe_s 1 (pc' := 77) (lc' := [(6, .int 7), (5, .int 0), (4, .int 10), (3, .int 5), (2, .int 1), (0, .ref 0), (1, .ref 22)]) (stk' := [.int 0]) (mem' := fm g tp bt a b) (fun _ _ _ => rfl) ?_
          refine fe_s 1 (pc' := cond (fx_cb .eq 0 0) 115 80) (lc' := [(6, .int 7), (5, .int 0), (4, .int 10), (3, .int 5), (2, .int 1), (0, .ref 0), (1, .ref 22)]) (stk' := []) (mem' := fm g tp bt a b) (fun _ _ _ => rfl) ?_
          rw [show (fx_cb .eq 0 0) = true from by decide]
          dsimp only [cond]
          refine fe_s 1 (pc' := 117) (lc' := [(6, .int 7), (5, .int 0), (4, .int 10), (3, .int 5), (2, .int 1), (0, .ref 0), (1, .ref 22)]) (stk' := [.int 0]) (mem' := fm g tp bt a b) (fun _ _ _ => rfl) ?_
          refine fe_s 1 (pc' := cond (fx_cb .eq 0 0) 122 120) (lc' := [(6, .int 7), (5, .int 0), (4, .int 10), (3, .int 5), (2, .int 1), (0, .ref 0), (1, .ref 22)]) (stk' := []) (mem' := fm g tp bt a b) (fun _ _ _ => rfl) ?_
          rw [show (fx_cb .eq 0 0) = true from by decide]
          dsimp only [cond]
          refine fe_s 6 (pc' := 14) (lc' := [(3, .int (10 + 1)), (2, .int (1 + 1)), (6, .int 7), (5, .int 0), (4, .int 10), (0, .ref 0), (1, .ref 22)]) (stk' := []) (mem' := fm g tp bt a b) (fun _ _ _ => rfl) ?_
          rw [show (1 + 1 : Int32) = 2 from rfl]
          rw [show (10 + 1 : Int32) = 11 from rfl]
          refine fe_w (lc' := [(3, .int 11), (2, .int 2), (0, .ref 0), (1, .ref 22)]) ⟨rfl, rfl, rfl, rfl, trivial⟩ (by show List.Nodup [3, 2, 0, 1]; decide) (by show List.Nodup [3, 2, 6, 5, 4, 0, 1]; decide) ?_
          exact fw_2 hxp
        · rw [e7]
          refine fe_s 1 (pc' := cond (fx_cb .ne 104 (nI n6)) 106 102) (lc' := [(6, .int 6), (5, .int 1), (4, .int 10), (3, .int 5), (2, .int 1), (0, .ref 0), (1, .ref 22)]) (stk' := []) (mem' := fm g tp bt a b) (fun _ _ _ => rfl) ?_
          by_cases h9 : 104 = n6
          · rw [show (fx_cb .ne 104 (nI n6)) = false from cb_neF (a := 104) (b := n6) (by omega) (by omega) (by omega)]
            dsimp only [cond]
            refine fe_s 7 (pc' := 72) (lc' := [(6, .int (6 + 1)), (5, .int 1), (4, .int 10), (3, .int 5), (2, .int 1), (0, .ref 0), (1, .ref 22)]) (stk' := [.int 10, .int (6 + 1)]) (mem' := fm g tp bt a b) (fun _ _ _ => rfl) ?_
            rw [show (6 + 1 : Int32) = 7 from rfl]
            refine fe_s 1 (pc' := cond (fx_cb .ge 7 10) 115 75) (lc' := [(6, .int 7), (5, .int 1), (4, .int 10), (3, .int 5), (2, .int 1), (0, .ref 0), (1, .ref 22)]) (stk' := []) (mem' := fm g tp bt a b) (fun _ _ _ => rfl) ?_
            rw [show (fx_cb .ge 7 10) = false from by decide]
            dsimp only [cond]
            refine fe_s 1 (pc' := 77) (lc' := [(6, .int 7), (5, .int 1), (4, .int 10), (3, .int 5), (2, .int 1), (0, .ref 0), (1, .ref 22)]) (stk' := [.int 1]) (mem' := fm g tp bt a b) (fun _ _ _ => rfl) ?_
            refine fe_s 1 (pc' := cond (fx_cb .eq 1 0) 115 80) (lc' := [(6, .int 7), (5, .int 1), (4, .int 10), (3, .int 5), (2, .int 1), (0, .ref 0), (1, .ref 22)]) (stk' := []) (mem' := fm g tp bt a b) (fun _ _ _ => rfl) ?_
            rw [show (fx_cb .eq 1 0) = false from by decide]
            dsimp only [cond]
            refine fe_s 2 (pc' := 83) (lc' := [(6, .int 7), (5, .int 1), (4, .int 10), (3, .int 5), (2, .int 1), (0, .ref 0), (1, .ref 22)]) (stk' := [.int 7, .ref 22]) (mem' := fm g tp bt a b) (fun _ _ _ => rfl) ?_
            refine fe_chr (i := 7) (by omega) (by rfl) (by rfl) ⟨by rfl, by rfl⟩ (by rfl) ?_
            rw [show sk_b.getD 7 0 = 111 from rfl]
            refine fe_s 7 (pc' := 96) (lc' := [(6, .int 7), (5, .int 1), (4, .int 10), (3, .int 5), (2, .int 1), (0, .ref 0), (1, .ref 22)]) (stk' := [.int (((g 13) + 7) - 5), .ref 0, .int 111]) (mem' := fm g tp bt a b) (fun _ _ _ => rfl) ?_
            try rw [h13]
            rw [show (((nI F) + 7) - 5 : Int32) = nI ((F + 7) - 5) from by simp only [show (7 : Int32) = nI 7 from rfl, show (5 : Int32) = nI 5 from rfl, tg_sub2 (x := F + 7) (y := 5) (by omega), nI_add, fm_mul]]
            refine fe_ivV (fr_byteAt (S := S) (k := (F + 7) - 5) (g := g) (tp := tp) (bt := bt) (a := a) (b := b) h11 (by omega) (by omega)) (by omega) (by rfl) (by rfl) (by rfl) (by rfl) (by rfl) (by rfl) ?_
            rcases fm_byte_or a S ((F + 7) - 5) with ⟨e11, q12⟩ | ⟨q12, n10, qn10, e11⟩
            · rw [e11]
              refine fe_s 1 (pc' := cond (fx_cb .ne 111 (-1)) 106 102) (lc' := [(6, .int 7), (5, .int 1), (4, .int 10), (3, .int 5), (2, .int 1), (0, .ref 0), (1, .ref 22)]) (stk' := []) (mem' := fm g tp bt a b) (fun _ _ _ => rfl) ?_
              rw [show (fx_cb .ne 111 (-1)) = true from by decide]
              dsimp only [cond]
              refine fe_s 6 (pc' := 72) (lc' := [(6, .int (7 + 1)), (5, .int 0), (4, .int 10), (3, .int 5), (2, .int 1), (0, .ref 0), (1, .ref 22)]) (stk' := [.int 10, .int (7 + 1)]) (mem' := fm g tp bt a b) (fun _ _ _ => rfl) ?_
              rw [show (7 + 1 : Int32) = 8 from rfl]
              refine fe_s 1 (pc' := cond (fx_cb .ge 8 10) 115 75) (lc' := [(6, .int 8), (5, .int 0), (4, .int 10), (3, .int 5), (2, .int 1), (0, .ref 0), (1, .ref 22)]) (stk' := []) (mem' := fm g tp bt a b) (fun _ _ _ => rfl) ?_
              rw [show (fx_cb .ge 8 10) = false from by decide]
              dsimp only [cond]
              refine fe_s 1 (pc' := 77) (lc' := [(6, .int 8), (5, .int 0), (4, .int 10), (3, .int 5), (2, .int 1), (0, .ref 0), (1, .ref 22)]) (stk' := [.int 0]) (mem' := fm g tp bt a b) (fun _ _ _ => rfl) ?_
              refine fe_s 1 (pc' := cond (fx_cb .eq 0 0) 115 80) (lc' := [(6, .int 8), (5, .int 0), (4, .int 10), (3, .int 5), (2, .int 1), (0, .ref 0), (1, .ref 22)]) (stk' := []) (mem' := fm g tp bt a b) (fun _ _ _ => rfl) ?_
              rw [show (fx_cb .eq 0 0) = true from by decide]
              dsimp only [cond]
              refine fe_s 1 (pc' := 117) (lc' := [(6, .int 8), (5, .int 0), (4, .int 10), (3, .int 5), (2, .int 1), (0, .ref 0), (1, .ref 22)]) (stk' := [.int 0]) (mem' := fm g tp bt a b) (fun _ _ _ => rfl) ?_
              refine fe_s 1 (pc' := cond (fx_cb .eq 0 0) 122 120) (lc' := [(6, .int 8), (5, .int 0), (4, .int 10), (3, .int 5), (2, .int 1), (0, .ref 0), (1, .ref 22)]) (stk' := []) (mem' := fm g tp bt a b) (fun _ _ _ => rfl) ?_
              rw [show (fx_cb .eq 0 0) = true from by decide]
              dsimp only [cond]
              refine fe_s 6 (pc' := 14) (lc' := [(3, .int (10 + 1)), (2, .int (1 + 1)), (6, .int 8), (5, .int 0), (4, .int 10), (0, .ref 0), (1, .ref 22)]) (stk' := []) (mem' := fm g tp bt a b) (fun _ _ _ => rfl) ?_
              rw [show (1 + 1 : Int32) = 2 from rfl]
              rw [show (10 + 1 : Int32) = 11 from rfl]
              refine fe_w (lc' := [(3, .int 11), (2, .int 2), (0, .ref 0), (1, .ref 22)]) ⟨rfl, rfl, rfl, rfl, trivial⟩ (by show List.Nodup [3, 2, 0, 1]; decide) (by show List.Nodup [3, 2, 6, 5, 4, 0, 1]; decide) ?_
              exact fw_2 hxp
            · rw [e11]
              refine fe_s 1 (pc' := cond (fx_cb .ne 111 (nI n10)) 106 102) (lc' := [(6, .int 7), (5, .int 1), (4, .int 10), (3, .int 5), (2, .int 1), (0, .ref 0), (1, .ref 22)]) (stk' := []) (mem' := fm g tp bt a b) (fun _ _ _ => rfl) ?_
              by_cases h13 : 111 = n10
              · rw [show (fx_cb .ne 111 (nI n10)) = false from cb_neF (a := 111) (b := n10) (by omega) (by omega) (by omega)]
                dsimp only [cond]
                refine fe_s 7 (pc' := 72) (lc' := [(6, .int (7 + 1)), (5, .int 1), (4, .int 10), (3, .int 5), (2, .int 1), (0, .ref 0), (1, .ref 22)]) (stk' := [.int 10, .int (7 + 1)]) (mem' := fm g tp bt a b) (fun _ _ _ => rfl) ?_
                rw [show (7 + 1 : Int32) = 8 from rfl]
                refine fe_s 1 (pc' := cond (fx_cb .ge 8 10) 115 75) (lc' := [(6, .int 8), (5, .int 1), (4, .int 10), (3, .int 5), (2, .int 1), (0, .ref 0), (1, .ref 22)]) (stk' := []) (mem' := fm g tp bt a b) (fun _ _ _ => rfl) ?_
                rw [show (fx_cb .ge 8 10) = false from by decide]
                dsimp only [cond]
                refine fe_s 1 (pc' := 77) (lc' := [(6, .int 8), (5, .int 1), (4, .int 10), (3, .int 5), (2, .int 1), (0, .ref 0), (1, .ref 22)]) (stk' := [.int 1]) (mem' := fm g tp bt a b) (fun _ _ _ => rfl) ?_
                refine fe_s 1 (pc' := cond (fx_cb .eq 1 0) 115 80) (lc' := [(6, .int 8), (5, .int 1), (4, .int 10), (3, .int 5), (2, .int 1), (0, .ref 0), (1, .ref 22)]) (stk' := []) (mem' := fm g tp bt a b) (fun _ _ _ => rfl) ?_
                rw [show (fx_cb .eq 1 0) = false from by decide]
                dsimp only [cond]
                refine fe_s 2 (pc' := 83) (lc' := [(6, .int 8), (5, .int 1), (4, .int 10), (3, .int 5), (2, .int 1), (0, .ref 0), (1, .ref 22)]) (stk' := [.int 8, .ref 22]) (mem' := fm g tp bt a b) (fun _ _ _ => rfl) ?_
                refine fe_chr (i := 8) (by omega) (by rfl) (by rfl) ⟨by rfl, by rfl⟩ (by rfl) ?_
                rw [show sk_b.getD 8 0 = 114 from rfl]
                refine fe_s 7 (pc' := 96) (lc' := [(6, .int 8), (5, .int 1), (4, .int 10), (3, .int 5), (2, .int 1), (0, .ref 0), (1, .ref 22)]) (stk' := [.int (((g 13) + 8) - 5), .ref 0, .int 114]) (mem' := fm g tp bt a b) (fun _ _ _ => rfl) ?_
                try rw [h13]
                rw [show (((nI F) + 8) - 5 : Int32) = nI ((F + 8) - 5) from by simp only [show (8 : Int32) = nI 8 from rfl, show (5 : Int32) = nI 5 from rfl, tg_sub2 (x := F + 8) (y := 5) (by omega), nI_add, fm_mul]]
                refine fe_ivV (fr_byteAt (S := S) (k := (F + 8) - 5) (g := g) (tp := tp) (bt := bt) (a := a) (b := b) h11 (by omega) (by omega)) (by omega) (by rfl) (by rfl) (by rfl) (by rfl) (by rfl) (by rfl) ?_
                rcases fm_byte_or a S ((F + 8) - 5) with ⟨e15, q16⟩ | ⟨q16, n14, qn14, e15⟩
                · rw [e15]
                  refine fe_s 1 (pc' := cond (fx_cb .ne 114 (-1)) 106 102) (lc' := [(6, .int 8), (5, .int 1), (4, .int 10), (3, .int 5), (2, .int 1), (0, .ref 0), (1, .ref 22)]) (stk' := []) (mem' := fm g tp bt a b) (fun _ _ _ => rfl) ?_
                  rw [show (fx_cb .ne 114 (-1)) = true from by decide]
                  dsimp only [cond]
                  refine fe_s 6 (pc' := 72) (lc' := [(6, .int (8 + 1)), (5, .int 0), (4, .int 10), (3, .int 5), (2, .int 1), (0, .ref 0), (1, .ref 22)]) (stk' := [.int 10, .int (8 + 1)]) (mem' := fm g tp bt a b) (fun _ _ _ => rfl) ?_
                  rw [show (8 + 1 : Int32) = 9 from rfl]
                  refine fe_s 1 (pc' := cond (fx_cb .ge 9 10) 115 75) (lc' := [(6, .int 9), (5, .int 0), (4, .int 10), (3, .int 5), (2, .int 1), (0, .ref 0), (1, .ref 22)]) (stk' := []) (mem' := fm g tp bt a b) (fun _ _ _ => rfl) ?_
                  rw [show (fx_cb .ge 9 10) = false from by decide]
                  dsimp only [cond]
                  refine fe_s 1 (pc' := 77) (lc' := [(6, .int 9), (5, .int 0), (4, .int 10), (3, .int 5), (2, .int 1), (0, .ref 0), (1, .ref 22)]) (stk' := [.int 0]) (mem' := fm g tp bt a b) (fun _ _ _ => rfl) ?_
                  refine fe_s 1 (pc' := cond (fx_cb .eq 0 0) 115 80) (lc' := [(6, .int 9), (5, .int 0), (4, .int 10), (3, .int 5), (2, .int 1), (0, .ref 0), (1, .ref 22)]) (stk' := []) (mem' := fm g tp bt a b) (fun _ _ _ => rfl) ?_
                  rw [show (fx_cb .eq 0 0) = true from by decide]
                  dsimp only [cond]
                  refine fe_s 1 (pc' := 117) (lc' := [(6, .int 9), (5, .int 0), (4, .int 10), (3, .int 5), (2, .int 1), (0, .ref 0), (1, .ref 22)]) (stk' := [.int 0]) (mem' := fm g tp bt a b) (fun _ _ _ => rfl) ?_
                  refine fe_s 1 (pc' := cond (fx_cb .eq 0 0) 122 120) (lc' := [(6, .int 9), (5, .int 0), (4, .int 10), (3, .int 5), (2, .int 1), (0, .ref 0), (1, .ref 22)]) (stk' := []) (mem' := fm g tp bt a b) (fun _ _ _ => rfl) ?_
                  rw [show (fx_cb .eq 0 0) = true from by decide]
                  dsimp only [cond]
                  refine fe_s 6 (pc' := 14) (lc' := [(3, .int (10 + 1)), (2, .int (1 + 1)), (6, .int 9), (5, .int 0), (4, .int 10), (0, .ref 0), (1, .ref 22)]) (stk' := []) (mem' := fm g tp bt a b) (fun _ _ _ => rfl) ?_
                  rw [show (1 + 1 : Int32) = 2 from rfl]
                  rw [show (10 + 1 : Int32) = 11 from rfl]
                  refine fe_w (lc' := [(3, .int 11), (2, .int 2), (0, .ref 0), (1, .ref 22)]) ⟨rfl, rfl, rfl, rfl, trivial⟩ (by show List.Nodup [3, 2, 0, 1]; decide) (by show List.Nodup [3, 2, 6, 5, 4, 0, 1]; decide) ?_
                  exact fw_2 hxp
                · rw [e15]
                  refine fe_s 1 (pc' := cond (fx_cb .ne 114 (nI n14)) 106 102) (lc' := [(6, .int 8), (5, .int 1), (4, .int 10), (3, .int 5), (2, .int 1), (0, .ref 0), (1, .ref 22)]) (stk' := []) (mem' := fm g tp bt a b) (fun _ _ _ => rfl) ?_
                  by_cases h17 : 114 = n14
                  · rw [show (fx_cb .ne 114 (nI n14)) = false from cb_neF (a := 114) (b := n14) (by omega) (by omega) (by omega)]
                    dsimp only [cond]
                    refine fe_s 7 (pc' := 72) (lc' := [(6, .int (8 + 1)), (5, .int 1), (4, .int 10), (3, .int 5), (2, .int 1), (0, .ref 0), (1, .ref 22)]) (stk' := [.int 10, .int (8 + 1)]) (mem' := fm g tp bt a b) (fun _ _ _ => rfl) ?_
                    rw [show (8 + 1 : Int32) = 9 from rfl]
                    refine fe_s 1 (pc' := cond (fx_cb .ge 9 10) 115 75) (lc' := [(6, .int 9), (5, .int 1), (4, .int 10), (3, .int 5), (2, .int 1), (0, .ref 0), (1, .ref 22)]) (stk' := []) (mem' := fm g tp bt a b) (fun _ _ _ => rfl) ?_
                    rw [show (fx_cb .ge 9 10) = false from by decide]
                    dsimp only [cond]
                    refine fe_s 1 (pc' := 77) (lc' := [(6, .int 9), (5, .int 1), (4, .int 10), (3, .int 5), (2, .int 1), (0, .ref 0), (1, .ref 22)]) (stk' := [.int 1]) (mem' := fm g tp bt a b) (fun _ _ _ => rfl) ?_
                    refine fe_s 1 (pc' := cond (fx_cb .eq 1 0) 115 80) (lc' := [(6, .int 9), (5, .int 1), (4, .int 10), (3, .int 5), (2, .int 1), (0, .ref 0), (1, .ref 22)]) (stk' := []) (mem' := fm g tp bt a b) (fun _ _ _ => rfl) ?_
                    rw [show (fx_cb .eq 1 0) = false from by decide]
                    dsimp only [cond]
                    refine fe_s 2 (pc' := 83) (lc' := [(6, .int 9), (5, .int 1), (4, .int 10), (3, .int 5), (2, .int 1), (0, .ref 0), (1, .ref 22)]) (stk' := [.int 9, .ref 22]) (mem' := fm g tp bt a b) (fun _ _ _ => rfl) ?_
                    refine fe_chr (i := 9) (by omega) (by rfl) (by rfl) ⟨by rfl, by rfl⟩ (by rfl) ?_
                    rw [show sk_b.getD 9 0 = 101 from rfl]
                    refine fe_s 7 (pc' := 96) (lc' := [(6, .int 9), (5, .int 1), (4, .int 10), (3, .int 5), (2, .int 1), (0, .ref 0), (1, .ref 22)]) (stk' := [.int (((g 13) + 9) - 5), .ref 0, .int 101]) (mem' := fm g tp bt a b) (fun _ _ _ => rfl) ?_
                    try rw [h13]
                    rw [show (((nI F) + 9) - 5 : Int32) = nI ((F + 9) - 5) from by simp only [show (9 : Int32) = nI 9 from rfl, show (5 : Int32) = nI 5 from rfl, tg_sub2 (x := F + 9) (y := 5) (by omega), nI_add, fm_mul]]
                    refine fe_ivV (fr_byteAt (S := S) (k := (F + 9) - 5) (g := g) (tp := tp) (bt := bt) (a := a) (b := b) h11 (by omega) (by omega)) (by omega) (by rfl) (by rfl) (by rfl) (by rfl) (by rfl) (by rfl) ?_
                    rcases fm_byte_or a S ((F + 9) - 5) with ⟨e19, q20⟩ | ⟨q20, n18, qn18, e19⟩
                    · rw [e19]
                      refine fe_s 1 (pc' := cond (fx_cb .ne 101 (-1)) 106 102) (lc' := [(6, .int 9), (5, .int 1), (4, .int 10), (3, .int 5), (2, .int 1), (0, .ref 0), (1, .ref 22)]) (stk' := []) (mem' := fm g tp bt a b) (fun _ _ _ => rfl) ?_
                      rw [show (fx_cb .ne 101 (-1)) = true from by decide]
                      dsimp only [cond]
                      refine fe_s 6 (pc' := 72) (lc' := [(6, .int (9 + 1)), (5, .int 0), (4, .int 10), (3, .int 5), (2, .int 1), (0, .ref 0), (1, .ref 22)]) (stk' := [.int 10, .int (9 + 1)]) (mem' := fm g tp bt a b) (fun _ _ _ => rfl) ?_
                      rw [show (9 + 1 : Int32) = 10 from rfl]
                      refine fe_s 1 (pc' := cond (fx_cb .ge 10 10) 115 75) (lc' := [(6, .int 10), (5, .int 0), (4, .int 10), (3, .int 5), (2, .int 1), (0, .ref 0), (1, .ref 22)]) (stk' := []) (mem' := fm g tp bt a b) (fun _ _ _ => rfl) ?_
                      rw [show (fx_cb .ge 10 10) = true from by decide]
                      dsimp only [cond]
                      refine fe_s 1 (pc' := 117) (lc' := [(6, .int 10), (5, .int 0), (4, .int 10), (3, .int 5), (2, .int 1), (0, .ref 0), (1, .ref 22)]) (stk' := [.int 0]) (mem' := fm g tp bt a b) (fun _ _ _ => rfl) ?_
                      refine fe_s 1 (pc' := cond (fx_cb .eq 0 0) 122 120) (lc' := [(6, .int 10), (5, .int 0), (4, .int 10), (3, .int 5), (2, .int 1), (0, .ref 0), (1, .ref 22)]) (stk' := []) (mem' := fm g tp bt a b) (fun _ _ _ => rfl) ?_
                      rw [show (fx_cb .eq 0 0) = true from by decide]
                      dsimp only [cond]
                      refine fe_s 6 (pc' := 14) (lc' := [(3, .int (10 + 1)), (2, .int (1 + 1)), (6, .int 10), (5, .int 0), (4, .int 10), (0, .ref 0), (1, .ref 22)]) (stk' := []) (mem' := fm g tp bt a b) (fun _ _ _ => rfl) ?_
                      rw [show (1 + 1 : Int32) = 2 from rfl]
                      rw [show (10 + 1 : Int32) = 11 from rfl]
                      refine fe_w (lc' := [(3, .int 11), (2, .int 2), (0, .ref 0), (1, .ref 22)]) ⟨rfl, rfl, rfl, rfl, trivial⟩ (by show List.Nodup [3, 2, 0, 1]; decide) (by show List.Nodup [3, 2, 6, 5, 4, 0, 1]; decide) ?_
                      exact fw_2 hxp
                    · rw [e19]
                      refine fe_s 1 (pc' := cond (fx_cb .ne 101 (nI n18)) 106 102) (lc' := [(6, .int 9), (5, .int 1), (4, .int 10), (3, .int 5), (2, .int 1), (0, .ref 0), (1, .ref 22)]) (stk' := []) (mem' := fm g tp bt a b) (fun _ _ _ => rfl) ?_
                      by_cases h21 : 101 = n18
                      · rw [show (fx_cb .ne 101 (nI n18)) = false from cb_neF (a := 101) (b := n18) (by omega) (by omega) (by omega)]
                        dsimp only [cond]
                        refine fe_s 7 (pc' := 72) (lc' := [(6, .int (9 + 1)), (5, .int 1), (4, .int 10), (3, .int 5), (2, .int 1), (0, .ref 0), (1, .ref 22)]) (stk' := [.int 10, .int (9 + 1)]) (mem' := fm g tp bt a b) (fun _ _ _ => rfl) ?_
                        rw [show (9 + 1 : Int32) = 10 from rfl]
                        refine fe_s 1 (pc' := cond (fx_cb .ge 10 10) 115 75) (lc' := [(6, .int 10), (5, .int 1), (4, .int 10), (3, .int 5), (2, .int 1), (0, .ref 0), (1, .ref 22)]) (stk' := []) (mem' := fm g tp bt a b) (fun _ _ _ => rfl) ?_
                        rw [show (fx_cb .ge 10 10) = true from by decide]
                        dsimp only [cond]
                        refine fe_s 1 (pc' := 117) (lc' := [(6, .int 10), (5, .int 1), (4, .int 10), (3, .int 5), (2, .int 1), (0, .ref 0), (1, .ref 22)]) (stk' := [.int 1]) (mem' := fm g tp bt a b) (fun _ _ _ => rfl) ?_
                        refine fe_s 1 (pc' := cond (fx_cb .eq 1 0) 122 120) (lc' := [(6, .int 10), (5, .int 1), (4, .int 10), (3, .int 5), (2, .int 1), (0, .ref 0), (1, .ref 22)]) (stk' := []) (mem' := fm g tp bt a b) (fun _ _ _ => rfl) ?_
                        rw [show (fx_cb .eq 1 0) = false from by decide]
                        dsimp only [cond]
                        refine fe_s 1 (pc' := 121) (lc' := [(6, .int 10), (5, .int 1), (4, .int 10), (3, .int 5), (2, .int 1), (0, .ref 0), (1, .ref 22)]) (stk' := [.int 1]) (mem' := fm g tp bt a b) (fun _ _ _ => rfl) ?_
                        exact fe_ret ⟨_, Or.inr ⟨1, by omega, rfl⟩, rfl⟩ (by rfl) (by rfl) (by rfl)
                      · rw [show (fx_cb .ne 101 (nI n18)) = true from cb_neT (a := 101) (b := n18) (by omega) (by omega) (by omega)]
                        dsimp only [cond]
                        refine fe_s 6 (pc' := 72) (lc' := [(6, .int (9 + 1)), (5, .int 0), (4, .int 10), (3, .int 5), (2, .int 1), (0, .ref 0), (1, .ref 22)]) (stk' := [.int 10, .int (9 + 1)]) (mem' := fm g tp bt a b) (fun _ _ _ => rfl) ?_
                        rw [show (9 + 1 : Int32) = 10 from rfl]
                        refine fe_s 1 (pc' := cond (fx_cb .ge 10 10) 115 75) (lc' := [(6, .int 10), (5, .int 0), (4, .int 10), (3, .int 5), (2, .int 1), (0, .ref 0), (1, .ref 22)]) (stk' := []) (mem' := fm g tp bt a b) (fun _ _ _ => rfl) ?_
                        rw [show (fx_cb .ge 10 10) = true from by decide]
                        dsimp only [cond]
                        refine fe_s 1 (pc' := 117) (lc' := [(6, .int 10), (5, .int 0), (4, .int 10), (3, .int 5), (2, .int 1), (0, .ref 0), (1, .ref 22)]) (stk' := [.int 0]) (mem' := fm g tp bt a b) (fun _ _ _ => rfl) ?_
                        refine fe_s 1 (pc' := cond (fx_cb .eq 0 0) 122 120) (lc' := [(6, .int 10), (5, .int 0), (4, .int 10), (3, .int 5), (2, .int 1), (0, .ref 0), (1, .ref 22)]) (stk' := []) (mem' := fm g tp bt a b) (fun _ _ _ => rfl) ?_
                        rw [show (fx_cb .eq 0 0) = true from by decide]
                        dsimp only [cond]
                        refine fe_s 6 (pc' := 14) (lc' := [(3, .int (10 + 1)), (2, .int (1 + 1)), (6, .int 10), (5, .int 0), (4, .int 10), (0, .ref 0), (1, .ref 22)]) (stk' := []) (mem' := fm g tp bt a b) (fun _ _ _ => rfl) ?_
                        rw [show (1 + 1 : Int32) = 2 from rfl]
                        rw [show (10 + 1 : Int32) = 11 from rfl]
                        refine fe_w (lc' := [(3, .int 11), (2, .int 2), (0, .ref 0), (1, .ref 22)]) ⟨rfl, rfl, rfl, rfl, trivial⟩ (by show List.Nodup [3, 2, 0, 1]; decide) (by show List.Nodup [3, 2, 6, 5, 4, 0, 1]; decide) ?_
                        exact fw_2 hxp
                  · rw [show (fx_cb .ne 114 (nI n14)) = true from cb_neT (a := 114) (b := n14) (by omega) (by omega) (by omega)]
                    dsimp only [cond]
                    refine fe_s 6 (pc' := 72) (lc' := [(6, .int (8 + 1)), (5, .int 0), (4, .int 10), (3, .int 5), (2, .int 1), (0, .ref 0), (1, .ref 22)]) (stk' := [.int 10, .int (8 + 1)]) (mem' := fm g tp bt a b) (fun _ _ _ => rfl) ?_
                    rw [show (8 + 1 : Int32) = 9 from rfl]
                    refine fe_s 1 (pc' := cond (fx_cb .ge 9 10) 115 75) (lc' := [(6, .int 9), (5, .int 0), (4, .int 10), (3, .int 5), (2, .int 1), (0, .ref 0), (1, .ref 22)]) (stk' := []) (mem' := fm g tp bt a b) (fun _ _ _ => rfl) ?_
                    rw [show (fx_cb .ge 9 10) = false from by decide]
                    dsimp only [cond]
                    refine fe_s 1 (pc' := 77) (lc' := [(6, .int 9), (5, .int 0), (4, .int 10), (3, .int 5), (2, .int 1), (0, .ref 0), (1, .ref 22)]) (stk' := [.int 0]) (mem' := fm g tp bt a b) (fun _ _ _ => rfl) ?_
                    refine fe_s 1 (pc' := cond (fx_cb .eq 0 0) 115 80) (lc' := [(6, .int 9), (5, .int 0), (4, .int 10), (3, .int 5), (2, .int 1), (0, .ref 0), (1, .ref 22)]) (stk' := []) (mem' := fm g tp bt a b) (fun _ _ _ => rfl) ?_
                    rw [show (fx_cb .eq 0 0) = true from by decide]
                    dsimp only [cond]
                    refine fe_s 1 (pc' := 117) (lc' := [(6, .int 9), (5, .int 0), (4, .int 10), (3, .int 5), (2, .int 1), (0, .ref 0), (1, .ref 22)]) (stk' := [.int 0]) (mem' := fm g tp bt a b) (fun _ _ _ => rfl) ?_
                    refine fe_s 1 (pc' := cond (fx_cb .eq 0 0) 122 120) (lc' := [(6, .int 9), (5, .int 0), (4, .int 10), (3, .int 5), (2, .int 1), (0, .ref 0), (1, .ref 22)]) (stk' := []) (mem' := fm g tp bt a b) (fun _ _ _ => rfl) ?_
                    rw [show (fx_cb .eq 0 0) = true from by decide]
                    dsimp only [cond]
                    refine fe_s 6 (pc' := 14) (lc' := [(3, .int (10 + 1)), (2, .int (1 + 1)), (6, .int 9), (5, .int 0), (4, .int 10), (0, .ref 0), (1, .ref 22)]) (stk' := []) (mem' := fm g tp bt a b) (fun _ _ _ => rfl) ?_
                    rw [show (1 + 1 : Int32) = 2 from rfl]
                    rw [show (10 + 1 : Int32) = 11 from rfl]
                    refine fe_w (lc' := [(3, .int 11), (2, .int 2), (0, .ref 0), (1, .ref 22)]) ⟨rfl, rfl, rfl, rfl, trivial⟩ (by show List.Nodup [3, 2, 0, 1]; decide) (by show List.Nodup [3, 2, 6, 5, 4, 0, 1]; decide) ?_
                    exact fw_2 hxp
              · rw [show (fx_cb .ne 111 (nI n10)) = true from cb_neT (a := 111) (b := n10) (by omega) (by omega) (by omega)]
                dsimp only [cond]
                refine fe_s 6 (pc' := 72) (lc' := [(6, .int (7 + 1)), (5, .int 0), (4, .int 10), (3, .int 5), (2, .int 1), (0, .ref 0), (1, .ref 22)]) (stk' := [.int 10, .int (7 + 1)]) (mem' := fm g tp bt a b) (fun _ _ _ => rfl) ?_
                rw [show (7 + 1 : Int32) = 8 from rfl]
                refine fe_s 1 (pc' := cond (fx_cb .ge 8 10) 115 75) (lc' := [(6, .int 8), (5, .int 0), (4, .int 10), (3, .int 5), (2, .int 1), (0, .ref 0), (1, .ref 22)]) (stk' := []) (mem' := fm g tp bt a b) (fun _ _ _ => rfl) ?_
                rw [show (fx_cb .ge 8 10) = false from by decide]
                dsimp only [cond]
                refine fe_s 1 (pc' := 77) (lc' := [(6, .int 8), (5, .int 0), (4, .int 10), (3, .int 5), (2, .int 1), (0, .ref 0), (1, .ref 22)]) (stk' := [.int 0]) (mem' := fm g tp bt a b) (fun _ _ _ => rfl) ?_
                refine fe_s 1 (pc' := cond (fx_cb .eq 0 0) 115 80) (lc' := [(6, .int 8), (5, .int 0), (4, .int 10), (3, .int 5), (2, .int 1), (0, .ref 0), (1, .ref 22)]) (stk' := []) (mem' := fm g tp bt a b) (fun _ _ _ => rfl) ?_
                rw [show (fx_cb .eq 0 0) = true from by decide]
                dsimp only [cond]
                refine fe_s 1 (pc' := 117) (lc' := [(6, .int 8), (5, .int 0), (4, .int 10), (3, .int 5), (2, .int 1), (0, .ref 0), (1, .ref 22)]) (stk' := [.int 0]) (mem' := fm g tp bt a b) (fun _ _ _ => rfl) ?_
                refine fe_s 1 (pc' := cond (fx_cb .eq 0 0) 122 120) (lc' := [(6, .int 8), (5, .int 0), (4, .int 10), (3, .int 5), (2, .int 1), (0, .ref 0), (1, .ref 22)]) (stk' := []) (mem' := fm g tp bt a b) (fun _ _ _ => rfl) ?_
                rw [show (fx_cb .eq 0 0) = true from by decide]
                dsimp only [cond]
                refine fe_s 6 (pc' := 14) (lc' := [(3, .int (10 + 1)), (2, .int (1 + 1)), (6, .int 8), (5, .int 0), (4, .int 10), (0, .ref 0), (1, .ref 22)]) (stk' := []) (mem' := fm g tp bt a b) (fun _ _ _ => rfl) ?_
                rw [show (1 + 1 : Int32) = 2 from rfl]
                rw [show (10 + 1 : Int32) = 11 from rfl]
                refine fe_w (lc' := [(3, .int 11), (2, .int 2), (0, .ref 0), (1, .ref 22)]) ⟨rfl, rfl, rfl, rfl, trivial⟩ (by show List.Nodup [3, 2, 0, 1]; decide) (by show List.Nodup [3, 2, 6, 5, 4, 0, 1]; decide) ?_
                exact fw_2 hxp
          · rw [show (fx_cb .ne 104 (nI n6)) = true from cb_neT (a := 104) (b := n6) (by omega) (by omega) (by omega)]
            dsimp only [cond]
            refine fe_s 6 (pc' := 72) (lc' := [(6, .int (6 + 1)), (5, .int 0), (4, .int 10), (3, .int 5), (2, .int 1), (0, .ref 0), (1, .ref 22)]) (stk' := [.int 10, .int (6 + 1)]) (mem' := fm g tp bt a b) (fun _ _ _ => rfl) ?_
            rw [show (6 + 1 : Int32) = 7 from rfl]
            refine fe_s 1 (pc' := cond (fx_cb .ge 7 10) 115 75) (lc' := [(6, .int 7), (5, .int 0), (4, .int 10), (3, .int 5), (2, .int 1), (0, .ref 0), (1, .ref 22)]) (stk' := []) (mem' := fm g tp bt a b) (fun _ _ _ => rfl) ?_
            rw [show (fx_cb .ge 7 10) = false from by decide]
            dsimp only [cond]
            refine fe_s 1 (pc' := 77) (lc' := [(6, .int 7), (5, .int 0), (4, .int 10), (3, .int 5), (2, .int 1), (0, .ref 0), (1, .ref 22)]) (stk' := [.int 0]) (mem' := fm g tp bt a b) (fun _ _ _ => rfl) ?_
            refine fe_s 1 (pc' := cond (fx_cb .eq 0 0) 115 80) (lc' := [(6, .int 7), (5, .int 0), (4, .int 10), (3, .int 5), (2, .int 1), (0, .ref 0), (1, .ref 22)]) (stk' := []) (mem' := fm g tp bt a b) (fun _ _ _ => rfl) ?_
            rw [show (fx_cb .eq 0 0) = true from by decide]
            dsimp only [cond]
            refine fe_s 1 (pc' := 117) (lc' := [(6, .int 7), (5, .int 0), (4, .int 10), (3, .int 5), (2, .int 1), (0, .ref 0), (1, .ref 22)]) (stk' := [.int 0]) (mem' := fm g tp bt a b) (fun _ _ _ => rfl) ?_
            refine fe_s 1 (pc' := cond (fx_cb .eq 0 0) 122 120) (lc' := [(6, .int 7), (5, .int 0), (4, .int 10), (3, .int 5), (2, .int 1), (0, .ref 0), (1, .ref 22)]) (stk' := []) (mem' := fm g tp bt a b) (fun _ _ _ => rfl) ?_
            rw [show (fx_cb .eq 0 0) = true from by decide]
            dsimp only [cond]
            refine fe_s 6 (pc' := 14) (lc' := [(3, .int (10 + 1)), (2, .int (1 + 1)), (6, .int 7), (5, .int 0), (4, .int 10), (0, .ref 0), (1, .ref 22)]) (stk' := []) (mem' := fm g tp bt a b) (fun _ _ _ => rfl) ?_
            rw [show (1 + 1 : Int32) = 2 from rfl]
            rw [show (10 + 1 : Int32) = 11 from rfl]
            refine fe_w (lc' := [(3, .int 11), (2, .int 2), (0, .ref 0), (1, .ref 22)]) ⟨rfl, rfl, rfl, rfl, trivial⟩ (by show List.Nodup [3, 2, 0, 1]; decide) (by show List.Nodup [3, 2, 6, 5, 4, 0, 1]; decide) ?_
            exact fw_2 hxp
      · rw [show (fx_cb .ne 115 (nI n2)) = true from cb_neT (a := 115) (b := n2) (by omega) (by omega) (by omega)]
        dsimp only [cond]
        refine fe_s 6 (pc' := 72) (lc' := [(6, .int (5 + 1)), (5, .int 0), (4, .int 10), (3, .int 5), (2, .int 1), (0, .ref 0), (1, .ref 22)]) (stk' := [.int 10, .int (5 + 1)]) (mem' := fm g tp bt a b) (fun _ _ _ => rfl) ?_
        rw [show (5 + 1 : Int32) = 6 from rfl]
        refine fe_s 1 (pc' := cond (fx_cb .ge 6 10) 115 75) (lc' := [(6, .int 6), (5, .int 0), (4, .int 10), (3, .int 5), (2, .int 1), (0, .ref 0), (1, .ref 22)]) (stk' := []) (mem' := fm g tp bt a b) (fun _ _ _ => rfl) ?_
        rw [show (fx_cb .ge 6 10) = false from by decide]
        dsimp only [cond]
        refine fe_s 1 (pc' := 77) (lc' := [(6, .int 6), (5, .int 0), (4, .int 10), (3, .int 5), (2, .int 1), (0, .ref 0), (1, .ref 22)]) (stk' := [.int 0]) (mem' := fm g tp bt a b) (fun _ _ _ => rfl) ?_
        refine fe_s 1 (pc' := cond (fx_cb .eq 0 0) 115 80) (lc' := [(6, .int 6), (5, .int 0), (4, .int 10), (3, .int 5), (2, .int 1), (0, .ref 0), (1, .ref 22)]) (stk' := []) (mem' := fm g tp bt a b) (fun _ _ _ => rfl) ?_
        rw [show (fx_cb .eq 0 0) = true from by decide]
        dsimp only [cond]
        refine fe_s 1 (pc' := 117) (lc' := [(6, .int 6), (5, .int 0), (4, .int 10), (3, .int 5), (2, .int 1), (0, .ref 0), (1, .ref 22)]) (stk' := [.int 0]) (mem' := fm g tp bt a b) (fun _ _ _ => rfl) ?_
        refine fe_s 1 (pc' := cond (fx_cb .eq 0 0) 122 120) (lc' := [(6, .int 6), (5, .int 0), (4, .int 10), (3, .int 5), (2, .int 1), (0, .ref 0), (1, .ref 22)]) (stk' := []) (mem' := fm g tp bt a b) (fun _ _ _ => rfl) ?_
        rw [show (fx_cb .eq 0 0) = true from by decide]
        dsimp only [cond]
        refine fe_s 6 (pc' := 14) (lc' := [(3, .int (10 + 1)), (2, .int (1 + 1)), (6, .int 6), (5, .int 0), (4, .int 10), (0, .ref 0), (1, .ref 22)]) (stk' := []) (mem' := fm g tp bt a b) (fun _ _ _ => rfl) ?_
        rw [show (1 + 1 : Int32) = 2 from rfl]
        rw [show (10 + 1 : Int32) = 11 from rfl]
        refine fe_w (lc' := [(3, .int 11), (2, .int 2), (0, .ref 0), (1, .ref 22)]) ⟨rfl, rfl, rfl, rfl, trivial⟩ (by show List.Nodup [3, 2, 0, 1]; decide) (by show List.Nodup [3, 2, 6, 5, 4, 0, 1]; decide) ?_
        exact fw_2 hxp
  · rw [show (fx_cb .ne 5 (nI (E - F))) = true from cb_neT (a := 5) (b := E - F) (by omega) (by omega) (by omega)]
    dsimp only [cond]
    refine fe_s 6 (pc' := 72) (lc' := [(6, .int 5), (5, .int 0), (4, .int 10), (3, .int 5), (2, .int 1), (0, .ref 0), (1, .ref 22)]) (stk' := [.int 10, .int 5]) (mem' := fm g tp bt a b) (fun _ _ _ => rfl) ?_
    refine fe_s 1 (pc' := cond (fx_cb .ge 5 10) 115 75) (lc' := [(6, .int 5), (5, .int 0), (4, .int 10), (3, .int 5), (2, .int 1), (0, .ref 0), (1, .ref 22)]) (stk' := []) (mem' := fm g tp bt a b) (fun _ _ _ => rfl) ?_
    rw [show (fx_cb .ge 5 10) = false from by decide]
    dsimp only [cond]
    refine fe_s 1 (pc' := 77) (lc' := [(6, .int 5), (5, .int 0), (4, .int 10), (3, .int 5), (2, .int 1), (0, .ref 0), (1, .ref 22)]) (stk' := [.int 0]) (mem' := fm g tp bt a b) (fun _ _ _ => rfl) ?_
    refine fe_s 1 (pc' := cond (fx_cb .eq 0 0) 115 80) (lc' := [(6, .int 5), (5, .int 0), (4, .int 10), (3, .int 5), (2, .int 1), (0, .ref 0), (1, .ref 22)]) (stk' := []) (mem' := fm g tp bt a b) (fun _ _ _ => rfl) ?_
    rw [show (fx_cb .eq 0 0) = true from by decide]
    dsimp only [cond]
    refine fe_s 1 (pc' := 117) (lc' := [(6, .int 5), (5, .int 0), (4, .int 10), (3, .int 5), (2, .int 1), (0, .ref 0), (1, .ref 22)]) (stk' := [.int 0]) (mem' := fm g tp bt a b) (fun _ _ _ => rfl) ?_
    refine fe_s 1 (pc' := cond (fx_cb .eq 0 0) 122 120) (lc' := [(6, .int 5), (5, .int 0), (4, .int 10), (3, .int 5), (2, .int 1), (0, .ref 0), (1, .ref 22)]) (stk' := []) (mem' := fm g tp bt a b) (fun _ _ _ => rfl) ?_
    rw [show (fx_cb .eq 0 0) = true from by decide]
    dsimp only [cond]
    refine fe_s 6 (pc' := 14) (lc' := [(3, .int (10 + 1)), (2, .int (1 + 1)), (6, .int 5), (5, .int 0), (4, .int 10), (0, .ref 0), (1, .ref 22)]) (stk' := []) (mem' := fm g tp bt a b) (fun _ _ _ => rfl) ?_
    rw [show (1 + 1 : Int32) = 2 from rfl]
    rw [show (10 + 1 : Int32) = 11 from rfl]
    refine fe_w (lc' := [(3, .int 11), (2, .int 2), (0, .ref 0), (1, .ref 22)]) ⟨rfl, rfl, rfl, rfl, trivial⟩ (by show List.Nodup [3, 2, 0, 1]; decide) (by show List.Nodup [3, 2, 6, 5, 4, 0, 1]; decide) ?_
    exact fw_2 hxp
theorem fw_0 {S E F : Nat} (hxp : fm_xp g S E F) : fe_R 1 gk_m226 14 [(3, .int 1), (2, .int 0), (0, .ref 0), (1, .ref 22)] [] (fm g tp bt a b) (fm_FI (fm g tp bt a b)) := by
  obtain ⟨h11, hS9, h14, hES, h13, hFE, -, -, -⟩ := id hxp
  refine fe_s 2 (pc' := 16) (lc' := [(3, .int 1), (2, .int 0), (0, .ref 0), (1, .ref 22)]) (stk' := [.ref 22, .int 1]) (mem' := fm g tp bt a b) (fun _ _ _ => rfl) ?_
  refine fe_s 1 (pc' := 19) (lc' := [(3, .int 1), (2, .int 0), (0, .ref 0), (1, .ref 22)]) (stk' := [.int 117, .int 1]) (mem' := fm g tp bt a b) (fun _ _ _ => rfl) ?_
  refine fe_s 1 (pc' := cond (fx_cb .ge 1 117) 133 22) (lc' := [(3, .int 1), (2, .int 0), (0, .ref 0), (1, .ref 22)]) (stk' := []) (mem' := fm g tp bt a b) (fun _ _ _ => rfl) ?_
  rw [show (fx_cb .ge 1 117) = false from by decide]
  dsimp only [cond]
  refine fe_s 4 (pc' := 28) (lc' := [(4, .int 1), (3, .int 1), (2, .int 0), (0, .ref 0), (1, .ref 22)]) (stk' := [.int 1, .ref 22]) (mem' := fm g tp bt a b) (fun _ _ _ => rfl) ?_
  refine fe_chr (i := 1) (by omega) (by rfl) (by rfl) ⟨by rfl, by rfl⟩ (by rfl) ?_
  rw [show sk_b.getD 1 0 = 105 from rfl]
  refine fe_s 1 (pc' := 33) (lc' := [(4, .int 1), (3, .int 1), (2, .int 0), (0, .ref 0), (1, .ref 22)]) (stk' := [.int 32, .int 105]) (mem' := fm g tp bt a b) (fun _ _ _ => rfl) ?_
  refine fe_s 1 (pc' := cond (fx_cb .eq 105 32) 42 36) (lc' := [(4, .int 1), (3, .int 1), (2, .int 0), (0, .ref 0), (1, .ref 22)]) (stk' := []) (mem' := fm g tp bt a b) (fun _ _ _ => rfl) ?_
  rw [show (fx_cb .eq 105 32) = false from by decide]
  dsimp only [cond]
  refine fe_s 4 (pc' := 28) (lc' := [(4, .int (1 + 1)), (3, .int 1), (2, .int 0), (0, .ref 0), (1, .ref 22)]) (stk' := [.int (1 + 1), .ref 22]) (mem' := fm g tp bt a b) (fun _ _ _ => rfl) ?_
  rw [show (1 + 1 : Int32) = 2 from rfl]
  refine fe_chr (i := 2) (by omega) (by rfl) (by rfl) ⟨by rfl, by rfl⟩ (by rfl) ?_
  rw [show sk_b.getD 2 0 = 99 from rfl]
  refine fe_s 1 (pc' := 33) (lc' := [(4, .int 2), (3, .int 1), (2, .int 0), (0, .ref 0), (1, .ref 22)]) (stk' := [.int 32, .int 99]) (mem' := fm g tp bt a b) (fun _ _ _ => rfl) ?_
  refine fe_s 1 (pc' := cond (fx_cb .eq 99 32) 42 36) (lc' := [(4, .int 2), (3, .int 1), (2, .int 0), (0, .ref 0), (1, .ref 22)]) (stk' := []) (mem' := fm g tp bt a b) (fun _ _ _ => rfl) ?_
  rw [show (fx_cb .eq 99 32) = false from by decide]
  dsimp only [cond]
  refine fe_s 4 (pc' := 28) (lc' := [(4, .int (2 + 1)), (3, .int 1), (2, .int 0), (0, .ref 0), (1, .ref 22)]) (stk' := [.int (2 + 1), .ref 22]) (mem' := fm g tp bt a b) (fun _ _ _ => rfl) ?_
  rw [show (2 + 1 : Int32) = 3 from rfl]
  refine fe_chr (i := 3) (by omega) (by rfl) (by rfl) ⟨by rfl, by rfl⟩ (by rfl) ?_
  rw [show sk_b.getD 3 0 = 101 from rfl]
  refine fe_s 1 (pc' := 33) (lc' := [(4, .int 3), (3, .int 1), (2, .int 0), (0, .ref 0), (1, .ref 22)]) (stk' := [.int 32, .int 101]) (mem' := fm g tp bt a b) (fun _ _ _ => rfl) ?_
  refine fe_s 1 (pc' := cond (fx_cb .eq 101 32) 42 36) (lc' := [(4, .int 3), (3, .int 1), (2, .int 0), (0, .ref 0), (1, .ref 22)]) (stk' := []) (mem' := fm g tp bt a b) (fun _ _ _ => rfl) ?_
  rw [show (fx_cb .eq 101 32) = false from by decide]
  dsimp only [cond]
  refine fe_s 4 (pc' := 28) (lc' := [(4, .int (3 + 1)), (3, .int 1), (2, .int 0), (0, .ref 0), (1, .ref 22)]) (stk' := [.int (3 + 1), .ref 22]) (mem' := fm g tp bt a b) (fun _ _ _ => rfl) ?_
  rw [show (3 + 1 : Int32) = 4 from rfl]
  refine fe_chr (i := 4) (by omega) (by rfl) (by rfl) ⟨by rfl, by rfl⟩ (by rfl) ?_
  rw [show sk_b.getD 4 0 = 32 from rfl]
  refine fe_s 1 (pc' := 33) (lc' := [(4, .int 4), (3, .int 1), (2, .int 0), (0, .ref 0), (1, .ref 22)]) (stk' := [.int 32, .int 32]) (mem' := fm g tp bt a b) (fun _ _ _ => rfl) ?_
  refine fe_s 1 (pc' := cond (fx_cb .eq 32 32) 42 36) (lc' := [(4, .int 4), (3, .int 1), (2, .int 0), (0, .ref 0), (1, .ref 22)]) (stk' := []) (mem' := fm g tp bt a b) (fun _ _ _ => rfl) ?_
  rw [show (fx_cb .eq 32 32) = true from by decide]
  dsimp only [cond]
  refine fe_s 8 (pc' := 55) (lc' := [(4, .int 4), (3, .int 1), (2, .int 0), (0, .ref 0), (1, .ref 22)]) (stk' := [.int ((g 14) - (g 13)), .int (4 - 1)]) (mem' := fm g tp bt a b) (fun _ _ _ => rfl) ?_
  try rw [h14]
  try rw [h13]
  rw [show (4 - 1 : Int32) = 3 from rfl]
  rw [show ((nI E) - (nI F) : Int32) = nI (E - F) from by simp only [tg_sub2 (x := E) (y := F) (by omega), nI_add, fm_mul]]
  refine fe_s 1 (pc' := cond (fx_cb .ne 3 (nI (E - F))) 62 58) (lc' := [(4, .int 4), (3, .int 1), (2, .int 0), (0, .ref 0), (1, .ref 22)]) (stk' := []) (mem' := fm g tp bt a b) (fun _ _ _ => rfl) ?_
  by_cases h1 : 3 = (E - F)
  · rw [show (fx_cb .ne 3 (nI (E - F))) = false from cb_neF (a := 3) (b := E - F) (by omega) (by omega) (by omega)]
    dsimp only [cond]
    refine fe_s 7 (pc' := 72) (lc' := [(6, .int 1), (5, .int 1), (4, .int 4), (3, .int 1), (2, .int 0), (0, .ref 0), (1, .ref 22)]) (stk' := [.int 4, .int 1]) (mem' := fm g tp bt a b) (fun _ _ _ => rfl) ?_
    refine fe_s 1 (pc' := cond (fx_cb .ge 1 4) 115 75) (lc' := [(6, .int 1), (5, .int 1), (4, .int 4), (3, .int 1), (2, .int 0), (0, .ref 0), (1, .ref 22)]) (stk' := []) (mem' := fm g tp bt a b) (fun _ _ _ => rfl) ?_
    rw [show (fx_cb .ge 1 4) = false from by decide]
    dsimp only [cond]
    refine fe_s 1 (pc' := 77) (lc' := [(6, .int 1), (5, .int 1), (4, .int 4), (3, .int 1), (2, .int 0), (0, .ref 0), (1, .ref 22)]) (stk' := [.int 1]) (mem' := fm g tp bt a b) (fun _ _ _ => rfl) ?_
    refine fe_s 1 (pc' := cond (fx_cb .eq 1 0) 115 80) (lc' := [(6, .int 1), (5, .int 1), (4, .int 4), (3, .int 1), (2, .int 0), (0, .ref 0), (1, .ref 22)]) (stk' := []) (mem' := fm g tp bt a b) (fun _ _ _ => rfl) ?_
    rw [show (fx_cb .eq 1 0) = false from by decide]
    dsimp only [cond]
    refine fe_s 2 (pc' := 83) (lc' := [(6, .int 1), (5, .int 1), (4, .int 4), (3, .int 1), (2, .int 0), (0, .ref 0), (1, .ref 22)]) (stk' := [.int 1, .ref 22]) (mem' := fm g tp bt a b) (fun _ _ _ => rfl) ?_
    refine fe_chr (i := 1) (by omega) (by rfl) (by rfl) ⟨by rfl, by rfl⟩ (by rfl) ?_
    rw [show sk_b.getD 1 0 = 105 from rfl]
    refine fe_s 7 (pc' := 96) (lc' := [(6, .int 1), (5, .int 1), (4, .int 4), (3, .int 1), (2, .int 0), (0, .ref 0), (1, .ref 22)]) (stk' := [.int (((g 13) + 1) - 1), .ref 0, .int 105]) (mem' := fm g tp bt a b) (fun _ _ _ => rfl) ?_
    try rw [h13]
    rw [show (((nI F) + 1) - 1 : Int32) = nI ((F + 1) - 1) from by simp only [show (1 : Int32) = nI 1 from rfl, tg_sub2 (x := F + 1) (y := 1) (by omega), nI_add, fm_mul]]
    refine fe_ivV (fr_byteAt (S := S) (k := (F + 1) - 1) (g := g) (tp := tp) (bt := bt) (a := a) (b := b) h11 (by omega) (by omega)) (by omega) (by rfl) (by rfl) (by rfl) (by rfl) (by rfl) (by rfl) ?_
    rcases fm_byte_or a S ((F + 1) - 1) with ⟨e3, q4⟩ | ⟨q4, n2, qn2, e3⟩
    · rw [e3]
      refine fe_s 1 (pc' := cond (fx_cb .ne 105 (-1)) 106 102) (lc' := [(6, .int 1), (5, .int 1), (4, .int 4), (3, .int 1), (2, .int 0), (0, .ref 0), (1, .ref 22)]) (stk' := []) (mem' := fm g tp bt a b) (fun _ _ _ => rfl) ?_
      rw [show (fx_cb .ne 105 (-1)) = true from by decide]
      dsimp only [cond]
      refine fe_s 6 (pc' := 72) (lc' := [(6, .int (1 + 1)), (5, .int 0), (4, .int 4), (3, .int 1), (2, .int 0), (0, .ref 0), (1, .ref 22)]) (stk' := [.int 4, .int (1 + 1)]) (mem' := fm g tp bt a b) (fun _ _ _ => rfl) ?_
      rw [show (1 + 1 : Int32) = 2 from rfl]
      refine fe_s 1 (pc' := cond (fx_cb .ge 2 4) 115 75) (lc' := [(6, .int 2), (5, .int 0), (4, .int 4), (3, .int 1), (2, .int 0), (0, .ref 0), (1, .ref 22)]) (stk' := []) (mem' := fm g tp bt a b) (fun _ _ _ => rfl) ?_
      rw [show (fx_cb .ge 2 4) = false from by decide]
      dsimp only [cond]
      refine fe_s 1 (pc' := 77) (lc' := [(6, .int 2), (5, .int 0), (4, .int 4), (3, .int 1), (2, .int 0), (0, .ref 0), (1, .ref 22)]) (stk' := [.int 0]) (mem' := fm g tp bt a b) (fun _ _ _ => rfl) ?_
      refine fe_s 1 (pc' := cond (fx_cb .eq 0 0) 115 80) (lc' := [(6, .int 2), (5, .int 0), (4, .int 4), (3, .int 1), (2, .int 0), (0, .ref 0), (1, .ref 22)]) (stk' := []) (mem' := fm g tp bt a b) (fun _ _ _ => rfl) ?_
      rw [show (fx_cb .eq 0 0) = true from by decide]
      dsimp only [cond]
      refine fe_s 1 (pc' := 117) (lc' := [(6, .int 2), (5, .int 0), (4, .int 4), (3, .int 1), (2, .int 0), (0, .ref 0), (1, .ref 22)]) (stk' := [.int 0]) (mem' := fm g tp bt a b) (fun _ _ _ => rfl) ?_
      refine fe_s 1 (pc' := cond (fx_cb .eq 0 0) 122 120) (lc' := [(6, .int 2), (5, .int 0), (4, .int 4), (3, .int 1), (2, .int 0), (0, .ref 0), (1, .ref 22)]) (stk' := []) (mem' := fm g tp bt a b) (fun _ _ _ => rfl) ?_
      rw [show (fx_cb .eq 0 0) = true from by decide]
      dsimp only [cond]
      refine fe_s 6 (pc' := 14) (lc' := [(3, .int (4 + 1)), (2, .int (0 + 1)), (6, .int 2), (5, .int 0), (4, .int 4), (0, .ref 0), (1, .ref 22)]) (stk' := []) (mem' := fm g tp bt a b) (fun _ _ _ => rfl) ?_
      rw [show (4 + 1 : Int32) = 5 from rfl]
      rw [show (0 + 1 : Int32) = 1 from rfl]
      refine fe_w (lc' := [(3, .int 5), (2, .int 1), (0, .ref 0), (1, .ref 22)]) ⟨rfl, rfl, rfl, rfl, trivial⟩ (by show List.Nodup [3, 2, 0, 1]; decide) (by show List.Nodup [3, 2, 6, 5, 4, 0, 1]; decide) ?_
      exact fw_1 hxp
    · rw [e3]
      refine fe_s 1 (pc' := cond (fx_cb .ne 105 (nI n2)) 106 102) (lc' := [(6, .int 1), (5, .int 1), (4, .int 4), (3, .int 1), (2, .int 0), (0, .ref 0), (1, .ref 22)]) (stk' := []) (mem' := fm g tp bt a b) (fun _ _ _ => rfl) ?_
      by_cases h5 : 105 = n2
      · rw [show (fx_cb .ne 105 (nI n2)) = false from cb_neF (a := 105) (b := n2) (by omega) (by omega) (by omega)]
        dsimp only [cond]
        refine fe_s 7 (pc' := 72) (lc' := [(6, .int (1 + 1)), (5, .int 1), (4, .int 4), (3, .int 1), (2, .int 0), (0, .ref 0), (1, .ref 22)]) (stk' := [.int 4, .int (1 + 1)]) (mem' := fm g tp bt a b) (fun _ _ _ => rfl) ?_
        rw [show (1 + 1 : Int32) = 2 from rfl]
        refine fe_s 1 (pc' := cond (fx_cb .ge 2 4) 115 75) (lc' := [(6, .int 2), (5, .int 1), (4, .int 4), (3, .int 1), (2, .int 0), (0, .ref 0), (1, .ref 22)]) (stk' := []) (mem' := fm g tp bt a b) (fun _ _ _ => rfl) ?_
        rw [show (fx_cb .ge 2 4) = false from by decide]
        dsimp only [cond]
        refine fe_s 1 (pc' := 77) (lc' := [(6, .int 2), (5, .int 1), (4, .int 4), (3, .int 1), (2, .int 0), (0, .ref 0), (1, .ref 22)]) (stk' := [.int 1]) (mem' := fm g tp bt a b) (fun _ _ _ => rfl) ?_
        refine fe_s 1 (pc' := cond (fx_cb .eq 1 0) 115 80) (lc' := [(6, .int 2), (5, .int 1), (4, .int 4), (3, .int 1), (2, .int 0), (0, .ref 0), (1, .ref 22)]) (stk' := []) (mem' := fm g tp bt a b) (fun _ _ _ => rfl) ?_
        rw [show (fx_cb .eq 1 0) = false from by decide]
        dsimp only [cond]
        refine fe_s 2 (pc' := 83) (lc' := [(6, .int 2), (5, .int 1), (4, .int 4), (3, .int 1), (2, .int 0), (0, .ref 0), (1, .ref 22)]) (stk' := [.int 2, .ref 22]) (mem' := fm g tp bt a b) (fun _ _ _ => rfl) ?_
        refine fe_chr (i := 2) (by omega) (by rfl) (by rfl) ⟨by rfl, by rfl⟩ (by rfl) ?_
        rw [show sk_b.getD 2 0 = 99 from rfl]
        refine fe_s 7 (pc' := 96) (lc' := [(6, .int 2), (5, .int 1), (4, .int 4), (3, .int 1), (2, .int 0), (0, .ref 0), (1, .ref 22)]) (stk' := [.int (((g 13) + 2) - 1), .ref 0, .int 99]) (mem' := fm g tp bt a b) (fun _ _ _ => rfl) ?_
        try rw [h13]
        rw [show (((nI F) + 2) - 1 : Int32) = nI ((F + 2) - 1) from by simp only [show (2 : Int32) = nI 2 from rfl, show (1 : Int32) = nI 1 from rfl, tg_sub2 (x := F + 2) (y := 1) (by omega), nI_add, fm_mul]]
        refine fe_ivV (fr_byteAt (S := S) (k := (F + 2) - 1) (g := g) (tp := tp) (bt := bt) (a := a) (b := b) h11 (by omega) (by omega)) (by omega) (by rfl) (by rfl) (by rfl) (by rfl) (by rfl) (by rfl) ?_
        rcases fm_byte_or a S ((F + 2) - 1) with ⟨e7, q8⟩ | ⟨q8, n6, qn6, e7⟩
        · rw [e7]
          refine fe_s 1 (pc' := cond (fx_cb .ne 99 (-1)) 106 102) (lc' := [(6, .int 2), (5, .int 1), (4, .int 4), (3, .int 1), (2, .int 0), (0, .ref 0), (1, .ref 22)]) (stk' := []) (mem' := fm g tp bt a b) (fun _ _ _ => rfl) ?_
          rw [show (fx_cb .ne 99 (-1)) = true from by decide]
          dsimp only [cond]
          refine fe_s 6 (pc' := 72) (lc' := [(6, .int (2 + 1)), (5, .int 0), (4, .int 4), (3, .int 1), (2, .int 0), (0, .ref 0), (1, .ref 22)]) (stk' := [.int 4, .int (2 + 1)]) (mem' := fm g tp bt a b) (fun _ _ _ => rfl) ?_
          rw [show (2 + 1 : Int32) = 3 from rfl]
          refine fe_s 1 (pc' := cond (fx_cb .ge 3 4) 115 75) (lc' := [(6, .int 3), (5, .int 0), (4, .int 4), (3, .int 1), (2, .int 0), (0, .ref 0), (1, .ref 22)]) (stk' := []) (mem' := fm g tp bt a b) (fun _ _ _ => rfl) ?_
          rw [show (fx_cb .ge 3 4) = false from by decide]
          dsimp only [cond]
          refine fe_s 1 (pc' := 77) (lc' := [(6, .int 3), (5, .int 0), (4, .int 4), (3, .int 1), (2, .int 0), (0, .ref 0), (1, .ref 22)]) (stk' := [.int 0]) (mem' := fm g tp bt a b) (fun _ _ _ => rfl) ?_
          refine fe_s 1 (pc' := cond (fx_cb .eq 0 0) 115 80) (lc' := [(6, .int 3), (5, .int 0), (4, .int 4), (3, .int 1), (2, .int 0), (0, .ref 0), (1, .ref 22)]) (stk' := []) (mem' := fm g tp bt a b) (fun _ _ _ => rfl) ?_
          rw [show (fx_cb .eq 0 0) = true from by decide]
          dsimp only [cond]
          refine fe_s 1 (pc' := 117) (lc' := [(6, .int 3), (5, .int 0), (4, .int 4), (3, .int 1), (2, .int 0), (0, .ref 0), (1, .ref 22)]) (stk' := [.int 0]) (mem' := fm g tp bt a b) (fun _ _ _ => rfl) ?_
          refine fe_s 1 (pc' := cond (fx_cb .eq 0 0) 122 120) (lc' := [(6, .int 3), (5, .int 0), (4, .int 4), (3, .int 1), (2, .int 0), (0, .ref 0), (1, .ref 22)]) (stk' := []) (mem' := fm g tp bt a b) (fun _ _ _ => rfl) ?_
          rw [show (fx_cb .eq 0 0) = true from by decide]
          dsimp only [cond]
          refine fe_s 6 (pc' := 14) (lc' := [(3, .int (4 + 1)), (2, .int (0 + 1)), (6, .int 3), (5, .int 0), (4, .int 4), (0, .ref 0), (1, .ref 22)]) (stk' := []) (mem' := fm g tp bt a b) (fun _ _ _ => rfl) ?_
          rw [show (4 + 1 : Int32) = 5 from rfl]
          rw [show (0 + 1 : Int32) = 1 from rfl]
          refine fe_w (lc' := [(3, .int 5), (2, .int 1), (0, .ref 0), (1, .ref 22)]) ⟨rfl, rfl, rfl, rfl, trivial⟩ (by show List.Nodup [3, 2, 0, 1]; decide) (by show List.Nodup [3, 2, 6, 5, 4, 0, 1]; decide) ?_
          exact fw_1 hxp
        · rw [e7]
          refine fe_s 1 (pc' := cond (fx_cb .ne 99 (nI n6)) 106 102) (lc' := [(6, .int 2), (5, .int 1), (4, .int 4), (3, .int 1), (2, .int 0), (0, .ref 0), (1, .ref 22)]) (stk' := []) (mem' := fm g tp bt a b) (fun _ _ _ => rfl) ?_
          by_cases h9 : 99 = n6
          · rw [show (fx_cb .ne 99 (nI n6)) = false from cb_neF (a := 99) (b := n6) (by omega) (by omega) (by omega)]
            dsimp only [cond]
            refine fe_s 7 (pc' := 72) (lc' := [(6, .int (2 + 1)), (5, .int 1), (4, .int 4), (3, .int 1), (2, .int 0), (0, .ref 0), (1, .ref 22)]) (stk' := [.int 4, .int (2 + 1)]) (mem' := fm g tp bt a b) (fun _ _ _ => rfl) ?_
            rw [show (2 + 1 : Int32) = 3 from rfl]
            refine fe_s 1 (pc' := cond (fx_cb .ge 3 4) 115 75) (lc' := [(6, .int 3), (5, .int 1), (4, .int 4), (3, .int 1), (2, .int 0), (0, .ref 0), (1, .ref 22)]) (stk' := []) (mem' := fm g tp bt a b) (fun _ _ _ => rfl) ?_
            rw [show (fx_cb .ge 3 4) = false from by decide]
            dsimp only [cond]
            refine fe_s 1 (pc' := 77) (lc' := [(6, .int 3), (5, .int 1), (4, .int 4), (3, .int 1), (2, .int 0), (0, .ref 0), (1, .ref 22)]) (stk' := [.int 1]) (mem' := fm g tp bt a b) (fun _ _ _ => rfl) ?_
            refine fe_s 1 (pc' := cond (fx_cb .eq 1 0) 115 80) (lc' := [(6, .int 3), (5, .int 1), (4, .int 4), (3, .int 1), (2, .int 0), (0, .ref 0), (1, .ref 22)]) (stk' := []) (mem' := fm g tp bt a b) (fun _ _ _ => rfl) ?_
            rw [show (fx_cb .eq 1 0) = false from by decide]
            dsimp only [cond]
            refine fe_s 2 (pc' := 83) (lc' := [(6, .int 3), (5, .int 1), (4, .int 4), (3, .int 1), (2, .int 0), (0, .ref 0), (1, .ref 22)]) (stk' := [.int 3, .ref 22]) (mem' := fm g tp bt a b) (fun _ _ _ => rfl) ?_
            refine fe_chr (i := 3) (by omega) (by rfl) (by rfl) ⟨by rfl, by rfl⟩ (by rfl) ?_
            rw [show sk_b.getD 3 0 = 101 from rfl]
            refine fe_s 7 (pc' := 96) (lc' := [(6, .int 3), (5, .int 1), (4, .int 4), (3, .int 1), (2, .int 0), (0, .ref 0), (1, .ref 22)]) (stk' := [.int (((g 13) + 3) - 1), .ref 0, .int 101]) (mem' := fm g tp bt a b) (fun _ _ _ => rfl) ?_
            try rw [h13]
            rw [show (((nI F) + 3) - 1 : Int32) = nI ((F + 3) - 1) from by simp only [show (3 : Int32) = nI 3 from rfl, show (1 : Int32) = nI 1 from rfl, tg_sub2 (x := F + 3) (y := 1) (by omega), nI_add, fm_mul]]
            refine fe_ivV (fr_byteAt (S := S) (k := (F + 3) - 1) (g := g) (tp := tp) (bt := bt) (a := a) (b := b) h11 (by omega) (by omega)) (by omega) (by rfl) (by rfl) (by rfl) (by rfl) (by rfl) (by rfl) ?_
            rcases fm_byte_or a S ((F + 3) - 1) with ⟨e11, q12⟩ | ⟨q12, n10, qn10, e11⟩
            · rw [e11]
              refine fe_s 1 (pc' := cond (fx_cb .ne 101 (-1)) 106 102) (lc' := [(6, .int 3), (5, .int 1), (4, .int 4), (3, .int 1), (2, .int 0), (0, .ref 0), (1, .ref 22)]) (stk' := []) (mem' := fm g tp bt a b) (fun _ _ _ => rfl) ?_
              rw [show (fx_cb .ne 101 (-1)) = true from by decide]
              dsimp only [cond]
              refine fe_s 6 (pc' := 72) (lc' := [(6, .int (3 + 1)), (5, .int 0), (4, .int 4), (3, .int 1), (2, .int 0), (0, .ref 0), (1, .ref 22)]) (stk' := [.int 4, .int (3 + 1)]) (mem' := fm g tp bt a b) (fun _ _ _ => rfl) ?_
              rw [show (3 + 1 : Int32) = 4 from rfl]
              refine fe_s 1 (pc' := cond (fx_cb .ge 4 4) 115 75) (lc' := [(6, .int 4), (5, .int 0), (4, .int 4), (3, .int 1), (2, .int 0), (0, .ref 0), (1, .ref 22)]) (stk' := []) (mem' := fm g tp bt a b) (fun _ _ _ => rfl) ?_
              rw [show (fx_cb .ge 4 4) = true from by decide]
              dsimp only [cond]
              refine fe_s 1 (pc' := 117) (lc' := [(6, .int 4), (5, .int 0), (4, .int 4), (3, .int 1), (2, .int 0), (0, .ref 0), (1, .ref 22)]) (stk' := [.int 0]) (mem' := fm g tp bt a b) (fun _ _ _ => rfl) ?_
              refine fe_s 1 (pc' := cond (fx_cb .eq 0 0) 122 120) (lc' := [(6, .int 4), (5, .int 0), (4, .int 4), (3, .int 1), (2, .int 0), (0, .ref 0), (1, .ref 22)]) (stk' := []) (mem' := fm g tp bt a b) (fun _ _ _ => rfl) ?_
              rw [show (fx_cb .eq 0 0) = true from by decide]
              dsimp only [cond]
              refine fe_s 6 (pc' := 14) (lc' := [(3, .int (4 + 1)), (2, .int (0 + 1)), (6, .int 4), (5, .int 0), (4, .int 4), (0, .ref 0), (1, .ref 22)]) (stk' := []) (mem' := fm g tp bt a b) (fun _ _ _ => rfl) ?_
              rw [show (4 + 1 : Int32) = 5 from rfl]
              rw [show (0 + 1 : Int32) = 1 from rfl]
              refine fe_w (lc' := [(3, .int 5), (2, .int 1), (0, .ref 0), (1, .ref 22)]) ⟨rfl, rfl, rfl, rfl, trivial⟩ (by show List.Nodup [3, 2, 0, 1]; decide) (by show List.Nodup [3, 2, 6, 5, 4, 0, 1]; decide) ?_
              exact fw_1 hxp
            · rw [e11]
              refine fe_s 1 (pc' := cond (fx_cb .ne 101 (nI n10)) 106 102) (lc' := [(6, .int 3), (5, .int 1), (4, .int 4), (3, .int 1), (2, .int 0), (0, .ref 0), (1, .ref 22)]) (stk' := []) (mem' := fm g tp bt a b) (fun _ _ _ => rfl) ?_
              by_cases h13 : 101 = n10
              · rw [show (fx_cb .ne 101 (nI n10)) = false from cb_neF (a := 101) (b := n10) (by omega) (by omega) (by omega)]
                dsimp only [cond]
                refine fe_s 7 (pc' := 72) (lc' := [(6, .int (3 + 1)), (5, .int 1), (4, .int 4), (3, .int 1), (2, .int 0), (0, .ref 0), (1, .ref 22)]) (stk' := [.int 4, .int (3 + 1)]) (mem' := fm g tp bt a b) (fun _ _ _ => rfl) ?_
                rw [show (3 + 1 : Int32) = 4 from rfl]
                refine fe_s 1 (pc' := cond (fx_cb .ge 4 4) 115 75) (lc' := [(6, .int 4), (5, .int 1), (4, .int 4), (3, .int 1), (2, .int 0), (0, .ref 0), (1, .ref 22)]) (stk' := []) (mem' := fm g tp bt a b) (fun _ _ _ => rfl) ?_
                rw [show (fx_cb .ge 4 4) = true from by decide]
                dsimp only [cond]
                refine fe_s 1 (pc' := 117) (lc' := [(6, .int 4), (5, .int 1), (4, .int 4), (3, .int 1), (2, .int 0), (0, .ref 0), (1, .ref 22)]) (stk' := [.int 1]) (mem' := fm g tp bt a b) (fun _ _ _ => rfl) ?_
                refine fe_s 1 (pc' := cond (fx_cb .eq 1 0) 122 120) (lc' := [(6, .int 4), (5, .int 1), (4, .int 4), (3, .int 1), (2, .int 0), (0, .ref 0), (1, .ref 22)]) (stk' := []) (mem' := fm g tp bt a b) (fun _ _ _ => rfl) ?_
                rw [show (fx_cb .eq 1 0) = false from by decide]
                dsimp only [cond]
                refine fe_s 1 (pc' := 121) (lc' := [(6, .int 4), (5, .int 1), (4, .int 4), (3, .int 1), (2, .int 0), (0, .ref 0), (1, .ref 22)]) (stk' := [.int 0]) (mem' := fm g tp bt a b) (fun _ _ _ => rfl) ?_
                exact fe_ret ⟨_, Or.inr ⟨0, by omega, rfl⟩, rfl⟩ (by rfl) (by rfl) (by rfl)
              · rw [show (fx_cb .ne 101 (nI n10)) = true from cb_neT (a := 101) (b := n10) (by omega) (by omega) (by omega)]
                dsimp only [cond]
                refine fe_s 6 (pc' := 72) (lc' := [(6, .int (3 + 1)), (5, .int 0), (4, .int 4), (3, .int 1), (2, .int 0), (0, .ref 0), (1, .ref 22)]) (stk' := [.int 4, .int (3 + 1)]) (mem' := fm g tp bt a b) (fun _ _ _ => rfl) ?_
                rw [show (3 + 1 : Int32) = 4 from rfl]
                refine fe_s 1 (pc' := cond (fx_cb .ge 4 4) 115 75) (lc' := [(6, .int 4), (5, .int 0), (4, .int 4), (3, .int 1), (2, .int 0), (0, .ref 0), (1, .ref 22)]) (stk' := []) (mem' := fm g tp bt a b) (fun _ _ _ => rfl) ?_
                rw [show (fx_cb .ge 4 4) = true from by decide]
                dsimp only [cond]
                refine fe_s 1 (pc' := 117) (lc' := [(6, .int 4), (5, .int 0), (4, .int 4), (3, .int 1), (2, .int 0), (0, .ref 0), (1, .ref 22)]) (stk' := [.int 0]) (mem' := fm g tp bt a b) (fun _ _ _ => rfl) ?_
                refine fe_s 1 (pc' := cond (fx_cb .eq 0 0) 122 120) (lc' := [(6, .int 4), (5, .int 0), (4, .int 4), (3, .int 1), (2, .int 0), (0, .ref 0), (1, .ref 22)]) (stk' := []) (mem' := fm g tp bt a b) (fun _ _ _ => rfl) ?_
                rw [show (fx_cb .eq 0 0) = true from by decide]
                dsimp only [cond]
                refine fe_s 6 (pc' := 14) (lc' := [(3, .int (4 + 1)), (2, .int (0 + 1)), (6, .int 4), (5, .int 0), (4, .int 4), (0, .ref 0), (1, .ref 22)]) (stk' := []) (mem' := fm g tp bt a b) (fun _ _ _ => rfl) ?_
                rw [show (4 + 1 : Int32) = 5 from rfl]
                rw [show (0 + 1 : Int32) = 1 from rfl]
                refine fe_w (lc' := [(3, .int 5), (2, .int 1), (0, .ref 0), (1, .ref 22)]) ⟨rfl, rfl, rfl, rfl, trivial⟩ (by show List.Nodup [3, 2, 0, 1]; decide) (by show List.Nodup [3, 2, 6, 5, 4, 0, 1]; decide) ?_
                exact fw_1 hxp
          · rw [show (fx_cb .ne 99 (nI n6)) = true from cb_neT (a := 99) (b := n6) (by omega) (by omega) (by omega)]
            dsimp only [cond]
            refine fe_s 6 (pc' := 72) (lc' := [(6, .int (2 + 1)), (5, .int 0), (4, .int 4), (3, .int 1), (2, .int 0), (0, .ref 0), (1, .ref 22)]) (stk' := [.int 4, .int (2 + 1)]) (mem' := fm g tp bt a b) (fun _ _ _ => rfl) ?_
            rw [show (2 + 1 : Int32) = 3 from rfl]
            refine fe_s 1 (pc' := cond (fx_cb .ge 3 4) 115 75) (lc' := [(6, .int 3), (5, .int 0), (4, .int 4), (3, .int 1), (2, .int 0), (0, .ref 0), (1, .ref 22)]) (stk' := []) (mem' := fm g tp bt a b) (fun _ _ _ => rfl) ?_
            rw [show (fx_cb .ge 3 4) = false from by decide]
            dsimp only [cond]
            refine fe_s 1 (pc' := 77) (lc' := [(6, .int 3), (5, .int 0), (4, .int 4), (3, .int 1), (2, .int 0), (0, .ref 0), (1, .ref 22)]) (stk' := [.int 0]) (mem' := fm g tp bt a b) (fun _ _ _ => rfl) ?_
            refine fe_s 1 (pc' := cond (fx_cb .eq 0 0) 115 80) (lc' := [(6, .int 3), (5, .int 0), (4, .int 4), (3, .int 1), (2, .int 0), (0, .ref 0), (1, .ref 22)]) (stk' := []) (mem' := fm g tp bt a b) (fun _ _ _ => rfl) ?_
            rw [show (fx_cb .eq 0 0) = true from by decide]
            dsimp only [cond]
            refine fe_s 1 (pc' := 117) (lc' := [(6, .int 3), (5, .int 0), (4, .int 4), (3, .int 1), (2, .int 0), (0, .ref 0), (1, .ref 22)]) (stk' := [.int 0]) (mem' := fm g tp bt a b) (fun _ _ _ => rfl) ?_
            refine fe_s 1 (pc' := cond (fx_cb .eq 0 0) 122 120) (lc' := [(6, .int 3), (5, .int 0), (4, .int 4), (3, .int 1), (2, .int 0), (0, .ref 0), (1, .ref 22)]) (stk' := []) (mem' := fm g tp bt a b) (fun _ _ _ => rfl) ?_
            rw [show (fx_cb .eq 0 0) = true from by decide]
            dsimp only [cond]
            refine fe_s 6 (pc' := 14) (lc' := [(3, .int (4 + 1)), (2, .int (0 + 1)), (6, .int 3), (5, .int 0), (4, .int 4), (0, .ref 0), (1, .ref 22)]) (stk' := []) (mem' := fm g tp bt a b) (fun _ _ _ => rfl) ?_
            rw [show (4 + 1 : Int32) = 5 from rfl]
            rw [show (0 + 1 : Int32) = 1 from rfl]
            refine fe_w (lc' := [(3, .int 5), (2, .int 1), (0, .ref 0), (1, .ref 22)]) ⟨rfl, rfl, rfl, rfl, trivial⟩ (by show List.Nodup [3, 2, 0, 1]; decide) (by show List.Nodup [3, 2, 6, 5, 4, 0, 1]; decide) ?_
            exact fw_1 hxp
      · rw [show (fx_cb .ne 105 (nI n2)) = true from cb_neT (a := 105) (b := n2) (by omega) (by omega) (by omega)]
        dsimp only [cond]
        refine fe_s 6 (pc' := 72) (lc' := [(6, .int (1 + 1)), (5, .int 0), (4, .int 4), (3, .int 1), (2, .int 0), (0, .ref 0), (1, .ref 22)]) (stk' := [.int 4, .int (1 + 1)]) (mem' := fm g tp bt a b) (fun _ _ _ => rfl) ?_
        rw [show (1 + 1 : Int32) = 2 from rfl]
        refine fe_s 1 (pc' := cond (fx_cb .ge 2 4) 115 75) (lc' := [(6, .int 2), (5, .int 0), (4, .int 4), (3, .int 1), (2, .int 0), (0, .ref 0), (1, .ref 22)]) (stk' := []) (mem' := fm g tp bt a b) (fun _ _ _ => rfl) ?_
        rw [show (fx_cb .ge 2 4) = false from by decide]
        dsimp only [cond]
        refine fe_s 1 (pc' := 77) (lc' := [(6, .int 2), (5, .int 0), (4, .int 4), (3, .int 1), (2, .int 0), (0, .ref 0), (1, .ref 22)]) (stk' := [.int 0]) (mem' := fm g tp bt a b) (fun _ _ _ => rfl) ?_
        refine fe_s 1 (pc' := cond (fx_cb .eq 0 0) 115 80) (lc' := [(6, .int 2), (5, .int 0), (4, .int 4), (3, .int 1), (2, .int 0), (0, .ref 0), (1, .ref 22)]) (stk' := []) (mem' := fm g tp bt a b) (fun _ _ _ => rfl) ?_
        rw [show (fx_cb .eq 0 0) = true from by decide]
        dsimp only [cond]
        refine fe_s 1 (pc' := 117) (lc' := [(6, .int 2), (5, .int 0), (4, .int 4), (3, .int 1), (2, .int 0), (0, .ref 0), (1, .ref 22)]) (stk' := [.int 0]) (mem' := fm g tp bt a b) (fun _ _ _ => rfl) ?_
        refine fe_s 1 (pc' := cond (fx_cb .eq 0 0) 122 120) (lc' := [(6, .int 2), (5, .int 0), (4, .int 4), (3, .int 1), (2, .int 0), (0, .ref 0), (1, .ref 22)]) (stk' := []) (mem' := fm g tp bt a b) (fun _ _ _ => rfl) ?_
        rw [show (fx_cb .eq 0 0) = true from by decide]
        dsimp only [cond]
        refine fe_s 6 (pc' := 14) (lc' := [(3, .int (4 + 1)), (2, .int (0 + 1)), (6, .int 2), (5, .int 0), (4, .int 4), (0, .ref 0), (1, .ref 22)]) (stk' := []) (mem' := fm g tp bt a b) (fun _ _ _ => rfl) ?_
        rw [show (4 + 1 : Int32) = 5 from rfl]
        rw [show (0 + 1 : Int32) = 1 from rfl]
        refine fe_w (lc' := [(3, .int 5), (2, .int 1), (0, .ref 0), (1, .ref 22)]) ⟨rfl, rfl, rfl, rfl, trivial⟩ (by show List.Nodup [3, 2, 0, 1]; decide) (by show List.Nodup [3, 2, 6, 5, 4, 0, 1]; decide) ?_
        exact fw_1 hxp
  · rw [show (fx_cb .ne 3 (nI (E - F))) = true from cb_neT (a := 3) (b := E - F) (by omega) (by omega) (by omega)]
    dsimp only [cond]
    refine fe_s 6 (pc' := 72) (lc' := [(6, .int 1), (5, .int 0), (4, .int 4), (3, .int 1), (2, .int 0), (0, .ref 0), (1, .ref 22)]) (stk' := [.int 4, .int 1]) (mem' := fm g tp bt a b) (fun _ _ _ => rfl) ?_
    refine fe_s 1 (pc' := cond (fx_cb .ge 1 4) 115 75) (lc' := [(6, .int 1), (5, .int 0), (4, .int 4), (3, .int 1), (2, .int 0), (0, .ref 0), (1, .ref 22)]) (stk' := []) (mem' := fm g tp bt a b) (fun _ _ _ => rfl) ?_
    rw [show (fx_cb .ge 1 4) = false from by decide]
    dsimp only [cond]
    refine fe_s 1 (pc' := 77) (lc' := [(6, .int 1), (5, .int 0), (4, .int 4), (3, .int 1), (2, .int 0), (0, .ref 0), (1, .ref 22)]) (stk' := [.int 0]) (mem' := fm g tp bt a b) (fun _ _ _ => rfl) ?_
    refine fe_s 1 (pc' := cond (fx_cb .eq 0 0) 115 80) (lc' := [(6, .int 1), (5, .int 0), (4, .int 4), (3, .int 1), (2, .int 0), (0, .ref 0), (1, .ref 22)]) (stk' := []) (mem' := fm g tp bt a b) (fun _ _ _ => rfl) ?_
    rw [show (fx_cb .eq 0 0) = true from by decide]
    dsimp only [cond]
    refine fe_s 1 (pc' := 117) (lc' := [(6, .int 1), (5, .int 0), (4, .int 4), (3, .int 1), (2, .int 0), (0, .ref 0), (1, .ref 22)]) (stk' := [.int 0]) (mem' := fm g tp bt a b) (fun _ _ _ => rfl) ?_
    refine fe_s 1 (pc' := cond (fx_cb .eq 0 0) 122 120) (lc' := [(6, .int 1), (5, .int 0), (4, .int 4), (3, .int 1), (2, .int 0), (0, .ref 0), (1, .ref 22)]) (stk' := []) (mem' := fm g tp bt a b) (fun _ _ _ => rfl) ?_
    rw [show (fx_cb .eq 0 0) = true from by decide]
    dsimp only [cond]
    refine fe_s 6 (pc' := 14) (lc' := [(3, .int (4 + 1)), (2, .int (0 + 1)), (6, .int 1), (5, .int 0), (4, .int 4), (0, .ref 0), (1, .ref 22)]) (stk' := []) (mem' := fm g tp bt a b) (fun _ _ _ => rfl) ?_
    rw [show (4 + 1 : Int32) = 5 from rfl]
    rw [show (0 + 1 : Int32) = 1 from rfl]
    refine fe_w (lc' := [(3, .int 5), (2, .int 1), (0, .ref 0), (1, .ref 22)]) ⟨rfl, rfl, rfl, rfl, trivial⟩ (by show List.Nodup [3, 2, 0, 1]; decide) (by show List.Nodup [3, 2, 6, 5, 4, 0, 1]; decide) ?_
    exact fw_1 hxp
theorem fr_inWords {S E F : Nat} (hxp : fm_xp g S E F) : ∃ (v : Option Value) (mem' : fx_M), fm_FI (fm g tp bt a b) (v, mem') ∧ fr_T 2 226 [.ref 0, .ref 22] (fm g tp bt a b) v mem' := by
  refine fe_meth (F := fm_FI (fm g tp bt a b)) (M := gk_m226) (by rfl) (by rfl) ?_
  refine fe_s 3 (pc' := 5) (lc' := [(0, .ref 0), (1, .ref 22)]) (stk' := [.int 2, .int (g 12)]) (mem' := fm g tp bt a b) (fun _ _ _ => rfl) ?_
  refine fe_s 1 (pc' := cond (fx_cb .eq (g 12) 2) 10 8) (lc' := [(0, .ref 0), (1, .ref 22)]) (stk' := []) (mem' := fm g tp bt a b) (fun _ _ _ => rfl) ?_
  cases h14 : fx_cb .eq (g 12) 2
  · refine fe_s 1 (pc' := 9) (lc' := [(0, .ref 0), (1, .ref 22)]) (stk' := [.int (-1)]) (mem' := fm g tp bt a b) (fun _ _ _ => rfl) ?_
    exact fe_ret ⟨_, Or.inl rfl, rfl⟩ (by rfl) (by rfl) (by rfl)
  · refine fe_s 4 (pc' := 14) (lc' := [(3, .int 1), (2, .int 0), (0, .ref 0), (1, .ref 22)]) (stk' := []) (mem' := fm g tp bt a b) (fun _ _ _ => rfl) ?_
    refine fe_w (lc' := [(3, .int 1), (2, .int 0), (0, .ref 0), (1, .ref 22)]) ⟨rfl, rfl, rfl, rfl, trivial⟩ (by show List.Nodup [3, 2, 0, 1]; decide) (by show List.Nodup [3, 2, 0, 1]; decide) ?_
    exact fw_0 hxp
end FIW
