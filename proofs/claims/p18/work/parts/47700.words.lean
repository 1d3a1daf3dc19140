/-! ===== fx: which word it is ===== -/
section FIW
variable {g : Nat → Int32} {tp bt : Int64} {a : Nat → Nat → Int32} {b : Nat → Nat → Int64}
theorem fe_chr {k : Nat} {M : rk_M2} {pc idx i : Nat} {lc : fx_L} {r : List Value} {mem : fx_M} {F : Option Value × fx_M → Prop} (hi : i < 117) (hat : tk_at M.1 pc = some (pc, .invokevirtual idx, 3)) (hlk : rk_lk M.2.2.1 idx = some (5, 378, 1)) (hm : mem[22]? = none ∧ mem.length = 22) (hsum : Nat.ble (fx_sum r) 8 = true) (kk : fe_R k M (pc + 3) lc (.int (sk_b.getD i 0) :: r) mem F) : fe_R k M pc lc (.int (nI i) :: .ref 22 :: r) mem F := by
  refine fe_s 1 (pc' := pc + 3) (lc' := lc) (stk' := .int (sk_b.getD i 0) :: r) (mem' := mem) (fun N d n => ?_) kk
  refine fx_one (z := (pc + 3, lc, .int (sk_b.getD i 0) :: r, mem)) hat rfl rfl ?_
  show (match rk_lk M.2.2.1 idx with
    | some q => cond (Nat.beq q.1 5 || Nat.beq q.1 6) (fx_cv gk_mci (fm_call (N + 100) (d + k)) (pc + 3) q.2.1 q.2.2 lc (.int (nI i) :: .ref 22 :: r) mem) none
    | none => none) = _
  rw [hlk]
  show fx_cv gk_mci (fm_call (N + 100) (d + k)) (pc + 3) 378 1 lc (.int (nI i) :: .ref 22 :: r) mem = _
  show (match mem[22]? with
    | some (.inl o) => cond (Nat.ble (fx_sum r) 8 && decide (gk_mci[378]? = some o.1)) (fx_aft (pc + 3) lc r (fm_call (N + 100) (d + k) 378 (.ref 22 :: [.int (nI i)]) mem)) none
    | none => fx_sv (pc + 3) 378 22 [.int (nI i)] r lc mem
    | _ => none) = _
  rw [hm.1]
  show fx_sv (pc + 3) 378 22 [.int (nI i)] r lc mem = _
  unfold fx_sv
  rw [show fx_sc 378 [.int (nI i)] = some (.int (sk_b.getD i 0)) from by
    show cond (Nat.beq 378 378 && fx_in (nI i) sk_n) (some (Value.int (sk_b.getD (nI i).toNatClampNeg 0))) none = _
    rw [show fx_in (nI i) sk_n = true from fx_inN hi (by decide), nI_clamp (by omega)]
    rfl]
  show cond (Nat.ble (fx_sum r) 8 && Nat.beq 22 mem.length) _ none = _
  rw [hsum, hm.2]
  rfl
def fm_FI (mem : fx_M) (R : Option Value × fx_M) : Prop := ∃ v : Int32, (v = -1 ∨ ∃ n, n < 24 ∧ v = nI n) ∧ R = (some (.int v), mem)
set_option maxHeartbeats 8000000 in
theorem fw_23 {S E F : Nat} (hxp : fm_xp g S E F) : fe_R 1 gk_m226 14 [(3, .int 117), (2, .int 23), (0, .ref 0), (1, .ref 22)] [] (fm g tp bt a b) (fm_FI (fm g tp bt a b)) := by
  obtain ⟨h11, hS9, h14, hES, h13, hFE, -, -, -⟩ := id hxp
  refine fe_s 2 (pc' := 16) (lc' := [(3, .int 117), (2, .int 23), (0, .ref 0), (1, .ref 22)]) (stk' := [.ref 22, .int 117]) (mem' := fm g tp bt a b) (fun _ _ _ => rfl) ?_
  refine fe_s 1 (pc' := 19) (lc' := [(3, .int 117), (2, .int 23), (0, .ref 0), (1, .ref 22)]) (stk' := [.int 117, .int 117]) (mem' := fm g tp bt a b) (fun _ _ _ => rfl) ?_
  refine fe_s 1 (pc' := cond (fx_cb .ge 117 117) 133 22) (lc' := [(3, .int 117), (2, .int 23), (0, .ref 0), (1, .ref 22)]) (stk' := []) (mem' := fm g tp bt a b) (fun _ _ _ => rfl) ?_
  rw [show (fx_cb .ge 117 117) = true from by decide]
  dsimp only [cond]
  refine fe_s 1 (pc' := 134) (lc' := [(3, .int 117), (2, .int 23), (0, .ref 0), (1, .ref 22)]) (stk' := [.int (-1)]) (mem' := fm g tp bt a b) (fun _ _ _ => rfl) ?_
  exact fe_ret ⟨_, Or.inl rfl, rfl⟩ (by rfl) (by rfl) (by rfl)
set_option maxHeartbeats 8000000 in
theorem fw_22 {S E F : Nat} (hxp : fm_xp g S E F) : fe_R 1 gk_m226 14 [(3, .int 113), (2, .int 22), (0, .ref 0), (1, .ref 22)] [] (fm g tp bt a b) (fm_FI (fm g tp bt a b)) := by
  obtain ⟨h11, hS9, h14, hES, h13, hFE, -, -, -⟩ := id hxp
  have fail : ∀ (x z : Int32), fe_R 1 gk_m226 107 [(6, .int x), (5, .int z), (4, .int 116), (3, .int 113), (2, .int 22), (0, .ref 0), (1, .ref 22)] [.int 0] (fm g tp bt a b) (fm_FI (fm g tp bt a b)) := by
    intro x z
    refine fe_s 4 (pc' := 70) (lc' := [(6, .int (x + 1)), (5, .int 0), (4, .int 116), (3, .int 113), (2, .int 22), (0, .ref 0), (1, .ref 22)]) (stk' := [.int (x + 1)]) (mem' := fm g tp bt a b) (fun _ _ _ => rfl) ?_
    refine fe_s 1 (pc' := 72) (lc' := [(6, .int (x + 1)), (5, .int 0), (4, .int 116), (3, .int 113), (2, .int 22), (0, .ref 0), (1, .ref 22)]) (stk' := [.int 116, .int (x + 1)]) (mem' := fm g tp bt a b) (fun _ _ _ => rfl) ?_
    refine fe_s 1 (pc' := cond (fx_cb .ge (x + 1) 116) 115 75) (lc' := [(6, .int (x + 1)), (5, .int 0), (4, .int 116), (3, .int 113), (2, .int 22), (0, .ref 0), (1, .ref 22)]) (stk' := []) (mem' := fm g tp bt a b) (fun _ _ _ => rfl) ?_
    cases h1 : fx_cb .ge (x + 1) 116
    · refine fe_s 1 (pc' := 77) (lc' := [(6, .int (x + 1)), (5, .int 0), (4, .int 116), (3, .int 113), (2, .int 22), (0, .ref 0), (1, .ref 22)]) (stk' := [.int 0]) (mem' := fm g tp bt a b) (fun _ _ _ => rfl) ?_
      refine fe_s 1 (pc' := cond (fx_cb .eq 0 0) 115 80) (lc' := [(6, .int (x + 1)), (5, .int 0), (4, .int 116), (3, .int 113), (2, .int 22), (0, .ref 0), (1, .ref 22)]) (stk' := []) (mem' := fm g tp bt a b) (fun _ _ _ => rfl) ?_
      rw [show (fx_cb .eq 0 0) = true from by decide]
      dsimp only [cond]
      refine fe_s 1 (pc' := 117) (lc' := [(6, .int (x + 1)), (5, .int 0), (4, .int 116), (3, .int 113), (2, .int 22), (0, .ref 0), (1, .ref 22)]) (stk' := [.int 0]) (mem' := fm g tp bt a b) (fun _ _ _ => rfl) ?_
      refine fe_s 1 (pc' := cond (fx_cb .eq 0 0) 122 120) (lc' := [(6, .int (x + 1)), (5, .int 0), (4, .int 116), (3, .int 113), (2, .int 22), (0, .ref 0), (1, .ref 22)]) (stk' := []) (mem' := fm g tp bt a b) (fun _ _ _ => rfl) ?_
      rw [show (fx_cb .eq 0 0) = true from by decide]
      dsimp only [cond]
      refine fe_s 4 (pc' := 129) (lc' := [(2, .int (22 + 1)), (6, .int (x + 1)), (5, .int 0), (4, .int 116), (3, .int 113), (0, .ref 0), (1, .ref 22)]) (stk' := [.int (116 + 1)]) (mem' := fm g tp bt a b) (fun _ _ _ => rfl) ?_
      rw [show (22 + 1 : Int32) = 23 from rfl]
      rw [show (116 + 1 : Int32) = 117 from rfl]
      refine fe_s 1 (pc' := 130) (lc' := [(3, .int 117), (2, .int 23), (6, .int (x + 1)), (5, .int 0), (4, .int 116), (0, .ref 0), (1, .ref 22)]) (stk' := []) (mem' := fm g tp bt a b) (fun _ _ _ => rfl) ?_
      refine fe_s 1 (pc' := fx_to 130 (-116)) (lc' := [(3, .int 117), (2, .int 23), (6, .int (x + 1)), (5, .int 0), (4, .int 116), (0, .ref 0), (1, .ref 22)]) (stk' := []) (mem' := fm g tp bt a b) (fun _ _ _ => rfl) ?_
      rw [show fx_to 130 (-116) = 14 from by decide]
      refine fe_w (lc' := [(3, .int 117), (2, .int 23), (0, .ref 0), (1, .ref 22)]) ⟨rfl, rfl, rfl, rfl, trivial⟩ (by show List.Nodup [3, 2, 0, 1]; decide) (by show List.Nodup [3, 2, 6, 5, 4, 0, 1]; decide) ?_
      exact fw_23 hxp
    · refine fe_s 1 (pc' := 117) (lc' := [(6, .int (x + 1)), (5, .int 0), (4, .int 116), (3, .int 113), (2, .int 22), (0, .ref 0), (1, .ref 22)]) (stk' := [.int 0]) (mem' := fm g tp bt a b) (fun _ _ _ => rfl) ?_
      refine fe_s 1 (pc' := cond (fx_cb .eq 0 0) 122 120) (lc' := [(6, .int (x + 1)), (5, .int 0), (4, .int 116), (3, .int 113), (2, .int 22), (0, .ref 0), (1, .ref 22)]) (stk' := []) (mem' := fm g tp bt a b) (fun _ _ _ => rfl) ?_
      rw [show (fx_cb .eq 0 0) = true from by decide]
      dsimp only [cond]
      refine fe_s 4 (pc' := 129) (lc' := [(2, .int (22 + 1)), (6, .int (x + 1)), (5, .int 0), (4, .int 116), (3, .int 113), (0, .ref 0), (1, .ref 22)]) (stk' := [.int (116 + 1)]) (mem' := fm g tp bt a b) (fun _ _ _ => rfl) ?_
      rw [show (22 + 1 : Int32) = 23 from rfl]
      rw [show (116 + 1 : Int32) = 117 from rfl]
      refine fe_s 1 (pc' := 130) (lc' := [(3, .int 117), (2, .int 23), (6, .int (x + 1)), (5, .int 0), (4, .int 116), (0, .ref 0), (1, .ref 22)]) (stk' := []) (mem' := fm g tp bt a b) (fun _ _ _ => rfl) ?_
      refine fe_s 1 (pc' := fx_to 130 (-116)) (lc' := [(3, .int 117), (2, .int 23), (6, .int (x + 1)), (5, .int 0), (4, .int 116), (0, .ref 0), (1, .ref 22)]) (stk' := []) (mem' := fm g tp bt a b) (fun _ _ _ => rfl) ?_
      rw [show fx_to 130 (-116) = 14 from by decide]
      refine fe_w (lc' := [(3, .int 117), (2, .int 23), (0, .ref 0), (1, .ref 22)]) ⟨rfl, rfl, rfl, rfl, trivial⟩ (by show List.Nodup [3, 2, 0, 1]; decide) (by show List.Nodup [3, 2, 6, 5, 4, 0, 1]; decide) ?_
      exact fw_23 hxp
  refine fe_s 2 (pc' := 16) (lc' := [(3, .int 113), (2, .int 22), (0, .ref 0), (1, .ref 22)]) (stk' := [.ref 22, .int 113]) (mem' := fm g tp bt a b) (fun _ _ _ => rfl) ?_
  refine fe_s 1 (pc' := 19) (lc' := [(3, .int 113), (2, .int 22), (0, .ref 0), (1, .ref 22)]) (stk' := [.int 117, .int 113]) (mem' := fm g tp bt a b) (fun _ _ _ => rfl) ?_
  refine fe_s 1 (pc' := cond (fx_cb .ge 113 117) 133 22) (lc' := [(3, .int 113), (2, .int 22), (0, .ref 0), (1, .ref 22)]) (stk' := []) (mem' := fm g tp bt a b) (fun _ _ _ => rfl) ?_
  rw [show (fx_cb .ge 113 117) = false from by decide]
  dsimp only [cond]
  refine fe_s 4 (pc' := 28) (lc' := [(4, .int 113), (3, .int 113), (2, .int 22), (0, .ref 0), (1, .ref 22)]) (stk' := [.int 113, .ref 22]) (mem' := fm g tp bt a b) (fun _ _ _ => rfl) ?_
  refine fe_chr (i := 113) (by omega) (by rfl) (by rfl) ⟨by rfl, by rfl⟩ (by rfl) ?_
  rw [show sk_b.getD 113 0 = 119 from rfl]
  refine fe_s 1 (pc' := 33) (lc' := [(4, .int 113), (3, .int 113), (2, .int 22), (0, .ref 0), (1, .ref 22)]) (stk' := [.int 32, .int 119]) (mem' := fm g tp bt a b) (fun _ _ _ => rfl) ?_
  refine fe_s 1 (pc' := cond (fx_cb .eq 119 32) 42 36) (lc' := [(4, .int 113), (3, .int 113), (2, .int 22), (0, .ref 0), (1, .ref 22)]) (stk' := []) (mem' := fm g tp bt a b) (fun _ _ _ => rfl) ?_
  rw [show (fx_cb .eq 119 32) = false from by decide]
  dsimp only [cond]
  refine fe_s 4 (pc' := 28) (lc' := [(4, .int (113 + 1)), (3, .int 113), (2, .int 22), (0, .ref 0), (1, .ref 22)]) (stk' := [.int (113 + 1), .ref 22]) (mem' := fm g tp bt a b) (fun _ _ _ => rfl) ?_
  rw [show (113 + 1 : Int32) = 114 from rfl]
  refine fe_chr (i := 114) (by omega) (by rfl) (by rfl) ⟨by rfl, by rfl⟩ (by rfl) ?_
  rw [show sk_b.getD 114 0 = 101 from rfl]
  refine fe_s 1 (pc' := 33) (lc' := [(4, .int 114), (3, .int 113), (2, .int 22), (0, .ref 0), (1, .ref 22)]) (stk' := [.int 32, .int 101]) (mem' := fm g tp bt a b) (fun _ _ _ => rfl) ?_
  refine fe_s 1 (pc' := cond (fx_cb .eq 101 32) 42 36) (lc' := [(4, .int 114), (3, .int 113), (2, .int 22), (0, .ref 0), (1, .ref 22)]) (stk' := []) (mem' := fm g tp bt a b) (fun _ _ _ => rfl) ?_
  rw [show (fx_cb .eq 101 32) = false from by decide]
  dsimp only [cond]
  refine fe_s 4 (pc' := 28) (lc' := [(4, .int (114 + 1)), (3, .int 113), (2, .int 22), (0, .ref 0), (1, .ref 22)]) (stk' := [.int (114 + 1), .ref 22]) (mem' := fm g tp bt a b) (fun _ _ _ => rfl) ?_
  rw [show (114 + 1 : Int32) = 115 from rfl]
  refine fe_chr (i := 115) (by omega) (by rfl) (by rfl) ⟨by rfl, by rfl⟩ (by rfl) ?_
  rw [show sk_b.getD 115 0 = 116 from rfl]
  refine fe_s 1 (pc' := 33) (lc' := [(4, .int 115), (3, .int 113), (2, .int 22), (0, .ref 0), (1, .ref 22)]) (stk' := [.int 32, .int 116]) (mem' := fm g tp bt a b) (fun _ _ _ => rfl) ?_
  refine fe_s 1 (pc' := cond (fx_cb .eq 116 32) 42 36) (lc' := [(4, .int 115), (3, .int 113), (2, .int 22), (0, .ref 0), (1, .ref 22)]) (stk' := []) (mem' := fm g tp bt a b) (fun _ _ _ => rfl) ?_
  rw [show (fx_cb .eq 116 32) = false from by decide]
  dsimp only [cond]
  refine fe_s 4 (pc' := 28) (lc' := [(4, .int (115 + 1)), (3, .int 113), (2, .int 22), (0, .ref 0), (1, .ref 22)]) (stk' := [.int (115 + 1), .ref 22]) (mem' := fm g tp bt a b) (fun _ _ _ => rfl) ?_
  rw [show (115 + 1 : Int32) = 116 from rfl]
  refine fe_chr (i := 116) (by omega) (by rfl) (by rfl) ⟨by rfl, by rfl⟩ (by rfl) ?_
  rw [show sk_b.getD 116 0 = 32 from rfl]
  refine fe_s 1 (pc' := 33) (lc' := [(4, .int 116), (3, .int 113), (2, .int 22), (0, .ref 0), (1, .ref 22)]) (stk' := [.int 32, .int 32]) (mem' := fm g tp bt a b) (fun _ _ _ => rfl) ?_
  refine fe_s 1 (pc' := cond (fx_cb .eq 32 32) 42 36) (lc' := [(4, .int 116), (3, .int 113), (2, .int 22), (0, .ref 0), (1, .ref 22)]) (stk' := []) (mem' := fm g tp bt a b) (fun _ _ _ => rfl) ?_
  rw [show (fx_cb .eq 32 32) = true from by decide]
  dsimp only [cond]
  refine fe_s 4 (pc' := 47) (lc' := [(4, .int 116), (3, .int 113), (2, .int 22), (0, .ref 0), (1, .ref 22)]) (stk' := [.ref 0, .int (116 - 113)]) (mem' := fm g tp bt a b) (fun _ _ _ => rfl) ?_
  rw [show (116 - 113 : Int32) = 3 from rfl]
  refine fe_s 4 (pc' := 55) (lc' := [(4, .int 116), (3, .int 113), (2, .int 22), (0, .ref 0), (1, .ref 22)]) (stk' := [.int ((g 14) - (g 13)), .int 3]) (mem' := fm g tp bt a b) (fun _ _ _ => rfl) ?_
  try rw [h14]
  try rw [h13]
  rw [show ((nI E) - (nI F) : Int32) = nI (E - F) from by simp only [tg_sub2 (x := E) (y := F) (by omega), nI_add, fm_mul]]
  refine fe_s 1 (pc' := cond (fx_cb .ne 3 (nI (E - F))) 62 58) (lc' := [(4, .int 116), (3, .int 113), (2, .int 22), (0, .ref 0), (1, .ref 22)]) (stk' := []) (mem' := fm g tp bt a b) (fun _ _ _ => rfl) ?_
  by_cases h2 : 3 = (E - F)
  · rw [show (fx_cb .ne 3 (nI (E - F))) = false from cb_neF (a := 3) (b := E - F) (by omega) (by omega) (by omega)]
    dsimp only [cond]
    refine fe_s 4 (pc' := 66) (lc' := [(5, .int 1), (4, .int 116), (3, .int 113), (2, .int 22), (0, .ref 0), (1, .ref 22)]) (stk' := [.int 113]) (mem' := fm g tp bt a b) (fun _ _ _ => rfl) ?_
    refine fe_s 3 (pc' := 72) (lc' := [(6, .int 113), (5, .int 1), (4, .int 116), (3, .int 113), (2, .int 22), (0, .ref 0), (1, .ref 22)]) (stk' := [.int 116, .int 113]) (mem' := fm g tp bt a b) (fun _ _ _ => rfl) ?_
    refine fe_s 1 (pc' := cond (fx_cb .ge 113 116) 115 75) (lc' := [(6, .int 113), (5, .int 1), (4, .int 116), (3, .int 113), (2, .int 22), (0, .ref 0), (1, .ref 22)]) (stk' := []) (mem' := fm g tp bt a b) (fun _ _ _ => rfl) ?_
    rw [show (fx_cb .ge 113 116) = false from by decide]
    dsimp only [cond]
    refine fe_s 1 (pc' := 77) (lc' := [(6, .int 113), (5, .int 1), (4, .int 116), (3, .int 113), (2, .int 22), (0, .ref 0), (1, .ref 22)]) (stk' := [.int 1]) (mem' := fm g tp bt a b) (fun _ _ _ => rfl) ?_
    refine fe_s 1 (pc' := cond (fx_cb .eq 1 0) 115 80) (lc' := [(6, .int 113), (5, .int 1), (4, .int 116), (3, .int 113), (2, .int 22), (0, .ref 0), (1, .ref 22)]) (stk' := []) (mem' := fm g tp bt a b) (fun _ _ _ => rfl) ?_
    rw [show (fx_cb .eq 1 0) = false from by decide]
    dsimp only [cond]
    refine fe_s 2 (pc' := 83) (lc' := [(6, .int 113), (5, .int 1), (4, .int 116), (3, .int 113), (2, .int 22), (0, .ref 0), (1, .ref 22)]) (stk' := [.int 113, .ref 22]) (mem' := fm g tp bt a b) (fun _ _ _ => rfl) ?_
    refine fe_chr (i := 113) (by omega) (by rfl) (by rfl) ⟨by rfl, by rfl⟩ (by rfl) ?_
    rw [show sk_b.getD 113 0 = 119 from rfl]
    refine fe_s 4 (pc' := 93) (lc' := [(6, .int 113), (5, .int 1), (4, .int 116), (3, .int 113), (2, .int 22), (0, .ref 0), (1, .ref 22)]) (stk' := [.int 113, .int (g 13), .ref 0, .int 119]) (mem' := fm g tp bt a b) (fun _ _ _ => rfl) ?_
    try rw [h13]
    refine fe_s 3 (pc' := 96) (lc' := [(6, .int 113), (5, .int 1), (4, .int 116), (3, .int 113), (2, .int 22), (0, .ref 0), (1, .ref 22)]) (stk' := [.int (((nI F) + 113) - 113), .ref 0, .int 119]) (mem' := fm g tp bt a b) (fun _ _ _ => rfl) ?_
    rw [show (((nI F) + 113) - 113 : Int32) = nI ((F + 113) - 113) from by simp only [show (113 : Int32) = nI 113 from rfl, tg_sub2 (x := F + 113) (y := 113) (by omega), nI_add, fm_mul]]
    refine fe_ivV (fr_byteAt (S := S) (k := (F + 113) - 113) (g := g) (tp := tp) (bt := bt) (a := a) (b := b) h11 (by omega) (by omega)) (by omega) (by rfl) (by rfl) (by rfl) (by rfl) (by rfl) (by rfl) ?_
    rcases fm_byte_or a S ((F + 113) - 113) with ⟨e4, q5⟩ | ⟨q5, n3, qn3, e4⟩
    · rw [e4]
      refine fe_s 1 (pc' := cond (fx_cb .ne 119 (-1)) 106 102) (lc' := [(6, .int 113), (5, .int 1), (4, .int 116), (3, .int 113), (2, .int 22), (0, .ref 0), (1, .ref 22)]) (stk' := []) (mem' := fm g tp bt a b) (fun _ _ _ => rfl) ?_
      rw [show (fx_cb .ne 119 (-1)) = true from by decide]
      dsimp only [cond]
      refine fe_s 1 (pc' := 107) (lc' := [(6, .int 113), (5, .int 1), (4, .int 116), (3, .int 113), (2, .int 22), (0, .ref 0), (1, .ref 22)]) (stk' := [.int 0]) (mem' := fm g tp bt a b) (fun _ _ _ => rfl) ?_
      refine fe_w (lc' := [(6, .int 113), (5, .int 1), (4, .int 116), (3, .int 113), (2, .int 22), (0, .ref 0), (1, .ref 22)]) ⟨rfl, rfl, rfl, rfl, rfl, rfl, rfl, trivial⟩ (by show List.Nodup [6, 5, 4, 3, 2, 0, 1]; decide) (by show List.Nodup [6, 5, 4, 3, 2, 0, 1]; decide) ?_
      exact fail _ _
    · rw [e4]
      refine fe_s 1 (pc' := cond (fx_cb .ne 119 (nI n3)) 106 102) (lc' := [(6, .int 113), (5, .int 1), (4, .int 116), (3, .int 113), (2, .int 22), (0, .ref 0), (1, .ref 22)]) (stk' := []) (mem' := fm g tp bt a b) (fun _ _ _ => rfl) ?_
      by_cases h6 : 119 = n3
      · rw [show (fx_cb .ne 119 (nI n3)) = false from cb_neF (a := 119) (b := n3) (by omega) (by omega) (by omega)]
        dsimp only [cond]
        refine fe_s 2 (pc' := 107) (lc' := [(6, .int 113), (5, .int 1), (4, .int 116), (3, .int 113), (2, .int 22), (0, .ref 0), (1, .ref 22)]) (stk' := [.int 1]) (mem' := fm g tp bt a b) (fun _ _ _ => rfl) ?_
        refine fe_s 4 (pc' := 70) (lc' := [(6, .int (113 + 1)), (5, .int 1), (4, .int 116), (3, .int 113), (2, .int 22), (0, .ref 0), (1, .ref 22)]) (stk' := [.int (113 + 1)]) (mem' := fm g tp bt a b) (fun _ _ _ => rfl) ?_
        rw [show (113 + 1 : Int32) = 114 from rfl]
        refine fe_s 1 (pc' := 72) (lc' := [(6, .int 114), (5, .int 1), (4, .int 116), (3, .int 113), (2, .int 22), (0, .ref 0), (1, .ref 22)]) (stk' := [.int 116, .int 114]) (mem' := fm g tp bt a b) (fun _ _ _ => rfl) ?_
        refine fe_s 1 (pc' := cond (fx_cb .ge 114 116) 115 75) (lc' := [(6, .int 114), (5, .int 1), (4, .int 116), (3, .int 113), (2, .int 22), (0, .ref 0), (1, .ref 22)]) (stk' := []) (mem' := fm g tp bt a b) (fun _ _ _ => rfl) ?_
        rw [show (fx_cb .ge 114 116) = false from by decide]
        dsimp only [cond]
        refine fe_s 1 (pc' := 77) (lc' := [(6, .int 114), (5, .int 1), (4, .int 116), (3, .int 113), (2, .int 22), (0, .ref 0), (1, .ref 22)]) (stk' := [.int 1]) (mem' := fm g tp bt a b) (fun _ _ _ => rfl) ?_
        refine fe_s 1 (pc' := cond (fx_cb .eq 1 0) 115 80) (lc' := [(6, .int 114), (5, .int 1), (4, .int 116), (3, .int 113), (2, .int 22), (0, .ref 0), (1, .ref 22)]) (stk' := []) (mem' := fm g tp bt a b) (fun _ _ _ => rfl) ?_
        rw [show (fx_cb .eq 1 0) = false from by decide]
        dsimp only [cond]
        refine fe_s 2 (pc' := 83) (lc' := [(6, .int 114), (5, .int 1), (4, .int 116), (3, .int 113), (2, .int 22), (0, .ref 0), (1, .ref 22)]) (stk' := [.int 114, .ref 22]) (mem' := fm g tp bt a b) (fun _ _ _ => rfl) ?_
        refine fe_chr (i := 114) (by omega) (by rfl) (by rfl) ⟨by rfl, by rfl⟩ (by rfl) ?_
        rw [show sk_b.getD 114 0 = 101 from rfl]
        refine fe_s 4 (pc' := 93) (lc' := [(6, .int 114), (5, .int 1), (4, .int 116), (3, .int 113), (2, .int 22), (0, .ref 0), (1, .ref 22)]) (stk' := [.int 114, .int (g 13), .ref 0, .int 101]) (mem' := fm g tp bt a b) (fun _ _ _ => rfl) ?_
        try rw [h13]
        refine fe_s 3 (pc' := 96) (lc' := [(6, .int 114), (5, .int 1), (4, .int 116), (3, .int 113), (2, .int 22), (0, .ref 0), (1, .ref 22)]) (stk' := [.int (((nI F) + 114) - 113), .ref 0, .int 101]) (mem' := fm g tp bt a b) (fun _ _ _ => rfl) ?_
        rw [show (((nI F) + 114) - 113 : Int32) = nI ((F + 114) - 113) from by simp only [show (114 : Int32) = nI 114 from rfl, show (113 : Int32) = nI 113 from rfl, tg_sub2 (x := F + 114) (y := 113) (by omega), nI_add, fm_mul]]
        refine fe_ivV (fr_byteAt (S := S) (k := (F + 114) - 113) (g := g) (tp := tp) (bt := bt) (a := a) (b := b) h11 (by omega) (by omega)) (by omega) (by rfl) (by rfl) (by rfl) (by rfl) (by rfl) (by rfl) ?_
        rcases fm_byte_or a S ((F + 114) - 113) with ⟨e8, q9⟩ | ⟨q9, n7, qn7, e8⟩
        · rw [e8]
          refine fe_s 1 (pc' := cond (fx_cb .ne 101 (-1)) 106 102) (lc' := [(6, .int 114), (5, .int 1), (4, .int 116), (3, .int 113), (2, .int 22), (0, .ref 0), (1, .ref 22)]) (stk' := []) (mem' := fm g tp bt a b) (fun _ _ _ => rfl) ?_
          rw [show (fx_cb .ne 101 (-1)) = true from by decide]
          dsimp only [cond]
          refine fe_s 1 (pc' := 107) (lc' := [(6, .int 114), (5, .int 1), (4, .int 116), (3, .int 113), (2, .int 22), (0, .ref 0), (1, .ref 22)]) (stk' := [.int 0]) (mem' := fm g tp bt a b) (fun _ _ _ => rfl) ?_
          refine fe_w (lc' := [(6, .int 114), (5, .int 1), (4, .int 116), (3, .int 113), (2, .int 22), (0, .ref 0), (1, .ref 22)]) ⟨rfl, rfl, rfl, rfl, rfl, rfl, rfl, trivial⟩ (by show List.Nodup [6, 5, 4, 3, 2, 0, 1]; decide) (by show List.Nodup [6, 5, 4, 3, 2, 0, 1]; decide) ?_
          exact fail _ _
        · rw [e8]
          refine fe_s 1 (pc' := cond (fx_cb .ne 101 (nI n7)) 106 102) (lc' := [(6, .int 114), (5, .int 1), (4, .int 116), (3, .int 113), (2, .int 22), (0, .ref 0), (1, .ref 22)]) (stk' := []) (mem' := fm g tp bt a b) (fun _ _ _ => rfl) ?_
          by_cases h10 : 101 = n7
          · rw [show (fx_cb .ne 101 (nI n7)) = false from cb_neF (a := 101) (b := n7) (by omega) (by omega) (by omega)]
            dsimp only [cond]
            refine fe_s 2 (pc' := 107) (lc' := [(6, .int 114), (5, .int 1), (4, .int 116), (3, .int 113), (2, .int 22), (0, .ref 0), (1, .ref 22)]) (stk' := [.int 1]) (mem' := fm g tp bt a b) (fun _ _ _ => rfl) ?_
            refine fe_s 4 (pc' := 70) (lc' := [(6, .int (114 + 1)), (5, .int 1), (4, .int 116), (3, .int 113), (2, .int 22), (0, .ref 0), (1, .ref 22)]) (stk' := [.int (114 + 1)]) (mem' := fm g tp bt a b) (fun _ _ _ => rfl) ?_
            rw [show (114 + 1 : Int32) = 115 from rfl]
            refine fe_s 1 (pc' := 72) (lc' := [(6, .int 115), (5, .int 1), (4, .int 116), (3, .int 113), (2, .int 22), (0, .ref 0), (1, .ref 22)]) (stk' := [.int 116, .int 115]) (mem' := fm g tp bt a b) (fun _ _ _ => rfl) ?_
            refine fe_s 1 (pc' := cond (fx_cb .ge 115 116) 115 75) (lc' := [(6, .int 115), (5, .int 1), (4, .int 116), (3, .int 113), (2, .int 22), (0, .ref 0), (1, .ref 22)]) (stk' := []) (mem' := fm g tp bt a b) (fun _ _ _ => rfl) ?_
            rw [show (fx_cb .ge 115 116) = false from by decide]
            dsimp only [cond]
            refine fe_s 1 (pc' := 77) (lc' := [(6, .int 115), (5, .int 1), (4, .int 116), (3, .int 113), (2, .int 22), (0, .ref 0), (1, .ref 22)]) (stk' := [.int 1]) (mem' := fm g tp bt a b) (fun _ _ _ => rfl) ?_
            refine fe_s 1 (pc' := cond (fx_cb .eq 1 0) 115 80) (lc' := [(6, .int 115), (5, .int 1), (4, .int 116), (3, .int 113), (2, .int 22), (0, .ref 0), (1, .ref 22)]) (stk' := []) (mem' := fm g tp bt a b) (fun _ _ _ => rfl) ?_
            rw [show (fx_cb .eq 1 0) = false from by decide]
            dsimp only [cond]
            refine fe_s 2 (pc' := 83) (lc' := [(6, .int 115), (5, .int 1), (4, .int 116), (3, .int 113), (2, .int 22), (0, .ref 0), (1, .ref 22)]) (stk' := [.int 115, .ref 22]) (mem' := fm g tp bt a b) (fun _ _ _ => rfl) ?_
            refine fe_chr (i := 115) (by omega) (by rfl) (by rfl) ⟨by rfl, by rfl⟩ (by rfl) ?_
            rw [show sk_b.getD 115 0 = 116 from rfl]
            refine fe_s 4 (pc' := 93) (lc' := [(6, .int 115), (5, .int 1), (4, .int 116), (3, .int 113), (2, .int 22), (0, .ref 0), (1, .ref 22)]) (stk' := [.int 115, .int (g 13), .ref 0, .int 116]) (mem' := fm g tp bt a b) (fun _ _ _ => rfl) ?_
            try rw [h13]
            refine fe_s 3 (pc' := 96) (lc' := [(6, .int 115), (5, .int 1), (4, .int 116), (3, .int 113), (2, .int 22), (0, .ref 0), (1, .ref 22)]) (stk' := [.int (((nI F) + 115) - 113), .ref 0, .int 116]) (mem' := fm g tp bt a b) (fun _ _ _ => rfl) ?_
            rw [show (((nI F) + 115) - 113 : Int32) = nI ((F + 115) - 113) from by simp only [show (115 : Int32) = nI 115 from rfl, show (113 : Int32) = nI 113 from rfl, tg_sub2 (x := F + 115) (y := 113) (by omega), nI_add, fm_mul]]
            refine fe_ivV (fr_byteAt (S := S) (k := (F + 115) - 113) (g := g) (tp := tp) (bt := bt) (a := a) (b := b) h11 (by omega) (by omega)) (by omega) (by rfl) (by rfl) (by rfl) (by rfl) (by rfl) (by rfl) ?_
            rcases fm_byte_or a S ((F + 115) - 113) with ⟨e12, q13⟩ | ⟨q13, n11, qn11, e12⟩
            · rw [e12]
              refine fe_s 1 (pc' := cond (fx_cb .ne 116 (-1)) 106 102) (lc' := [(6, .int 115), (5, .int 1), (4, .int 116), (3, .int 113), (2, .int 22), (0, .ref 0), (1, .ref 22)]) (stk' := []) (mem' := fm g tp bt a b) (fun _ _ _ => rfl) ?_
              rw [show (fx_cb .ne 116 (-1)) = true from by decide]
              dsimp only [cond]
              refine fe_s 1 (pc' := 107) (lc' := [(6, .int 115), (5, .int 1), (4, .int 116), (3, .int 113), (2, .int 22), (0, .ref 0), (1, .ref 22)]) (stk' := [.int 0]) (mem' := fm g tp bt a b) (fun _ _ _ => rfl) ?_
              refine fe_w (lc' := [(6, .int 115), (5, .int 1), (4, .int 116), (3, .int 113), (2, .int 22), (0, .ref 0), (1, .ref 22)]) ⟨rfl, rfl, rfl, rfl, rfl, rfl, rfl, trivial⟩ (by show List.Nodup [6, 5, 4, 3, 2, 0, 1]; decide) (by show List.Nodup [6, 5, 4, 3, 2, 0, 1]; decide) ?_
              exact fail _ _
            · rw [e12]
              refine fe_s 1 (pc' := cond (fx_cb .ne 116 (nI n11)) 106 102) (lc' := [(6, .int 115), (5, .int 1), (4, .int 116), (3, .int 113), (2, .int 22), (0, .ref 0), (1, .ref 22)]) (stk' := []) (mem' := fm g tp bt a b) (fun _ _ _ => rfl) ?_
              by_cases h14 : 116 = n11
              · rw [show (fx_cb .ne 116 (nI n11)) = false from cb_neF (a := 116) (b := n11) (by omega) (by omega) (by omega)]
                dsimp only [cond]
                refine fe_s 2 (pc' := 107) (lc' := [(6, .int 115), (5, .int 1), (4, .int 116), (3, .int 113), (2, .int 22), (0, .ref 0), (1, .ref 22)]) (stk' := [.int 1]) (mem' := fm g tp bt a b) (fun _ _ _ => rfl) ?_
                refine fe_s 4 (pc' := 70) (lc' := [(6, .int (115 + 1)), (5, .int 1), (4, .int 116), (3, .int 113), (2, .int 22), (0, .ref 0), (1, .ref 22)]) (stk' := [.int (115 + 1)]) (mem' := fm g tp bt a b) (fun _ _ _ => rfl) ?_
                rw [show (115 + 1 : Int32) = 116 from rfl]
                refine fe_s 1 (pc' := 72) (lc' := [(6, .int 116), (5, .int 1), (4, .int 116), (3, .int 113), (2, .int 22), (0, .ref 0), (1, .ref 22)]) (stk' := [.int 116, .int 116]) (mem' := fm g tp bt a b) (fun _ _ _ => rfl) ?_
                refine fe_s 1 (pc' := cond (fx_cb .ge 116 116) 115 75) (lc' := [(6, .int 116), (5, .int 1), (4, .int 116), (3, .int 113), (2, .int 22), (0, .ref 0), (1, .ref 22)]) (stk' := []) (mem' := fm g tp bt a b) (fun _ _ _ => rfl) ?_
                rw [show (fx_cb .ge 116 116) = true from by decide]
                dsimp only [cond]
                refine fe_s 1 (pc' := 117) (lc' := [(6, .int 116), (5, .int 1), (4, .int 116), (3, .int 113), (2, .int 22), (0, .ref 0), (1, .ref 22)]) (stk' := [.int 1]) (mem' := fm g tp bt a b) (fun _ _ _ => rfl) ?_
                refine fe_s 1 (pc' := cond (fx_cb .eq 1 0) 122 120) (lc' := [(6, .int 116), (5, .int 1), (4, .int 116), (3, .int 113), (2, .int 22), (0, .ref 0), (1, .ref 22)]) (stk' := []) (mem' := fm g tp bt a b) (fun _ _ _ => rfl) ?_
                rw [show (fx_cb .eq 1 0) = false from by decide]
                dsimp only [cond]
                refine fe_s 1 (pc' := 121) (lc' := [(6, .int 116), (5, .int 1), (4, .int 116), (3, .int 113), (2, .int 22), (0, .ref 0), (1, .ref 22)]) (stk' := [.int 22]) (mem' := fm g tp bt a b) (fun _ _ _ => rfl) ?_
                exact fe_ret ⟨_, Or.inr ⟨22, by omega, rfl⟩, rfl⟩ (by rfl) (by rfl) (by rfl)
              · rw [show (fx_cb .ne 116 (nI n11)) = true from cb_neT (a := 116) (b := n11) (by omega) (by omega) (by omega)]
                dsimp only [cond]
                refine fe_s 1 (pc' := 107) (lc' := [(6, .int 115), (5, .int 1), (4, .int 116), (3, .int 113), (2, .int 22), (0, .ref 0), (1, .ref 22)]) (stk' := [.int 0]) (mem' := fm g tp bt a b) (fun _ _ _ => rfl) ?_
                refine fe_w (lc' := [(6, .int 115), (5, .int 1), (4, .int 116), (3, .int 113), (2, .int 22), (0, .ref 0), (1, .ref 22)]) ⟨rfl, rfl, rfl, rfl, rfl, rfl, rfl, trivial⟩ (by show List.Nodup [6, 5, 4, 3, 2, 0, 1]; decide) (by show List.Nodup [6, 5, 4, 3, 2, 0, 1]; decide) ?_
                exact fail _ _
          · rw [show (fx_cb .ne 101 (nI n7)) = true from cb_neT (a := 101) (b := n7) (by omega) (by omega) (by omega)]
            dsimp only [cond]
            refine fe_s 1 (pc' := 107) (lc' := [(6, .int 114), (5, .int 1), (4, .int 116), (3, .int 113), (2, .int 22), (0, .ref 0), (1, .ref 22)]) (stk' := [.int 0]) (mem' := fm g tp bt a b) (fun _ _ _ => rfl) ?_
            refine fe_w (lc' := [(6, .int 114), (5, .int 1), (4, .int 116), (3, .int 113), (2, .int 22), (0, .ref 0), (1, .ref 22)]) ⟨rfl, rfl, rfl, rfl, rfl, rfl, rfl, trivial⟩ (by show List.Nodup [6, 5, 4, 3, 2, 0, 1]; decide) (by show List.Nodup [6, 5, 4, 3, 2, 0, 1]; decide) ?_
            exact fail _ _
      · rw [show (fx_cb .ne 119 (nI n3)) = true from cb_neT (a := 119) (b := n3) (by omega) (by omega) (by omega)]
        dsimp only [cond]
        refine fe_s 1 (pc' := 107) (lc' := [(6, .int 113), (5, .int 1), (4, .int 116), (3, .int 113), (2, .int 22), (0, .ref 0), (1, .ref 22)]) (stk' := [.int 0]) (mem' := fm g tp bt a b) (fun _ _ _ => rfl) ?_
        refine fe_w (lc' := [(6, .int 113), (5, .int 1), (4, .int 116), (3, .int 113), (2, .int 22), (0, .ref 0), (1, .ref 22)]) ⟨rfl, rfl, rfl, rfl, rfl, rfl, rfl, trivial⟩ (by show List.Nodup [6, 5, 4, 3, 2, 0, 1]; decide) (by show List.Nodup [6, 5, 4, 3, 2, 0, 1]; decide) ?_
        exact fail _ _
  · rw [show (fx_cb .ne 3 (nI (E - F))) = true from cb_neT (a := 3) (b := E - F) (by omega) (by omega) (by omega)]
    dsimp only [cond]
    refine fe_s 4 (pc' := 68) (lc' := [(6, .int 113), (5, .int 0), (4, .int 116), (3, .int 113), (2, .int 22), (0, .ref 0), (1, .ref 22)]) (stk' := []) (mem' := fm g tp bt a b) (fun _ _ _ => rfl) ?_
    refine fe_s 2 (pc' := 72) (lc' := [(6, .int 113), (5, .int 0), (4, .int 116), (3, .int 113), (2, .int 22), (0, .ref 0), (1, .ref 22)]) (stk' := [.int 116, .int 113]) (mem' := fm g tp bt a b) (fun _ _ _ => rfl) ?_
    refine fe_s 1 (pc' := cond (fx_cb .ge 113 116) 115 75) (lc' := [(6, .int 113), (5, .int 0), (4, .int 116), (3, .int 113), (2, .int 22), (0, .ref 0), (1, .ref 22)]) (stk' := []) (mem' := fm g tp bt a b) (fun _ _ _ => rfl) ?_
    rw [show (fx_cb .ge 113 116) = false from by decide]
    dsimp only [cond]
    refine fe_s 1 (pc' := 77) (lc' := [(6, .int 113), (5, .int 0), (4, .int 116), (3, .int 113), (2, .int 22), (0, .ref 0), (1, .ref 22)]) (stk' := [.int 0]) (mem' := fm g tp bt a b) (fun _ _ _ => rfl) ?_
    refine fe_s 1 (pc' := cond (fx_cb .eq 0 0) 115 80) (lc' := [(6, .int 113), (5, .int 0), (4, .int 116), (3, .int 113), (2, .int 22), (0, .ref 0), (1, .ref 22)]) (stk' := []) (mem' := fm g tp bt a b) (fun _ _ _ => rfl) ?_
    rw [show (fx_cb .eq 0 0) = true from by decide]
    dsimp only [cond]
    refine fe_s 1 (pc' := 117) (lc' := [(6, .int 113), (5, .int 0), (4, .int 116), (3, .int 113), (2, .int 22), (0, .ref 0), (1, .ref 22)]) (stk' := [.int 0]) (mem' := fm g tp bt a b) (fun _ _ _ => rfl) ?_
    refine fe_s 1 (pc' := cond (fx_cb .eq 0 0) 122 120) (lc' := [(6, .int 113), (5, .int 0), (4, .int 116), (3, .int 113), (2, .int 22), (0, .ref 0), (1, .ref 22)]) (stk' := []) (mem' := fm g tp bt a b) (fun _ _ _ => rfl) ?_
    rw [show (fx_cb .eq 0 0) = true from by decide]
    dsimp only [cond]
    refine fe_s 4 (pc' := 129) (lc' := [(2, .int (22 + 1)), (6, .int 113), (5, .int 0), (4, .int 116), (3, .int 113), (0, .ref 0), (1, .ref 22)]) (stk' := [.int (116 + 1)]) (mem' := fm g tp bt a b) (fun _ _ _ => rfl) ?_
    rw [show (22 + 1 : Int32) = 23 from rfl]
    rw [show (116 + 1 : Int32) = 117 from rfl]
    refine fe_s 1 (pc' := 130) (lc' := [(3, .int 117), (2, .int 23), (6, .int 113), (5, .int 0), (4, .int 116), (0, .ref 0), (1, .ref 22)]) (stk' := []) (mem' := fm g tp bt a b) (fun _ _ _ => rfl) ?_
    refine fe_s 1 (pc' := fx_to 130 (-116)) (lc' := [(3, .int 117), (2, .int 23), (6, .int 113), (5, .int 0), (4, .int 116), (0, .ref 0), (1, .ref 22)]) (stk' := []) (mem' := fm g tp bt a b) (fun _ _ _ => rfl) ?_
    rw [show fx_to 130 (-116) = 14 from by decide]
    refine fe_w (lc' := [(3, .int 117), (2, .int 23), (0, .ref 0), (1, .ref 22)]) ⟨rfl, rfl, rfl, rfl, trivial⟩ (by show List.Nodup [3, 2, 0, 1]; decide) (by show List.Nodup [3, 2, 6, 5, 4, 0, 1]; decide) ?_
    exact fw_23 hxp
set_option maxHeartbeats 8000000 in
theorem fw_21 {S E F : Nat} (hxp : fm_xp g S E F) : fe_R 1 gk_m226 14 [(3, .int 108), (2, .int 21), (0, .ref 0), (1, .ref 22)] [] (fm g tp bt a b) (fm_FI (fm g tp bt a b)) := by
  obtain ⟨h11, hS9, h14, hES, h13, hFE, -, -, -⟩ := id hxp
  have fail : ∀ (x z : Int32), fe_R 1 gk_m226 107 [(6, .int x), (5, .int z), (4, .int 112), (3, .int 108), (2, .int 21), (0, .ref 0), (1, .ref 22)] [.int 0] (fm g tp bt a b) (fm_FI (fm g tp bt a b)) := by
    intro x z
    refine fe_s 4 (pc' := 70) (lc' := [(6, .int (x + 1)), (5, .int 0), (4, .int 112), (3, .int 108), (2, .int 21), (0, .ref 0), (1, .ref 22)]) (stk' := [.int (x + 1)]) (mem' := fm g tp bt a b) (fun _ _ _ => rfl) ?_
    refine fe_s 1 (pc' := 72) (lc' := [(6, .int (x + 1)), (5, .int 0), (4, .int 112), (3, .int 108), (2, .int 21), (0, .ref 0), (1, .ref 22)]) (stk' := [.int 112, .int (x + 1)]) (mem' := fm g tp bt a b) (fun _ _ _ => rfl) ?_
    refine fe_s 1 (pc' := cond (fx_cb .ge (x + 1) 112) 115 75) (lc' := [(6, .int (x + 1)), (5, .int 0), (4, .int 112), (3, .int 108), (2, .int 21), (0, .ref 0), (1, .ref 22)]) (stk' := []) (mem' := fm g tp bt a b) (fun _ _ _ => rfl) ?_
    cases h1 : fx_cb .ge (x + 1) 112
    · refine fe_s 1 (pc' := 77) (lc' := [(6, .int (x + 1)), (5, .int 0), (4, .int 112), (3, .int 108), (2, .int 21), (0, .ref 0), (1, .ref 22)]) (stk' := [.int 0]) (mem' := fm g tp bt a b) (fun _ _ _ => rfl) ?_
      refine fe_s 1 (pc' := cond (fx_cb .eq 0 0) 115 80) (lc' := [(6, .int (x + 1)), (5, .int 0), (4, .int 112), (3, .int 108), (2, .int 21), (0, .ref 0), (1, .ref 22)]) (stk' := []) (mem' := fm g tp bt a b) (fun _ _ _ => rfl) ?_
      rw [show (fx_cb .eq 0 0) = true from by decide]
      dsimp only [cond]
      refine fe_s 1 (pc' := 117) (lc' := [(6, .int (x + 1)), (5, .int 0), (4, .int 112), (3, .int 108), (2, .int 21), (0, .ref 0), (1, .ref 22)]) (stk' := [.int 0]) (mem' := fm g tp bt a b) (fun _ _ _ => rfl) ?_
      refine fe_s 1 (pc' := cond (fx_cb .eq 0 0) 122 120) (lc' := [(6, .int (x + 1)), (5, .int 0), (4, .int 112), (3, .int 108), (2, .int 21), (0, .ref 0), (1, .ref 22)]) (stk' := []) (mem' := fm g tp bt a b) (fun _ _ _ => rfl) ?_
      rw [show (fx_cb .eq 0 0) = true from by decide]
      dsimp only [cond]
      refine fe_s 4 (pc' := 129) (lc' := [(2, .int (21 + 1)), (6, .int (x + 1)), (5, .int 0), (4, .int 112), (3, .int 108), (0, .ref 0), (1, .ref 22)]) (stk' := [.int (112 + 1)]) (mem' := fm g tp bt a b) (fun _ _ _ => rfl) ?_
      rw [show (21 + 1 : Int32) = 22 from rfl]
      rw [show (112 + 1 : Int32) = 113 from rfl]
      refine fe_s 1 (pc' := 130) (lc' := [(3, .int 113), (2, .int 22), (6, .int (x + 1)), (5, .int 0), (4, .int 112), (0, .ref 0), (1, .ref 22)]) (stk' := []) (mem' := fm g tp bt a b) (fun _ _ _ => rfl) ?_
      refine fe_s 1 (pc' := fx_to 130 (-116)) (lc' := [(3, .int 113), (2, .int 22), (6, .int (x + 1)), (5, .int 0), (4, .int 112), (0, .ref 0), (1, .ref 22)]) (stk' := []) (mem' := fm g tp bt a b) (fun _ _ _ => rfl) ?_
      rw [show fx_to 130 (-116) = 14 from by decide]
      refine fe_w (lc' := [(3, .int 113), (2, .int 22), (0, .ref 0), (1, .ref 22)]) ⟨rfl, rfl, rfl, rfl, trivial⟩ (by show List.Nodup [3, 2, 0, 1]; decide) (by show List.Nodup [3, 2, 6, 5, 4, 0, 1]; decide) ?_
      exact fw_22 hxp
    · refine fe_s 1 (pc' := 117) (lc' := [(6, .int (x + 1)), (5, .int 0), (4, .int 112), (3, .int 108), (2, .int 21), (0, .ref 0), (1, .ref 22)]) (stk' := [.int 0]) (mem' := fm g tp bt a b) (fun _ _ _ => rfl) ?_
      refine fe_s 1 (pc' := cond (fx_cb .eq 0 0) 122 120) (lc' := [(6, .int (x + 1)), (5, .int 0), (4, .int 112), (3, .int 108), (2, .int 21), (0, .ref 0), (1, .ref 22)]) (stk' := []) (mem' := fm g tp bt a b) (fun _ _ _ => rfl) ?_
      rw [show (fx_cb .eq 0 0) = true from by decide]
      dsimp only [cond]
      refine fe_s 4 (pc' := 129) (lc' := [(2, .int (21 + 1)), (6, .int (x + 1)), (5, .int 0), (4, .int 112), (3, .int 108), (0, .ref 0), (1, .ref 22)]) (stk' := [.int (112 + 1)]) (mem' := fm g tp bt a b) (fun _ _ _ => rfl) ?_
      rw [show (21 + 1 : Int32) = 22 from rfl]
      rw [show (112 + 1 : Int32) = 113 from rfl]
      refine fe_s 1 (pc' := 130) (lc' := [(3, .int 113), (2, .int 22), (6, .int (x + 1)), (5, .int 0), (4, .int 112), (0, .ref 0), (1, .ref 22)]) (stk' := []) (mem' := fm g tp bt a b) (fun _ _ _ => rfl) ?_
      refine fe_s 1 (pc' := fx_to 130 (-116)) (lc' := [(3, .int 113), (2, .int 22), (6, .int (x + 1)), (5, .int 0), (4, .int 112), (0, .ref 0), (1, .ref 22)]) (stk' := []) (mem' := fm g tp bt a b) (fun _ _ _ => rfl) ?_
      rw [show fx_to 130 (-116) = 14 from by decide]
      refine fe_w (lc' := [(3, .int 113), (2, .int 22), (0, .ref 0), (1, .ref 22)]) ⟨rfl, rfl, rfl, rfl, trivial⟩ (by show List.Nodup [3, 2, 0, 1]; decide) (by show List.Nodup [3, 2, 6, 5, 4, 0, 1]; decide) ?_
      exact fw_22 hxp
  refine fe_s 2 (pc' := 16) (lc' := [(3, .int 108), (2, .int 21), (0, .ref 0), (1, .ref 22)]) (stk' := [.ref 22, .int 108]) (mem' := fm g tp bt a b) (fun _ _ _ => rfl) ?_
  refine fe_s 1 (pc' := 19) (lc' := [(3, .int 108), (2, .int 21), (0, .ref 0), (1, .ref 22)]) (stk' := [.int 117, .int 108]) (mem' := fm g tp bt a b) (fun _ _ _ => rfl) ?_
  refine fe_s 1 (pc' := cond (fx_cb .ge 108 117) 133 22) (lc' := [(3, .int 108), (2, .int 21), (0, .ref 0), (1, .ref 22)]) (stk' := []) (mem' := fm g tp bt a b) (fun _ _ _ => rfl) ?_
  rw [show (fx_cb .ge 108 117) = false from by decide]
  dsimp only [cond]
  refine fe_s 4 (pc' := 28) (lc' := [(4, .int 108), (3, .int 108), (2, .int 21), (0, .ref 0), (1, .ref 22)]) (stk' := [.int 108, .ref 22]) (mem' := fm g tp bt a b) (fun _ _ _ => rfl) ?_
  refine fe_chr (i := 108) (by omega) (by rfl) (by rfl) ⟨by rfl, by rfl⟩ (by rfl) ?_
  rw [show sk_b.getD 108 0 = 115 from rfl]
  refine fe_s 1 (pc' := 33) (lc' := [(4, .int 108), (3, .int 108), (2, .int 21), (0, .ref 0), (1, .ref 22)]) (stk' := [.int 32, .int 115]) (mem' := fm g tp bt a b) (fun _ _ _ => rfl) ?_
  refine fe_s 1 (pc' := cond (fx_cb .eq 115 32) 42 36) (lc' := [(4, .int 108), (3, .int 108), (2, .int 21), (0, .ref 0), (1, .ref 22)]) (stk' := []) (mem' := fm g tp bt a b) (fun _ _ _ => rfl) ?_
  rw [show (fx_cb .eq 115 32) = false from by decide]
  dsimp only [cond]
  refine fe_s 4 (pc' := 28) (lc' := [(4, .int (108 + 1)), (3, .int 108), (2, .int 21), (0, .ref 0), (1, .ref 22)]) (stk' := [.int (108 + 1), .ref 22]) (mem' := fm g tp bt a b) (fun _ _ _ => rfl) ?_
  rw [show (108 + 1 : Int32) = 109 from rfl]
  refine fe_chr (i := 109) (by omega) (by rfl) (by rfl) ⟨by rfl, by rfl⟩ (by rfl) ?_
  rw [show sk_b.getD 109 0 = 116 from rfl]
  refine fe_s 1 (pc' := 33) (lc' := [(4, .int 109), (3, .int 108), (2, .int 21), (0, .ref 0), (1, .ref 22)]) (stk' := [.int 32, .int 116]) (mem' := fm g tp bt a b) (fun _ _ _ => rfl) ?_
  refine fe_s 1 (pc' := cond (fx_cb .eq 116 32) 42 36) (lc' := [(4, .int 109), (3, .int 108), (2, .int 21), (0, .ref 0), (1, .ref 22)]) (stk' := []) (mem' := fm g tp bt a b) (fun _ _ _ => rfl) ?_
  rw [show (fx_cb .eq 116 32) = false from by decide]
  dsimp only [cond]
  refine fe_s 4 (pc' := 28) (lc' := [(4, .int (109 + 1)), (3, .int 108), (2, .int 21), (0, .ref 0), (1, .ref 22)]) (stk' := [.int (109 + 1), .ref 22]) (mem' := fm g tp bt a b) (fun _ _ _ => rfl) ?_
  rw [show (109 + 1 : Int32) = 110 from rfl]
  refine fe_chr (i := 110) (by omega) (by rfl) (by rfl) ⟨by rfl, by rfl⟩ (by rfl) ?_
  rw [show sk_b.getD 110 0 = 111 from rfl]
  refine fe_s 1 (pc' := 33) (lc' := [(4, .int 110), (3, .int 108), (2, .int 21), (0, .ref 0), (1, .ref 22)]) (stk' := [.int 32, .int 111]) (mem' := fm g tp bt a b) (fun _ _ _ => rfl) ?_
  refine fe_s 1 (pc' := cond (fx_cb .eq 111 32) 42 36) (lc' := [(4, .int 110), (3, .int 108), (2, .int 21), (0, .ref 0), (1, .ref 22)]) (stk' := []) (mem' := fm g tp bt a b) (fun _ _ _ => rfl) ?_
  rw [show (fx_cb .eq 111 32) = false from by decide]
  dsimp only [cond]
  refine fe_s 4 (pc' := 28) (lc' := [(4, .int (110 + 1)), (3, .int 108), (2, .int 21), (0, .ref 0), (1, .ref 22)]) (stk' := [.int (110 + 1), .ref 22]) (mem' := fm g tp bt a b) (fun _ _ _ => rfl) ?_
  rw [show (110 + 1 : Int32) = 111 from rfl]
  refine fe_chr (i := 111) (by omega) (by rfl) (by rfl) ⟨by rfl, by rfl⟩ (by rfl) ?_
  rw [show sk_b.getD 111 0 = 112 from rfl]
  refine fe_s 1 (pc' := 33) (lc' := [(4, .int 111), (3, .int 108), (2, .int 21), (0, .ref 0), (1, .ref 22)]) (stk' := [.int 32, .int 112]) (mem' := fm g tp bt a b) (fun _ _ _ => rfl) ?_
  refine fe_s 1 (pc' := cond (fx_cb .eq 112 32) 42 36) (lc' := [(4, .int 111), (3, .int 108), (2, .int 21), (0, .ref 0), (1, .ref 22)]) (stk' := []) (mem' := fm g tp bt a b) (fun _ _ _ => rfl) ?_
  rw [show (fx_cb .eq 112 32) = false from by decide]
  dsimp only [cond]
  refine fe_s 4 (pc' := 28) (lc' := [(4, .int (111 + 1)), (3, .int 108), (2, .int 21), (0, .ref 0), (1, .ref 22)]) (stk' := [.int (111 + 1), .ref 22]) (mem' := fm g tp bt a b) (fun _ _ _ => rfl) ?_
  rw [show (111 + 1 : Int32) = 112 from rfl]
  refine fe_chr (i := 112) (by omega) (by rfl) (by rfl) ⟨by rfl, by rfl⟩ (by rfl) ?_
  rw [show sk_b.getD 112 0 = 32 from rfl]
  refine fe_s 1 (pc' := 33) (lc' := [(4, .int 112), (3, .int 108), (2, .int 21), (0, .ref 0), (1, .ref 22)]) (stk' := [.int 32, .int 32]) (mem' := fm g tp bt a b) (fun _ _ _ => rfl) ?_
  refine fe_s 1 (pc' := cond (fx_cb .eq 32 32) 42 36) (lc' := [(4, .int 112), (3, .int 108), (2, .int 21), (0, .ref 0), (1, .ref 22)]) (stk' := []) (mem' := fm g tp bt a b) (fun _ _ _ => rfl) ?_
  rw [show (fx_cb .eq 32 32) = true from by decide]
  dsimp only [cond]
  refine fe_s 4 (pc' := 47) (lc' := [(4, .int 112), (3, .int 108), (2, .int 21), (0, .ref 0), (1, .ref 22)]) (stk' := [.ref 0, .int (112 - 108)]) (mem' := fm g tp bt a b) (fun _ _ _ => rfl) ?_
  rw [show (112 - 108 : Int32) = 4 from rfl]
  refine fe_s 4 (pc' := 55) (lc' := [(4, .int 112), (3, .int 108), (2, .int 21), (0, .ref 0), (1, .ref 22)]) (stk' := [.int ((g 14) - (g 13)), .int 4]) (mem' := fm g tp bt a b) (fun _ _ _ => rfl) ?_
  try rw [h14]
  try rw [h13]
  rw [show ((nI E) - (nI F) : Int32) = nI (E - F) from by simp only [tg_sub2 (x := E) (y := F) (by omega), nI_add, fm_mul]]
  refine fe_s 1 (pc' := cond (fx_cb .ne 4 (nI (E - F))) 62 58) (lc' := [(4, .int 112), (3, .int 108), (2, .int 21), (0, .ref 0), (1, .ref 22)]) (stk' := []) (mem' := fm g tp bt a b) (fun _ _ _ => rfl) ?_
  by_cases h2 : 4 = (E - F)
  · rw [show (fx_cb .ne 4 (nI (E - F))) = false from cb_neF (a := 4) (b := E - F) (by omega) (by omega) (by omega)]
    dsimp only [cond]
    refine fe_s 4 (pc' := 66) (lc' := [(5, .int 1), (4, .int 112), (3, .int 108), (2, .int 21), (0, .ref 0), (1, .ref 22)]) (stk' := [.int 108]) (mem' := fm g tp bt a b) (fun _ _ _ => rfl) ?_
    refine fe_s 3 (pc' := 72) (lc' := [(6, .int 108), (5, .int 1), (4, .int 112), (3, .int 108), (2, .int 21), (0, .ref 0), (1, .ref 22)]) (stk' := [.int 112, .int 108]) (mem' := fm g tp bt a b) (fun _ _ _ => rfl) ?_
    refine fe_s 1 (pc' := cond (fx_cb .ge 108 112) 115 75) (lc' := [(6, .int 108), (5, .int 1), (4, .int 112), (3, .int 108), (2, .int 21), (0, .ref 0), (1, .ref 22)]) (stk' := []) (mem' := fm g tp bt a b) (fun _ _ _ => rfl) ?_
    rw [show (fx_cb .ge 108 112) = false from by decide]
    dsimp only [cond]
    refine fe_s 1 (pc' := 77) (lc' := [(6, .int 108), (5, .int 1), (4, .int 112), (3, .int 108), (2, .int 21), (0, .ref 0), (1, .ref 22)]) (stk' := [.int 1]) (mem' := fm g tp bt a b) (fun _ _ _ => rfl) ?_
    refine fe_s 1 (pc' := cond (fx_cb .eq 1 0) 115 80) (lc' := [(6, .int 108), (5, .int 1), (4, .int 112), (3, .int 108), (2, .int 21), (0, .ref 0), (1, .ref 22)]) (stk' := []) (mem' := fm g tp bt a b) (fun _ _ _ => rfl) ?_
    rw [show (fx_cb .eq 1 0) = false from by decide]
    dsimp only [cond]
    refine fe_s 2 (pc' := 83) (lc' := [(6, .int 108), (5, .int 1), (4, .int 112), (3, .int 108), (2, .int 21), (0, .ref 0), (1, .ref 22)]) (stk' := [.int 108, .ref 22]) (mem' := fm g tp bt a b) (fun _ _ _ => rfl) ?_
    refine fe_chr (i := 108) (by omega) (by rfl) (by rfl) ⟨by rfl, by rfl⟩ (by rfl) ?_
    rw [show sk_b.getD 108 0 = 115 from rfl]
    refine fe_s 4 (pc' := 93) (lc' := [(6, .int 108), (5, .int 1), (4, .int 112), (3, .int 108), (2, .int 21), (0, .ref 0), (1, .ref 22)]) (stk' := [.int 108, .int (g 13), .ref 0, .int 115]) (mem' := fm g tp bt a b) (fun _ _ _ => rfl) ?_
    try rw [h13]
    refine fe_s 3 (pc' := 96) (lc' := [(6, .int 108), (5, .int 1), (4, .int 112), (3, .int 108), (2, .int 21), (0, .ref 0), (1, .ref 22)]) (stk' := [.int (((nI F) + 108) - 108), .ref 0, .int 115]) (mem' := fm g tp bt a b) (fun _ _ _ => rfl) ?_
    rw [show (((nI F) + 108) - 108 : Int32) = nI ((F + 108) - 108) from by simp only [show (108 : Int32) = nI 108 from rfl, tg_sub2 (x := F + 108) (y := 108) (by omega), nI_add, fm_mul]]
    refine fe_ivV (fr_byteAt (S := S) (k := (F + 108) - 108) (g := g) (tp := tp) (bt := bt) (a := a) (b := b) h11 (by omega) (by omega)) (by omega) (by rfl) (by rfl) (by rfl) (by rfl) (by rfl) (by rfl) ?_
    rcases fm_byte_or a S ((F + 108) - 108) with ⟨e4, q5⟩ | ⟨q5, n3, qn3, e4⟩
    · rw [e4]
      refine fe_s 1 (pc' := cond (fx_cb .ne 115 (-1)) 106 102) (lc' := [(6, .int 108), (5, .int 1), (4, .int 112), (3, .int 108), (2, .int 21), (0, .ref 0), (1, .ref 22)]) (stk' := []) (mem' := fm g tp bt a b) (fun _ _ _ => rfl) ?_
      rw [show (fx_cb .ne 115 (-1)) = true from by decide]
      dsimp only [cond]
      refine fe_s 1 (pc' := 107) (lc' := [(6, .int 108), (5, .int 1), (4, .int 112), (3, .int 108), (2, .int 21), (0, .ref 0), (1, .ref 22)]) (stk' := [.int 0]) (mem' := fm g tp bt a b) (fun _ _ _ => rfl) ?_
      refine fe_w (lc' := [(6, .int 108), (5, .int 1), (4, .int 112), (3, .int 108), (2, .int 21), (0, .ref 0), (1, .ref 22)]) ⟨rfl, rfl, rfl, rfl, rfl, rfl, rfl, trivial⟩ (by show List.Nodup [6, 5, 4, 3, 2, 0, 1]; decide) (by show List.Nodup [6, 5, 4, 3, 2, 0, 1]; decide) ?_
      exact fail _ _
    · rw [e4]
      refine fe_s 1 (pc' := cond (fx_cb .ne 115 (nI n3)) 106 102) (lc' := [(6, .int 108), (5, .int 1), (4, .int 112), (3, .int 108), (2, .int 21), (0, .ref 0), (1, .ref 22)]) (stk' := []) (mem' := fm g tp bt a b) (fun _ _ _ => rfl) ?_
      by_cases h6 : 115 = n3
      · rw [show (fx_cb .ne 115 (nI n3)) = false from cb_neF (a := 115) (b := n3) (by omega) (by omega) (by omega)]
        dsimp only [cond]
        refine fe_s 2 (pc' := 107) (lc' := [(6, .int 108), (5, .int 1), (4, .int 112), (3, .int 108), (2, .int 21), (0, .ref 0), (1, .ref 22)]) (stk' := [.int 1]) (mem' := fm g tp bt a b) (fun _ _ _ => rfl) ?_
        refine fe_s 4 (pc' := 70) (lc' := [(6, .int (108 + 1)), (5, .int 1), (4, .int 112), (3, .int 108), (2, .int 21), (0, .ref 0), (1, .ref 22)]) (stk' := [.int (108 + 1)]) (mem' := fm g tp bt a b) (fun _ _ _ => rfl) ?_
        rw [show (108 + 1 : Int32) = 109 from rfl]
        refine fe_s 1 (pc' := 72) (lc' := [(6, .int 109), (5, .int 1), (4, .int 112), (3, .int 108), (2, .int 21), (0, .ref 0), (1, .ref 22)]) (stk' := [.int 112, .int 109]) (mem' := fm g tp bt a b) (fun _ _ _ => rfl) ?_
        refine fe_s 1 (pc' := cond (fx_cb .ge 109 112) 115 75) (lc' := [(6, .int 109), (5, .int 1), (4, .int 112), (3, .int 108), (2, .int 21), (0, .ref 0), (1, .ref 22)]) (stk' := []) (mem' := fm g tp bt a b) (fun _ _ _ => rfl) ?_
        rw [show (fx_cb .ge 109 112) = false from by decide]
        dsimp only [cond]
        refine fe_s 1 (pc' := 77) (lc' := [(6, .int 109), (5, .int 1), (4, .int 112), (3, .int 108), (2, .int 21), (0, .ref 0), (1, .ref 22)]) (stk' := [.int 1]) (mem' := fm g tp bt a b) (fun _ _ _ => rfl) ?_
        refine fe_s 1 (pc' := cond (fx_cb .eq 1 0) 115 80) (lc' := [(6, .int 109), (5, .int 1), (4, .int 112), (3, .int 108), (2, .int 21), (0, .ref 0), (1, .ref 22)]) (stk' := []) (mem' := fm g tp bt a b) (fun _ _ _ => rfl) ?_
        rw [show (fx_cb .eq 1 0) = false from by decide]
        dsimp only [cond]
        refine fe_s 2 (pc' := 83) (lc' := [(6, .int 109), (5, .int 1), (4, .int 112), (3, .int 108), (2, .int 21), (0, .ref 0), (1, .ref 22)]) (stk' := [.int 109, .ref 22]) (mem' := fm g tp bt a b) (fun _ _ _ => rfl) ?_
        refine fe_chr (i := 109) (by omega) (by rfl) (by rfl) ⟨by rfl, by rfl⟩ (by rfl) ?_
        rw [show sk_b.getD 109 0 = 116 from rfl]
        refine fe_s 4 (pc' := 93) (lc' := [(6, .int 109), (5, .int 1), (4, .int 112), (3, .int 108), (2, .int 21), (0, .ref 0), (1, .ref 22)]) (stk' := [.int 109, .int (g 13), .ref 0, .int 116]) (mem' := fm g tp bt a b) (fun _ _ _ => rfl) ?_
        try rw [h13]
        refine fe_s 3 (pc' := 96) (lc' := [(6, .int 109), (5, .int 1), (4, .int 112), (3, .int 108), (2, .int 21), (0, .ref 0), (1, .ref 22)]) (stk' := [.int (((nI F) + 109) - 108), .ref 0, .int 116]) (mem' := fm g tp bt a b) (fun _ _ _ => rfl) ?_
        rw [show (((nI F) + 109) - 108 : Int32) = nI ((F + 109) - 108) from by simp only [show (109 : Int32) = nI 109 from rfl, show (108 : Int32) = nI 108 from rfl, tg_sub2 (x := F + 109) (y := 108) (by omega), nI_add, fm_mul]]
        refine fe_ivV (fr_byteAt (S := S) (k := (F + 109) - 108) (g := g) (tp := tp) (bt := bt) (a := a) (b := b) h11 (by omega) (by omega)) (by omega) (by rfl) (by rfl) (by rfl) (by rfl) (by rfl) (by rfl) ?_
        rcases fm_byte_or a S ((F + 109) - 108) with ⟨e8, q9⟩ | ⟨q9, n7, qn7, e8⟩
        · rw [e8]
          refine fe_s 1 (pc' := cond (fx_cb .ne 116 (-1)) 106 102) (lc' := [(6, .int 109), (5, .int 1), (4, .int 112), (3, .int 108), (2, .int 21), (0, .ref 0), (1, .ref 22)]) (stk' := []) (mem' := fm g tp bt a b) (fun _ _ _ => rfl) ?_
          rw [show (fx_cb .ne 116 (-1)) = true from by decide]
          dsimp only [cond]
          refine fe_s 1 (pc' := 107) (lc' := [(6, .int 109), (5, .int 1), (4, .int 112), (3, .int 108), (2, .int 21), (0, .ref 0), (1, .ref 22)]) (stk' := [.int 0]) (mem' := fm g tp bt a b) (fun _ _ _ => rfl) ?_
          refine fe_w (lc' := [(6, .int 109), (5, .int 1), (4, .int 112), (3, .int 108), (2, .int 21), (0, .ref 0), (1, .ref 22)]) ⟨rfl, rfl, rfl, rfl, rfl, rfl, rfl, trivial⟩ (by show List.Nodup [6, 5, 4, 3, 2, 0, 1]; decide) (by show List.Nodup [6, 5, 4, 3, 2, 0, 1]; decide) ?_
          exact fail _ _
        · rw [e8]
          refine fe_s 1 (pc' := cond (fx_cb .ne 116 (nI n7)) 106 102) (lc' := [(6, .int 109), (5, .int 1), (4, .int 112), (3, .int 108), (2, .int 21), (0, .ref 0), (1, .ref 22)]) (stk' := []) (mem' := fm g tp bt a b) (fun _ _ _ => rfl) ?_
          by_cases h10 : 116 = n7
          · rw [show (fx_cb .ne 116 (nI n7)) = false from cb_neF (a := 116) (b := n7) (by omega) (by omega) (by omega)]
            dsimp only [cond]
            refine fe_s 2 (pc' := 107) (lc' := [(6, .int 109), (5, .int 1), (4, .int 112), (3, .int 108), (2, .int 21), (0, .ref 0), (1, .ref 22)]) (stk' := [.int 1]) (mem' := fm g tp bt a b) (fun _ _ _ => rfl) ?_
            refine fe_s 4 (pc' := 70) (lc' := [(6, .int (109 + 1)), (5, .int 1), (4, .int 112), (3, .int 108), (2, .int 21), (0, .ref 0), (1, .ref 22)]) (stk' := [.int (109 + 1)]) (mem' := fm g tp bt a b) (fun _ _ _ => rfl) ?_
            rw [show (109 + 1 : Int32) = 110 from rfl]
            refine fe_s 1 (pc' := 72) (lc' := [(6, .int 110), (5, .int 1), (4, .int 112), (3, .int 108), (2, .int 21), (0, .ref 0), (1, .ref 22)]) (stk' := [.int 112, .int 110]) (mem' := fm g tp bt a b) (fun _ _ _ => rfl) ?_
            refine fe_s 1 (pc' := cond (fx_cb .ge 110 112) 115 75) (lc' := [(6, .int 110), (5, .int 1), (4, .int 112), (3, .int 108), (2, .int 21), (0, .ref 0), (1, .ref 22)]) (stk' := []) (mem' := fm g tp bt a b) (fun _ _ _ => rfl) ?_
            rw [show (fx_cb .ge 110 112) = false from by decide]
            dsimp only [cond]
            refine fe_s 1 (pc' := 77) (lc' := [(6, .int 110), (5, .int 1), (4, .int 112), (3, .int 108), (2, .int 21), (0, .ref 0), (1, .ref 22)]) (stk' := [.int 1]) (mem' := fm g tp bt a b) (fun _ _ _ => rfl) ?_
            refine fe_s 1 (pc' := cond (fx_cb .eq 1 0) 115 80) (lc' := [(6, .int 110), (5, .int 1), (4, .int 112), (3, .int 108), (2, .int 21), (0, .ref 0), (1, .ref 22)]) (stk' := []) (mem' := fm g tp bt a b) (fun _ _ _ => rfl) ?_
            rw [show (fx_cb .eq 1 0) = false from by decide]
            dsimp only [cond]
            refine fe_s 2 (pc' := 83) (lc' := [(6, .int 110), (5, .int 1), (4, .int 112), (3, .int 108), (2, .int 21), (0, .ref 0), (1, .ref 22)]) (stk' := [.int 110, .ref 22]) (mem' := fm g tp bt a b) (fun _ _ _ => rfl) ?_
            refine fe_chr (i := 110) (by omega) (by rfl) (by rfl) ⟨by rfl, by rfl⟩ (by rfl) ?_
            rw [show sk_b.getD 110 0 = 111 from rfl]
            refine fe_s 4 (pc' := 93) (lc' := [(6, .int 110), (5, .int 1), (4, .int 112), (3, .int 108), (2, .int 21), (0, .ref 0), (1, .ref 22)]) (stk' := [.int 110, .int (g 13), .ref 0, .int 111]) (mem' := fm g tp bt a b) (fun _ _ _ => rfl) ?_
            try rw [h13]
            refine fe_s 3 (pc' := 96) (lc' := [(6, .int 110), (5, .int 1), (4, .int 112), (3, .int 108), (2, .int 21), (0, .ref 0), (1, .ref 22)]) (stk' := [.int (((nI F) + 110) - 108), .ref 0, .int 111]) (mem' := fm g tp bt a b) (fun _ _ _ => rfl) ?_
            rw [show (((nI F) + 110) - 108 : Int32) = nI ((F + 110) - 108) from by simp only [show (110 : Int32) = nI 110 from rfl, show (108 : Int32) = nI 108 from rfl, tg_sub2 (x := F + 110) (y := 108) (by omega), nI_add, fm_mul]]
            refine fe_ivV (fr_byteAt (S := S) (k := (F + 110) - 108) (g := g) (tp := tp) (bt := bt) (a := a) (b := b) h11 (by omega) (by omega)) (by omega) (by rfl) (by rfl) (by rfl) (by rfl) (by rfl) (by rfl) ?_
            rcases fm_byte_or a S ((F + 110) - 108) with ⟨e12, q13⟩ | ⟨q13, n11, qn11, e12⟩
            · rw [e12]
              refine fe_s 1 (pc' := cond (fx_cb .ne 111 (-1)) 106 102) (lc' := [(6, .int 110), (5, .int 1), (4, .int 112), (3, .int 108), (2, .int 21), (0, .ref 0), (1, .ref 22)]) (stk' := []) (mem' := fm g tp bt a b) (fun _ _ _ => rfl) ?_
              rw [show (fx_cb .ne 111 (-1)) = true from by decide]
              dsimp only [cond]
              refine fe_s 1 (pc' := 107) (lc' := [(6, .int 110), (5, .int 1), (4, .int 112), (3, .int 108), (2, .int 21), (0, .ref 0), (1, .ref 22)]) (stk' := [.int 0]) (mem' := fm g tp bt a b) (fun _ _ _ => rfl) ?_
              refine fe_w (lc' := [(6, .int 110), (5, .int 1), (4, .int 112), (3, .int 108), (2, .int 21), (0, .ref 0), (1, .ref 22)]) ⟨rfl, rfl, rfl, rfl, rfl, rfl, rfl, trivial⟩ (by show List.Nodup [6, 5, 4, 3, 2, 0, 1]; decide) (by show List.Nodup [6, 5, 4, 3, 2, 0, 1]; decide) ?_
              exact fail _ _
            · rw [e12]
              refine fe_s 1 (pc' := cond (fx_cb .ne 111 (nI n11)) 106 102) (lc' := [(6, .int 110), (5, .int 1), (4, .int 112), (3, .int 108), (2, .int 21), (0, .ref 0), (1, .ref 22)]) (stk' := []) (mem' := fm g tp bt a b) (fun _ _ _ => rfl) ?_
              by_cases h14 : 111 = n11
              · rw [show (fx_cb .ne 111 (nI n11)) = false from cb_neF (a := 111) (b := n11) (by omega) (by omega) (by omega)]
                dsimp only [cond]
                refine fe_s 2 (pc' := 107) (lc' := [(6, .int 110), (5, .int 1), (4, .int 112), (3, .int 108), (2, .int 21), (0, .ref 0), (1, .ref 22)]) (stk' := [.int 1]) (mem' := fm g tp bt a b) (fun _ _ _ => rfl) ?_
                refine fe_s 4 (pc' := 70) (lc' := [(6, .int (110 + 1)), (5, .int 1), (4, .int 112), (3, .int 108), (2, .int 21), (0, .ref 0), (1, .ref 22)]) (stk' := [.int (110 + 1)]) (mem' := fm g tp bt a b) (fun _ _ _ => rfl) ?_
                rw [show (110 + 1 : Int32) = 111 from rfl]
                refine fe_s 1 (pc' := 72) (lc' := [(6, .int 111), (5, .int 1), (4, .int 112), (3, .int 108), (2, .int 21), (0, .ref 0), (1, .ref 22)]) (stk' := [.int 112, .int 111]) (mem' := fm g tp bt a b) (fun _ _ _ => rfl) ?_
                refine fe_s 1 (pc' := cond (fx_cb .ge 111 112) 115 75) (lc' := [(6, .int 111), (5, .int 1), (4, .int 112), (3, .int 108), (2, .int 21), (0, .ref 0), (1, .ref 22)]) (stk' := []) (mem' := fm g tp bt a b) (fun _ _ _ => rfl) ?_
                rw [show (fx_cb .ge 111 112) = false from by decide]
                dsimp only [cond]
                refine fe_s 1 (pc' := 77) (lc' := [(6, .int 111), (5, .int 1), (4, .int 112), (3, .int 108), (2, .int 21), (0, .ref 0), (1, .ref 22)]) (stk' := [.int 1]) (mem' := fm g tp bt a b) (fun _ _ _ => rfl) ?_
                refine fe_s 1 (pc' := cond (fx_cb .eq 1 0) 115 80) (lc' := [(6, .int 111), (5, .int 1), (4, .int 112), (3, .int 108), (2, .int 21), (0, .ref 0), (1, .ref 22)]) (stk' := []) (mem' := fm g tp bt a b) (fun _ _ _ => rfl) ?_
                rw [show (fx_cb .eq 1 0) = false from by decide]
                dsimp only [cond]
                refine fe_s 2 (pc' := 83) (lc' := [(6, .int 111), (5, .int 1), (4, .int 112), (3, .int 108), (2, .int 21), (0, .ref 0), (1, .ref 22)]) (stk' := [.int 111, .ref 22]) (mem' := fm g tp bt a b) (fun _ _ _ => rfl) ?_
                refine fe_chr (i := 111) (by omega) (by rfl) (by rfl) ⟨by rfl, by rfl⟩ (by rfl) ?_
                rw [show sk_b.getD 111 0 = 112 from rfl]
                refine fe_s 4 (pc' := 93) (lc' := [(6, .int 111), (5, .int 1), (4, .int 112), (3, .int 108), (2, .int 21), (0, .ref 0), (1, .ref 22)]) (stk' := [.int 111, .int (g 13), .ref 0, .int 112]) (mem' := fm g tp bt a b) (fun _ _ _ => rfl) ?_
                try rw [h13]
                refine fe_s 3 (pc' := 96) (lc' := [(6, .int 111), (5, .int 1), (4, .int 112), (3, .int 108), (2, .int 21), (0, .ref 0), (1, .ref 22)]) (stk' := [.int (((nI F) + 111) - 108), .ref 0, .int 112]) (mem' := fm g tp bt a b) (fun _ _ _ => rfl) ?_
                rw [show (((nI F) + 111) - 108 : Int32) = nI ((F + 111) - 108) from by simp only [show (111 : Int32) = nI 111 from rfl, show (108 : Int32) = nI 108 from rfl, tg_sub2 (x := F + 111) (y := 108) (by omega), nI_add, fm_mul]]
                refine fe_ivV (fr_byteAt (S := S) (k := (F + 111) - 108) (g := g) (tp := tp) (bt := bt) (a := a) (b := b) h11 (by omega) (by omega)) (by omega) (by rfl) (by rfl) (by rfl) (by rfl) (by rfl) (by rfl) ?_
                rcases fm_byte_or a S ((F + 111) - 108) with ⟨e16, q17⟩ | ⟨q17, n15, qn15, e16⟩
                · rw [e16]
                  refine fe_s 1 (pc' := cond (fx_cb .ne 112 (-1)) 106 102) (lc' := [(6, .int 111), (5, .int 1), (4, .int 112), (3, .int 108), (2, .int 21), (0, .ref 0), (1, .ref 22)]) (stk' := []) (mem' := fm g tp bt a b) (fun _ _ _ => rfl) ?_
                  rw [show (fx_cb .ne 112 (-1)) = true from by decide]
                  dsimp only [cond]
                  refine fe_s 1 (pc' := 107) (lc' := [(6, .int 111), (5, .int 1), (4, .int 112), (3, .int 108), (2, .int 21), (0, .ref 0), (1, .ref 22)]) (stk' := [.int 0]) (mem' := fm g tp bt a b) (fun _ _ _ => rfl) ?_
                  refine fe_w (lc' := [(6, .int 111), (5, .int 1), (4, .int 112), (3, .int 108), (2, .int 21), (0, .ref 0), (1, .ref 22)]) ⟨rfl, rfl, rfl, rfl, rfl, rfl, rfl, trivial⟩ (by show List.Nodup [6, 5, 4, 3, 2, 0, 1]; decide) (by show List.Nodup [6, 5, 4, 3, 2, 0, 1]; decide) ?_
                  exact fail _ _
                · rw [e16]
                  refine fe_s 1 (pc' := cond (fx_cb .ne 112 (nI n15)) 106 102) (lc' := [(6, .int 111), (5, .int 1), (4, .int 112), (3, .int 108), (2, .int 21), (0, .ref 0), (1, .ref 22)]) (stk' := []) (mem' := fm g tp bt a b) (fun _ _ _ => rfl) ?_
                  by_cases h18 : 112 = n15
                  · rw [show (fx_cb .ne 112 (nI n15)) = false from cb_neF (a := 112) (b := n15) (by omega) (by omega) (by omega)]
                    dsimp only [cond]
                    refine fe_s 2 (pc' := 107) (lc' := [(6, .int 111), (5, .int 1), (4, .int 112), (3, .int 108), (2, .int 21), (0, .ref 0), (1, .ref 22)]) (stk' := [.int 1]) (mem' := fm g tp bt a b) (fun _ _ _ => rfl) ?_
                    refine fe_s 4 (pc' := 70) (lc' := [(6, .int (111 + 1)), (5, .int 1), (4, .int 112), (3, .int 108), (2, .int 21), (0, .ref 0), (1, .ref 22)]) (stk' := [.int (111 + 1)]) (mem' := fm g tp bt a b) (fun _ _ _ => rfl) ?_
                    rw [show (111 + 1 : Int32) = 112 from rfl]
                    refine fe_s 1 (pc' := 72) (lc' := [(6, .int 112), (5, .int 1), (4, .int 112), (3, .int 108), (2, .int 21), (0, .ref 0), (1, .ref 22)]) (stk' := [.int 112, .int 112]) (mem' := fm g tp bt a b) (fun _ _ _ => rfl) ?_
                    refine fe_s 1 (pc' := cond (fx_cb .ge 112 112) 115 75) (lc' := [(6, .int 112), (5, .int 1), (4, .int 112), (3, .int 108), (2, .int 21), (0, .ref 0), (1, .ref 22)]) (stk' := []) (mem' := fm g tp bt a b) (fun _ _ _ => rfl) ?_
                    rw [show (fx_cb .ge 112 112) = true from by decide]
                    dsimp only [cond]
                    refine fe_s 1 (pc' := 117) (lc' := [(6, .int 112), (5, .int 1), (4, .int 112), (3, .int 108), (2, .int 21), (0, .ref 0), (1, .ref 22)]) (stk' := [.int 1]) (mem' := fm g tp bt a b) (fun _ _ _ => rfl) ?_
                    refine fe_s 1 (pc' := cond (fx_cb .eq 1 0) 122 120) (lc' := [(6, .int 112), (5, .int 1), (4, .int 112), (3, .int 108), (2, .int 21), (0, .ref 0), (1, .ref 22)]) (stk' := []) (mem' := fm g tp bt a b) (fun _ _ _ => rfl) ?_
                    rw [show (fx_cb .eq 1 0) = false from by decide]
                    dsimp only [cond]
                    refine fe_s 1 (pc' := 121) (lc' := [(6, .int 112), (5, .int 1), (4, .int 112), (3, .int 108), (2, .int 21), (0, .ref 0), (1, .ref 22)]) (stk' := [.int 21]) (mem' := fm g tp bt a b) (fun _ _ _ => rfl) ?_
                    exact fe_ret ⟨_, Or.inr ⟨21, by omega, rfl⟩, rfl⟩ (by rfl) (by rfl) (by rfl)
                  · rw [show (fx_cb .ne 112 (nI n15)) = true from cb_neT (a := 112) (b := n15) (by omega) (by omega) (by omega)]
                    dsimp only [cond]
                    refine fe_s 1 (pc' := 107) (lc' := [(6, .int 111), (5, .int 1), (4, .int 112), (3, .int 108), (2, .int 21), (0, .ref 0), (1, .ref 22)]) (stk' := [.int 0]) (mem' := fm g tp bt a b) (fun _ _ _ => rfl) ?_
                    refine fe_w (lc' := [(6, .int 111), (5, .int 1), (4, .int 112), (3, .int 108), (2, .int 21), (0, .ref 0), (1, .ref 22)]) ⟨rfl, rfl, rfl, rfl, rfl, rfl, rfl, trivial⟩ (by show List.Nodup [6, 5, 4, 3, 2, 0, 1]; decide) (by show List.Nodup [6, 5, 4, 3, 2, 0, 1]; decide) ?_
                    exact fail _ _
              · rw [show (fx_cb .ne 111 (nI n11)) = true from cb_neT (a := 111) (b := n11) (by omega) (by omega) (by omega)]
                dsimp only [cond]
                refine fe_s 1 (pc' := 107) (lc' := [(6, .int 110), (5, .int 1), (4, .int 112), (3, .int 108), (2, .int 21), (0, .ref 0), (1, .ref 22)]) (stk' := [.int 0]) (mem' := fm g tp bt a b) (fun _ _ _ => rfl) ?_
                refine fe_w (lc' := [(6, .int 110), (5, .int 1), (4, .int 112), (3, .int 108), (2, .int 21), (0, .ref 0), (1, .ref 22)]) ⟨rfl, rfl, rfl, rfl, rfl, rfl, rfl, trivial⟩ (by show List.Nodup [6, 5, 4, 3, 2, 0, 1]; decide) (by show List.Nodup [6, 5, 4, 3, 2, 0, 1]; decide) ?_
                exact fail _ _
          · rw [show (fx_cb .ne 116 (nI n7)) = true from cb_neT (a := 116) (b := n7) (by omega) (by omega) (by omega)]
            dsimp only [cond]
            refine fe_s 1 (pc' := 107) (lc' := [(6, .int 109), (5, .int 1), (4, .int 112), (3, .int 108), (2, .int 21), (0, .ref 0), (1, .ref 22)]) (stk' := [.int 0]) (mem' := fm g tp bt a b) (fun _ _ _ => rfl) ?_
            refine fe_w (lc' := [(6, .int 109), (5, .int 1), (4, .int 112), (3, .int 108), (2, .int 21), (0, .ref 0), (1, .ref 22)]) ⟨rfl, rfl, rfl, rfl, rfl, rfl, rfl, trivial⟩ (by show List.Nodup [6, 5, 4, 3, 2, 0, 1]; decide) (by show List.Nodup [6, 5, 4, 3, 2, 0, 1]; decide) ?_
            exact fail _ _
      · rw [show (fx_cb .ne 115 (nI n3)) = true from cb_neT (a := 115) (b := n3) (by omega) (by omega) (by omega)]
        dsimp only [cond]
        refine fe_s 1 (pc' := 107) (lc' := [(6, .int 108), (5, .int 1), (4, .int 112), (3, .int 108), (2, .int 21), (0, .ref 0), (1, .ref 22)]) (stk' := [.int 0]) (mem' := fm g tp bt a b) (fun _ _ _ => rfl) ?_
        refine fe_w (lc' := [(6, .int 108), (5, .int 1), (4, .int 112), (3, .int 108), (2, .int 21), (0, .ref 0), (1, .ref 22)]) ⟨rfl, rfl, rfl, rfl, rfl, rfl, rfl, trivial⟩ (by show List.Nodup [6, 5, 4, 3, 2, 0, 1]; decide) (by show List.Nodup [6, 5, 4, 3, 2, 0, 1]; decide) ?_
        exact fail _ _
  · rw [show (fx_cb .ne 4 (nI (E - F))) = true from cb_neT (a := 4) (b := E - F) (by omega) (by omega) (by omega)]
    dsimp only [cond]
    refine fe_s 4 (pc' := 68) (lc' := [(6, .int 108), (5, .int 0), (4, .int 112), (3, .int 108), (2, .int 21), (0, .ref 0), (1, .ref 22)]) (stk' := []) (mem' := fm g tp bt a b) (fun _ _ _ => rfl) ?_
    refine fe_s 2 (pc' := 72) (lc' := [(6, .int 108), (5, .int 0), (4, .int 112), (3, .int 108), (2, .int 21), (0, .ref 0), (1, .ref 22)]) (stk' := [.int 112, .int 108]) (mem' := fm g tp bt a b) (fun _ _ _ => rfl) ?_
    refine fe_s 1 (pc' := cond (fx_cb .ge 108 112) 115 75) (lc' := [(6, .int 108), (5, .int 0), (4, .int 112), (3, .int 108), (2, .int 21), (0, .ref 0), (1, .ref 22)]) (stk' := []) (mem' := fm g tp bt a b) (fun _ _ _ => rfl) ?_
    rw [show (fx_cb .ge 108 112) = false from by decide]
    dsimp only [cond]
    refine fe_s 1 (pc' := 77) (lc' := [(6, .int 108), (5, .int 0), (4, .int 112), (3, .int 108), (2, .int 21), (0, .ref 0), (1, .ref 22)]) (stk' := [.int 0]) (mem' := fm g tp bt a b) (fun _ _ _ => rfl) ?_
    refine fe_s 1 (pc' := cond (fx_cb .eq 0 0) 115 80) (lc' := [(6, .int 108), (5, .int 0), (4, .int 112), (3, .int 108), (2, .int 21), (0, .ref 0), (1, .ref 22)]) (stk' := []) (mem' := fm g tp bt a b) (fun _ _ _ => rfl) ?_
    rw [show (fx_cb .eq 0 0) = true from by decide]
    dsimp only [cond]
    refine fe_s 1 (pc' := 117) (lc' := [(6, .int 108), (5, .int 0), (4, .int 112), (3, .int 108), (2, .int 21), (0, .ref 0), (1, .ref 22)]) (stk' := [.int 0]) (mem' := fm g tp bt a b) (fun _ _ _ => rfl) ?_
    refine fe_s 1 (pc' := cond (fx_cb .eq 0 0) 122 120) (lc' := [(6, .int 108), (5, .int 0), (4, .int 112), (3, .int 108), (2, .int 21), (0, .ref 0), (1, .ref 22)]) (stk' := []) (mem' := fm g tp bt a b) (fun _ _ _ => rfl) ?_
    rw [show (fx_cb .eq 0 0) = true from by decide]
    dsimp only [cond]
    refine fe_s 4 (pc' := 129) (lc' := [(2, .int (21 + 1)), (6, .int 108), (5, .int 0), (4, .int 112), (3, .int 108), (0, .ref 0), (1, .ref 22)]) (stk' := [.int (112 + 1)]) (mem' := fm g tp bt a b) (fun _ _ _ => rfl) ?_
    rw [show (21 + 1 : Int32) = 22 from rfl]
    rw [show (112 + 1 : Int32) = 113 from rfl]
    refine fe_s 1 (pc' := 130) (lc' := [(3, .int 113), (2, .int 22), (6, .int 108), (5, .int 0), (4, .int 112), (0, .ref 0), (1, .ref 22)]) (stk' := []) (mem' := fm g tp bt a b) (fun _ _ _ => rfl) ?_
    refine fe_s 1 (pc' := fx_to 130 (-116)) (lc' := [(3, .int 113), (2, .int 22), (6, .int 108), (5, .int 0), (4, .int 112), (0, .ref 0), (1, .ref 22)]) (stk' := []) (mem' := fm g tp bt a b) (fun _ _ _ => rfl) ?_
    rw [show fx_to 130 (-116) = 14 from by decide]
    refine fe_w (lc' := [(3, .int 113), (2, .int 22), (0, .ref 0), (1, .ref 22)]) ⟨rfl, rfl, rfl, rfl, trivial⟩ (by show List.Nodup [3, 2, 0, 1]; decide) (by show List.Nodup [3, 2, 6, 5, 4, 0, 1]; decide) ?_
    exact fw_22 hxp
end FIW
