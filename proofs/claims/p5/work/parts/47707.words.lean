/-! ===== fx: which word it is (7) ===== -/
section FIW7
variable {g : Nat → Int32} {tp bt : Int64} {a : Nat → Nat → Int32} {b : Nat → Nat → Int64}
theorem fw_4 {S E F : Nat} (hxp : fm_xp g S E F) : fe_R 1 gk_m226 14 [(3, .int 22), (2, .int 4), (0, .ref 0), (1, .ref 22)] [] (fm g tp bt a b) (fm_FI (fm g tp bt a b)) := by
  obtain ⟨h11, hS9, h14, hES, h13, hFE, -, -, -⟩ := id hxp
  refine fe_s 2 (pc' := 16) (lc' := [(3, .int 22), (2, .int 4), (0, .ref 0), (1, .ref 22)]) (stk' := [.ref 22, .int 22]) (mem' := fm g tp bt a b) (fun _ _ _ => rfl) ?_
  refine fe_s 1 (pc' := 19) (lc' := [(3, .int 22), (2, .int 4), (0, .ref 0), (1, .ref 22)]) (stk' := [.int 117, .int 22]) (mem' := fm g tp bt a b) (fun _ _ _ => rfl) ?_
  refine fe_s 1 (pc' := cond (fx_cb .ge 22 117) 133 22) (lc' := [(3, .int 22), (2, .int 4), (0, .ref 0), (1, .ref 22)]) (stk' := []) (mem' := fm g tp bt a b) (fun _ _ _ => rfl) ?_
  rw [show (fx_cb .ge 22 117) = false from by decide]
  dsimp only [cond]
  refine fe_s 4 (pc' := 28) (lc' := [(4, .int 22), (3, .int 22), (2, .int 4), (0, .ref 0), (1, .ref 22)]) (stk' := [.int 22, .ref 22]) (mem' := fm g tp bt a b) (fun _ _ _ => rfl) ?_
  refine fe_chr (i := 22) (by omega) (by rfl) (by rfl) ⟨by rfl, by rfl⟩ (by rfl) ?_
  rw [show sk_b.getD 22 0 = 119 from rfl]
  refine fe_s 1 (pc' := 33) (lc' := [(4, .int 22), (3, .int 22), (2, .int 4), (0, .ref 0), (1, .ref 22)]) (stk' := [.int 32, .int 119]) (mem' := fm g tp bt a b) (fun _ _ _ => rfl) ?_
  refine fe_s 1 (pc' := cond (fx_cb .eq 119 32) 42 36) (lc' := [(4, .int 22), (3, .int 22), (2, .int 4), (0, .ref 0), (1, .ref 22)]) (stk' := []) (mem' := fm g tp bt a b) (fun _ _ _ => rfl) ?_
  rw [show (fx_cb .eq 119 32) = false from by decide]
  dsimp only [cond]
  refine fe_s 4 (pc' := 28) (lc' := [(4, .int (22 + 1)), (3, .int 22), (2, .int 4), (0, .ref 0), (1, .ref 22)]) (stk' := [.int (22 + 1), .ref 22]) (mem' := fm g tp bt a b) (fun _ _ _ => rfl) ?_
  rw [show (22 + 1 : Int32) = 23 from rfl]
  refine fe_chr (i := 23) (by omega) (by rfl) (by rfl) ⟨by rfl, by rfl⟩ (by rfl) ?_
  rw [show sk_b.getD 23 0 = 97 from rfl]
  refine fe_s 1 (pc' := 33) (lc' := [(4, .int 23), (3, .int 22), (2, .int 4), (0, .ref 0), (1, .ref 22)]) (stk' := [.int 32, .int 97]) (mem' := fm g tp bt a b) (fun _ _ _ => rfl) ?_
  refine fe_s 1 (pc' := cond (fx_cb .eq 97 32) 42 36) (lc' := [(4, .int 23), (3, .int 22), (2, .int 4), (0, .ref 0), (1, .ref 22)]) (stk' := []) (mem' := fm g tp bt a b) (fun _ _ _ => rfl) ?_
  rw [show (fx_cb .eq 97 32) = false from by decide]
  dsimp only [cond]
  refine fe_s 4 (pc' := 28) (lc' := [(4, .int (23 + 1)), (3, .int 22), (2, .int 4), (0, .ref 0), (1, .ref 22)]) (stk' := [.int (23 + 1), .ref 22]) (mem' := fm g tp bt a b) (fun _ _ _ => rfl) ?_
  rw [show (23 + 1 : Int32) = 24 from rfl]
  refine fe_chr (i := 24) (by omega) (by rfl) (by rfl) ⟨by rfl, by rfl⟩ (by rfl) ?_
  rw [show sk_b.getD 24 0 = 108 from rfl]
  refine fe_s 1 (pc' := 33) (lc' := [(4, .int 24), (3, .int 22), (2, .int 4), (0, .ref 0), (1, .ref 22)]) (stk' := [.int 32, .int 108]) (mem' := fm g tp bt a b) (fun _ _ _ => rfl) ?_
  refine fe_s 1 (pc' := cond (fx_cb .eq 108 32) 42 36) (lc' := [(4, .int 24), (3, .int 22), (2, .int 4), (0, .ref 0), (1, .ref 22)]) (stk' := []) (mem' := fm g tp bt a b) (fun _ _ _ => rfl) ?_
  rw [show (fx_cb .eq 108 32) = false from by decide]
  dsimp only [cond]
  refine fe_s 4 (pc' := 28) (lc' := [(4, .int (24 + 1)), (3, .int 22), (2, .int 4), (0, .ref 0), (1, .ref 22)]) (stk' := [.int (24 + 1), .ref 22]) (mem' := fm g tp bt a b) (fun _ _ _ => rfl) ?_
  rw [show (24 + 1 : Int32) = 25 from rfl]
  refine fe_chr (i := 25) (by omega) (by rfl) (by rfl) ⟨by rfl, by rfl⟩ (by rfl) ?_
  rw [show sk_b.getD 25 0 = 107 from rfl]
  refine fe_s 1 (pc' := 33) (lc' := [(4, .int 25), (3, .int 22), (2, .int 4), (0, .ref 0), (1, .ref 22)]) (stk' := [.int 32, .int 107]) (mem' := fm g tp bt a b) (fun _ _ _ => rfl) ?_
  refine fe_s 1 (pc' := cond (fx_cb .eq 107 32) 42 36) (lc' := [(4, .int 25), (3, .int 22), (2, .int 4), (0, .ref 0), (1, .ref 22)]) (stk' := []) (mem' := fm g tp bt a b) (fun _ _ _ => rfl) ?_
  rw [show (fx_cb .eq 107 32) = false from by decide]
  dsimp only [cond]
  refine fe_s 4 (pc' := 28) (lc' := [(4, .int (25 + 1)), (3, .int 22), (2, .int 4), (0, .ref 0), (1, .ref 22)]) (stk' := [.int (25 + 1), .ref 22]) (mem' := fm g tp bt a b) (fun _ _ _ => rfl) ?_
  rw [show (25 + 1 : Int32) = 26 from rfl]
  refine fe_chr (i := 26) (by omega) (by rfl) (by rfl) ⟨by rfl, by rfl⟩ (by rfl) ?_
  rw [show sk_b.getD 26 0 = 101 from rfl]
  refine fe_s 1 (pc' := 33) (lc' := [(4, .int 26), (3, .int 22), (2, .int 4), (0, .ref 0), (1, .ref 22)]) (stk' := [.int 32, .int 101]) (mem' := fm g tp bt a b) (fun _ _ _ => rfl) ?_
  refine fe_s 1 (pc' := cond (fx_cb .eq 101 32) 42 36) (lc' := [(4, .int 26), (3, .int 22), (2, .int 4), (0, .ref 0), (1, .ref 22)]) (stk' := []) (mem' := fm g tp bt a b) (fun _ _ _ => rfl) ?_
  rw [show (fx_cb .eq 101 32) = false from by decide]
  dsimp only [cond]
  refine fe_s 4 (pc' := 28) (lc' := [(4, .int (26 + 1)), (3, .int 22), (2, .int 4), (0, .ref 0), (1, .ref 22)]) (stk' := [.int (26 + 1), .ref 22]) (mem' := fm g tp bt a b) (fun _ _ _ => rfl) ?_
  rw [show (26 + 1 : Int32) = 27 from rfl]
  refine fe_chr (i := 27) (by omega) (by rfl) (by rfl) ⟨by rfl, by rfl⟩ (by rfl) ?_
  rw [show sk_b.getD 27 0 = 114 from rfl]
  refine fe_s 1 (pc' := 33) (lc' := [(4, .int 27), (3, .int 22), (2, .int 4), (0, .ref 0), (1, .ref 22)]) (stk' := [.int 32, .int 114]) (mem' := fm g tp bt a b) (fun _ _ _ => rfl) ?_
  refine fe_s 1 (pc' := cond (fx_cb .eq 114 32) 42 36) (lc' := [(4, .int 27), (3, .int 22), (2, .int 4), (0, .ref 0), (1, .ref 22)]) (stk' := []) (mem' := fm g tp bt a b) (fun _ _ _ => rfl) ?_
  rw [show (fx_cb .eq 114 32) = false from by decide]
  dsimp only [cond]
  refine fe_s 4 (pc' := 28) (lc' := [(4, .int (27 + 1)), (3, .int 22), (2, .int 4), (0, .ref 0), (1, .ref 22)]) (stk' := [.int (27 + 1), .ref 22]) (mem' := fm g tp bt a b) (fun _ _ _ => rfl) ?_
  rw [show (27 + 1 : Int32) = 28 from rfl]
  refine fe_chr (i := 28) (by omega) (by rfl) (by rfl) ⟨by rfl, by rfl⟩ (by rfl) ?_
  rw [show sk_b.getD 28 0 = 32 from rfl]
  refine fe_s 1 (pc' := 33) (lc' := [(4, .int 28), (3, .int 22), (2, .int 4), (0, .ref 0), (1, .ref 22)]) (stk' := [.int 32, .int 32]) (mem' := fm g tp bt a b) (fun _ _ _ => rfl) ?_
  refine fe_s 1 (pc' := cond (fx_cb .eq 32 32) 42 36) (lc' := [(4, .int 28), (3, .int 22), (2, .int 4), (0, .ref 0), (1, .ref 22)]) (stk' := []) (mem' := fm g tp bt a b) (fun _ _ _ => rfl) ?_
  rw [show (fx_cb .eq 32 32) = true from by decide]
  dsimp only [cond]
  refine fe_s 4 (pc' := 47) (lc' := [(4, .int 28), (3, .int 22), (2, .int 4), (0, .ref 0), (1, .ref 22)]) (stk' := [.ref 0, .int (28 - 22)]) (mem' := fm g tp bt a b) (fun _ _ _ => rfl) ?_
  rw [show (28 - 22 : Int32) = 6 from rfl]
  refine fe_s 4 (pc' := 55) (lc' := [(4, .int 28), (3, .int 22), (2, .int 4), (0, .ref 0), (1, .ref 22)]) (stk' := [.int ((g 14) - (g 13)), .int 6]) (mem' := fm g tp bt a b) (fun _ _ _ => rfl) ?_
  try rw [h14]
  try rw [h13]
  rw [show ((nI E) - (nI F) : Int32) = nI (E - F) from by simp only [tg_sub2 (x := E) (y := F) (by omega), nI_add, fm_mul]]
  refine fe_s 1 (pc' := cond (fx_cb .ne 6 (nI (E - F))) 62 58) (lc' := [(4, .int 28), (3, .int 22), (2, .int 4), (0, .ref 0), (1, .ref 22)]) (stk' := []) (mem' := fm g tp bt a b) (fun _ _ _ => rfl) ?_
  by_cases h1 : 6 = (E - F)
  · rw [show (fx_cb .ne 6 (nI (E - F))) = false from cb_neF (a := 6) (b := E - F) (by omega) (by omega) (by omega)]
    dsimp only [cond]
    refine fe_s 4 (pc' := 66) (lc' := [(5, .int 1), (4, .int 28), (3, .int 22), (2, .int 4), (0, .ref 0), (1, .ref 22)]) (stk' := [.int 22]) (mem' := fm g tp bt a b) (fun _ _ _ => rfl) ?_
    refine fe_s 3 (pc' := 72) (lc' := [(6, .int 22), (5, .int 1), (4, .int 28), (3, .int 22), (2, .int 4), (0, .ref 0), (1, .ref 22)]) (stk' := [.int 28, .int 22]) (mem' := fm g tp bt a b) (fun _ _ _ => rfl) ?_
    refine fe_s 1 (pc' := cond (fx_cb .ge 22 28) 115 75) (lc' := [(6, .int 22), (5, .int 1), (4, .int 28), (3, .int 22), (2, .int 4), (0, .ref 0), (1, .ref 22)]) (stk' := []) (mem' := fm g tp bt a b) (fun _ _ _ => rfl) ?_
    rw [show (fx_cb .ge 22 28) = false from by decide]
    dsimp only [cond]
    refine fe_s 1 (pc' := 77) (lc' := [(6, .int 22), (5, .int 1), (4, .int 28), (3, .int 22), (2, .int 4), (0, .ref 0), (1, .ref 22)]) (stk' := [.int 1]) (mem' := fm g tp bt a b) (fun _ _ _ => rfl) ?_
    refine fe_s 1 (pc' := cond (fx_cb .eq 1 0) 115 80) (lc' := [(6, .int 22), (5, .int 1), (4, .int 28), (3, .int 22), (2, .int 4), (0, .ref 0), (1, .ref 22)]) (stk' := []) (mem' := fm g tp bt a b) (fun _ _ _ => rfl) ?_
    rw [show (fx_cb .eq 1 0) = false from by decide]
    dsimp only [cond]
    refine fe_s 2 (pc' := 83) (lc' := [(6, .int 22), (5, .int 1), (4, .int 28), (3, .int 22), (2, .int 4), (0, .ref 0), (1, .ref 22)]) (stk' := [.int 22, .ref 22]) (mem' := fm g tp bt a b) (fun _ _ _ => rfl) ?_
    refine fe_chr (i := 22) (by omega) (by rfl) (by rfl) ⟨by rfl, by rfl⟩ (by rfl) ?_
    rw [show sk_b.getD 22 0 = 119 from rfl]
    refine fe_s 4 (pc' := 93) (lc' := [(6, .int 22), (5, .int 1), (4, .int 28), (3, .int 22), (2, .int 4), (0, .ref 0), (1, .ref 22)]) (stk' := [.int 22, .int (g 13), .ref 0, .int 119]) (mem' := fm g tp bt a b) (fun _ _ _ => rfl) ?_
    try rw [h13]
    refine fe_s 3 (pc' := 96) (lc' := [(6, .int 22), (5, .int 1), (4, .int 28), (3, .int 22), (2, .int 4), (0, .ref 0), (1, .ref 22)]) (stk' := [.int (((nI F) + 22) - 22), .ref 0, .int 119]) (mem' := fm g tp bt a b) (fun _ _ _ => rfl) ?_
    rw [show (((nI F) + 22) - 22 : Int32) = nI ((F + 22) - 22) from by simp only [show (22 : Int32) = nI 22 from rfl, tg_sub2 (x := F + 22) (y := 22) (by omega), nI_add, fm_mul]]
    refine fe_ivV (fr_byteAt (S := S) (k := (F + 22) - 22) (g := g) (tp := tp) (bt := bt) (a := a) (b := b) h11 (by omega) (by omega)) (by omega) (by rfl) (by rfl) (by rfl) (by rfl) (by rfl) (by rfl) ?_
    rcases fm_byte_or a S ((F + 22) - 22) with ⟨e3, q4⟩ | ⟨q4, n2, qn2, e3⟩
    · rw [e3]
      refine fe_s 1 (pc' := cond (fx_cb .ne 119 (-1)) 106 102) (lc' := [(6, .int 22), (5, .int 1), (4, .int 28), (3, .int 22), (2, .int 4), (0, .ref 0), (1, .ref 22)]) (stk' := []) (mem' := fm g tp bt a b) (fun _ _ _ => rfl) ?_
      rw [show (fx_cb .ne 119 (-1)) = true from by decide]
      dsimp only [cond]
      refine fe_s 4 (pc' := 68) (lc' := [(6, .int (22 + 1)), (5, .int 0), (4, .int 28), (3, .int 22), (2, .int 4), (0, .ref 0), (1, .ref 22)]) (stk' := []) (mem' := fm g tp bt a b) (fun _ _ _ => rfl) ?_
      rw [show (22 + 1 : Int32) = 23 from rfl]
      refine fe_s 2 (pc' := 72) (lc' := [(6, .int 23), (5, .int 0), (4, .int 28), (3, .int 22), (2, .int 4), (0, .ref 0), (1, .ref 22)]) (stk' := [.int 28, .int 23]) (mem' := fm g tp bt a b) (fun _ _ _ => rfl) ?_
      refine fe_s 1 (pc' := cond (fx_cb .ge 23 28) 115 75) (lc' := [(6, .int 23), (5, .int 0), (4, .int 28), (3, .int 22), (2, .int 4), (0, .ref 0), (1, .ref 22)]) (stk' := []) (mem' := fm g tp bt a b) (fun _ _ _ => rfl) ?_
      rw [show (fx_cb .ge 23 28) = false from by decide]
      dsimp only [cond]
      refine fe_s 1 (pc' := 77) (lc' := [(6, .int 23), (5, .int 0), (4, .int 28), (3, .int 22), (2, .int 4), (0, .ref 0), (1, .ref 22)]) (stk' := [.int 0]) (mem' := fm g tp bt a b) (fun _ _ _ => rfl) ?_
      refine fe_s 1 (pc' := cond (fx_cb .eq 0 0) 115 80) (lc' := [(6, .int 23), (5, .int 0), (4, .int 28), (3, .int 22), (2, .int 4), (0, .ref 0), (1, .ref 22)]) (stk' := []) (mem' := fm g tp bt a b) (fun _ _ _ => rfl) ?_
      rw [show (fx_cb .eq 0 0) = true from by decide]
      dsimp only [cond]
      refine fe_s 1 (pc' := 117) (lc' := [(6, .int 23), (5, .int 0), (4, .int 28), (3, .int 22), (2, .int 4), (0, .ref 0), (1, .ref 22)]) (stk' := [.int 0]) (mem' := fm g tp bt a b) (fun _ _ _ => rfl) ?_
      refine fe_s 1 (pc' := cond (fx_cb .eq 0 0) 122 120) (lc' := [(6, .int 23), (5, .int 0), (4, .int 28), (3, .int 22), (2, .int 4), (0, .ref 0), (1, .ref 22)]) (stk' := []) (mem' := fm g tp bt a b) (fun _ _ _ => rfl) ?_
      rw [show (fx_cb .eq 0 0) = true from by decide]
      dsimp only [cond]
      refine fe_s 4 (pc' := 129) (lc' := [(2, .int (4 + 1)), (6, .int 23), (5, .int 0), (4, .int 28), (3, .int 22), (0, .ref 0), (1, .ref 22)]) (stk' := [.int (28 + 1)]) (mem' := fm g tp bt a b) (fun _ _ _ => rfl) ?_
      rw [show (4 + 1 : Int32) = 5 from rfl]
      rw [show (28 + 1 : Int32) = 29 from rfl]
      refine fe_s 1 (pc' := 130) (lc' := [(3, .int 29), (2, .int 5), (6, .int 23), (5, .int 0), (4, .int 28), (0, .ref 0), (1, .ref 22)]) (stk' := []) (mem' := fm g tp bt a b) (fun _ _ _ => rfl) ?_
      refine fe_s 1 (pc' := fx_to 130 (-116)) (lc' := [(3, .int 29), (2, .int 5), (6, .int 23), (5, .int 0), (4, .int 28), (0, .ref 0), (1, .ref 22)]) (stk' := []) (mem' := fm g tp bt a b) (fun _ _ _ => rfl) ?_
      rw [show fx_to 130 (-116) = 14 from by decide]
      refine fe_w (lc' := [(3, .int 29), (2, .int 5), (0, .ref 0), (1, .ref 22)]) ⟨rfl, rfl, rfl, rfl, trivial⟩ (by show List.Nodup [3, 2, 0, 1]; decide) (by show List.Nodup [3, 2, 6, 5, 4, 0, 1]; decide) ?_
      exact fw_5 hxp
    · rw [e3]
      refine fe_s 1 (pc' := cond (fx_cb .ne 119 (nI n2)) 106 102) (lc' := [(6, .int 22), (5, .int 1), (4, .int 28), (3, .int 22), (2, .int 4), (0, .ref 0), (1, .ref 22)]) (stk' := []) (mem' := fm g tp bt a b) (fun _ _ _ => rfl) ?_
      by_cases h5 : 119 = n2
      · rw [show (fx_cb .ne 119 (nI n2)) = false from cb_neF (a := 119) (b := n2) (by omega) (by omega) (by omega)]
        dsimp only [cond]
        refine fe_s 4 (pc' := 112) (lc' := [(6, .int (22 + 1)), (5, .int 1), (4, .int 28), (3, .int 22), (2, .int 4), (0, .ref 0), (1, .ref 22)]) (stk' := []) (mem' := fm g tp bt a b) (fun _ _ _ => rfl) ?_
        rw [show (22 + 1 : Int32) = 23 from rfl]
        refine fe_s 3 (pc' := 72) (lc' := [(6, .int 23), (5, .int 1), (4, .int 28), (3, .int 22), (2, .int 4), (0, .ref 0), (1, .ref 22)]) (stk' := [.int 28, .int 23]) (mem' := fm g tp bt a b) (fun _ _ _ => rfl) ?_
        refine fe_s 1 (pc' := cond (fx_cb .ge 23 28) 115 75) (lc' := [(6, .int 23), (5, .int 1), (4, .int 28), (3, .int 22), (2, .int 4), (0, .ref 0), (1, .ref 22)]) (stk' := []) (mem' := fm g tp bt a b) (fun _ _ _ => rfl) ?_
        rw [show (fx_cb .ge 23 28) = false from by decide]
        dsimp only [cond]
        refine fe_s 1 (pc' := 77) (lc' := [(6, .int 23), (5, .int 1), (4, .int 28), (3, .int 22), (2, .int 4), (0, .ref 0), (1, .ref 22)]) (stk' := [.int 1]) (mem' := fm g tp bt a b) (fun _ _ _ => rfl) ?_
        refine fe_s 1 (pc' := cond (fx_cb .eq 1 0) 115 80) (lc' := [(6, .int 23), (5, .int 1), (4, .int 28), (3, .int 22), (2, .int 4), (0, .ref 0), (1, .ref 22)]) (stk' := []) (mem' := fm g tp bt a b) (fun _ _ _ => rfl) ?_
        rw [show (fx_cb .eq 1 0) = false from by decide]
        dsimp only [cond]
        refine fe_s 2 (pc' := 83) (lc' := [(6, .int 23), (5, .int 1), (4, .int 28), (3, .int 22), (2, .int 4), (0, .ref 0), (1, .ref 22)]) (stk' := [.int 23, .ref 22]) (mem' := fm g tp bt a b) (fun _ _ _ => rfl) ?_
        refine fe_chr (i := 23) (by omega) (by rfl) (by rfl) ⟨by rfl, by rfl⟩ (by rfl) ?_
        rw [show sk_b.getD 23 0 = 97 from rfl]
        refine fe_s 4 (pc' := 93) (lc' := [(6, .int 23), (5, .int 1), (4, .int 28), (3, .int 22), (2, .int 4), (0, .ref 0), (1, .ref 22)]) (stk' := [.int 23, .int (g 13), .ref 0, .int 97]) (mem' := fm g tp bt a b) (fun _ _ _ => rfl) ?_
        try rw [h13]
        refine fe_s 3 (pc' := 96) (lc' := [(6, .int 23), (5, .int 1), (4, .int 28), (3, .int 22), (2, .int 4), (0, .ref 0), (1, .ref 22)]) (stk' := [.int (((nI F) + 23) - 22), .ref 0, .int 97]) (mem' := fm g tp bt a b) (fun _ _ _ => rfl) ?_
        rw [show (((nI F) + 23) - 22 : Int32) = nI ((F + 23) - 22) from by simp only [show (23 : Int32) = nI 23 from rfl, show (22 : Int32) = nI 22 from rfl, tg_sub2 (x := F + 23) (y := 22) (by omega), nI_add, fm_mul]]
        refine fe_ivV (fr_byteAt (S := S) (k := (F + 23) - 22) (g := g) (tp := tp) (bt := bt) (a := a) (b := b) h11 (by omega) (by omega)) (by omega) (by rfl) (by rfl) (by rfl) (by rfl) (by rfl) (by rfl) ?_
        rcases fm_byte_or a S ((F + 23) - 22) with ⟨e7, q8⟩ | ⟨q8, n6, qn6, e7⟩
        · rw [e7]
          refine fe_s 1 (pc' := cond (fx_cb .ne 97 (-1)) 106 102) (lc' := [(6, .int 23), (5, .int 1), (4, .int 28), (3, .int 22), (2, .int 4), (0, .ref 0), (1, .ref 22)]) (stk' := []) (mem' := fm g tp bt a b) (fun _ _ _ => rfl) ?_
          rw [show (fx_cb .ne 97 (-1)) = true from by decide]
          dsimp only [cond]
          refine fe_s 4 (pc' := 68) (lc' := [(6, .int (23 + 1)), (5, .int 0), (4, .int 28), (3, .int 22), (2, .int 4), (0, .ref 0), (1, .ref 22)]) (stk' := []) (mem' := fm g tp bt a b) (fun _ _ _ => rfl) ?_
          rw [show (23 + 1 : Int32) = 24 from rfl]
          refine fe_s 2 (pc' := 72) (lc' := [(6, .int 24), (5, .int 0), (4, .int 28), (3, .int 22), (2, .int 4), (0, .ref 0), (1, .ref 22)]) (stk' := [.int 28, .int 24]) (mem' := fm g tp bt a b) (fun _ _ _ => rfl) ?_
          refine fe_s 1 (pc' := cond (fx_cb .ge 24 28) 115 75) (lc' := [(6, .int 24), (5, .int 0), (4, .int 28), (3, .int 22), (2, .int 4), (0, .ref 0), (1, .ref 22)]) (stk' := []) (mem' := fm g tp bt a b) (fun _ _ _ => rfl) ?_
          rw [show (fx_cb .ge 24 28) = false from by decide]
          dsimp only [cond]
          refine fe_s 1 (pc' := 77) (lc' := [(6, .int 24), (5, .int 0), (4, .int 28), (3, .int 22), (2, .int 4), (0, .ref 0), (1, .ref 22)]) (stk' := [.int 0]) (mem' := fm g tp bt a b) (fun _ _ _ => rfl) ?_
          refine fe_s 1 (pc' := cond (fx_cb .eq 0 0) 115 80) (lc' := [(6, .int 24), (5, .int 0), (4, .int 28), (3, .int 22), (2, .int 4), (0, .ref 0), (1, .ref 22)]) (stk' := []) (mem' := fm g tp bt a b) (fun _ _ _ => rfl) ?_
          rw [show (fx_cb .eq 0 0) = true from by decide]
          dsimp only [cond]
          refine fe_s 1 (pc' := 117) (lc' := [(6, .int 24), (5, .int 0), (4, .int 28), (3, .int 22), (2, .int 4), (0, .ref 0), (1, .ref 22)]) (stk' := [.int 0]) (mem' := fm g tp bt a b) (fun _ _ _ => rfl) ?_
          refine fe_s 1 (pc' := cond (fx_cb .eq 0 0) 122 120) (lc' := [(6, .int 24), (5, .int 0), (4, .int 28), (3, .int 22), (2, .int 4), (0, .ref 0), (1, .ref 22)]) (stk' := []) (mem' := fm g tp bt a b) (fun _ _ _ => rfl) ?_
          rw [show (fx_cb .eq 0 0) = true from by decide]
          dsimp only [cond]
          refine fe_s 4 (pc' := 129) (lc' := [(2, .int (4 + 1)), (6, .int 24), (5, .int 0), (4, .int 28), (3, .int 22), (0, .ref 0), (1, .ref 22)]) (stk' := [.int (28 + 1)]) (mem' := fm g tp bt a b) (fun _ _ _ => rfl) ?_
          rw [show (4 + 1 : Int32) = 5 from rfl]
          rw [show (28 + 1 : Int32) = 29 from rfl]
          refine fe_s 1 (pc' := 130) (lc' := [(3, .int 29), (2, .int 5), (6, .int 24), (5, .int 0), (4, .int 28), (0, .ref 0), (1, .ref 22)]) (stk' := []) (mem' := fm g tp bt a b) (fun _ _ _ => rfl) ?_
          refine fe_s 1 (pc' := fx_to 130 (-116)) (lc' := [(3, .int 29), (2, .int 5), (6, .int 24), (5, .int 0), (4, .int 28), (0, .ref 0), (1, .ref 22)]) (stk' := []) (mem' := fm g tp bt a b) (fun _ _ _ => rfl) ?_
          rw [show fx_to 130 (-116) = 14 from by decide]
          refine fe_w (lc' := [(3, .int 29), (2, .int 5), (0, .ref 0), (1, .ref 22)]) ⟨rfl, rfl, rfl, rfl, trivial⟩ (by show List.Nodup [3, 2, 0, 1]; decide) (by show List.Nodup [3, 2, 6, 5, 4, 0, 1]; decide) ?_
          exact fw_5 hxp
        · rw [e7]
          refine fe_s 1 (pc' := cond (fx_cb .ne 97 (nI n6)) 106 102) (lc' := [(6, .int 23), (5, .int 1), (4, .int 28), (3, .int 22), (2, .int 4), (0, .ref 0), (1, .ref 22)]) (stk' := []) (mem' := fm g tp bt a b) (fun _ _ _ => rfl) ?_
          by_cases h9 : 97 = n6
          · rw [show (fx_cb .ne 97 (nI n6)) = false from cb_neF (a := 97) (b := n6) (by omega) (by omega) (by omega)]
            dsimp only [cond]
            refine fe_s 4 (pc' := 112) (lc' := [(6, .int (23 + 1)), (5, .int 1), (4, .int 28), (3, .int 22), (2, .int 4), (0, .ref 0), (1, .ref 22)]) (stk' := []) (mem' := fm g tp bt a b) (fun _ _ _ => rfl) ?_
            rw [show (23 + 1 : Int32) = 24 from rfl]
            refine fe_s 3 (pc' := 72) (lc' := [(6, .int 24), (5, .int 1), (4, .int 28), (3, .int 22), (2, .int 4), (0, .ref 0), (1, .ref 22)]) (stk' := [.int 28, .int 24]) (mem' := fm g tp bt a b) (fun _ _ _ => rfl) ?_
            refine fe_s 1 (pc' := cond (fx_cb .ge 24 28) 115 75) (lc' := [(6, .int 24), (5, .int 1), (4, .int 28), (3, .int 22), (2, .int 4), (0, .ref 0), (1, .ref 22)]) (stk' := []) (mem' := fm g tp bt a b) (fun _ _ _ => rfl) ?_
            rw [show (fx_cb .ge 24 28) = false from by decide]
            dsimp only [cond]
            refine fe_s 1 (pc' := 77) (lc' := [(6, .int 24), (5, .int 1), (4, .int 28), (3, .int 22), (2, .int 4), (0, .ref 0), (1, .ref 22)]) (stk' := [.int 1]) (mem' := fm g tp bt a b) (fun _ _ _ => rfl) ?_
            refine fe_s 1 (pc' := cond (fx_cb .eq 1 0) 115 80) (lc' := [(6, .int 24), (5, .int 1), (4, .int 28), (3, .int 22), (2, .int 4), (0, .ref 0), (1, .ref 22)]) (stk' := []) (mem' := fm g tp bt a b) (fun _ _ _ => rfl) ?_
            rw [show (fx_cb .eq 1 0) = false from by decide]
            dsimp only [cond]
            refine fe_s 2 (pc' := 83) (lc' := [(6, .int 24), (5, .int 1), (4, .int 28), (3, .int 22), (2, .int 4), (0, .ref 0), (1, .ref 22)]) (stk' := [.int 24, .ref 22]) (mem' := fm g tp bt a b) (fun _ _ _ => rfl) ?_
            refine fe_chr (i := 24) (by omega) (by rfl) (by rfl) ⟨by rfl, by rfl⟩ (by rfl) ?_
            rw [show sk_b.getD 24 0 = 108 from rfl]
            refine fe_s 4 (pc' := 93) (lc' := [(6, .int 24), (5, .int 1), (4, .int 28), (3, .int 22), (2, .int 4), (0, .ref 0), (1, .ref 22)]) (stk' := [.int 24, .int (g 13), .ref 0, .int 108]) (mem' := fm g tp bt a b) (fun _ _ _ => rfl) ?_
            try rw [h13]
            refine fe_s 3 (pc' := 96) (lc' := [(6, .int 24), (5, .int 1), (4, .int 28), (3, .int 22), (2, .int 4), (0, .ref 0), (1, .ref 22)]) (stk' := [.int (((nI F) + 24) - 22), .ref 0, .int 108]) (mem' := fm g tp bt a b) (fun _ _ _ => rfl) ?_
            rw [show (((nI F) + 24) - 22 : Int32) = nI ((F + 24) - 22) from by simp only [show (24 : Int32) = nI 24 from rfl, show (22 : Int32) = nI 22 from rfl, tg_sub2 (x := F + 24) (y := 22) (by omega), nI_add, fm_mul]]
            refine fe_ivV (fr_byteAt (S := S) (k := (F + 24) - 22) (g := g) (tp := tp) (bt := bt) (a := a) (b := b) h11 (by omega) (by omega)) (by omega) (by rfl) (by rfl) (by rfl) (by rfl) (by rfl) (by rfl) ?_
            rcases fm_byte_or a S ((F + 24) - 22) with ⟨e11, q12⟩ | ⟨q12, n10, qn10, e11⟩
            · rw [e11]
              refine fe_s 1 (pc' := cond (fx_cb .ne 108 (-1)) 106 102) (lc' := [(6, .int 24), (5, .int 1), (4, .int 28), (3, .int 22), (2, .int 4), (0, .ref 0), (1, .ref 22)]) (stk' := []) (mem' := fm g tp bt a b) (fun _ _ _ => rfl) ?_
              rw [show (fx_cb .ne 108 (-1)) = true from by decide]
              dsimp only [cond]
              refine fe_s 4 (pc' := 68) (lc' := [(6, .int (24 + 1)), (5, .int 0), (4, .int 28), (3, .int 22), (2, .int 4), (0, .ref 0), (1, .ref 22)]) (stk' := []) (mem' := fm g tp bt a b) (fun _ _ _ => rfl) ?_
              rw [show (24 + 1 : Int32) = 25 from rfl]
              refine fe_s 2 (pc' := 72) (lc' := [(6, .int 25), (5, .int 0), (4, .int 28), (3, .int 22), (2, .int 4), (0, .ref 0), (1, .ref 22)]) (stk' := [.int 28, .int 25]) (mem' := fm g tp bt a b) (fun _ _ _ => rfl) ?_
              refine fe_s 1 (pc' := cond (fx_cb .ge 25 28) 115 75) (lc' := [(6, .int 25), (5, .int 0), (4, .int 28), (3, .int 22), (2, .int 4), (0, .ref 0), (1, .ref 22)]) (stk' := []) (mem' := fm g tp bt a b) (fun _ _ _ => rfl) ?_
              rw [show (fx_cb .ge 25 28) = false from by decide]
              dsimp only [cond]
              refine fe_s 1 (pc' := 77) (lc' := [(6, .int 25), (5, .int 0), (4, .int 28), (3, .int 22), (2, .int 4), (0, .ref 0), (1, .ref 22)]) (stk' := [.int 0]) (mem' := fm g tp bt a b) (fun _ _ _ => rfl) ?_
              refine fe_s 1 (pc' := cond (fx_cb .eq 0 0) 115 80) (lc' := [(6, .int 25), (5, .int 0), (4, .int 28), (3, .int 22), (2, .int 4), (0, .ref 0), (1, .ref 22)]) (stk' := []) (mem' := fm g tp bt a b) (fun _ _ _ => rfl) ?_
              rw [show (fx_cb .eq 0 0) = true from by decide]
              dsimp only [cond]
              refine fe_s 1 (pc' := 117) (lc' := [(6, .int 25), (5, .int 0), (4, .int 28), (3, .int 22), (2, .int 4), (0, .ref 0), (1, .ref 22)]) (stk' := [.int 0]) (mem' := fm g tp bt a b) (fun _ _ _ => rfl) ?_
              refine fe_s 1 (pc' := cond (fx_cb .eq 0 0) 122 120) (lc' := [(6, .int 25), (5, .int 0), (4, .int 28), (3, .int 22), (2, .int 4), (0, .ref 0), (1, .ref 22)]) (stk' := []) (mem' := fm g tp bt a b) (fun _ _ _ => rfl) ?_
              rw [show (fx_cb .eq 0 0) = true from by decide]
              dsimp only [cond]
              refine fe_s 4 (pc' := 129) (lc' := [(2, .int (4 + 1)), (6, .int 25), (5, .int 0), (4, .int 28), (3, .int 22), (0, .ref 0), (1, .ref 22)]) (stk' := [.int (28 + 1)]) (mem' := fm g tp bt a b) (fun _ _ _ => rfl) ?_
              rw [show (4 + 1 : Int32) = 5 from rfl]
              rw [show (28 + 1 : Int32) = 29 from rfl]
              refine fe_s 1 (pc' := 130) (lc' := [(3, .int 29), (2, .int 5), (6, .int 25), (5, .int 0), (4, .int 28), (0, .ref 0), (1, .ref 22)]) (stk' := []) (mem' := fm g tp bt a b) (fun _ _ _ => rfl) ?_
              refine fe_s 1 (pc' := fx_to 130 (-116)) (lc' := [(3, .int 29), (2, .int 5), (6, .int 25), (5, .int 0), (4, .int 28), (0, .ref 0), (1, .ref 22)]) (stk' := []) (mem' := fm g tp bt a b) (fun _ _ _ => rfl) ?_
              rw [show fx_to 130 (-116) = 14 from by decide]
              refine fe_w (lc' := [(3, .int 29), (2, .int 5), (0, .ref 0), (1, .ref 22)]) ⟨rfl, rfl, rfl, rfl, trivial⟩ (by show List.Nodup [3, 2, 0, 1]; decide) (by show List.Nodup [3, 2, 6, 5, 4, 0, 1]; decide) ?_
              exact fw_5 hxp
            · rw [e11]
              refine fe_s 1 (pc' := cond (fx_cb .ne 108 (nI n10)) 106 102) (lc' := [(6, .int 24), (5, .int 1), (4, .int 28), (3, .int 22), (2, .int 4), (0, .ref 0), (1, .ref 22)]) (stk' := []) (mem' := fm g tp bt a b) (fun _ _ _ => rfl) ?_
              by_cases h13 : 108 = n10
              · rw [show (fx_cb .ne 108 (nI n10)) = false from cb_neF (a := 108) (b := n10) (by omega) (by omega) (by omega)]
                dsimp only [cond]
                refine fe_s 4 (pc' := 112) (lc' := [(6, .int (24 + 1)), (5, .int 1), (4, .int 28), (3, .int 22), (2, .int 4), (0, .ref 0), (1, .ref 22)]) (stk' := []) (mem' := fm g tp bt a b) (fun _ _ _ => rfl) ?_
                rw [show (24 + 1 : Int32) = 25 from rfl]
                refine fe_s 3 (pc' := 72) (lc' := [(6, .int 25), (5, .int 1), (4, .int 28), (3, .int 22), (2, .int 4), (0, .ref 0), (1, .ref 22)]) (stk' := [.int 28, .int 25]) (mem' := fm g tp bt a b) (fun _ _ _ => rfl) ?_
                refine fe_s 1 (pc' := cond (fx_cb .ge 25 28) 115 75) (lc' := [(6, .int 25), (5, .int 1), (4, .int 28), (3, .int 22), (2, .int 4), (0, .ref 0), (1, .ref 22)]) (stk' := []) (mem' := fm g tp bt a b) (fun _ _ _ => rfl) ?_
                rw [show (fx_cb .ge 25 28) = false from by decide]
                dsimp only [cond]
                refine fe_s 1 (pc' := 77) (lc' := [(6, .int 25), (5, .int 1), (4, .int 28), (3, .int 22), (2, .int 4), (0, .ref 0), (1, .ref 22)]) (stk' := [.int 1]) (mem' := fm g tp bt a b) (fun _ _ _ => rfl) ?_
                refine fe_s 1 (pc' := cond (fx_cb .eq 1 0) 115 80) (lc' := [(6, .int 25), (5, .int 1), (4, .int 28), (3, .int 22), (2, .int 4), (0, .ref 0), (1, .ref 22)]) (stk' := []) (mem' := fm g tp bt a b) (fun _ _ _ => rfl) ?_
                rw [show (fx_cb .eq 1 0) = false from by decide]
                dsimp only [cond]
                refine fe_s 2 (pc' := 83) (lc' := [(6, .int 25), (5, .int 1), (4, .int 28), (3, .int 22), (2, .int 4), (0, .ref 0), (1, .ref 22)]) (stk' := [.int 25, .ref 22]) (mem' := fm g tp bt a b) (fun _ _ _ => rfl) ?_
                refine fe_chr (i := 25) (by omega) (by rfl) (by rfl) ⟨by rfl, by rfl⟩ (by rfl) ?_
                rw [show sk_b.getD 25 0 = 107 from rfl]
                refine fe_s 4 (pc' := 93) (lc' := [(6, .int 25), (5, .int 1), (4, .int 28), (3, .int 22), (2, .int 4), (0, .ref 0), (1, .ref 22)]) (stk' := [.int 25, .int (g 13), .ref 0, .int 107]) (mem' := fm g tp bt a b) (fun _ _ _ => rfl) ?_
                try rw [h13]
                refine fe_s 3 (pc' := 96) (lc' := [(6, .int 25), (5, .int 1), (4, .int 28), (3, .int 22), (2, .int 4), (0, .ref 0), (1, .ref 22)]) (stk' := [.int (((nI F) + 25) - 22), .ref 0, .int 107]) (mem' := fm g tp bt a b) (fun _ _ _ => rfl) ?_
                rw [show (((nI F) + 25) - 22 : Int32) = nI ((F + 25) - 22) from by simp only [show (25 : Int32) = nI 25 from rfl, show (22 : Int32) = nI 22 from rfl, tg_sub2 (x := F + 25) (y := 22) (by omega), nI_add, fm_mul]]
                refine fe_ivV (fr_byteAt (S := S) (k := (F + 25) - 22) (g := g) (tp := tp) (bt := bt) (a := a) (b := b) h11 (by omega) (by omega)) (by omega) (by rfl) (by rfl) (by rfl) (by rfl) (by rfl) (by rfl) ?_
                rcases fm_byte_or a S ((F + 25) - 22) with ⟨e15, q16⟩ | ⟨q16, n14, qn14, e15⟩
                · rw [e15]
                  refine fe_s 1 (pc' := cond (fx_cb .ne 107 (-1)) 106 102) (lc' := [(6, .int 25), (5, .int 1), (4, .int 28), (3, .int 22), (2, .int 4), (0, .ref 0), (1, .ref 22)]) (stk' := []) (mem' := fm g tp bt a b) (fun _ _ _ => rfl) ?_
                  rw [show (fx_cb .ne 107 (-1)) = true from by decide]
                  dsimp only [cond]
                  refine fe_s 4 (pc' := 68) (lc' := [(6, .int (25 + 1)), (5, .int 0), (4, .int 28), (3, .int 22), (2, .int 4), (0, .ref 0), (1, .ref 22)]) (stk' := []) (mem' := fm g tp bt a b) (fun _ _ _ => rfl) ?_
                  rw [show (25 + 1 : Int32) = 26 from rfl]
                  refine fe_s 2 (pc' := 72) (lc' := [(6, .int 26), (5, .int 0), (4, .int 28), (3, .int 22), (2, .int 4), (0, .ref 0), (1, .ref 22)]) (stk' := [.int 28, .int 26]) (mem' := fm g tp bt a b) (fun _ _ _ => rfl) ?_
                  refine fe_s 1 (pc' := cond (fx_cb .ge 26 28) 115 75) (lc' := [(6, .int 26), (5, .int 0), (4, .int 28), (3, .int 22), (2, .int 4), (0, .ref 0), (1, .ref 22)]) (stk' := []) (mem' := fm g tp bt a b) (fun _ _ _ => rfl) ?_
                  rw [show (fx_cb .ge 26 28) = false from by decide]
                  dsimp only [cond]
                  refine fe_s 1 (pc' := 77) (lc' := [(6, .int 26), (5, .int 0), (4, .int 28), (3, .int 22), (2, .int 4), (0, .ref 0), (1, .ref 22)]) (stk' := [.int 0]) (mem' := fm g tp bt a b) (fun _ _ _ => rfl) ?_
                  refine fe_s 1 (pc' := cond (fx_cb .eq 0 0) 115 80) (lc' := [(6, .int 26), (5, .int 0), (4, .int 28), (3, .int 22), (2, .int 4), (0, .ref 0), (1, .ref 22)]) (stk' := []) (mem' := fm g tp bt a b) (fun _ _ _ => rfl) ?_
                  rw [show (fx_cb .eq 0 0) = true from by decide]
                  dsimp only [cond]
                  refine fe_s 1 (pc' := 117) (lc' := [(6, .int 26), (5, .int 0), (4, .int 28), (3, .int 22), (2, .int 4), (0, .ref 0), (1, .ref 22)]) (stk' := [.int 0]) (mem' := fm g tp bt a b) (fun _ _ _ => rfl) ?_
                  refine fe_s 1 (pc' := cond (fx_cb .eq 0 0) 122 120) (lc' := [(6, .int 26), (5, .int 0), (4, .int 28), (3, .int 22), (2, .int 4), (0, .ref 0), (1, .ref 22)]) (stk' := []) (mem' := fm g tp bt a b) (fun _ _ _ => rfl) ?_
                  rw [show (fx_cb .eq 0 0) = true from by decide]
                  dsimp only [cond]
                  refine fe_s 4 (pc' := 129) (lc' := [(2, .int (4 + 1)), (6, .int 26), (5, .int 0), (4, .int 28), (3, .int 22), (0, .ref 0), (1, .ref 22)]) (stk' := [.int (28 + 1)]) (mem' := fm g tp bt a b) (fun _ _ _ => rfl) ?_
                  rw [show (4 + 1 : Int32) = 5 from rfl]
                  rw [show (28 + 1 : Int32) = 29 from rfl]
                  refine fe_s 1 (pc' := 130) (lc' := [(3, .int 29), (2, .int 5), (6, .int 26), (5, .int 0), (4, .int 28), (0, .ref 0), (1, .ref 22)]) (stk' := []) (mem' := fm g tp bt a b) (fun _ _ _ => rfl) ?_
                  refine fe_s 1 (pc' := fx_to 130 (-116)) (lc' := [(3, .int 29), (2, .int 5), (6, .int 26), (5, .int 0), (4, .int 28), (0, .ref 0), (1, .ref 22)]) (stk' := []) (mem' := fm g tp bt a b) (fun _ _ _ => rfl) ?_
                  rw [show fx_to 130 (-116) = 14 from by decide]
                  refine fe_w (lc' := [(3, .int 29), (2, .int 5), (0, .ref 0), (1, .ref 22)]) ⟨rfl, rfl, rfl, rfl, trivial⟩ (by show List.Nodup [3, 2, 0, 1]; decide) (by show List.Nodup [3, 2, 6, 5, 4, 0, 1]; decide) ?_
                  exact fw_5 hxp
                · rw [e15]
                  refine fe_s 1 (pc' := cond (fx_cb .ne 107 (nI n14)) 106 102) (lc' := [(6, .int 25), (5, .int 1), (4, .int 28), (3, .int 22), (2, .int 4), (0, .ref 0), (1, .ref 22)]) (stk' := []) (mem' := fm g tp bt a b) (fun _ _ _ => rfl) ?_
                  by_cases h17 : 107 = n14
                  · rw [show (fx_cb .ne 107 (nI n14)) = false from cb_neF (a := 107) (b := n14) (by omega) (by omega) (by omega)]
                    dsimp only [cond]
                    refine fe_s 4 (pc' := 112) (lc' := [(6, .int (25 + 1)), (5, .int 1), (4, .int 28), (3, .int 22), (2, .int 4), (0, .ref 0), (1, .ref 22)]) (stk' := []) (mem' := fm g tp bt a b) (fun _ _ _ => rfl) ?_
                    rw [show (25 + 1 : Int32) = 26 from rfl]
                    refine fe_s 3 (pc' := 72) (lc' := [(6, .int 26), (5, .int 1), (4, .int 28), (3, .int 22), (2, .int 4), (0, .ref 0), (1, .ref 22)]) (stk' := [.int 28, .int 26]) (mem' := fm g tp bt a b) (fun _ _ _ => rfl) ?_
                    refine fe_s 1 (pc' := cond (fx_cb .ge 26 28) 115 75) (lc' := [(6, .int 26), (5, .int 1), (4, .int 28), (3, .int 22), (2, .int 4), (0, .ref 0), (1, .ref 22)]) (stk' := []) (mem' := fm g tp bt a b) (fun _ _ _ => rfl) ?_
                    rw [show (fx_cb .ge 26 28) = false from by decide]
                    dsimp only [cond]
                    refine fe_s 1 (pc' := 77) (lc' := [(6, .int 26), (5, .int 1), (4, .int 28), (3, .int 22), (2, .int 4), (0, .ref 0), (1, .ref 22)]) (stk' := [.int 1]) (mem' := fm g tp bt a b) (fun _ _ _ => rfl) ?_
                    refine fe_s 1 (pc' := cond (fx_cb .eq 1 0) 115 80) (lc' := [(6, .int 26), (5, .int 1), (4, .int 28), (3, .int 22), (2, .int 4), (0, .ref 0), (1, .ref 22)]) (stk' := []) (mem' := fm g tp bt a b) (fun _ _ _ => rfl) ?_
                    rw [show (fx_cb .eq 1 0) = false from by decide]
                    dsimp only [cond]
                    refine fe_s 2 (pc' := 83) (lc' := [(6, .int 26), (5, .int 1), (4, .int 28), (3, .int 22), (2, .int 4), (0, .ref 0), (1, .ref 22)]) (stk' := [.int 26, .ref 22]) (mem' := fm g tp bt a b) (fun _ _ _ => rfl) ?_
                    refine fe_chr (i := 26) (by omega) (by rfl) (by rfl) ⟨by rfl, by rfl⟩ (by rfl) ?_
                    rw [show sk_b.getD 26 0 = 101 from rfl]
                    refine fe_s 4 (pc' := 93) (lc' := [(6, .int 26), (5, .int 1), (4, .int 28), (3, .int 22), (2, .int 4), (0, .ref 0), (1, .ref 22)]) (stk' := [.int 26, .int (g 13), .ref 0, .int 101]) (mem' := fm g tp bt a b) (fun _ _ _ => rfl) ?_
                    try rw [h13]
                    refine fe_s 3 (pc' := 96) (lc' := [(6, .int 26), (5, .int 1), (4, .int 28), (3, .int 22), (2, .int 4), (0, .ref 0), (1, .ref 22)]) (stk' := [.int (((nI F) + 26) - 22), .ref 0, .int 101]) (mem' := fm g tp bt a b) (fun _ _ _ => rfl) ?_
                    rw [show (((nI F) + 26) - 22 : Int32) = nI ((F + 26) - 22) from by simp only [show (26 : Int32) = nI 26 from rfl, show (22 : Int32) = nI 22 from rfl, tg_sub2 (x := F + 26) (y := 22) (by omega), nI_add, fm_mul]]
                    refine fe_ivV (fr_byteAt (S := S) (k := (F + 26) - 22) (g := g) (tp := tp) (bt := bt) (a := a) (b := b) h11 (by omega) (by omega)) (by omega) (by rfl) (by rfl) (by rfl) (by rfl) (by rfl) (by rfl) ?_
                    rcases fm_byte_or a S ((F + 26) - 22) with ⟨e19, q20⟩ | ⟨q20, n18, qn18, e19⟩
                    · rw [e19]
                      refine fe_s 1 (pc' := cond (fx_cb .ne 101 (-1)) 106 102) (lc' := [(6, .int 26), (5, .int 1), (4, .int 28), (3, .int 22), (2, .int 4), (0, .ref 0), (1, .ref 22)]) (stk' := []) (mem' := fm g tp bt a b) (fun _ _ _ => rfl) ?_
                      rw [show (fx_cb .ne 101 (-1)) = true from by decide]
                      dsimp only [cond]
                      refine fe_s 4 (pc' := 68) (lc' := [(6, .int (26 + 1)), (5, .int 0), (4, .int 28), (3, .int 22), (2, .int 4), (0, .ref 0), (1, .ref 22)]) (stk' := []) (mem' := fm g tp bt a b) (fun _ _ _ => rfl) ?_
                      rw [show (26 + 1 : Int32) = 27 from rfl]
                      refine fe_s 2 (pc' := 72) (lc' := [(6, .int 27), (5, .int 0), (4, .int 28), (3, .int 22), (2, .int 4), (0, .ref 0), (1, .ref 22)]) (stk' := [.int 28, .int 27]) (mem' := fm g tp bt a b) (fun _ _ _ => rfl) ?_
                      refine fe_s 1 (pc' := cond (fx_cb .ge 27 28) 115 75) (lc' := [(6, .int 27), (5, .int 0), (4, .int 28), (3, .int 22), (2, .int 4), (0, .ref 0), (1, .ref 22)]) (stk' := []) (mem' := fm g tp bt a b) (fun _ _ _ => rfl) ?_
                      rw [show (fx_cb .ge 27 28) = false from by decide]
                      dsimp only [cond]
                      refine fe_s 1 (pc' := 77) (lc' := [(6, .int 27), (5, .int 0), (4, .int 28), (3, .int 22), (2, .int 4), (0, .ref 0), (1, .ref 22)]) (stk' := [.int 0]) (mem' := fm g tp bt a b) (fun _ _ _ => rfl) ?_
                      refine fe_s 1 (pc' := cond (fx_cb .eq 0 0) 115 80) (lc' := [(6, .int 27), (5, .int 0), (4, .int 28), (3, .int 22), (2, .int 4), (0, .ref 0), (1, .ref 22)]) (stk' := []) (mem' := fm g tp bt a b) (fun _ _ _ => rfl) ?_
                      rw [show (fx_cb .eq 0 0) = true from by decide]
                      dsimp only [cond]
                      refine fe_s 1 (pc' := 117) (lc' := [(6, .int 27), (5, .int 0), (4, .int 28), (3, .int 22), (2, .int 4), (0, .ref 0), (1, .ref 22)]) (stk' := [.int 0]) (mem' := fm g tp bt a b) (fun _ _ _ => rfl) ?_
                      refine fe_s 1 (pc' := cond (fx_cb .eq 0 0) 122 120) (lc' := [(6, .int 27), (5, .int 0), (4, .int 28), (3, .int 22), (2, .int 4), (0, .ref 0), (1, .ref 22)]) (stk' := []) (mem' := fm g tp bt a b) (fun _ _ _ => rfl) ?_
                      rw [show (fx_cb .eq 0 0) = true from by decide]
                      dsimp only [cond]
                      refine fe_s 4 (pc' := 129) (lc' := [(2, .int (4 + 1)), (6, .int 27), (5, .int 0), (4, .int 28), (3, .int 22), (0, .ref 0), (1, .ref 22)]) (stk' := [.int (28 + 1)]) (mem' := fm g tp bt a b) (fun _ _ _ => rfl) ?_
                      rw [show (4 + 1 : Int32) = 5 from rfl]
                      rw [show (28 + 1 : Int32) = 29 from rfl]
                      refine fe_s 1 (pc' := 130) (lc' := [(3, .int 29), (2, .int 5), (6, .int 27), (5, .int 0), (4, .int 28), (0, .ref 0), (1, .ref 22)]) (stk' := []) (mem' := fm g tp bt a b) (fun _ _ _ => rfl) ?_
                      refine fe_s 1 (pc' := fx_to 130 (-116)) (lc' := [(3, .int 29), (2, .int 5), (6, .int 27), (5, .int 0), (4, .int 28), (0, .ref 0), (1, .ref 22)]) (stk' := []) (mem' := fm g tp bt a b) (fun _ _ _ => rfl) ?_
                      rw [show fx_to 130 (-116) = 14 from by decide]
                      refine fe_w (lc' := [(3, .int 29), (2, .int 5), (0, .ref 0), (1, .ref 22)]) ⟨rfl, rfl, rfl, rfl, trivial⟩ (by show List.Nodup [3, 2, 0, 1]; decide) (by show List.Nodup [3, 2, 6, 5, 4, 0, 1]; decide) ?_
                      exact fw_5 hxp
                    · rw [e19]
                      refine fe_s 1 (pc' := cond (fx_cb .ne 101 (nI n18)) 106 102) (lc' := [(6, .int 26), (5, .int 1), (4, .int 28), (3, .int 22), (2, .int 4), (0, .ref 0), (1, .ref 22)]) (stk' := []) (mem' := fm g tp bt a b) (fun _ _ _ => rfl) ?_
                      by_cases h21 : 101 = n18
                      · rw [show (fx_cb .ne 101 (nI n18)) = false from cb_neF (a := 101) (b := n18) (by omega) (by omega) (by omega)]
                        dsimp only [cond]
                        refine fe_s 4 (pc' := 112) (lc' := [(6, .int (26 + 1)), (5, .int 1), (4, .int 28), (3, .int 22), (2, .int 4), (0, .ref 0), (1, .ref 22)]) (stk' := []) (mem' := fm g tp bt a b) (fun _ _ _ => rfl) ?_
                        rw [show (26 + 1 : Int32) = 27 from rfl]
                        refine fe_s 3 (pc' := 72) (lc' := [(6, .int 27), (5, .int 1), (4, .int 28), (3, .int 22), (2, .int 4), (0, .ref 0), (1, .ref 22)]) (stk' := [.int 28, .int 27]) (mem' := fm g tp bt a b) (fun _ _ _ => rfl) ?_
                        refine fe_s 1 (pc' := cond (fx_cb .ge 27 28) 115 75) (lc' := [(6, .int 27), (5, .int 1), (4, .int 28), (3, .int 22), (2, .int 4), (0, .ref 0), (1, .ref 22)]) (stk' := []) (mem' := fm g tp bt a b) (fun _ _ _ => rfl) ?_
                        rw [show (fx_cb .ge 27 28) = false from by decide]
                        dsimp only [cond]
                        refine fe_s 1 (pc' := 77) (lc' := [(6, .int 27), (5, .int 1), (4, .int 28), (3, .int 22), (2, .int 4), (0, .ref 0), (1, .ref 22)]) (stk' := [.int 1]) (mem' := fm g tp bt a b) (fun _ _ _ => rfl) ?_
                        refine fe_s 1 (pc' := cond (fx_cb .eq 1 0) 115 80) (lc' := [(6, .int 27), (5, .int 1), (4, .int 28), (3, .int 22), (2, .int 4), (0, .ref 0), (1, .ref 22)]) (stk' := []) (mem' := fm g tp bt a b) (fun _ _ _ => rfl) ?_
                        rw [show (fx_cb .eq 1 0) = false from by decide]
                        dsimp only [cond]
                        refine fe_s 2 (pc' := 83) (lc' := [(6, .int 27), (5, .int 1), (4, .int 28), (3, .int 22), (2, .int 4), (0, .ref 0), (1, .ref 22)]) (stk' := [.int 27, .ref 22]) (mem' := fm g tp bt a b) (fun _ _ _ => rfl) ?_
                        refine fe_chr (i := 27) (by omega) (by rfl) (by rfl) ⟨by rfl, by rfl⟩ (by rfl) ?_
                        rw [show sk_b.getD 27 0 = 114 from rfl]
                        refine fe_s 4 (pc' := 93) (lc' := [(6, .int 27), (5, .int 1), (4, .int 28), (3, .int 22), (2, .int 4), (0, .ref 0), (1, .ref 22)]) (stk' := [.int 27, .int (g 13), .ref 0, .int 114]) (mem' := fm g tp bt a b) (fun _ _ _ => rfl) ?_
                        try rw [h13]
                        refine fe_s 3 (pc' := 96) (lc' := [(6, .int 27), (5, .int 1), (4, .int 28), (3, .int 22), (2, .int 4), (0, .ref 0), (1, .ref 22)]) (stk' := [.int (((nI F) + 27) - 22), .ref 0, .int 114]) (mem' := fm g tp bt a b) (fun _ _ _ => rfl) ?_
                        rw [show (((nI F) + 27) - 22 : Int32) = nI ((F + 27) - 22) from by simp only [show (27 : Int32) = nI 27 from rfl, show (22 : Int32) = nI 22 from rfl, tg_sub2 (x := F + 27) (y := 22) (by omega), nI_add, fm_mul]]
                        refine fe_ivV (fr_byteAt (S := S) (k := (F + 27) - 22) (g := g) (tp := tp) (bt := bt) (a := a) (b := b) h11 (by omega) (by omega)) (by omega) (by rfl) (by rfl) (by rfl) (by rfl) (by rfl) (by rfl) ?_
                        rcases fm_byte_or a S ((F + 27) - 22) with ⟨e23, q24⟩ | ⟨q24, n22, qn22, e23⟩
                        · rw [e23]
                          refine fe_s 1 (pc' := cond (fx_cb .ne 114 (-1)) 106 102) (lc' := [(6, .int 27), (5, .int 1), (4, .int 28), (3, .int 22), (2, .int 4), (0, .ref 0), (1, .ref 22)]) (stk' := []) (mem' := fm g tp bt a b) (fun _ _ _ => rfl) ?_
                          rw [show (fx_cb .ne 114 (-1)) = true from by decide]
                          dsimp only [cond]
                          refine fe_s 4 (pc' := 68) (lc' := [(6, .int (27 + 1)), (5, .int 0), (4, .int 28), (3, .int 22), (2, .int 4), (0, .ref 0), (1, .ref 22)]) (stk' := []) (mem' := fm g tp bt a b) (fun _ _ _ => rfl) ?_
                          rw [show (27 + 1 : Int32) = 28 from rfl]
                          refine fe_s 2 (pc' := 72) (lc' := [(6, .int 28), (5, .int 0), (4, .int 28), (3, .int 22), (2, .int 4), (0, .ref 0), (1, .ref 22)]) (stk' := [.int 28, .int 28]) (mem' := fm g tp bt a b) (fun _ _ _ => rfl) ?_
                          refine fe_s 1 (pc' := cond (fx_cb .ge 28 28) 115 75) (lc' := [(6, .int 28), (5, .int 0), (4, .int 28), (3, .int 22), (2, .int 4), (0, .ref 0), (1, .ref 22)]) (stk' := []) (mem' := fm g tp bt a b) (fun _ _ _ => rfl) ?_
                          rw [show (fx_cb .ge 28 28) = true from by decide]
                          dsimp only [cond]
                          refine fe_s 1 (pc' := 117) (lc' := [(6, .int 28), (5, .int 0), (4, .int 28), (3, .int 22), (2, .int 4), (0, .ref 0), (1, .ref 22)]) (stk' := [.int 0]) (mem' := fm g tp bt a b) (fun _ _ _ => rfl) ?_
                          refine fe_s 1 (pc' := cond (fx_cb .eq 0 0) 122 120) (lc' := [(6, .int 28), (5, .int 0), (4, .int 28), (3, .int 22), (2, .int 4), (0, .ref 0), (1, .ref 22)]) (stk' := []) (mem' := fm g tp bt a b) (fun _ _ _ => rfl) ?_
                          rw [show (fx_cb .eq 0 0) = true from by decide]
                          dsimp only [cond]
                          refine fe_s 4 (pc' := 129) (lc' := [(2, .int (4 + 1)), (6, .int 28), (5, .int 0), (4, .int 28), (3, .int 22), (0, .ref 0), (1, .ref 22)]) (stk' := [.int (28 + 1)]) (mem' := fm g tp bt a b) (fun _ _ _ => rfl) ?_
                          rw [show (4 + 1 : Int32) = 5 from rfl]
                          rw [show (28 + 1 : Int32) = 29 from rfl]
                          refine fe_s 1 (pc' := 130) (lc' := [(3, .int 29), (2, .int 5), (6, .int 28), (5, .int 0), (4, .int 28), (0, .ref 0), (1, .ref 22)]) (stk' := []) (mem' := fm g tp bt a b) (fun _ _ _ => rfl) ?_
                          refine fe_s 1 (pc' := fx_to 130 (-116)) (lc' := [(3, .int 29), (2, .int 5), (6, .int 28), (5, .int 0), (4, .int 28), (0, .ref 0), (1, .ref 22)]) (stk' := []) (mem' := fm g tp bt a b) (fun _ _ _ => rfl) ?_
                          rw [show fx_to 130 (-116) = 14 from by decide]
                          refine fe_w (lc' := [(3, .int 29), (2, .int 5), (0, .ref 0), (1, .ref 22)]) ⟨rfl, rfl, rfl, rfl, trivial⟩ (by show List.Nodup [3, 2, 0, 1]; decide) (by show List.Nodup [3, 2, 6, 5, 4, 0, 1]; decide) ?_
                          exact fw_5 hxp
                        · rw [e23]
                          refine fe_s 1 (pc' := cond (fx_cb .ne 114 (nI n22)) 106 102) (lc' := [(6, .int 27), (5, .int 1), (4, .int 28), (3, .int 22), (2, .int 4), (0, .ref 0), (1, .ref 22)]) (stk' := []) (mem' := fm g tp bt a b) (fun _ _ _ => rfl) ?_
                          by_cases h25 : 114 = n22
                          · rw [show (fx_cb .ne 114 (nI n22)) = false from cb_neF (a := 114) (b := n22) (by omega) (by omega) (by omega)]
                            dsimp only [cond]
                            refine fe_s 4 (pc' := 112) (lc' := [(6, .int (27 + 1)), (5, .int 1), (4, .int 28), (3, .int 22), (2, .int 4), (0, .ref 0), (1, .ref 22)]) (stk' := []) (mem' := fm g tp bt a b) (fun _ _ _ => rfl) ?_
                            rw [show (27 + 1 : Int32) = 28 from rfl]
                            refine fe_s 3 (pc' := 72) (lc' := [(6, .int 28), (5, .int 1), (4, .int 28), (3, .int 22), (2, .int 4), (0, .ref 0), (1, .ref 22)]) (stk' := [.int 28, .int 28]) (mem' := fm g tp bt a b) (fun _ _ _ => rfl) ?_
                            refine fe_s 1 (pc' := cond (fx_cb .ge 28 28) 115 75) (lc' := [(6, .int 28), (5, .int 1), (4, .int 28), (3, .int 22), (2, .int 4), (0, .ref 0), (1, .ref 22)]) (stk' := []) (mem' := fm g tp bt a b) (fun _ _ _ => rfl) ?_
                            rw [show (fx_cb .ge 28 28) = true from by decide]
                            dsimp only [cond]
                            refine fe_s 1 (pc' := 117) (lc' := [(6, .int 28), (5, .int 1), (4, .int 28), (3, .int 22), (2, .int 4), (0, .ref 0), (1, .ref 22)]) (stk' := [.int 1]) (mem' := fm g tp bt a b) (fun _ _ _ => rfl) ?_
                            refine fe_s 1 (pc' := cond (fx_cb .eq 1 0) 122 120) (lc' := [(6, .int 28), (5, .int 1), (4, .int 28), (3, .int 22), (2, .int 4), (0, .ref 0), (1, .ref 22)]) (stk' := []) (mem' := fm g tp bt a b) (fun _ _ _ => rfl) ?_
                            rw [show (fx_cb .eq 1 0) = false from by decide]
                            dsimp only [cond]
                            refine fe_s 1 (pc' := 121) (lc' := [(6, .int 28), (5, .int 1), (4, .int 28), (3, .int 22), (2, .int 4), (0, .ref 0), (1, .ref 22)]) (stk' := [.int 4]) (mem' := fm g tp bt a b) (fun _ _ _ => rfl) ?_
                            exact fe_ret ⟨_, Or.inr ⟨4, by omega, rfl⟩, rfl⟩ (by rfl) (by rfl) (by rfl)
                          · rw [show (fx_cb .ne 114 (nI n22)) = true from cb_neT (a := 114) (b := n22) (by omega) (by omega) (by omega)]
                            dsimp only [cond]
                            refine fe_s 4 (pc' := 68) (lc' := [(6, .int (27 + 1)), (5, .int 0), (4, .int 28), (3, .int 22), (2, .int 4), (0, .ref 0), (1, .ref 22)]) (stk' := []) (mem' := fm g tp bt a b) (fun _ _ _ => rfl) ?_
                            rw [show (27 + 1 : Int32) = 28 from rfl]
                            refine fe_s 2 (pc' := 72) (lc' := [(6, .int 28), (5, .int 0), (4, .int 28), (3, .int 22), (2, .int 4), (0, .ref 0), (1, .ref 22)]) (stk' := [.int 28, .int 28]) (mem' := fm g tp bt a b) (fun _ _ _ => rfl) ?_
                            refine fe_s 1 (pc' := cond (fx_cb .ge 28 28) 115 75) (lc' := [(6, .int 28), (5, .int 0), (4, .int 28), (3, .int 22), (2, .int 4), (0, .ref 0), (1, .ref 22)]) (stk' := []) (mem' := fm g tp bt a b) (fun _ _ _ => rfl) ?_
                            rw [show (fx_cb .ge 28 28) = true from by decide]
                            dsimp only [cond]
                            refine fe_s 1 (pc' := 117) (lc' := [(6, .int 28), (5, .int 0), (4, .int 28), (3, .int 22), (2, .int 4), (0, .ref 0), (1, .ref 22)]) (stk' := [.int 0]) (mem' := fm g tp bt a b) (fun _ _ _ => rfl) ?_
                            refine fe_s 1 (pc' := cond (fx_cb .eq 0 0) 122 120) (lc' := [(6, .int 28), (5, .int 0), (4, .int 28), (3, .int 22), (2, .int 4), (0, .ref 0), (1, .ref 22)]) (stk' := []) (mem' := fm g tp bt a b) (fun _ _ _ => rfl) ?_
                            rw [show (fx_cb .eq 0 0) = true from by decide]
                            dsimp only [cond]
                            refine fe_s 4 (pc' := 129) (lc' := [(2, .int (4 + 1)), (6, .int 28), (5, .int 0), (4, .int 28), (3, .int 22), (0, .ref 0), (1, .ref 22)]) (stk' := [.int (28 + 1)]) (mem' := fm g tp bt a b) (fun _ _ _ => rfl) ?_
                            rw [show (4 + 1 : Int32) = 5 from rfl]
                            rw [show (28 + 1 : Int32) = 29 from rfl]
                            refine fe_s 1 (pc' := 130) (lc' := [(3, .int 29), (2, .int 5), (6, .int 28), (5, .int 0), (4, .int 28), (0, .ref 0), (1, .ref 22)]) (stk' := []) (mem' := fm g tp bt a b) (fun _ _ _ => rfl) ?_
                            refine fe_s 1 (pc' := fx_to 130 (-116)) (lc' := [(3, .int 29), (2, .int 5), (6, .int 28), (5, .int 0), (4, .int 28), (0, .ref 0), (1, .ref 22)]) (stk' := []) (mem' := fm g tp bt a b) (fun _ _ _ => rfl) ?_
                            rw [show fx_to 130 (-116) = 14 from by decide]
                            refine fe_w (lc' := [(3, .int 29), (2, .int 5), (0, .ref 0), (1, .ref 22)]) ⟨rfl, rfl, rfl, rfl, trivial⟩ (by show List.Nodup [3, 2, 0, 1]; decide) (by show List.Nodup [3, 2, 6, 5, 4, 0, 1]; decide) ?_
                            exact fw_5 hxp
                      · rw [show (fx_cb .ne 101 (nI n18)) = true from cb_neT (a := 101) (b := n18) (by omega) (by omega) (by omega)]
                        dsimp only [cond]
                        refine fe_s 4 (pc' := 68) (lc' := [(6, .int (26 + 1)), (5, .int 0), (4, .int 28), (3, .int 22), (2, .int 4), (0, .ref 0), (1, .ref 22)]) (stk' := []) (mem' := fm g tp bt a b) (fun _ _ _ => rfl) ?_
                        rw [show (26 + 1 : Int32) = 27 from rfl]
                        refine fe_s 2 (pc' := 72) (lc' := [(6, .int 27), (5, .int 0), (4, .int 28), (3, .int 22), (2, .int 4), (0, .ref 0), (1, .ref 22)]) (stk' := [.int 28, .int 27]) (mem' := fm g tp bt a b) (fun _ _ _ => rfl) ?_
                        refine fe_s 1 (pc' := cond (fx_cb .ge 27 28) 115 75) (lc' := [(6, .int 27), (5, .int 0), (4, .int 28), (3, .int 22), (2, .int 4), (0, .ref 0), (1, .ref 22)]) (stk' := []) (mem' := fm g tp bt a b) (fun _ _ _ => rfl) ?_
                        rw [show (fx_cb .ge 27 28) = false from by decide]
                        dsimp only [cond]
                        refine fe_s 1 (pc' := 77) (lc' := [(6, .int 27), (5, .int 0), (4, .int 28), (3, .int 22), (2, .int 4), (0, .ref 0), (1, .ref 22)]) (stk' := [.int 0]) (mem' := fm g tp bt a b) (fun _ _ _ => rfl) ?_
                        refine fe_s 1 (pc' := cond (fx_cb .eq 0 0) 115 80) (lc' := [(6, .int 27), (5, .int 0), (4, .int 28), (3, .int 22), (2, .int 4), (0, .ref 0), (1, .ref 22)]) (stk' := []) (mem' := fm g tp bt a b) (fun _ _ _ => rfl) ?_
                        rw [show (fx_cb .eq 0 0) = true from by decide]
                        dsimp only [cond]
                        refine fe_s 1 (pc' := 117) (lc' := [(6, .int 27), (5, .int 0), (4, .int 28), (3, .int 22), (2, .int 4), (0, .ref 0), (1, .ref 22)]) (stk' := [.int 0]) (mem' := fm g tp bt a b) (fun _ _ _ => rfl) ?_
                        refine fe_s 1 (pc' := cond (fx_cb .eq 0 0) 122 120) (lc' := [(6, .int 27), (5, .int 0), (4, .int 28), (3, .int 22), (2, .int 4), (0, .ref 0), (1, .ref 22)]) (stk' := []) (mem' := fm g tp bt a b) (fun _ _ _ => rfl) ?_
                        rw [show (fx_cb .eq 0 0) = true from by decide]
                        dsimp only [cond]
                        refine fe_s 4 (pc' := 129) (lc' := [(2, .int (4 + 1)), (6, .int 27), (5, .int 0), (4, .int 28), (3, .int 22), (0, .ref 0), (1, .ref 22)]) (stk' := [.int (28 + 1)]) (mem' := fm g tp bt a b) (fun _ _ _ => rfl) ?_
                        rw [show (4 + 1 : Int32) = 5 from rfl]
                        rw [show (28 + 1 : Int32) = 29 from rfl]
                        refine fe_s 1 (pc' := 130) (lc' := [(3, .int 29), (2, .int 5), (6, .int 27), (5, .int 0), (4, .int 28), (0, .ref 0), (1, .ref 22)]) (stk' := []) (mem' := fm g tp bt a b) (fun _ _ _ => rfl) ?_
                        refine fe_s 1 (pc' := fx_to 130 (-116)) (lc' := [(3, .int 29), (2, .int 5), (6, .int 27), (5, .int 0), (4, .int 28), (0, .ref 0), (1, .ref 22)]) (stk' := []) (mem' := fm g tp bt a b) (fun _ _ _ => rfl) ?_
                        rw [show fx_to 130 (-116) = 14 from by decide]
                        refine fe_w (lc' := [(3, .int 29), (2, .int 5), (0, .ref 0), (1, .ref 22)]) ⟨rfl, rfl, rfl, rfl, trivial⟩ (by show List.Nodup [3, 2, 0, 1]; decide) (by show List.Nodup [3, 2, 6, 5, 4, 0, 1]; decide) ?_
                        exact fw_5 hxp
                  · rw [show (fx_cb .ne 107 (nI n14)) = true from cb_neT (a := 107) (b := n14) (by omega) (by omega) (by omega)]
                    dsimp only [cond]
                    refine fe_s 4 (pc' := 68) (lc' := [(6, .int (25 + 1)), (5, .int 0), (4, .int 28), (3, .int 22), (2, .int 4), (0, .ref 0), (1, .ref 22)]) (stk' := []) (mem' := fm g tp bt a b) (fun _ _ _ => rfl) ?_
                    rw [show (25 + 1 : Int32) = 26 from rfl]
                    refine fe_s 2 (pc' := 72) (lc' := [(6, .int 26), (5, .int 0), (4, .int 28), (3, .int 22), (2, .int 4), (0, .ref 0), (1, .ref 22)]) (stk' := [.int 28, .int 26]) (mem' := fm g tp bt a b) (fun _ _ _ => rfl) ?_
                    refine fe_s 1 (pc' := cond (fx_cb .ge 26 28) 115 75) (lc' := [(6, .int 26), (5, .int 0), (4, .int 28), (3, .int 22), (2, .int 4), (0, .ref 0), (1, .ref 22)]) (stk' := []) (mem' := fm g tp bt a b) (fun _ _ _ => rfl) ?_
                    rw [show (fx_cb .ge 26 28) = false from by decide]
                    dsimp only [cond]
                    refine fe_s 1 (pc' := 77) (lc' := [(6, .int 26), (5, .int 0), (4, .int 28), (3, .int 22), (2, .int 4), (0, .ref 0), (1, .ref 22)]) (stk' := [.int 0]) (mem' := fm g tp bt a b) (fun _ _ _ => rfl) ?_
                    refine fe_s 1 (pc' := cond (fx_cb .eq 0 0) 115 80) (lc' := [(6, .int 26), (5, .int 0), (4, .int 28), (3, .int 22), (2, .int 4), (0, .ref 0), (1, .ref 22)]) (stk' := []) (mem' := fm g tp bt a b) (fun _ _ _ => rfl) ?_
                    rw [show (fx_cb .eq 0 0) = true from by decide]
                    dsimp only [cond]
                    refine fe_s 1 (pc' := 117) (lc' := [(6, .int 26), (5, .int 0), (4, .int 28), (3, .int 22), (2, .int 4), (0, .ref 0), (1, .ref 22)]) (stk' := [.int 0]) (mem' := fm g tp bt a b) (fun _ _ _ => rfl) ?_
                    refine fe_s 1 (pc' := cond (fx_cb .eq 0 0) 122 120) (lc' := [(6, .int 26), (5, .int 0), (4, .int 28), (3, .int 22), (2, .int 4), (0, .ref 0), (1, .ref 22)]) (stk' := []) (mem' := fm g tp bt a b) (fun _ _ _ => rfl) ?_
                    rw [show (fx_cb .eq 0 0) = true from by decide]
                    dsimp only [cond]
                    refine fe_s 4 (pc' := 129) (lc' := [(2, .int (4 + 1)), (6, .int 26), (5, .int 0), (4, .int 28), (3, .int 22), (0, .ref 0), (1, .ref 22)]) (stk' := [.int (28 + 1)]) (mem' := fm g tp bt a b) (fun _ _ _ => rfl) ?_
                    rw [show (4 + 1 : Int32) = 5 from rfl]
                    rw [show (28 + 1 : Int32) = 29 from rfl]
                    refine fe_s 1 (pc' := 130) (lc' := [(3, .int 29), (2, .int 5), (6, .int 26), (5, .int 0), (4, .int 28), (0, .ref 0), (1, .ref 22)]) (stk' := []) (mem' := fm g tp bt a b) (fun _ _ _ => rfl) ?_
                    refine fe_s 1 (pc' := fx_to 130 (-116)) (lc' := [(3, .int 29), (2, .int 5), (6, .int 26), (5, .int 0), (4, .int 28), (0, .ref 0), (1, .ref 22)]) (stk' := []) (mem' := fm g tp bt a b) (fun _ _ _ => rfl) ?_
                    rw [show fx_to 130 (-116) = 14 from by decide]
                    refine fe_w (lc' := [(3, .int 29), (2, .int 5), (0, .ref 0), (1, .ref 22)]) ⟨rfl, rfl, rfl, rfl, trivial⟩ (by show List.Nodup [3, 2, 0, 1]; decide) (by show List.Nodup [3, 2, 6, 5, 4, 0, 1]; decide) ?_
                    exact fw_5 hxp
              · rw [show (fx_cb .ne 108 (nI n10)) = true from cb_neT (a := 108) (b := n10) (by omega) (by omega) (by omega)]
                dsimp only [cond]
                refine fe_s 4 (pc' := 68) (lc' := [(6, .int (24 + 1)), (5, .int 0), (4, .int 28), (3, .int 22), (2, .int 4), (0, .ref 0), (1, .ref 22)]) (stk' := []) (mem' := fm g tp bt a b) (fun _ _ _ => rfl) ?_
                rw [show (24 + 1 : Int32) = 25 from rfl]
                refine fe_s 2 (pc' := 72) (lc' := [(6, .int 25), (5, .int 0), (4, .int 28), (3, .int 22), (2, .int 4), (0, .ref 0), (1, .ref 22)]) (stk' := [.int 28, .int 25]) (mem' := fm g tp bt a b) (fun _ _ _ => rfl) ?_
                refine fe_s 1 (pc' := cond (fx_cb .ge 25 28) 115 75) (lc' := [(6, .int 25), (5, .int 0), (4, .int 28), (3, .int 22), (2, .int 4), (0, .ref 0), (1, .ref 22)]) (stk' := []) (mem' := fm g tp bt a b) (fun _ _ _ => rfl) ?_
                rw [show (fx_cb .ge 25 28) = false from by decide]
                dsimp only [cond]
                refine fe_s 1 (pc' := 77) (lc' := [(6, .int 25), (5, .int 0), (4, .int 28), (3, .int 22), (2, .int 4), (0, .ref 0), (1, .ref 22)]) (stk' := [.int 0]) (mem' := fm g tp bt a b) (fun _ _ _ => rfl) ?_
                refine fe_s 1 (pc' := cond (fx_cb .eq 0 0) 115 80) (lc' := [(6, .int 25), (5, .int 0), (4, .int 28), (3, .int 22), (2, .int 4), (0, .ref 0), (1, .ref 22)]) (stk' := []) (mem' := fm g tp bt a b) (fun _ _ _ => rfl) ?_
                rw [show (fx_cb .eq 0 0) = true from by decide]
                dsimp only [cond]
                refine fe_s 1 (pc' := 117) (lc' := [(6, .int 25), (5, .int 0), (4, .int 28), (3, .int 22), (2, .int 4), (0, .ref 0), (1, .ref 22)]) (stk' := [.int 0]) (mem' := fm g tp bt a b) (fun _ _ _ => rfl) ?_
                refine fe_s 1 (pc' := cond (fx_cb .eq 0 0) 122 120) (lc' := [(6, .int 25), (5, .int 0), (4, .int 28), (3, .int 22), (2, .int 4), (0, .ref 0), (1, .ref 22)]) (stk' := []) (mem' := fm g tp bt a b) (fun _ _ _ => rfl) ?_
                rw [show (fx_cb .eq 0 0) = true from by decide]
                dsimp only [cond]
                refine fe_s 4 (pc' := 129) (lc' := [(2, .int (4 + 1)), (6, .int 25), (5, .int 0), (4, .int 28), (3, .int 22), (0, .ref 0), (1, .ref 22)]) (stk' := [.int (28 + 1)]) (mem' := fm g tp bt a b) (fun _ _ _ => rfl) ?_
                rw [show (4 + 1 : Int32) = 5 from rfl]
                rw [show (28 + 1 : Int32) = 29 from rfl]
                refine fe_s 1 (pc' := 130) (lc' := [(3, .int 29), (2, .int 5), (6, .int 25), (5, .int 0), (4, .int 28), (0, .ref 0), (1, .ref 22)]) (stk' := []) (mem' := fm g tp bt a b) (fun _ _ _ => rfl) ?_
                refine fe_s 1 (pc' := fx_to 130 (-116)) (lc' := [(3, .int 29), (2, .int 5), (6, .int 25), (5, .int 0), (4, .int 28), (0, .ref 0), (1, .ref 22)]) (stk' := []) (mem' := fm g tp bt a b) (fun _ _ _ => rfl) ?_
                rw [show fx_to 130 (-116) = 14 from by decide]
                refine fe_w (lc' := [(3, .int 29), (2, .int 5), (0, .ref 0), (1, .ref 22)]) ⟨rfl, rfl, rfl, rfl, trivial⟩ (by show List.Nodup [3, 2, 0, 1]; decide) (by show List.Nodup [3, 2, 6, 5, 4, 0, 1]; decide) ?_
                exact fw_5 hxp
          · rw [show (fx_cb .ne 97 (nI n6)) = true from cb_neT (a := 97) (b := n6) (by omega) (by omega) (by omega)]
            dsimp only [cond]
            refine fe_s 4 (pc' := 68) (lc' := [(6, .int (23 + 1)), (5, .int 0), (4, .int 28), (3, .int 22), (2, .int 4), (0, .ref 0), (1, .ref 22)]) (stk' := []) (mem' := fm g tp bt a b) (fun _ _ _ => rfl) ?_
            rw [show (23 + 1 : Int32) = 24 from rfl]
            refine fe_s 2 (pc' := 72) (lc' := [(6, .int 24), (5, .int 0), (4, .int 28), (3, .int 22), (2, .int 4), (0, .ref 0), (1, .ref 22)]) (stk' := [.int 28, .int 24]) (mem' := fm g tp bt a b) (fun _ _ _ => rfl) ?_
            refine fe_s 1 (pc' := cond (fx_cb .ge 24 28) 115 75) (lc' := [(6, .int 24), (5, .int 0), (4, .int 28), (3, .int 22), (2, .int 4), (0, .ref 0), (1, .ref 22)]) (stk' := []) (mem' := fm g tp bt a b) (fun _ _ _ => rfl) ?_
            rw [show (fx_cb .ge 24 28) = false from by decide]
            dsimp only [cond]
            refine fe_s 1 (pc' := 77) (lc' := [(6, .int 24), (5, .int 0), (4, .int 28), (3, .int 22), (2, .int 4), (0, .ref 0), (1, .ref 22)]) (stk' := [.int 0]) (mem' := fm g tp bt a b) (fun _ _ _ => rfl) ?_
            refine fe_s 1 (pc' := cond (fx_cb .eq 0 0) 115 80) (lc' := [(6, .int 24), (5, .int 0), (4, .int 28), (3, .int 22), (2, .int 4), (0, .ref 0), (1, .ref 22)]) (stk' := []) (mem' := fm g tp bt a b) (fun _ _ _ => rfl) ?_
            rw [show (fx_cb .eq 0 0) = true from by decide]
            dsimp only [cond]
            refine fe_s 1 (pc' := 117) (lc' := [(6, .int 24), (5, .int 0), (4, .int 28), (3, .int 22), (2, .int 4), (0, .ref 0), (1, .ref 22)]) (stk' := [.int 0]) (mem' := fm g tp bt a b) (fun _ _ _ => rfl) ?_
            refine fe_s 1 (pc' := cond (fx_cb .eq 0 0) 122 120) (lc' := [(6, .int 24), (5, .int 0), (4, .int 28), (3, .int 22), (2, .int 4), (0, .ref 0), (1, .ref 22)]) (stk' := []) (mem' := fm g tp bt a b) (fun _ _ _ => rfl) ?_
            rw [show (fx_cb .eq 0 0) = true from by decide]
            dsimp only [cond]
            refine fe_s 4 (pc' := 129) (lc' := [(2, .int (4 + 1)), (6, .int 24), (5, .int 0), (4, .int 28), (3, .int 22), (0, .ref 0), (1, .ref 22)]) (stk' := [.int (28 + 1)]) (mem' := fm g tp bt a b) (fun _ _ _ => rfl) ?_
            rw [show (4 + 1 : Int32) = 5 from rfl]
            rw [show (28 + 1 : Int32) = 29 from rfl]
            refine fe_s 1 (pc' := 130) (lc' := [(3, .int 29), (2, .int 5), (6, .int 24), (5, .int 0), (4, .int 28), (0, .ref 0), (1, .ref 22)]) (stk' := []) (mem' := fm g tp bt a b) (fun _ _ _ => rfl) ?_
            refine fe_s 1 (pc' := fx_to 130 (-116)) (lc' := [(3, .int 29), (2, .int 5), (6, .int 24), (5, .int 0), (4, .int 28), (0, .ref 0), (1, .ref 22)]) (stk' := []) (mem' := fm g tp bt a b) (fun _ _ _ => rfl) ?_
            rw [show fx_to 130 (-116) = 14 from by decide]
            refine fe_w (lc' := [(3, .int 29), (2, .int 5), (0, .ref 0), (1, .ref 22)]) ⟨rfl, rfl, rfl, rfl, trivial⟩ (by show List.Nodup [3, 2, 0, 1]; decide) (by show List.Nodup [3, 2, 6, 5, 4, 0, 1]; decide) ?_
            exact fw_5 hxp
      · rw [show (fx_cb .ne 119 (nI n2)) = true from cb_neT (a := 119) (b := n2) (by omega) (by omega) (by omega)]
        dsimp only [cond]
        refine fe_s 4 (pc' := 68) (lc' := [(6, .int (22 + 1)), (5, .int 0), (4, .int 28), (3, .int 22), (2, .int 4), (0, .ref 0), (1, .ref 22)]) (stk' := []) (mem' := fm g tp bt a b) (fun _ _ _ => rfl) ?_
        rw [show (22 + 1 : Int32) = 23 from rfl]
        refine fe_s 2 (pc' := 72) (lc' := [(6, .int 23), (5, .int 0), (4, .int 28), (3, .int 22), (2, .int 4), (0, .ref 0), (1, .ref 22)]) (stk' := [.int 28, .int 23]) (mem' := fm g tp bt a b) (fun _ _ _ => rfl) ?_
        refine fe_s 1 (pc' := cond (fx_cb .ge 23 28) 115 75) (lc' := [(6, .int 23), (5, .int 0), (4, .int 28), (3, .int 22), (2, .int 4), (0, .ref 0), (1, .ref 22)]) (stk' := []) (mem' := fm g tp bt a b) (fun _ _ _ => rfl) ?_
        rw [show (fx_cb .ge 23 28) = false from by decide]
        dsimp only [cond]
        refine fe_s 1 (pc' := 77) (lc' := [(6, .int 23), (5, .int 0), (4, .int 28), (3, .int 22), (2, .int 4), (0, .ref 0), (1, .ref 22)]) (stk' := [.int 0]) (mem' := fm g tp bt a b) (fun _ _ _ => rfl) ?_
        refine fe_s 1 (pc' := cond (fx_cb .eq 0 0) 115 80) (lc' := [(6, .int 23), (5, .int 0), (4, .int 28), (3, .int 22), (2, .int 4), (0, .ref 0), (1, .ref 22)]) (stk' := []) (mem' := fm g tp bt a b) (fun _ _ _ => rfl) ?_
        rw [show (fx_cb .eq 0 0) = true from by decide]
        dsimp only [cond]
        refine fe_s 1 (pc' := 117) (lc' := [(6, .int 23), (5, .int 0), (4, .int 28), (3, .int 22), (2, .int 4), (0, .ref 0), (1, .ref 22)]) (stk' := [.int 0]) (mem' := fm g tp bt a b) (fun _ _ _ => rfl) ?_
        refine fe_s 1 (pc' := cond (fx_cb .eq 0 0) 122 120) (lc' := [(6, .int 23), (5, .int 0), (4, .int 28), (3, .int 22), (2, .int 4), (0, .ref 0), (1, .ref 22)]) (stk' := []) (mem' := fm g tp bt a b) (fun _ _ _ => rfl) ?_
        rw [show (fx_cb .eq 0 0) = true from by decide]
        dsimp only [cond]
        refine fe_s 4 (pc' := 129) (lc' := [(2, .int (4 + 1)), (6, .int 23), (5, .int 0), (4, .int 28), (3, .int 22), (0, .ref 0), (1, .ref 22)]) (stk' := [.int (28 + 1)]) (mem' := fm g tp bt a b) (fun _ _ _ => rfl) ?_
        rw [show (4 + 1 : Int32) = 5 from rfl]
        rw [show (28 + 1 : Int32) = 29 from rfl]
        refine fe_s 1 (pc' := 130) (lc' := [(3, .int 29), (2, .int 5), (6, .int 23), (5, .int 0), (4, .int 28), (0, .ref 0), (1, .ref 22)]) (stk' := []) (mem' := fm g tp bt a b) (fun _ _ _ => rfl) ?_
        refine fe_s 1 (pc' := fx_to 130 (-116)) (lc' := [(3, .int 29), (2, .int 5), (6, .int 23), (5, .int 0), (4, .int 28), (0, .ref 0), (1, .ref 22)]) (stk' := []) (mem' := fm g tp bt a b) (fun _ _ _ => rfl) ?_
        rw [show fx_to 130 (-116) = 14 from by decide]
        refine fe_w (lc' := [(3, .int 29), (2, .int 5), (0, .ref 0), (1, .ref 22)]) ⟨rfl, rfl, rfl, rfl, trivial⟩ (by show List.Nodup [3, 2, 0, 1]; decide) (by show List.Nodup [3, 2, 6, 5, 4, 0, 1]; decide) ?_
        exact fw_5 hxp
  · rw [show (fx_cb .ne 6 (nI (E - F))) = true from cb_neT (a := 6) (b := E - F) (by omega) (by omega) (by omega)]
    dsimp only [cond]
    refine fe_s 4 (pc' := 68) (lc' := [(6, .int 22), (5, .int 0), (4, .int 28), (3, .int 22), (2, .int 4), (0, .ref 0), (1, .ref 22)]) (stk' := []) (mem' := fm g tp bt a b) (fun _ _ _ => rfl) ?_
    refine fe_s 2 (pc' := 72) (lc' := [(6, .int 22), (5, .int 0), (4, .int 28), (3, .int 22), (2, .int 4), (0, .ref 0), (1, .ref 22)]) (stk' := [.int 28, .int 22]) (mem' := fm g tp bt a b) (fun _ _ _ => rfl) ?_
    refine fe_s 1 (pc' := cond (fx_cb .ge 22 28) 115 75) (lc' := [(6, .int 22), (5, .int 0), (4, .int 28), (3, .int 22), (2, .int 4), (0, .ref 0), (1, .ref 22)]) (stk' := []) (mem' := fm g tp bt a b) (fun _ _ _ => rfl) ?_
    rw [show (fx_cb .ge 22 28) = false from by decide]
    dsimp only [cond]
    refine fe_s 1 (pc' := 77) (lc' := [(6, .int 22), (5, .int 0), (4, .int 28), (3, .int 22), (2, .int 4), (0, .ref 0), (1, .ref 22)]) (stk' := [.int 0]) (mem' := fm g tp bt a b) (fun _ _ _ => rfl) ?_
    refine fe_s 1 (pc' := cond (fx_cb .eq 0 0) 115 80) (lc' := [(6, .int 22), (5, .int 0), (4, .int 28), (3, .int 22), (2, .int 4), (0, .ref 0), (1, .ref 22)]) (stk' := []) (mem' := fm g tp bt a b) (fun _ _ _ => rfl) ?_
    rw [show (fx_cb .eq 0 0) = true from by decide]
    dsimp only [cond]
    refine fe_s 1 (pc' := 117) (lc' := [(6, .int 22), (5, .int 0), (4, .int 28), (3, .int 22), (2, .int 4), (0, .ref 0), (1, .ref 22)]) (stk' := [.int 0]) (mem' := fm g tp bt a b) (fun _ _ _ => rfl) ?_
    refine fe_s 1 (pc' := cond (fx_cb .eq 0 0) 122 120) (lc' := [(6, .int 22), (5, .int 0), (4, .int 28), (3, .int 22), (2, .int 4), (0, .ref 0), (1, .ref 22)]) (stk' := []) (mem' := fm g tp bt a b) (fun _ _ _ => rfl) ?_
    rw [show (fx_cb .eq 0 0) = true from by decide]
    dsimp only [cond]
    refine fe_s 4 (pc' := 129) (lc' := [(2, .int (4 + 1)), (6, .int 22), (5, .int 0), (4, .int 28), (3, .int 22), (0, .ref 0), (1, .ref 22)]) (stk' := [.int (28 + 1)]) (mem' := fm g tp bt a b) (fun _ _ _ => rfl) ?_
    rw [show (4 + 1 : Int32) = 5 from rfl]
    rw [show (28 + 1 : Int32) = 29 from rfl]
    refine fe_s 1 (pc' := 130) (lc' := [(3, .int 29), (2, .int 5), (6, .int 22), (5, .int 0), (4, .int 28), (0, .ref 0), (1, .ref 22)]) (stk' := []) (mem' := fm g tp bt a b) (fun _ _ _ => rfl) ?_
    refine fe_s 1 (pc' := fx_to 130 (-116)) (lc' := [(3, .int 29), (2, .int 5), (6, .int 22), (5, .int 0), (4, .int 28), (0, .ref 0), (1, .ref 22)]) (stk' := []) (mem' := fm g tp bt a b) (fun _ _ _ => rfl) ?_
    rw [show fx_to 130 (-116) = 14 from by decide]
    refine fe_w (lc' := [(3, .int 29), (2, .int 5), (0, .ref 0), (1, .ref 22)]) ⟨rfl, rfl, rfl, rfl, trivial⟩ (by show List.Nodup [3, 2, 0, 1]; decide) (by show List.Nodup [3, 2, 6, 5, 4, 0, 1]; decide) ?_
    exact fw_5 hxp
theorem fw_3 {S E F : Nat} (hxp : fm_xp g S E F) : fe_R 1 gk_m226 14 [(3, .int 15), (2, .int 3), (0, .ref 0), (1, .ref 22)] [] (fm g tp bt a b) (fm_FI (fm g tp bt a b)) := by
  obtain ⟨h11, hS9, h14, hES, h13, hFE, -, -, -⟩ := id hxp
  refine fe_s 2 (pc' := 16) (lc' := [(3, .int 15), (2, .int 3), (0, .ref 0), (1, .ref 22)]) (stk' := [.ref 22, .int 15]) (mem' := fm g tp bt a b) (fun _ _ _ => rfl) ?_
  refine fe_s 1 (pc' := 19) (lc' := [(3, .int 15), (2, .int 3), (0, .ref 0), (1, .ref 22)]) (stk' := [.int 117, .int 15]) (mem' := fm g tp bt a b) (fun _ _ _ => rfl) ?_
  refine fe_s 1 (pc' := cond (fx_cb .ge 15 117) 133 22) (lc' := [(3, .int 15), (2, .int 3), (0, .ref 0), (1, .ref 22)]) (stk' := []) (mem' := fm g tp bt a b) (fun _ _ _ => rfl) ?_
  rw [show (fx_cb .ge 15 117) = false from by decide]
  dsimp only [cond]
  refine fe_s 4 (pc' := 28) (lc' := [(4, .int 15), (3, .int 15), (2, .int 3), (0, .ref 0), (1, .ref 22)]) (stk' := [.int 15, .ref 22]) (mem' := fm g tp bt a b) (fun _ _ _ => rfl) ?_
  refine fe_chr (i := 15) (by omega) (by rfl) (by rfl) ⟨by rfl, by rfl⟩ (by rfl) ?_
  rw [show sk_b.getD 15 0 = 98 from rfl]
  refine fe_s 1 (pc' := 33) (lc' := [(4, .int 15), (3, .int 15), (2, .int 3), (0, .ref 0), (1, .ref 22)]) (stk' := [.int 32, .int 98]) (mem' := fm g tp bt a b) (fun _ _ _ => rfl) ?_
  refine fe_s 1 (pc' := cond (fx_cb .eq 98 32) 42 36) (lc' := [(4, .int 15), (3, .int 15), (2, .int 3), (0, .ref 0), (1, .ref 22)]) (stk' := []) (mem' := fm g tp bt a b) (fun _ _ _ => rfl) ?_
  rw [show (fx_cb .eq 98 32) = false from by decide]
  dsimp only [cond]
  refine fe_s 4 (pc' := 28) (lc' := [(4, .int (15 + 1)), (3, .int 15), (2, .int 3), (0, .ref 0), (1, .ref 22)]) (stk' := [.int (15 + 1), .ref 22]) (mem' := fm g tp bt a b) (fun _ _ _ => rfl) ?_
  rw [show (15 + 1 : Int32) = 16 from rfl]
  refine fe_chr (i := 16) (by omega) (by rfl) (by rfl) ⟨by rfl, by rfl⟩ (by rfl) ?_
  rw [show sk_b.getD 16 0 = 101 from rfl]
  refine fe_s 1 (pc' := 33) (lc' := [(4, .int 16), (3, .int 15), (2, .int 3), (0, .ref 0), (1, .ref 22)]) (stk' := [.int 32, .int 101]) (mem' := fm g tp bt a b) (fun _ _ _ => rfl) ?_
  refine fe_s 1 (pc' := cond (fx_cb .eq 101 32) 42 36) (lc' := [(4, .int 16), (3, .int 15), (2, .int 3), (0, .ref 0), (1, .ref 22)]) (stk' := []) (mem' := fm g tp bt a b) (fun _ _ _ => rfl) ?_
  rw [show (fx_cb .eq 101 32) = false from by decide]
  dsimp only [cond]
  refine fe_s 4 (pc' := 28) (lc' := [(4, .int (16 + 1)), (3, .int 15), (2, .int 3), (0, .ref 0), (1, .ref 22)]) (stk' := [.int (16 + 1), .ref 22]) (mem' := fm g tp bt a b) (fun _ _ _ => rfl) ?_
  rw [show (16 + 1 : Int32) = 17 from rfl]
  refine fe_chr (i := 17) (by omega) (by rfl) (by rfl) ⟨by rfl, by rfl⟩ (by rfl) ?_
  rw [show sk_b.getD 17 0 = 115 from rfl]
  refine fe_s 1 (pc' := 33) (lc' := [(4, .int 17), (3, .int 15), (2, .int 3), (0, .ref 0), (1, .ref 22)]) (stk' := [.int 32, .int 115]) (mem' := fm g tp bt a b) (fun _ _ _ => rfl) ?_
  refine fe_s 1 (pc' := cond (fx_cb .eq 115 32) 42 36) (lc' := [(4, .int 17), (3, .int 15), (2, .int 3), (0, .ref 0), (1, .ref 22)]) (stk' := []) (mem' := fm g tp bt a b) (fun _ _ _ => rfl) ?_
  rw [show (fx_cb .eq 115 32) = false from by decide]
  dsimp only [cond]
  refine fe_s 4 (pc' := 28) (lc' := [(4, .int (17 + 1)), (3, .int 15), (2, .int 3), (0, .ref 0), (1, .ref 22)]) (stk' := [.int (17 + 1), .ref 22]) (mem' := fm g tp bt a b) (fun _ _ _ => rfl) ?_
  rw [show (17 + 1 : Int32) = 18 from rfl]
  refine fe_chr (i := 18) (by omega) (by rfl) (by rfl) ⟨by rfl, by rfl⟩ (by rfl) ?_
  rw [show sk_b.getD 18 0 = 105 from rfl]
  refine fe_s 1 (pc' := 33) (lc' := [(4, .int 18), (3, .int 15), (2, .int 3), (0, .ref 0), (1, .ref 22)]) (stk' := [.int 32, .int 105]) (mem' := fm g tp bt a b) (fun _ _ _ => rfl) ?_
  refine fe_s 1 (pc' := cond (fx_cb .eq 105 32) 42 36) (lc' := [(4, .int 18), (3, .int 15), (2, .int 3), (0, .ref 0), (1, .ref 22)]) (stk' := []) (mem' := fm g tp bt a b) (fun _ _ _ => rfl) ?_
  rw [show (fx_cb .eq 105 32) = false from by decide]
  dsimp only [cond]
  refine fe_s 4 (pc' := 28) (lc' := [(4, .int (18 + 1)), (3, .int 15), (2, .int 3), (0, .ref 0), (1, .ref 22)]) (stk' := [.int (18 + 1), .ref 22]) (mem' := fm g tp bt a b) (fun _ _ _ => rfl) ?_
  rw [show (18 + 1 : Int32) = 19 from rfl]
  refine fe_chr (i := 19) (by omega) (by rfl) (by rfl) ⟨by rfl, by rfl⟩ (by rfl) ?_
  rw [show sk_b.getD 19 0 = 100 from rfl]
  refine fe_s 1 (pc' := 33) (lc' := [(4, .int 19), (3, .int 15), (2, .int 3), (0, .ref 0), (1, .ref 22)]) (stk' := [.int 32, .int 100]) (mem' := fm g tp bt a b) (fun _ _ _ => rfl) ?_
  refine fe_s 1 (pc' := cond (fx_cb .eq 100 32) 42 36) (lc' := [(4, .int 19), (3, .int 15), (2, .int 3), (0, .ref 0), (1, .ref 22)]) (stk' := []) (mem' := fm g tp bt a b) (fun _ _ _ => rfl) ?_
  rw [show (fx_cb .eq 100 32) = false from by decide]
  dsimp only [cond]
  refine fe_s 4 (pc' := 28) (lc' := [(4, .int (19 + 1)), (3, .int 15), (2, .int 3), (0, .ref 0), (1, .ref 22)]) (stk' := [.int (19 + 1), .ref 22]) (mem' := fm g tp bt a b) (fun _ _ _ => rfl) ?_
  rw [show (19 + 1 : Int32) = 20 from rfl]
  refine fe_chr (i := 20) (by omega) (by rfl) (by rfl) ⟨by rfl, by rfl⟩ (by rfl) ?_
  rw [show sk_b.getD 20 0 = 101 from rfl]
  refine fe_s 1 (pc' := 33) (lc' := [(4, .int 20), (3, .int 15), (2, .int 3), (0, .ref 0), (1, .ref 22)]) (stk' := [.int 32, .int 101]) (mem' := fm g tp bt a b) (fun _ _ _ => rfl) ?_
  refine fe_s 1 (pc' := cond (fx_cb .eq 101 32) 42 36) (lc' := [(4, .int 20), (3, .int 15), (2, .int 3), (0, .ref 0), (1, .ref 22)]) (stk' := []) (mem' := fm g tp bt a b) (fun _ _ _ => rfl) ?_
  rw [show (fx_cb .eq 101 32) = false from by decide]
  dsimp only [cond]
  refine fe_s 4 (pc' := 28) (lc' := [(4, .int (20 + 1)), (3, .int 15), (2, .int 3), (0, .ref 0), (1, .ref 22)]) (stk' := [.int (20 + 1), .ref 22]) (mem' := fm g tp bt a b) (fun _ _ _ => rfl) ?_
  rw [show (20 + 1 : Int32) = 21 from rfl]
  refine fe_chr (i := 21) (by omega) (by rfl) (by rfl) ⟨by rfl, by rfl⟩ (by rfl) ?_
  rw [show sk_b.getD 21 0 = 32 from rfl]
  refine fe_s 1 (pc' := 33) (lc' := [(4, .int 21), (3, .int 15), (2, .int 3), (0, .ref 0), (1, .ref 22)]) (stk' := [.int 32, .int 32]) (mem' := fm g tp bt a b) (fun _ _ _ => rfl) ?_
  refine fe_s 1 (pc' := cond (fx_cb .eq 32 32) 42 36) (lc' := [(4, .int 21), (3, .int 15), (2, .int 3), (0, .ref 0), (1, .ref 22)]) (stk' := []) (mem' := fm g tp bt a b) (fun _ _ _ => rfl) ?_
  rw [show (fx_cb .eq 32 32) = true from by decide]
  dsimp only [cond]
  refine fe_s 4 (pc' := 47) (lc' := [(4, .int 21), (3, .int 15), (2, .int 3), (0, .ref 0), (1, .ref 22)]) (stk' := [.ref 0, .int (21 - 15)]) (mem' := fm g tp bt a b) (fun _ _ _ => rfl) ?_
  rw [show (21 - 15 : Int32) = 6 from rfl]
  refine fe_s 4 (pc' := 55) (lc' := [(4, .int 21), (3, .int 15), (2, .int 3), (0, .ref 0), (1, .ref 22)]) (stk' := [.int ((g 14) - (g 13)), .int 6]) (mem' := fm g tp bt a b) (fun _ _ _ => rfl) ?_
  try rw [h14]
  try rw [h13]
  rw [show ((nI E) - (nI F) : Int32) = nI (E - F) from by simp only [tg_sub2 (x := E) (y := F) (by omega), nI_add, fm_mul]]
  refine fe_s 1 (pc' := cond (fx_cb .ne 6 (nI (E - F))) 62 58) (lc' := [(4, .int 21), (3, .int 15), (2, .int 3), (0, .ref 0), (1, .ref 22)]) (stk' := []) (mem' := fm g tp bt a b) (fun _ _ _ => rfl) ?_
  by_cases h1 : 6 = (E - F)
  · rw [show (fx_cb .ne 6 (nI (E - F))) = false from cb_neF (a := 6) (b := E - F) (by omega) (by omega) (by omega)]
    dsimp only [cond]
    refine fe_s 4 (pc' := 66) (lc' := [(5, .int 1), (4, .int 21), (3, .int 15), (2, .int 3), (0, .ref 0), (1, .ref 22)]) (stk' := [.int 15]) (mem' := fm g tp bt a b) (fun _ _ _ => rfl) ?_
    refine fe_s 3 (pc' := 72) (lc' := [(6, .int 15), (5, .int 1), (4, .int 21), (3, .int 15), (2, .int 3), (0, .ref 0), (1, .ref 22)]) (stk' := [.int 21, .int 15]) (mem' := fm g tp bt a b) (fun _ _ _ => rfl) ?_
    refine fe_s 1 (pc' := cond (fx_cb .ge 15 21) 115 75) (lc' := [(6, .int 15), (5, .int 1), (4, .int 21), (3, .int 15), (2, .int 3), (0, .ref 0), (1, .ref 22)]) (stk' := []) (mem' := fm g tp bt a b) (fun _ _ _ => rfl) ?_
    rw [show (fx_cb .ge 15 21) = false from by decide]
    dsimp only [cond]
    refine fe_s 1 (pc' := 77) (lc' := [(6, .int 15), (5, .int 1), (4, .int 21), (3, .int 15), (2, .int 3), (0, .ref 0), (1, .ref 22)]) (stk' := [.int 1]) (mem' := fm g tp bt a b) (fun _ _ _ => rfl) ?_
    refine fe_s 1 (pc' := cond (fx_cb .eq 1 0) 115 80) (lc' := [(6, .int 15), (5, .int 1), (4, .int 21), (3, .int 15), (2, .int 3), (0, .ref 0), (1, .ref 22)]) (stk' := []) (mem' := fm g tp bt a b) (fun _ _ _ => rfl) ?_
    rw [show (fx_cb .eq 1 0) = false from by decide]
    dsimp only [cond]
    refine fe_s 2 (pc' := 83) (lc' := [(6, .int 15), (5, .int 1), (4, .int 21), (3, .int 15), (2, .int 3), (0, .ref 0), (1, .ref 22)]) (stk' := [.int 15, .ref 22]) (mem' := fm g tp bt a b) (fun _ _ _ => rfl) ?_
    refine fe_chr (i := 15) (by omega) (by rfl) (by rfl) ⟨by rfl, by rfl⟩ (by rfl) ?_
    rw [show sk_b.getD 15 0 = 98 from rfl]
    refine fe_s 4 (pc' := 93) (lc' := [(6, .int 15), (5, .int 1), (4, .int 21), (3, .int 15), (2, .int 3), (0, .ref 0), (1, .ref 22)]) (stk' := [.int 15, .int (g 13), .ref 0, .int 98]) (mem' := fm g tp bt a b) (fun _ _ _ => rfl) ?_
    try rw [h13]
    refine fe_s 3 (pc' := 96) (lc' := [(6, .int 15), (5, .int 1), (4, .int 21), (3, .int 15), (2, .int 3), (0, .ref 0), (1, .ref 22)]) (stk' := [.int (((nI F) + 15) - 15), .ref 0, .int 98]) (mem' := fm g tp bt a b) (fun _ _ _ => rfl) ?_
    rw [show (((nI F) + 15) - 15 : Int32) = nI ((F + 15) - 15) from by simp only [show (15 : Int32) = nI 15 from rfl, tg_sub2 (x := F + 15) (y := 15) (by omega), nI_add, fm_mul]]
    refine fe_ivV (fr_byteAt (S := S) (k := (F + 15) - 15) (g := g) (tp := tp) (bt := bt) (a := a) (b := b) h11 (by omega) (by omega)) (by omega) (by rfl) (by rfl) (by rfl) (by rfl) (by rfl) (by rfl) ?_
    rcases fm_byte_or a S ((F + 15) - 15) with ⟨e3, q4⟩ | ⟨q4, n2, qn2, e3⟩
    · rw [e3]
      refine fe_s 1 (pc' := cond (fx_cb .ne 98 (-1)) 106 102) (lc' := [(6, .int 15), (5, .int 1), (4, .int 21), (3, .int 15), (2, .int 3), (0, .ref 0), (1, .ref 22)]) (stk' := []) (mem' := fm g tp bt a b) (fun _ _ _ => rfl) ?_
      rw [show (fx_cb .ne 98 (-1)) = true from by decide]
      dsimp only [cond]
      refine fe_s 4 (pc' := 68) (lc' := [(6, .int (15 + 1)), (5, .int 0), (4, .int 21), (3, .int 15), (2, .int 3), (0, .ref 0), (1, .ref 22)]) (stk' := []) (mem' := fm g tp bt a b) (fun _ _ _ => rfl) ?_
      rw [show (15 + 1 : Int32) = 16 from rfl]
      refine fe_s 2 (pc' := 72) (lc' := [(6, .int 16), (5, .int 0), (4, .int 21), (3, .int 15), (2, .int 3), (0, .ref 0), (1, .ref 22)]) (stk' := [.int 21, .int 16]) (mem' := fm g tp bt a b) (fun _ _ _ => rfl) ?_
      refine fe_s 1 (pc' := cond (fx_cb .ge 16 21) 115 75) (lc' := [(6, .int 16), (5, .int 0), (4, .int 21), (3, .int 15), (2, .int 3), (0, .ref 0), (1, .ref 22)]) (stk' := []) (mem' := fm g tp bt a b) (fun _ _ _ => rfl) ?_
      rw [show (fx_cb .ge 16 21) = false from by decide]
      dsimp only [cond]
      refine fe_s 1 (pc' := 77) (lc' := [(6, .int 16), (5, .int 0), (4, .int 21), (3, .int 15), (2, .int 3), (0, .ref 0), (1, .ref 22)]) (stk' := [.int 0]) (mem' := fm g tp bt a b) (fun _ _ _ => rfl) ?_
      refine fe_s 1 (pc' := cond (fx_cb .eq 0 0) 115 80) (lc' := [(6, .int 16), (5, .int 0), (4, .int 21), (3, .int 15), (2, .int 3), (0, .ref 0), (1, .ref 22)]) (stk' := []) (mem' := fm g tp bt a b) (fun _ _ _ => rfl) ?_
      rw [show (fx_cb .eq 0 0) = true from by decide]
      dsimp only [cond]
      refine fe_s 1 (pc' := 117) (lc' := [(6, .int 16), (5, .int 0), (4, .int 21), (3, .int 15), (2, .int 3), (0, .ref 0), (1, .ref 22)]) (stk' := [.int 0]) (mem' := fm g tp bt a b) (fun _ _ _ => rfl) ?_
      refine fe_s 1 (pc' := cond (fx_cb .eq 0 0) 122 120) (lc' := [(6, .int 16), (5, .int 0), (4, .int 21), (3, .int 15), (2, .int 3), (0, .ref 0), (1, .ref 22)]) (stk' := []) (mem' := fm g tp bt a b) (fun _ _ _ => rfl) ?_
      rw [show (fx_cb .eq 0 0) = true from by decide]
      dsimp only [cond]
      refine fe_s 4 (pc' := 129) (lc' := [(2, .int (3 + 1)), (6, .int 16), (5, .int 0), (4, .int 21), (3, .int 15), (0, .ref 0), (1, .ref 22)]) (stk' := [.int (21 + 1)]) (mem' := fm g tp bt a b) (fun _ _ _ => rfl) ?_
      rw [show (3 + 1 : Int32) = 4 from rfl]
      rw [show (21 + 1 : Int32) = 22 from rfl]
      refine fe_s 1 (pc' := 130) (lc' := [(3, .int 22), (2, .int 4), (6, .int 16), (5, .int 0), (4, .int 21), (0, .ref 0), (1, .ref 22)]) (stk' := []) (mem' := fm g tp bt a b) (fun _ _ _ => rfl) ?_
      refine fe_s 1 (pc' := fx_to 130 (-116)) (lc' := [(3, .int 22), (2, .int 4), (6, .int 16), (5, .int 0), (4, .int 21), (0, .ref 0), (1, .ref 22)]) (stk' := []) (mem' := fm g tp bt a b) (fun _ _ _ => rfl) ?_
      rw [show fx_to 130 (-116) = 14 from by decide]
      refine fe_w (lc' := [(3, .int 22), (2, .int 4), (0, .ref 0), (1, .ref 22)]) ⟨rfl, rfl, rfl, rfl, trivial⟩ (by show List.Nodup [3, 2, 0, 1]; decide) (by show List.Nodup [3, 2, 6, 5, 4, 0, 1]; decide) ?_
      exact fw_4 hxp
    · rw [e3]
      refine fe_s 1 (pc' := cond (fx_cb .ne 98 (nI n2)) 106 102) (lc' := [(6, .int 15), (5, .int 1), (4, .int 21), (3, .int 15), (2, .int 3), (0, .ref 0), (1, .ref 22)]) (stk' := []) (mem' := fm g tp bt a b) (fun _ _ _ => rfl) ?_
      by_cases h5 : 98 = n2
      · rw [show (fx_cb .ne 98 (nI n2)) = false from cb_neF (a := 98) (b := n2) (by omega) (by omega) (by omega)]
        dsimp only [cond]
        refine fe_s 4 (pc' := 112) (lc' := [(6, .int (15 + 1)), (5, .int 1), (4, .int 21), (3, .int 15), (2, .int 3), (0, .ref 0), (1, .ref 22)]) (stk' := []) (mem' := fm g tp bt a b) (fun _ _ _ => rfl) ?_
        rw [show (15 + 1 : Int32) = 16 from rfl]
        refine fe_s 3 (pc' := 72) (lc' := [(6, .int 16), (5, .int 1), (4, .int 21), (3, .int 15), (2, .int 3), (0, .ref 0), (1, .ref 22)]) (stk' := [.int 21, .int 16]) (mem' := fm g tp bt a b) (fun _ _ _ => rfl) ?_
        refine fe_s 1 (pc' := cond (fx_cb .ge 16 21) 115 75) (lc' := [(6, .int 16), (5, .int 1), (4, .int 21), (3, .int 15), (2, .int 3), (0, .ref 0), (1, .ref 22)]) (stk' := []) (mem' := fm g tp bt a b) (fun _ _ _ => rfl) ?_
        rw [show (fx_cb .ge 16 21) = false from by decide]
        dsimp only [cond]
        refine fe_s 1 (pc' := 77) (lc' := [(6, .int 16), (5, .int 1), (4, .int 21), (3, .int 15), (2, .int 3), (0, .ref 0), (1, .ref 22)]) (stk' := [.int 1]) (mem' := fm g tp bt a b) (fun _ _ _ => rfl) ?_
        refine fe_s 1 (pc' := cond (fx_cb .eq 1 0) 115 80) (lc' := [(6, .int 16), (5, .int 1), (4, .int 21), (3, .int 15), (2, .int 3), (0, .ref 0), (1, .ref 22)]) (stk' := []) (mem' := fm g tp bt a b) (fun _ _ _ => rfl) ?_
        rw [show (fx_cb .eq 1 0) = false from by decide]
        dsimp only [cond]
        refine fe_s 2 (pc' := 83) (lc' := [(6, .int 16), (5, .int 1), (4, .int 21), (3, .int 15), (2, .int 3), (0, .ref 0), (1, .ref 22)]) (stk' := [.int 16, .ref 22]) (mem' := fm g tp bt a b) (fun _ _ _ => rfl) ?_
        refine fe_chr (i := 16) (by omega) (by rfl) (by rfl) ⟨by rfl, by rfl⟩ (by rfl) ?_
        rw [show sk_b.getD 16 0 = 101 from rfl]
        refine fe_s 4 (pc' := 93) (lc' := [(6, .int 16), (5, .int 1), (4, .int 21), (3, .int 15), (2, .int 3), (0, .ref 0), (1, .ref 22)]) (stk' := [.int 16, .int (g 13), .ref 0, .int 101]) (mem' := fm g tp bt a b) (fun _ _ _ => rfl) ?_
        try rw [h13]
        refine fe_s 3 (pc' := 96) (lc' := [(6, .int 16), (5, .int 1), (4, .int 21), (3, .int 15), (2, .int 3), (0, .ref 0), (1, .ref 22)]) (stk' := [.int (((nI F) + 16) - 15), .ref 0, .int 101]) (mem' := fm g tp bt a b) (fun _ _ _ => rfl) ?_
        rw [show (((nI F) + 16) - 15 : Int32) = nI ((F + 16) - 15) from by simp only [show (16 : Int32) = nI 16 from rfl, show (15 : Int32) = nI 15 from rfl, tg_sub2 (x := F + 16) (y := 15) (by omega), nI_add, fm_mul]]
        refine fe_ivV (fr_byteAt (S := S) (k := (F + 16) - 15) (g := g) (tp := tp) (bt := bt) (a := a) (b := b) h11 (by omega) (by omega)) (by omega) (by rfl) (by rfl) (by rfl) (by rfl) (by rfl) (by rfl) ?_
        rcases fm_byte_or a S ((F + 16) - 15) with ⟨e7, q8⟩ | ⟨q8, n6, qn6, e7⟩
        · rw [e7]
          refine fe_s 1 (pc' := cond (fx_cb .ne 101 (-1)) 106 102) (lc' := [(6, .int 16), (5, .int 1), (4, .int 21), (3, .int 15), (2, .int 3), (0, .ref 0), (1, .ref 22)]) (stk' := []) (mem' := fm g tp bt a b) (fun _ _ _ => rfl) ?_
          rw [show (fx_cb .ne 101 (-1)) = true from by decide]
          dsimp only [cond]
          refine fe_s 4 (pc' := 68) (lc' := [(6, .int (16 + 1)), (5, .int 0), (4, .int 21), (3, .int 15), (2, .int 3), (0, .ref 0), (1, .ref 22)]) (stk' := []) (mem' := fm g tp bt a b) (fun _ _ _ => rfl) ?_
          rw [show (16 + 1 : Int32) = 17 from rfl]
          refine fe_s 2 (pc' := 72) (lc' := [(6, .int 17), (5, .int 0), (4, .int 21), (3, .int 15), (2, .int 3), (0, .ref 0), (1, .ref 22)]) (stk' := [.int 21, .int 17]) (mem' := fm g tp bt a b) (fun _ _ _ => rfl) ?_
          refine fe_s 1 (pc' := cond (fx_cb .ge 17 21) 115 75) (lc' := [(6, .int 17), (5, .int 0), (4, .int 21), (3, .int 15), (2, .int 3), (0, .ref 0), (1, .ref 22)]) (stk' := []) (mem' := fm g tp bt a b) (fun _ _ _ => rfl) ?_
          rw [show (fx_cb .ge 17 21) = false from by decide]
          dsimp only [cond]
          refine fe_s 1 (pc' := 77) (lc' := [(6, .int 17), (5, .int 0), (4, .int 21), (3, .int 15), (2, .int 3), (0, .ref 0), (1, .ref 22)]) (stk' := [.int 0]) (mem' := fm g tp bt a b) (fun _ _ _ => rfl) ?_
          refine fe_s 1 (pc' := cond (fx_cb .eq 0 0) 115 80) (lc' := [(6, .int 17), (5, .int 0), (4, .int 21), (3, .int 15), (2, .int 3), (0, .ref 0), (1, .ref 22)]) (stk' := []) (mem' := fm g tp bt a b) (fun _ _ _ => rfl) ?_
          rw [show (fx_cb .eq 0 0) = true from by decide]
          dsimp only [cond]
          refine fe_s 1 (pc' := 117) (lc' := [(6, .int 17), (5, .int 0), (4, .int 21), (3, .int 15), (2, .int 3), (0, .ref 0), (1, .ref 22)]) (stk' := [.int 0]) (mem' := fm g tp bt a b) (fun _ _ _ => rfl) ?_
          refine fe_s 1 (pc' := cond (fx_cb .eq 0 0) 122 120) (lc' := [(6, .int 17), (5, .int 0), (4, .int 21), (3, .int 15), (2, .int 3), (0, .ref 0), (1, .ref 22)]) (stk' := []) (mem' := fm g tp bt a b) (fun _ _ _ => rfl) ?_
          rw [show (fx_cb .eq 0 0) = true from by decide]
          dsimp only [cond]
          refine fe_s 4 (pc' := 129) (lc' := [(2, .int (3 + 1)), (6, .int 17), (5, .int 0), (4, .int 21), (3, .int 15), (0, .ref 0), (1, .ref 22)]) (stk' := [.int (21 + 1)]) (mem' := fm g tp bt a b) (fun _ _ _ => rfl) ?_
          rw [show (3 + 1 : Int32) = 4 from rfl]
          rw [show (21 + 1 : Int32) = 22 from rfl]
          refine fe_s 1 (pc' := 130) (lc' := [(3, .int 22), (2, .int 4), (6, .int 17), (5, .int 0), (4, .int 21), (0, .ref 0), (1, .ref 22)]) (stk' := []) (mem' := fm g tp bt a b) (fun _ _ _ => rfl) ?_
          refine fe_s 1 (pc' := fx_to 130 (-116)) (lc' := [(3, .int 22), (2, .int 4), (6, .int 17), (5, .int 0), (4, .int 21), (0, .ref 0), (1, .ref 22)]) (stk' := []) (mem' := fm g tp bt a b) (fun _ _ _ => rfl) ?_
          rw [show fx_to 130 (-116) = 14 from by decide]
          refine fe_w (lc' := [(3, .int 22), (2, .int 4), (0, .ref 0), (1, .ref 22)]) ⟨rfl, rfl, rfl, rfl, trivial⟩ (by show List.Nodup [3, 2, 0, 1]; decide) (by show List.Nodup [3, 2, 6, 5, 4, 0, 1]; decide) ?_
          exact fw_4 hxp
        · rw [e7]
          refine fe_s 1 (pc' := cond (fx_cb .ne 101 (nI n6)) 106 102) (lc' := [(6, .int 16), (5, .int 1), (4, .int 21), (3, .int 15), (2, .int 3), (0, .ref 0), (1, .ref 22)]) (stk' := []) (mem' := fm g tp bt a b) (fun _ _ _ => rfl) ?_
          by_cases h9 : 101 = n6
          · rw [show (fx_cb .ne 101 (nI n6)) = false from cb_neF (a := 101) (b := n6) (by omega) (by omega) (by omega)]
            dsimp only [cond]
            refine fe_s 4 (pc' := 112) (lc' := [(6, .int (16 + 1)), (5, .int 1), (4, .int 21), (3, .int 15), (2, .int 3), (0, .ref 0), (1, .ref 22)]) (stk' := []) (mem' := fm g tp bt a b) (fun _ _ _ => rfl) ?_
            rw [show (16 + 1 : Int32) = 17 from rfl]
            refine fe_s 3 (pc' := 72) (lc' := [(6, .int 17), (5, .int 1), (4, .int 21), (3, .int 15), (2, .int 3), (0, .ref 0), (1, .ref 22)]) (stk' := [.int 21, .int 17]) (mem' := fm g tp bt a b) (fun _ _ _ => rfl) ?_
            refine fe_s 1 (pc' := cond (fx_cb .ge 17 21) 115 75) (lc' := [(6, .int 17), (5, .int 1), (4, .int 21), (3, .int 15), (2, .int 3), (0, .ref 0), (1, .ref 22)]) (stk' := []) (mem' := fm g tp bt a b) (fun _ _ _ => rfl) ?_
            rw [show (fx_cb .ge 17 21) = false from by decide]
            dsimp only [cond]
            refine fe_s 1 (pc' := 77) (lc' := [(6, .int 17), (5, .int 1), (4, .int 21), (3, .int 15), (2, .int 3), (0, .ref 0), (1, .ref 22)]) (stk' := [.int 1]) (mem' := fm g tp bt a b) (fun _ _ _ => rfl) ?_
            refine fe_s 1 (pc' := cond (fx_cb .eq 1 0) 115 80) (lc' := [(6, .int 17), (5, .int 1), (4, .int 21), (3, .int 15), (2, .int 3), (0, .ref 0), (1, .ref 22)]) (stk' := []) (mem' := fm g tp bt a b) (fun _ _ _ => rfl) ?_
            rw [show (fx_cb .eq 1 0) = false from by decide]
            dsimp only [cond]
            refine fe_s 2 (pc' := 83) (lc' := [(6, .int 17), (5, .int 1), (4, .int 21), (3, .int 15), (2, .int 3), (0, .ref 0), (1, .ref 22)]) (stk' := [.int 17, .ref 22]) (mem' := fm g tp bt a b) (fun _ _ _ => rfl) ?_
            refine fe_chr (i := 17) (by omega) (by rfl) (by rfl) ⟨by rfl, by rfl⟩ (by rfl) ?_
            rw [show sk_b.getD 17 0 = 115 from rfl]
            refine fe_s 4 (pc' := 93) (lc' := [(6, .int 17), (5, .int 1), (4, .int 21), (3, .int 15), (2, .int 3), (0, .ref 0), (1, .ref 22)]) (stk' := [.int 17, .int (g 13), .ref 0, .int 115]) (mem' := fm g tp bt a b) (fun _ _ _ => rfl) ?_
            try rw [h13]
            refine fe_s 3 (pc' := 96) (lc' := [(6, .int 17), (5, .int 1), (4, .int 21), (3, .int 15), (2, .int 3), (0, .ref 0), (1, .ref 22)]) (stk' := [.int (((nI F) + 17) - 15), .ref 0, .int 115]) (mem' := fm g tp bt a b) (fun _ _ _ => rfl) ?_
            rw [show (((nI F) + 17) - 15 : Int32) = nI ((F + 17) - 15) from by simp only [show (17 : Int32) = nI 17 from rfl, show (15 : Int32) = nI 15 from rfl, tg_sub2 (x := F + 17) (y := 15) (by omega), nI_add, fm_mul]]
            refine fe_ivV (fr_byteAt (S := S) (k := (F + 17) - 15) (g := g) (tp := tp) (bt := bt) (a := a) (b := b) h11 (by omega) (by omega)) (by omega) (by rfl) (by rfl) (by rfl) (by rfl) (by rfl) (by rfl) ?_
            rcases fm_byte_or a S ((F + 17) - 15) with ⟨e11, q12⟩ | ⟨q12, n10, qn10, e11⟩
            · rw [e11]
              refine fe_s 1 (pc' := cond (fx_cb .ne 115 (-1)) 106 102) (lc' := [(6, .int 17), (5, .int 1), (4, .int 21), (3, .int 15), (2, .int 3), (0, .ref 0), (1, .ref 22)]) (stk' := []) (mem' := fm g tp bt a b) (fun _ _ _ => rfl) ?_
              rw [show (fx_cb .ne 115 (-1)) = true from by decide]
              dsimp only [cond]
              refine fe_s 4 (pc' := 68) (lc' := [(6, .int (17 + 1)), (5, .int 0), (4, .int 21), (3, .int 15), (2, .int 3), (0, .ref 0), (1, .ref 22)]) (stk' := []) (mem' := fm g tp bt a b) (fun _ _ _ => rfl) ?_
              rw [show (17 + 1 : Int32) = 18 from rfl]
              refine fe_s 2 (pc' := 72) (lc' := [(6, .int 18), (5, .int 0), (4, .int 21), (3, .int 15), (2, .int 3), (0, .ref 0), (1, .ref 22)]) (stk' := [.int 21, .int 18]) (mem' := fm g tp bt a b) (fun _ _ _ => rfl) ?_
              refine fe_s 1 (pc' := cond (fx_cb .ge 18 21) 115 75) (lc' := [(6, .int 18), (5, .int 0), (4, .int 21), (3, .int 15), (2, .int 3), (0, .ref 0), (1, .ref 22)]) (stk' := []) (mem' := fm g tp bt a b) (fun _ _ _ => rfl) ?_
              rw [show (fx_cb .ge 18 21) = false from by decide]
              dsimp only [cond]
              refine fe_s 1 (pc' := 77) (lc' := [(6, .int 18), (5, .int 0), (4, .int 21), (3, .int 15), (2, .int 3), (0, .ref 0), (1, .ref 22)]) (stk' := [.int 0]) (mem' := fm g tp bt a b) (fun _ _ _ => rfl) ?_
              refine fe_s 1 (pc' := cond (fx_cb .eq 0 0) 115 80) (lc' := [(6, .int 18), (5, .int 0), (4, .int 21), (3, .int 15), (2, .int 3), (0, .ref 0), (1, .ref 22)]) (stk' := []) (mem' := fm g tp bt a b) (fun _ _ _ => rfl) ?_
              rw [show (fx_cb .eq 0 0) = true from by decide]
              dsimp only [cond]
              refine fe_s 1 (pc' := 117) (lc' := [(6, .int 18), (5, .int 0), (4, .int 21), (3, .int 15), (2, .int 3), (0, .ref 0), (1, .ref 22)]) (stk' := [.int 0]) (mem' := fm g tp bt a b) (fun _ _ _ => rfl) ?_
              refine fe_s 1 (pc' := cond (fx_cb .eq 0 0) 122 120) (lc' := [(6, .int 18), (5, .int 0), (4, .int 21), (3, .int 15), (2, .int 3), (0, .ref 0), (1, .ref 22)]) (stk' := []) (mem' := fm g tp bt a b) (fun _ _ _ => rfl) ?_
              rw [show (fx_cb .eq 0 0) = true from by decide]
              dsimp only [cond]
              refine fe_s 4 (pc' := 129) (lc' := [(2, .int (3 + 1)), (6, .int 18), (5, .int 0), (4, .int 21), (3, .int 15), (0, .ref 0), (1, .ref 22)]) (stk' := [.int (21 + 1)]) (mem' := fm g tp bt a b) (fun _ _ _ => rfl) ?_
              rw [show (3 + 1 : Int32) = 4 from rfl]
              rw [show (21 + 1 : Int32) = 22 from rfl]
              refine fe_s 1 (pc' := 130) (lc' := [(3, .int 22), (2, .int 4), (6, .int 18), (5, .int 0), (4, .int 21), (0, .ref 0), (1, .ref 22)]) (stk' := []) (mem' := fm g tp bt a b) (fun _ _ _ => rfl) ?_
              refine fe_s 1 (pc' := fx_to 130 (-116)) (lc' := [(3, .int 22), (2, .int 4), (6, .int 18), (5, .int 0), (4, .int 21), (0, .ref 0), (1, .ref 22)]) (stk' := []) (mem' := fm g tp bt a b) (fun _ _ _ => rfl) ?_
              rw [show fx_to 130 (-116) = 14 from by decide]
              refine fe_w (lc' := [(3, .int 22), (2, .int 4), (0, .ref 0), (1, .ref 22)]) ⟨rfl, rfl, rfl, rfl, trivial⟩ (by show List.Nodup [3, 2, 0, 1]; decide) (by show List.Nodup [3, 2, 6, 5, 4, 0, 1]; decide) ?_
              exact fw_4 hxp
            · rw [e11]
              refine fe_s 1 (pc' := cond (fx_cb .ne 115 (nI n10)) 106 102) (lc' := [(6, .int 17), (5, .int 1), (4, .int 21), (3, .int 15), (2, .int 3), (0, .ref 0), (1, .ref 22)]) (stk' := []) (mem' := fm g tp bt a b) (fun _ _ _ => rfl) ?_
              by_cases h13 : 115 = n10
              · rw [show (fx_cb .ne 115 (nI n10)) = false from cb_neF (a := 115) (b := n10) (by omega) (by omega) (by omega)]
                dsimp only [cond]
                refine fe_s 4 (pc' := 112) (lc' := [(6, .int (17 + 1)), (5, .int 1), (4, .int 21), (3, .int 15), (2, .int 3), (0, .ref 0), (1, .ref 22)]) (stk' := []) (mem' := fm g tp bt a b) (fun _ _ _ => rfl) ?_
                rw [show (17 + 1 : Int32) = 18 from rfl]
                refine fe_s 3 (pc' := 72) (lc' := [(6, .int 18), (5, .int 1), (4, .int 21), (3, .int 15), (2, .int 3), (0, .ref 0), (1, .ref 22)]) (stk' := [.int 21, .int 18]) (mem' := fm g tp bt a b) (fun _ _ _ => rfl) ?_
                refine fe_s 1 (pc' := cond (fx_cb .ge 18 21) 115 75) (lc' := [(6, .int 18), (5, .int 1), (4, .int 21), (3, .int 15), (2, .int 3), (0, .ref 0), (1, .ref 22)]) (stk' := []) (mem' := fm g tp bt a b) (fun _ _ _ => rfl) ?_
                rw [show (fx_cb .ge 18 21) = false from by decide]
                dsimp only [cond]
                refine fe_s 1 (pc' := 77) (lc' := [(6, .int 18), (5, .int 1), (4, .int 21), (3, .int 15), (2, .int 3), (0, .ref 0), (1, .ref 22)]) (stk' := [.int 1]) (mem' := fm g tp bt a b) (fun _ _ _ => rfl) ?_
                refine fe_s 1 (pc' := cond (fx_cb .eq 1 0) 115 80) (lc' := [(6, .int 18), (5, .int 1), (4, .int 21), (3, .int 15), (2, .int 3), (0, .ref 0), (1, .ref 22)]) (stk' := []) (mem' := fm g tp bt a b) (fun _ _ _ => rfl) ?_
                rw [show (fx_cb .eq 1 0) = false from by decide]
                dsimp only [cond]
                refine fe_s 2 (pc' := 83) (lc' := [(6, .int 18), (5, .int 1), (4, .int 21), (3, .int 15), (2, .int 3), (0, .ref 0), (1, .ref 22)]) (stk' := [.int 18, .ref 22]) (mem' := fm g tp bt a b) (fun _ _ _ => rfl) ?_
                refine fe_chr (i := 18) (by omega) (by rfl) (by rfl) ⟨by rfl, by rfl⟩ (by rfl) ?_
                rw [show sk_b.getD 18 0 = 105 from rfl]
                refine fe_s 4 (pc' := 93) (lc' := [(6, .int 18), (5, .int 1), (4, .int 21), (3, .int 15), (2, .int 3), (0, .ref 0), (1, .ref 22)]) (stk' := [.int 18, .int (g 13), .ref 0, .int 105]) (mem' := fm g tp bt a b) (fun _ _ _ => rfl) ?_
                try rw [h13]
                refine fe_s 3 (pc' := 96) (lc' := [(6, .int 18), (5, .int 1), (4, .int 21), (3, .int 15), (2, .int 3), (0, .ref 0), (1, .ref 22)]) (stk' := [.int (((nI F) + 18) - 15), .ref 0, .int 105]) (mem' := fm g tp bt a b) (fun _ _ _ => rfl) ?_
                rw [show (((nI F) + 18) - 15 : Int32) = nI ((F + 18) - 15) from by simp only [show (18 : Int32) = nI 18 from rfl, show (15 : Int32) = nI 15 from rfl, tg_sub2 (x := F + 18) (y := 15) (by omega), nI_add, fm_mul]]
                refine fe_ivV (fr_byteAt (S := S) (k := (F + 18) - 15) (g := g) (tp := tp) (bt := bt) (a := a) (b := b) h11 (by omega) (by omega)) (by omega) (by rfl) (by rfl) (by rfl) (by rfl) (by rfl) (by rfl) ?_
                rcases fm_byte_or a S ((F + 18) - 15) with ⟨e15, q16⟩ | ⟨q16, n14, qn14, e15⟩
                · rw [e15]
                  refine fe_s 1 (pc' := cond (fx_cb .ne 105 (-1)) 106 102) (lc' := [(6, .int 18), (5, .int 1), (4, .int 21), (3, .int 15), (2, .int 3), (0, .ref 0), (1, .ref 22)]) (stk' := []) (mem' := fm g tp bt a b) (fun _ _ _ => rfl) ?_
                  rw [show (fx_cb .ne 105 (-1)) = true from by decide]
                  dsimp only [cond]
                  refine fe_s 4 (pc' := 68) (lc' := [(6, .int (18 + 1)), (5, .int 0), (4, .int 21), (3, .int 15), (2, .int 3), (0, .ref 0), (1, .ref 22)]) (stk' := []) (mem' := fm g tp bt a b) (fun _ _ _ => rfl) ?_
                  rw [show (18 + 1 : Int32) = 19 from rfl]
                  refine fe_s 2 (pc' := 72) (lc' := [(6, .int 19), (5, .int 0), (4, .int 21), (3, .int 15), (2, .int 3), (0, .ref 0), (1, .ref 22)]) (stk' := [.int 21, .int 19]) (mem' := fm g tp bt a b) (fun _ _ _ => rfl) ?_
                  refine fe_s 1 (pc' := cond (fx_cb .ge 19 21) 115 75) (lc' := [(6, .int 19), (5, .int 0), (4, .int 21), (3, .int 15), (2, .int 3), (0, .ref 0), (1, .ref 22)]) (stk' := []) (mem' := fm g tp bt a b) (fun _ _ _ => rfl) ?_
                  rw [show (fx_cb .ge 19 21) = false from by decide]
                  dsimp only [cond]
                  refine fe_s 1 (pc' := 77) (lc' := [(6, .int 19), (5, .int 0), (4, .int 21), (3, .int 15), (2, .int 3), (0, .ref 0), (1, .ref 22)]) (stk' := [.int 0]) (mem' := fm g tp bt a b) (fun _ _ _ => rfl) ?_
                  refine fe_s 1 (pc' := cond (fx_cb .eq 0 0) 115 80) (lc' := [(6, .int 19), (5, .int 0), (4, .int 21), (3, .int 15), (2, .int 3), (0, .ref 0), (1, .ref 22)]) (stk' := []) (mem' := fm g tp bt a b) (fun _ _ _ => rfl) ?_
                  rw [show (fx_cb .eq 0 0) = true from by decide]
                  dsimp only [cond]
                  refine fe_s 1 (pc' := 117) (lc' := [(6, .int 19), (5, .int 0), (4, .int 21), (3, .int 15), (2, .int 3), (0, .ref 0), (1, .ref 22)]) (stk' := [.int 0]) (mem' := fm g tp bt a b) (fun _ _ _ => rfl) ?_
                  refine fe_s 1 (pc' := cond (fx_cb .eq 0 0) 122 120) (lc' := [(6, .int 19), (5, .int 0), (4, .int 21), (3, .int 15), (2, .int 3), (0, .ref 0), (1, .ref 22)]) (stk' := []) (mem' := fm g tp bt a b) (fun _ _ _ => rfl) ?_
                  rw [show (fx_cb .eq 0 0) = true from by decide]
                  dsimp only [cond]
                  refine fe_s 4 (pc' := 129) (lc' := [(2, .int (3 + 1)), (6, .int 19), (5, .int 0), (4, .int 21), (3, .int 15), (0, .ref 0), (1, .ref 22)]) (stk' := [.int (21 + 1)]) (mem' := fm g tp bt a b) (fun _ _ _ => rfl) ?_
                  rw [show (3 + 1 : Int32) = 4 from rfl]
                  rw [show (21 + 1 : Int32) = 22 from rfl]
                  refine fe_s 1 (pc' := 130) (lc' := [(3, .int 22), (2, .int 4), (6, .int 19), (5, .int 0), (4, .int 21), (0, .ref 0), (1, .ref 22)]) (stk' := []) (mem' := fm g tp bt a b) (fun _ _ _ => rfl) ?_
                  refine fe_s 1 (pc' := fx_to 130 (-116)) (lc' := [(3, .int 22), (2, .int 4), (6, .int 19), (5, .int 0), (4, .int 21), (0, .ref 0), (1, .ref 22)]) (stk' := []) (mem' := fm g tp bt a b) (fun _ _ _ => rfl) ?_
                  rw [show fx_to 130 (-116) = 14 from by decide]
                  refine fe_w (lc' := [(3, .int 22), (2, .int 4), (0, .ref 0), (1, .ref 22)]) ⟨rfl, rfl, rfl, rfl, trivial⟩ (by show List.Nodup [3, 2, 0, 1]; decide) (by show List.Nodup [3, 2, 6, 5, 4, 0, 1]; decide) ?_
                  exact fw_4 hxp
                · rw [e15]
                  refine fe_s 1 (pc' := cond (fx_cb .ne 105 (nI n14)) 106 102) (lc' := [(6, .int 18), (5, .int 1), (4, .int 21), (3, .int 15), (2, .int 3), (0, .ref 0), (1, .ref 22)]) (stk' := []) (mem' := fm g tp bt a b) (fun _ _ _ => rfl) ?_
                  by_cases h17 : 105 = n14
                  · rw [show (fx_cb .ne 105 (nI n14)) = false from cb_neF (a := 105) (b := n14) (by omega) (by omega) (by omega)]
                    dsimp only [cond]
                    refine fe_s 4 (pc' := 112) (lc' := [(6, .int (18 + 1)), (5, .int 1), (4, .int 21), (3, .int 15), (2, .int 3), (0, .ref 0), (1, .ref 22)]) (stk' := []) (mem' := fm g tp bt a b) (fun _ _ _ => rfl) ?_
                    rw [show (18 + 1 : Int32) = 19 from rfl]
                    refine fe_s 3 (pc' := 72) (lc' := [(6, .int 19), (5, .int 1), (4, .int 21), (3, .int 15), (2, .int 3), (0, .ref 0), (1, .ref 22)]) (stk' := [.int 21, .int 19]) (mem' := fm g tp bt a b) (fun _ _ _ => rfl) ?_
                    refine fe_s 1 (pc' := cond (fx_cb .ge 19 21) 115 75) (lc' := [(6, .int 19), (5, .int 1), (4, .int 21), (3, .int 15), (2, .int 3), (0, .ref 0), (1, .ref 22)]) (stk' := []) (mem' := fm g tp bt a b) (fun _ _ _ => rfl) ?_
                    rw [show (fx_cb .ge 19 21) = false from by decide]
                    dsimp only [cond]
                    refine fe_s 1 (pc' := 77) (lc' := [(6, .int 19), (5, .int 1), (4, .int 21), (3, .int 15), (2, .int 3), (0, .ref 0), (1, .ref 22)]) (stk' := [.int 1]) (mem' := fm g tp bt a b) (fun _ _ _ => rfl) ?_
                    refine fe_s 1 (pc' := cond (fx_cb .eq 1 0) 115 80) (lc' := [(6, .int 19), (5, .int 1), (4, .int 21), (3, .int 15), (2, .int 3), (0, .ref 0), (1, .ref 22)]) (stk' := []) (mem' := fm g tp bt a b) (fun _ _ _ => rfl) ?_
                    rw [show (fx_cb .eq 1 0) = false from by decide]
                    dsimp only [cond]
                    refine fe_s 2 (pc' := 83) (lc' := [(6, .int 19), (5, .int 1), (4, .int 21), (3, .int 15), (2, .int 3), (0, .ref 0), (1, .ref 22)]) (stk' := [.int 19, .ref 22]) (mem' := fm g tp bt a b) (fun _ _ _ => rfl) ?_
                    refine fe_chr (i := 19) (by omega) (by rfl) (by rfl) ⟨by rfl, by rfl⟩ (by rfl) ?_
                    rw [show sk_b.getD 19 0 = 100 from rfl]
                    refine fe_s 4 (pc' := 93) (lc' := [(6, .int 19), (5, .int 1), (4, .int 21), (3, .int 15), (2, .int 3), (0, .ref 0), (1, .ref 22)]) (stk' := [.int 19, .int (g 13), .ref 0, .int 100]) (mem' := fm g tp bt a b) (fun _ _ _ => rfl) ?_
                    try rw [h13]
                    refine fe_s 3 (pc' := 96) (lc' := [(6, .int 19), (5, .int 1), (4, .int 21), (3, .int 15), (2, .int 3), (0, .ref 0), (1, .ref 22)]) (stk' := [.int (((nI F) + 19) - 15), .ref 0, .int 100]) (mem' := fm g tp bt a b) (fun _ _ _ => rfl) ?_
                    rw [show (((nI F) + 19) - 15 : Int32) = nI ((F + 19) - 15) from by simp only [show (19 : Int32) = nI 19 from rfl, show (15 : Int32) = nI 15 from rfl, tg_sub2 (x := F + 19) (y := 15) (by omega), nI_add, fm_mul]]
                    refine fe_ivV (fr_byteAt (S := S) (k := (F + 19) - 15) (g := g) (tp := tp) (bt := bt) (a := a) (b := b) h11 (by omega) (by omega)) (by omega) (by rfl) (by rfl) (by rfl) (by rfl) (by rfl) (by rfl) ?_
                    rcases fm_byte_or a S ((F + 19) - 15) with ⟨e19, q20⟩ | ⟨q20, n18, qn18, e19⟩
                    · rw [e19]
                      refine fe_s 1 (pc' := cond (fx_cb .ne 100 (-1)) 106 102) (lc' := [(6, .int 19), (5, .int 1), (4, .int 21), (3, .int 15), (2, .int 3), (0, .ref 0), (1, .ref 22)]) (stk' := []) (mem' := fm g tp bt a b) (fun _ _ _ => rfl) ?_
                      rw [show (fx_cb .ne 100 (-1)) = true from by decide]
                      dsimp only [cond]
                      refine fe_s 4 (pc' := 68) (lc' := [(6, .int (19 + 1)), (5, .int 0), (4, .int 21), (3, .int 15), (2, .int 3), (0, .ref 0), (1, .ref 22)]) (stk' := []) (mem' := fm g tp bt a b) (fun _ _ _ => rfl) ?_
                      rw [show (19 + 1 : Int32) = 20 from rfl]
                      refine fe_s 2 (pc' := 72) (lc' := [(6, .int 20), (5, .int 0), (4, .int 21), (3, .int 15), (2, .int 3), (0, .ref 0), (1, .ref 22)]) (stk' := [.int 21, .int 20]) (mem' := fm g tp bt a b) (fun _ _ _ => rfl) ?_
                      refine fe_s 1 (pc' := cond (fx_cb .ge 20 21) 115 75) (lc' := [(6, .int 20), (5, .int 0), (4, .int 21), (3, .int 15), (2, .int 3), (0, .ref 0), (1, .ref 22)]) (stk' := []) (mem' := fm g tp bt a b) (fun _ _ _ => rfl) ?_
                      rw [show (fx_cb .ge 20 21) = false from by decide]
                      dsimp only [cond]
                      refine fe_s 1 (pc' := 77) (lc' := [(6, .int 20), (5, .int 0), (4, .int 21), (3, .int 15), (2, .int 3), (0, .ref 0), (1, .ref 22)]) (stk' := [.int 0]) (mem' := fm g tp bt a b) (fun _ _ _ => rfl) ?_
                      refine fe_s 1 (pc' := cond (fx_cb .eq 0 0) 115 80) (lc' := [(6, .int 20), (5, .int 0), (4, .int 21), (3, .int 15), (2, .int 3), (0, .ref 0), (1, .ref 22)]) (stk' := []) (mem' := fm g tp bt a b) (fun _ _ _ => rfl) ?_
                      rw [show (fx_cb .eq 0 0) = true from by decide]
                      dsimp only [cond]
                      refine fe_s 1 (pc' := 117) (lc' := [(6, .int 20), (5, .int 0), (4, .int 21), (3, .int 15), (2, .int 3), (0, .ref 0), (1, .ref 22)]) (stk' := [.int 0]) (mem' := fm g tp bt a b) (fun _ _ _ => rfl) ?_
                      refine fe_s 1 (pc' := cond (fx_cb .eq 0 0) 122 120) (lc' := [(6, .int 20), (5, .int 0), (4, .int 21), (3, .int 15), (2, .int 3), (0, .ref 0), (1, .ref 22)]) (stk' := []) (mem' := fm g tp bt a b) (fun _ _ _ => rfl) ?_
                      rw [show (fx_cb .eq 0 0) = true from by decide]
                      dsimp only [cond]
                      refine fe_s 4 (pc' := 129) (lc' := [(2, .int (3 + 1)), (6, .int 20), (5, .int 0), (4, .int 21), (3, .int 15), (0, .ref 0), (1, .ref 22)]) (stk' := [.int (21 + 1)]) (mem' := fm g tp bt a b) (fun _ _ _ => rfl) ?_
                      rw [show (3 + 1 : Int32) = 4 from rfl]
                      rw [show (21 + 1 : Int32) = 22 from rfl]
                      refine fe_s 1 (pc' := 130) (lc' := [(3, .int 22), (2, .int 4), (6, .int 20), (5, .int 0), (4, .int 21), (0, .ref 0), (1, .ref 22)]) (stk' := []) (mem' := fm g tp bt a b) (fun _ _ _ => rfl) ?_
                      refine fe_s 1 (pc' := fx_to 130 (-116)) (lc' := [(3, .int 22), (2, .int 4), (6, .int 20), (5, .int 0), (4, .int 21), (0, .ref 0), (1, .ref 22)]) (stk' := []) (mem' := fm g tp bt a b) (fun _ _ _ => rfl) ?_
                      rw [show fx_to 130 (-116) = 14 from by decide]
                      refine fe_w (lc' := [(3, .int 22), (2, .int 4), (0, .ref 0), (1, .ref 22)]) ⟨rfl, rfl, rfl, rfl, trivial⟩ (by show List.Nodup [3, 2, 0, 1]; decide) (by show List.Nodup [3, 2, 6, 5, 4, 0, 1]; decide) ?_
                      exact fw_4 hxp
                    · rw [e19]
                      refine fe_s 1 (pc' := cond (fx_cb .ne 100 (nI n18)) 106 102) (lc' := [(6, .int 19), (5, .int 1), (4, .int 21), (3, .int 15), (2, .int 3), (0, .ref 0), (1, .ref 22)]) (stk' := []) (mem' := fm g tp bt a b) (fun _ _ _ => rfl) ?_
                      by_cases h21 : 100 = n18
                      · rw [show (fx_cb .ne 100 (nI n18)) = false from cb_neF (a := 100) (b := n18) (by omega) (by omega) (by omega)]
                        dsimp only [cond]
                        refine fe_s 4 (pc' := 112) (lc' := [(6, .int (19 + 1)), (5, .int 1), (4, .int 21), (3, .int 15), (2, .int 3), (0, .ref 0), (1, .ref 22)]) (stk' := []) (mem' := fm g tp bt a b) (fun _ _ _ => rfl) ?_
                        rw [show (19 + 1 : Int32) = 20 from rfl]
                        refine fe_s 3 (pc' := 72) (lc' := [(6, .int 20), (5, .int 1), (4, .int 21), (3, .int 15), (2, .int 3), (0, .ref 0), (1, .ref 22)]) (stk' := [.int 21, .int 20]) (mem' := fm g tp bt a b) (fun _ _ _ => rfl) ?_
                        refine fe_s 1 (pc' := cond (fx_cb .ge 20 21) 115 75) (lc' := [(6, .int 20), (5, .int 1), (4, .int 21), (3, .int 15), (2, .int 3), (0, .ref 0), (1, .ref 22)]) (stk' := []) (mem' := fm g tp bt a b) (fun _ _ _ => rfl) ?_
                        rw [show (fx_cb .ge 20 21) = false from by decide]
                        dsimp only [cond]
                        refine fe_s 1 (pc' := 77) (lc' := [(6, .int 20), (5, .int 1), (4, .int 21), (3, .int 15), (2, .int 3), (0, .ref 0), (1, .ref 22)]) (stk' := [.int 1]) (mem' := fm g tp bt a b) (fun _ _ _ => rfl) ?_
                        refine fe_s 1 (pc' := cond (fx_cb .eq 1 0) 115 80) (lc' := [(6, .int 20), (5, .int 1), (4, .int 21), (3, .int 15), (2, .int 3), (0, .ref 0), (1, .ref 22)]) (stk' := []) (mem' := fm g tp bt a b) (fun _ _ _ => rfl) ?_
                        rw [show (fx_cb .eq 1 0) = false from by decide]
                        dsimp only [cond]
                        refine fe_s 2 (pc' := 83) (lc' := [(6, .int 20), (5, .int 1), (4, .int 21), (3, .int 15), (2, .int 3), (0, .ref 0), (1, .ref 22)]) (stk' := [.int 20, .ref 22]) (mem' := fm g tp bt a b) (fun _ _ _ => rfl) ?_
                        refine fe_chr (i := 20) (by omega) (by rfl) (by rfl) ⟨by rfl, by rfl⟩ (by rfl) ?_
                        rw [show sk_b.getD 20 0 = 101 from rfl]
                        refine fe_s 4 (pc' := 93) (lc' := [(6, .int 20), (5, .int 1), (4, .int 21), (3, .int 15), (2, .int 3), (0, .ref 0), (1, .ref 22)]) (stk' := [.int 20, .int (g 13), .ref 0, .int 101]) (mem' := fm g tp bt a b) (fun _ _ _ => rfl) ?_
                        try rw [h13]
                        refine fe_s 3 (pc' := 96) (lc' := [(6, .int 20), (5, .int 1), (4, .int 21), (3, .int 15), (2, .int 3), (0, .ref 0), (1, .ref 22)]) (stk' := [.int (((nI F) + 20) - 15), .ref 0, .int 101]) (mem' := fm g tp bt a b) (fun _ _ _ => rfl) ?_
                        rw [show (((nI F) + 20) - 15 : Int32) = nI ((F + 20) - 15) from by simp only [show (20 : Int32) = nI 20 from rfl, show (15 : Int32) = nI 15 from rfl, tg_sub2 (x := F + 20) (y := 15) (by omega), nI_add, fm_mul]]
                        refine fe_ivV (fr_byteAt (S := S) (k := (F + 20) - 15) (g := g) (tp := tp) (bt := bt) (a := a) (b := b) h11 (by omega) (by omega)) (by omega) (by rfl) (by rfl) (by rfl) (by rfl) (by rfl) (by rfl) ?_
                        rcases fm_byte_or a S ((F + 20) - 15) with ⟨e23, q24⟩ | ⟨q24, n22, qn22, e23⟩
                        · rw [e23]
                          refine fe_s 1 (pc' := cond (fx_cb .ne 101 (-1)) 106 102) (lc' := [(6, .int 20), (5, .int 1), (4, .int 21), (3, .int 15), (2, .int 3), (0, .ref 0), (1, .ref 22)]) (stk' := []) (mem' := fm g tp bt a b) (fun _ _ _ => rfl) ?_
                          rw [show (fx_cb .ne 101 (-1)) = true from by decide]
                          dsimp only [cond]
                          refine fe_s 4 (pc' := 68) (lc' := [(6, .int (20 + 1)), (5, .int 0), (4, .int 21), (3, .int 15), (2, .int 3), (0, .ref 0), (1, .ref 22)]) (stk' := []) (mem' := fm g tp bt a b) (fun _ _ _ => rfl) ?_
                          rw [show (20 + 1 : Int32) = 21 from rfl]
                          refine fe_s 2 (pc' := 72) (lc' := [(6, .int 21), (5, .int 0), (4, .int 21), (3, .int 15), (2, .int 3), (0, .ref 0), (1, .ref 22)]) (stk' := [.int 21, .int 21]) (mem' := fm g tp bt a b) (fun _ _ _ => rfl) ?_
                          refine fe_s 1 (pc' := cond (fx_cb .ge 21 21) 115 75) (lc' := [(6, .int 21), (5, .int 0), (4, .int 21), (3, .int 15), (2, .int 3), (0, .ref 0), (1, .ref 22)]) (stk' := []) (mem' := fm g tp bt a b) (fun _ _ _ => rfl) ?_
                          rw [show (fx_cb .ge 21 21) = true from by decide]
                          dsimp only [cond]
                          refine fe_s 1 (pc' := 117) (lc' := [(6, .int 21), (5, .int 0), (4, .int 21), (3, .int 15), (2, .int 3), (0, .ref 0), (1, .ref 22)]) (stk' := [.int 0]) (mem' := fm g tp bt a b) (fun _ _ _ => rfl) ?_
                          refine fe_s 1 (pc' := cond (fx_cb .eq 0 0) 122 120) (lc' := [(6, .int 21), (5, .int 0), (4, .int 21), (3, .int 15), (2, .int 3), (0, .ref 0), (1, .ref 22)]) (stk' := []) (mem' := fm g tp bt a b) (fun _ _ _ => rfl) ?_
                          rw [show (fx_cb .eq 0 0) = true from by decide]
                          dsimp only [cond]
                          refine fe_s 4 (pc' := 129) (lc' := [(2, .int (3 + 1)), (6, .int 21), (5, .int 0), (4, .int 21), (3, .int 15), (0, .ref 0), (1, .ref 22)]) (stk' := [.int (21 + 1)]) (mem' := fm g tp bt a b) (fun _ _ _ => rfl) ?_
                          rw [show (3 + 1 : Int32) = 4 from rfl]
                          rw [show (21 + 1 : Int32) = 22 from rfl]
                          refine fe_s 1 (pc' := 130) (lc' := [(3, .int 22), (2, .int 4), (6, .int 21), (5, .int 0), (4, .int 21), (0, .ref 0), (1, .ref 22)]) (stk' := []) (mem' := fm g tp bt a b) (fun _ _ _ => rfl) ?_
                          refine fe_s 1 (pc' := fx_to 130 (-116)) (lc' := [(3, .int 22), (2, .int 4), (6, .int 21), (5, .int 0), (4, .int 21), (0, .ref 0), (1, .ref 22)]) (stk' := []) (mem' := fm g tp bt a b) (fun _ _ _ => rfl) ?_
                          rw [show fx_to 130 (-116) = 14 from by decide]
                          refine fe_w (lc' := [(3, .int 22), (2, .int 4), (0, .ref 0), (1, .ref 22)]) ⟨rfl, rfl, rfl, rfl, trivial⟩ (by show List.Nodup [3, 2, 0, 1]; decide) (by show List.Nodup [3, 2, 6, 5, 4, 0, 1]; decide) ?_
                          exact fw_4 hxp
                        · rw [e23]
                          refine fe_s 1 (pc' := cond (fx_cb .ne 101 (nI n22)) 106 102) (lc' := [(6, .int 20), (5, .int 1), (4, .int 21), (3, .int 15), (2, .int 3), (0, .ref 0), (1, .ref 22)]) (stk' := []) (mem' := fm g tp bt a b) (fun _ _ _ => rfl) ?_
                          by_cases h25 : 101 = n22
                          · rw [show (fx_cb .ne 101 (nI n22)) = false from cb_neF (a := 101) (b := n22) (by omega) (by omega) (by omega)]
                            dsimp only [cond]
                            refine fe_s 4 (pc' := 112) (lc' := [(6, .int (20 + 1)), (5, .int 1), (4, .int 21), (3, .int 15), (2, .int 3), (0, .ref 0), (1, .ref 22)]) (stk' := []) (mem' := fm g tp bt a b) (fun _ _ _ => rfl) ?_
                            rw [show (20 + 1 : Int32) = 21 from rfl]
                            refine fe_s 3 (pc' := 72) (lc' := [(6, .int 21), (5, .int 1), (4, .int 21), (3, .int 15), (2, .int 3), (0, .ref 0), (1, .ref 22)]) (stk' := [.int 21, .int 21]) (mem' := fm g tp bt a b) (fun _ _ _ => rfl) ?_
                            refine fe_s 1 (pc' := cond (fx_cb .ge 21 21) 115 75) (lc' := [(6, .int 21), (5, .int 1), (4, .int 21), (3, .int 15), (2, .int 3), (0, .ref 0), (1, .ref 22)]) (stk' := []) (mem' := fm g tp bt a b) (fun _ _ _ => rfl) ?_
                            rw [show (fx_cb .ge 21 21) = true from by decide]
                            dsimp only [cond]
                            refine fe_s 1 (pc' := 117) (lc' := [(6, .int 21), (5, .int 1), (4, .int 21), (3, .int 15), (2, .int 3), (0, .ref 0), (1, .ref 22)]) (stk' := [.int 1]) (mem' := fm g tp bt a b) (fun _ _ _ => rfl) ?_
                            refine fe_s 1 (pc' := cond (fx_cb .eq 1 0) 122 120) (lc' := [(6, .int 21), (5, .int 1), (4, .int 21), (3, .int 15), (2, .int 3), (0, .ref 0), (1, .ref 22)]) (stk' := []) (mem' := fm g tp bt a b) (fun _ _ _ => rfl) ?_
                            rw [show (fx_cb .eq 1 0) = false from by decide]
                            dsimp only [cond]
                            refine fe_s 1 (pc' := 121) (lc' := [(6, .int 21), (5, .int 1), (4, .int 21), (3, .int 15), (2, .int 3), (0, .ref 0), (1, .ref 22)]) (stk' := [.int 3]) (mem' := fm g tp bt a b) (fun _ _ _ => rfl) ?_
                            exact fe_ret ⟨_, Or.inr ⟨3, by omega, rfl⟩, rfl⟩ (by rfl) (by rfl) (by rfl)
                          · rw [show (fx_cb .ne 101 (nI n22)) = true from cb_neT (a := 101) (b := n22) (by omega) (by omega) (by omega)]
                            dsimp only [cond]
                            refine fe_s 4 (pc' := 68) (lc' := [(6, .int (20 + 1)), (5, .int 0), (4, .int 21), (3, .int 15), (2, .int 3), (0, .ref 0), (1, .ref 22)]) (stk' := []) (mem' := fm g tp bt a b) (fun _ _ _ => rfl) ?_
                            rw [show (20 + 1 : Int32) = 21 from rfl]
                            refine fe_s 2 (pc' := 72) (lc' := [(6, .int 21), (5, .int 0), (4, .int 21), (3, .int 15), (2, .int 3), (0, .ref 0), (1, .ref 22)]) (stk' := [.int 21, .int 21]) (mem' := fm g tp bt a b) (fun _ _ _ => rfl) ?_
                            refine fe_s 1 (pc' := cond (fx_cb .ge 21 21) 115 75) (lc' := [(6, .int 21), (5, .int 0), (4, .int 21), (3, .int 15), (2, .int 3), (0, .ref 0), (1, .ref 22)]) (stk' := []) (mem' := fm g tp bt a b) (fun _ _ _ => rfl) ?_
                            rw [show (fx_cb .ge 21 21) = true from by decide]
                            dsimp only [cond]
                            refine fe_s 1 (pc' := 117) (lc' := [(6, .int 21), (5, .int 0), (4, .int 21), (3, .int 15), (2, .int 3), (0, .ref 0), (1, .ref 22)]) (stk' := [.int 0]) (mem' := fm g tp bt a b) (fun _ _ _ => rfl) ?_
                            refine fe_s 1 (pc' := cond (fx_cb .eq 0 0) 122 120) (lc' := [(6, .int 21), (5, .int 0), (4, .int 21), (3, .int 15), (2, .int 3), (0, .ref 0), (1, .ref 22)]) (stk' := []) (mem' := fm g tp bt a b) (fun _ _ _ => rfl) ?_
                            rw [show (fx_cb .eq 0 0) = true from by decide]
                            dsimp only [cond]
                            refine fe_s 4 (pc' := 129) (lc' := [(2, .int (3 + 1)), (6, .int 21), (5, .int 0), (4, .int 21), (3, .int 15), (0, .ref 0), (1, .ref 22)]) (stk' := [.int (21 + 1)]) (mem' := fm g tp bt a b) (fun _ _ _ => rfl) ?_
                            rw [show (3 + 1 : Int32) = 4 from rfl]
                            rw [show (21 + 1 : Int32) = 22 from rfl]
                            refine fe_s 1 (pc' := 130) (lc' := [(3, .int 22), (2, .int 4), (6, .int 21), (5, .int 0), (4, .int 21), (0, .ref 0), (1, .ref 22)]) (stk' := []) (mem' := fm g tp bt a b) (fun _ _ _ => rfl) ?_
                            refine fe_s 1 (pc' := fx_to 130 (-116)) (lc' := [(3, .int 22), (2, .int 4), (6, .int 21), (5, .int 0), (4, .int 21), (0, .ref 0), (1, .ref 22)]) (stk' := []) (mem' := fm g tp bt a b) (fun _ _ _ => rfl) ?_
                            rw [show fx_to 130 (-116) = 14 from by decide]
                            refine fe_w (lc' := [(3, .int 22), (2, .int 4), (0, .ref 0), (1, .ref 22)]) ⟨rfl, rfl, rfl, rfl, trivial⟩ (by show List.Nodup [3, 2, 0, 1]; decide) (by show List.Nodup [3, 2, 6, 5, 4, 0, 1]; decide) ?_
                            exact fw_4 hxp
                      · rw [show (fx_cb .ne 100 (nI n18)) = true from cb_neT (a := 100) (b := n18) (by omega) (by omega) (by omega)]
                        dsimp only [cond]
                        refine fe_s 4 (pc' := 68) (lc' := [(6, .int (19 + 1)), (5, .int 0), (4, .int 21), (3, .int 15), (2, .int 3), (0, .ref 0), (1, .ref 22)]) (stk' := []) (mem' := fm g tp bt a b) (fun _ _ _ => rfl) ?_
                        rw [show (19 + 1 : Int32) = 20 from rfl]
                        refine fe_s 2 (pc' := 72) (lc' := [(6, .int 20), (5, .int 0), (4, .int 21), (3, .int 15), (2, .int 3), (0, .ref 0), (1, .ref 22)]) (stk' := [.int 21, .int 20]) (mem' := fm g tp bt a b) (fun _ _ _ => rfl) ?_
                        refine fe_s 1 (pc' := cond (fx_cb .ge 20 21) 115 75) (lc' := [(6, .int 20), (5, .int 0), (4, .int 21), (3, .int 15), (2, .int 3), (0, .ref 0), (1, .ref 22)]) (stk' := []) (mem' := fm g tp bt a b) (fun _ _ _ => rfl) ?_
                        rw [show (fx_cb .ge 20 21) = false from by decide]
                        dsimp only [cond]
                        refine fe_s 1 (pc' := 77) (lc' := [(6, .int 20), (5, .int 0), (4, .int 21), (3, .int 15), (2, .int 3), (0, .ref 0), (1, .ref 22)]) (stk' := [.int 0]) (mem' := fm g tp bt a b) (fun _ _ _ => rfl) ?_
                        refine fe_s 1 (pc' := cond (fx_cb .eq 0 0) 115 80) (lc' := [(6, .int 20), (5, .int 0), (4, .int 21), (3, .int 15), (2, .int 3), (0, .ref 0), (1, .ref 22)]) (stk' := []) (mem' := fm g tp bt a b) (fun _ _ _ => rfl) ?_
                        rw [show (fx_cb .eq 0 0) = true from by decide]
                        dsimp only [cond]
                        refine fe_s 1 (pc' := 117) (lc' := [(6, .int 20), (5, .int 0), (4, .int 21), (3, .int 15), (2, .int 3), (0, .ref 0), (1, .ref 22)]) (stk' := [.int 0]) (mem' := fm g tp bt a b) (fun _ _ _ => rfl) ?_
                        refine fe_s 1 (pc' := cond (fx_cb .eq 0 0) 122 120) (lc' := [(6, .int 20), (5, .int 0), (4, .int 21), (3, .int 15), (2, .int 3), (0, .ref 0), (1, .ref 22)]) (stk' := []) (mem' := fm g tp bt a b) (fun _ _ _ => rfl) ?_
                        rw [show (fx_cb .eq 0 0) = true from by decide]
                        dsimp only [cond]
                        refine fe_s 4 (pc' := 129) (lc' := [(2, .int (3 + 1)), (6, .int 20), (5, .int 0), (4, .int 21), (3, .int 15), (0, .ref 0), (1, .ref 22)]) (stk' := [.int (21 + 1)]) (mem' := fm g tp bt a b) (fun _ _ _ => rfl) ?_
                        rw [show (3 + 1 : Int32) = 4 from rfl]
                        rw [show (21 + 1 : Int32) = 22 from rfl]
                        refine fe_s 1 (pc' := 130) (lc' := [(3, .int 22), (2, .int 4), (6, .int 20), (5, .int 0), (4, .int 21), (0, .ref 0), (1, .ref 22)]) (stk' := []) (mem' := fm g tp bt a b) (fun _ _ _ => rfl) ?_
                        refine fe_s 1 (pc' := fx_to 130 (-116)) (lc' := [(3, .int 22), (2, .int 4), (6, .int 20), (5, .int 0), (4, .int 21), (0, .ref 0), (1, .ref 22)]) (stk' := []) (mem' := fm g tp bt a b) (fun _ _ _ => rfl) ?_
                        rw [show fx_to 130 (-116) = 14 from by decide]
                        refine fe_w (lc' := [(3, .int 22), (2, .int 4), (0, .ref 0), (1, .ref 22)]) ⟨rfl, rfl, rfl, rfl, trivial⟩ (by show List.Nodup [3, 2, 0, 1]; decide) (by show List.Nodup [3, 2, 6, 5, 4, 0, 1]; decide) ?_
                        exact fw_4 hxp
                  · rw [show (fx_cb .ne 105 (nI n14)) = true from cb_neT (a := 105) (b := n14) (by omega) (by omega) (by omega)]
                    dsimp only [cond]
                    refine fe_s 4 (pc' := 68) (lc' := [(6, .int (18 + 1)), (5, .int 0), (4, .int 21), (3, .int 15), (2, .int 3), (0, .ref 0), (1, .ref 22)]) (stk' := []) (mem' := fm g tp bt a b) (fun _ _ _ => rfl) ?_
                    rw [show (18 + 1 : Int32) = 19 from rfl]
                    refine fe_s 2 (pc' := 72) (lc' := [(6, .int 19), (5, .int 0), (4, .int 21), (3, .int 15), (2, .int 3), (0, .ref 0), (1, .ref 22)]) (stk' := [.int 21, .int 19]) (mem' := fm g tp bt a b) (fun _ _ _ => rfl) ?_
                    refine fe_s 1 (pc' := cond (fx_cb .ge 19 21) 115 75) (lc' := [(6, .int 19), (5, .int 0), (4, .int 21), (3, .int 15), (2, .int 3), (0, .ref 0), (1, .ref 22)]) (stk' := []) (mem' := fm g tp bt a b) (fun _ _ _ => rfl) ?_
                    rw [show (fx_cb .ge 19 21) = false from by decide]
                    dsimp only [cond]
                    refine fe_s 1 (pc' := 77) (lc' := [(6, .int 19), (5, .int 0), (4, .int 21), (3, .int 15), (2, .int 3), (0, .ref 0), (1, .ref 22)]) (stk' := [.int 0]) (mem' := fm g tp bt a b) (fun _ _ _ => rfl) ?_
                    refine fe_s 1 (pc' := cond (fx_cb .eq 0 0) 115 80) (lc' := [(6, .int 19), (5, .int 0), (4, .int 21), (3, .int 15), (2, .int 3), (0, .ref 0), (1, .ref 22)]) (stk' := []) (mem' := fm g tp bt a b) (fun _ _ _ => rfl) ?_
                    rw [show (fx_cb .eq 0 0) = true from by decide]
                    dsimp only [cond]
                    refine fe_s 1 (pc' := 117) (lc' := [(6, .int 19), (5, .int 0), (4, .int 21), (3, .int 15), (2, .int 3), (0, .ref 0), (1, .ref 22)]) (stk' := [.int 0]) (mem' := fm g tp bt a b) (fun _ _ _ => rfl) ?_
                    refine fe_s 1 (pc' := cond (fx_cb .eq 0 0) 122 120) (lc' := [(6, .int 19), (5, .int 0), (4, .int 21), (3, .int 15), (2, .int 3), (0, .ref 0), (1, .ref 22)]) (stk' := []) (mem' := fm g tp bt a b) (fun _ _ _ => rfl) ?_
                    rw [show (fx_cb .eq 0 0) = true from by decide]
                    dsimp only [cond]
                    refine fe_s 4 (pc' := 129) (lc' := [(2, .int (3 + 1)), (6, .int 19), (5, .int 0), (4, .int 21), (3, .int 15), (0, .ref 0), (1, .ref 22)]) (stk' := [.int (21 + 1)]) (mem' := fm g tp bt a b) (fun _ _ _ => rfl) ?_
                    rw [show (3 + 1 : Int32) = 4 from rfl]
                    rw [show (21 + 1 : Int32) = 22 from rfl]
                    refine fe_s 1 (pc' := 130) (lc' := [(3, .int 22), (2, .int 4), (6, .int 19), (5, .int 0), (4, .int 21), (0, .ref 0), (1, .ref 22)]) (stk' := []) (mem' := fm g tp bt a b) (fun _ _ _ => rfl) ?_
                    refine fe_s 1 (pc' := fx_to 130 (-116)) (lc' := [(3, .int 22), (2, .int 4), (6, .int 19), (5, .int 0), (4, .int 21), (0, .ref 0), (1, .ref 22)]) (stk' := []) (mem' := fm g tp bt a b) (fun _ _ _ => rfl) ?_
                    rw [show fx_to 130 (-116) = 14 from by decide]
                    refine fe_w (lc' := [(3, .int 22), (2, .int 4), (0, .ref 0), (1, .ref 22)]) ⟨rfl, rfl, rfl, rfl, trivial⟩ (by show List.Nodup [3, 2, 0, 1]; decide) (by show List.Nodup [3, 2, 6, 5, 4, 0, 1]; decide) ?_
                    exact fw_4 hxp
              · rw [show (fx_cb .ne 115 (nI n10)) = true from cb_neT (a := 115) (b := n10) (by omega) (by omega) (by omega)]
                dsimp only [cond]
                refine fe_s 4 (pc' := 68) (lc' := [(6, .int (17 + 1)), (5, .int 0), (4, .int 21), (3, .int 15), (2, .int 3), (0, .ref 0), (1, .ref 22)]) (stk' := []) (mem' := fm g tp bt a b) (fun _ _ _ => rfl) ?_
                rw [show (17 + 1 : Int32) = 18 from rfl]
                refine fe_s 2 (pc' := 72) (lc' := [(6, .int 18), (5, .int 0), (4, .int 21), (3, .int 15), (2, .int 3), (0, .ref 0), (1, .ref 22)]) (stk' := [.int 21, .int 18]) (mem' := fm g tp bt a b) (fun _ _ _ => rfl) ?_
                refine fe_s 1 (pc' := cond (fx_cb .ge 18 21) 115 75) (lc' := [(6, .int 18), (5, .int 0), (4, .int 21), (3, .int 15), (2, .int 3), (0, .ref 0), (1, .ref 22)]) (stk' := []) (mem' := fm g tp bt a b) (fun _ _ _ => rfl) ?_
                rw [show (fx_cb .ge 18 21) = false from by decide]
                dsimp only [cond]
                refine fe_s 1 (pc' := 77) (lc' := [(6, .int 18), (5, .int 0), (4, .int 21), (3, .int 15), (2, .int 3), (0, .ref 0), (1, .ref 22)]) (stk' := [.int 0]) (mem' := fm g tp bt a b) (fun _ _ _ => rfl) ?_
                refine fe_s 1 (pc' := cond (fx_cb .eq 0 0) 115 80) (lc' := [(6, .int 18), (5, .int 0), (4, .int 21), (3, .int 15), (2, .int 3), (0, .ref 0), (1, .ref 22)]) (stk' := []) (mem' := fm g tp bt a b) (fun _ _ _ => rfl) ?_
                rw [show (fx_cb .eq 0 0) = true from by decide]
                dsimp only [cond]
                refine fe_s 1 (pc' := 117) (lc' := [(6, .int 18), (5, .int 0), (4, .int 21), (3, .int 15), (2, .int 3), (0, .ref 0), (1, .ref 22)]) (stk' := [.int 0]) (mem' := fm g tp bt a b) (fun _ _ _ => rfl) ?_
                refine fe_s 1 (pc' := cond (fx_cb .eq 0 0) 122 120) (lc' := [(6, .int 18), (5, .int 0), (4, .int 21), (3, .int 15), (2, .int 3), (0, .ref 0), (1, .ref 22)]) (stk' := []) (mem' := fm g tp bt a b) (fun _ _ _ => rfl) ?_
                rw [show (fx_cb .eq 0 0) = true from by decide]
                dsimp only [cond]
                refine fe_s 4 (pc' := 129) (lc' := [(2, .int (3 + 1)), (6, .int 18), (5, .int 0), (4, .int 21), (3, .int 15), (0, .ref 0), (1, .ref 22)]) (stk' := [.int (21 + 1)]) (mem' := fm g tp bt a b) (fun _ _ _ => rfl) ?_
                rw [show (3 + 1 : Int32) = 4 from rfl]
                rw [show (21 + 1 : Int32) = 22 from rfl]
                refine fe_s 1 (pc' := 130) (lc' := [(3, .int 22), (2, .int 4), (6, .int 18), (5, .int 0), (4, .int 21), (0, .ref 0), (1, .ref 22)]) (stk' := []) (mem' := fm g tp bt a b) (fun _ _ _ => rfl) ?_
                refine fe_s 1 (pc' := fx_to 130 (-116)) (lc' := [(3, .int 22), (2, .int 4), (6, .int 18), (5, .int 0), (4, .int 21), (0, .ref 0), (1, .ref 22)]) (stk' := []) (mem' := fm g tp bt a b) (fun _ _ _ => rfl) ?_
                rw [show fx_to 130 (-116) = 14 from by decide]
                refine fe_w (lc' := [(3, .int 22), (2, .int 4), (0, .ref 0), (1, .ref 22)]) ⟨rfl, rfl, rfl, rfl, trivial⟩ (by show List.Nodup [3, 2, 0, 1]; decide) (by show List.Nodup [3, 2, 6, 5, 4, 0, 1]; decide) ?_
                exact fw_4 hxp
          · rw [show (fx_cb .ne 101 (nI n6)) = true from cb_neT (a := 101) (b := n6) (by omega) (by omega) (by omega)]
            dsimp only [cond]
            refine fe_s 4 (pc' := 68) (lc' := [(6, .int (16 + 1)), (5, .int 0), (4, .int 21), (3, .int 15), (2, .int 3), (0, .ref 0), (1, .ref 22)]) (stk' := []) (mem' := fm g tp bt a b) (fun _ _ _ => rfl) ?_
            rw [show (16 + 1 : Int32) = 17 from rfl]
            refine fe_s 2 (pc' := 72) (lc' := [(6, .int 17), (5, .int 0), (4, .int 21), (3, .int 15), (2, .int 3), (0, .ref 0), (1, .ref 22)]) (stk' := [.int 21, .int 17]) (mem' := fm g tp bt a b) (fun _ _ _ => rfl) ?_
            refine fe_s 1 (pc' := cond (fx_cb .ge 17 21) 115 75) (lc' := [(6, .int 17), (5, .int 0), (4, .int 21), (3, .int 15), (2, .int 3), (0, .ref 0), (1, .ref 22)]) (stk' := []) (mem' := fm g tp bt a b) (fun _ _ _ => rfl) ?_
            rw [show (fx_cb .ge 17 21) = false from by decide]
            dsimp only [cond]
            refine fe_s 1 (pc' := 77) (lc' := [(6, .int 17), (5, .int 0), (4, .int 21), (3, .int 15), (2, .int 3), (0, .ref 0), (1, .ref 22)]) (stk' := [.int 0]) (mem' := fm g tp bt a b) (fun _ _ _ => rfl) ?_
            refine fe_s 1 (pc' := cond (fx_cb .eq 0 0) 115 80) (lc' := [(6, .int 17), (5, .int 0), (4, .int 21), (3, .int 15), (2, .int 3), (0, .ref 0), (1, .ref 22)]) (stk' := []) (mem' := fm g tp bt a b) (fun _ _ _ => rfl) ?_
            rw [show (fx_cb .eq 0 0) = true from by decide]
            dsimp only [cond]
            refine fe_s 1 (pc' := 117) (lc' := [(6, .int 17), (5, .int 0), (4, .int 21), (3, .int 15), (2, .int 3), (0, .ref 0), (1, .ref 22)]) (stk' := [.int 0]) (mem' := fm g tp bt a b) (fun _ _ _ => rfl) ?_
            refine fe_s 1 (pc' := cond (fx_cb .eq 0 0) 122 120) (lc' := [(6, .int 17), (5, .int 0), (4, .int 21), (3, .int 15), (2, .int 3), (0, .ref 0), (1, .ref 22)]) (stk' := []) (mem' := fm g tp bt a b) (fun _ _ _ => rfl) ?_
            rw [show (fx_cb .eq 0 0) = true from by decide]
            dsimp only [cond]
            refine fe_s 4 (pc' := 129) (lc' := [(2, .int (3 + 1)), (6, .int 17), (5, .int 0), (4, .int 21), (3, .int 15), (0, .ref 0), (1, .ref 22)]) (stk' := [.int (21 + 1)]) (mem' := fm g tp bt a b) (fun _ _ _ => rfl) ?_
            rw [show (3 + 1 : Int32) = 4 from rfl]
            rw [show (21 + 1 : Int32) = 22 from rfl]
            refine fe_s 1 (pc' := 130) (lc' := [(3, .int 22), (2, .int 4), (6, .int 17), (5, .int 0), (4, .int 21), (0, .ref 0), (1, .ref 22)]) (stk' := []) (mem' := fm g tp bt a b) (fun _ _ _ => rfl) ?_
            refine fe_s 1 (pc' := fx_to 130 (-116)) (lc' := [(3, .int 22), (2, .int 4), (6, .int 17), (5, .int 0), (4, .int 21), (0, .ref 0), (1, .ref 22)]) (stk' := []) (mem' := fm g tp bt a b) (fun _ _ _ => rfl) ?_
            rw [show fx_to 130 (-116) = 14 from by decide]
            refine fe_w (lc' := [(3, .int 22), (2, .int 4), (0, .ref 0), (1, .ref 22)]) ⟨rfl, rfl, rfl, rfl, trivial⟩ (by show List.Nodup [3, 2, 0, 1]; decide) (by show List.Nodup [3, 2, 6, 5, 4, 0, 1]; decide) ?_
            exact fw_4 hxp
      · rw [show (fx_cb .ne 98 (nI n2)) = true from cb_neT (a := 98) (b := n2) (by omega) (by omega) (by omega)]
        dsimp only [cond]
        refine fe_s 4 (pc' := 68) (lc' := [(6, .int (15 + 1)), (5, .int 0), (4, .int 21), (3, .int 15), (2, .int 3), (0, .ref 0), (1, .ref 22)]) (stk' := []) (mem' := fm g tp bt a b) (fun _ _ _ => rfl) ?_
        rw [show (15 + 1 : Int32) = 16 from rfl]
        refine fe_s 2 (pc' := 72) (lc' := [(6, .int 16), (5, .int 0), (4, .int 21), (3, .int 15), (2, .int 3), (0, .ref 0), (1, .ref 22)]) (stk' := [.int 21, .int 16]) (mem' := fm g tp bt a b) (fun _ _ _ => rfl) ?_
        refine fe_s 1 (pc' := cond (fx_cb .ge 16 21) 115 75) (lc' := [(6, .int 16), (5, .int 0), (4, .int 21), (3, .int 15), (2, .int 3), (0, .ref 0), (1, .ref 22)]) (stk' := []) (mem' := fm g tp bt a b) (fun _ _ _ => rfl) ?_
        rw [show (fx_cb .ge 16 21) = false from by decide]
        dsimp only [cond]
        refine fe_s 1 (pc' := 77) (lc' := [(6, .int 16), (5, .int 0), (4, .int 21), (3, .int 15), (2, .int 3), (0, .ref 0), (1, .ref 22)]) (stk' := [.int 0]) (mem' := fm g tp bt a b) (fun _ _ _ => rfl) ?_
        refine fe_s 1 (pc' := cond (fx_cb .eq 0 0) 115 80) (lc' := [(6, .int 16), (5, .int 0), (4, .int 21), (3, .int 15), (2, .int 3), (0, .ref 0), (1, .ref 22)]) (stk' := []) (mem' := fm g tp bt a b) (fun _ _ _ => rfl) ?_
        rw [show (fx_cb .eq 0 0) = true from by decide]
        dsimp only [cond]
        refine fe_s 1 (pc' := 117) (lc' := [(6, .int 16), (5, .int 0), (4, .int 21), (3, .int 15), (2, .int 3), (0, .ref 0), (1, .ref 22)]) (stk' := [.int 0]) (mem' := fm g tp bt a b) (fun _ _ _ => rfl) ?_
        refine fe_s 1 (pc' := cond (fx_cb .eq 0 0) 122 120) (lc' := [(6, .int 16), (5, .int 0), (4, .int 21), (3, .int 15), (2, .int 3), (0, .ref 0), (1, .ref 22)]) (stk' := []) (mem' := fm g tp bt a b) (fun _ _ _ => rfl) ?_
        rw [show (fx_cb .eq 0 0) = true from by decide]
        dsimp only [cond]
        refine fe_s 4 (pc' := 129) (lc' := [(2, .int (3 + 1)), (6, .int 16), (5, .int 0), (4, .int 21), (3, .int 15), (0, .ref 0), (1, .ref 22)]) (stk' := [.int (21 + 1)]) (mem' := fm g tp bt a b) (fun _ _ _ => rfl) ?_
        rw [show (3 + 1 : Int32) = 4 from rfl]
        rw [show (21 + 1 : Int32) = 22 from rfl]
        refine fe_s 1 (pc' := 130) (lc' := [(3, .int 22), (2, .int 4), (6, .int 16), (5, .int 0), (4, .int 21), (0, .ref 0), (1, .ref 22)]) (stk' := []) (mem' := fm g tp bt a b) (fun _ _ _ => rfl) ?_
        refine fe_s 1 (pc' := fx_to 130 (-116)) (lc' := [(3, .int 22), (2, .int 4), (6, .int 16), (5, .int 0), (4, .int 21), (0, .ref 0), (1, .ref 22)]) (stk' := []) (mem' := fm g tp bt a b) (fun _ _ _ => rfl) ?_
        rw [show fx_to 130 (-116) = 14 from by decide]
        refine fe_w (lc' := [(3, .int 22), (2, .int 4), (0, .ref 0), (1, .ref 22)]) ⟨rfl, rfl, rfl, rfl, trivial⟩ (by show List.Nodup [3, 2, 0, 1]; decide) (by show List.Nodup [3, 2, 6, 5, 4, 0, 1]; decide) ?_
        exact fw_4 hxp
  · rw [show (fx_cb .ne 6 (nI (E - F))) = true from cb_neT (a := 6) (b := E - F) (by omega) (by omega) (by omega)]
    dsimp only [cond]
    refine fe_s 4 (pc' := 68) (lc' := [(6, .int 15), (5, .int 0), (4, .int 21), (3, .int 15), (2, .int 3), (0, .ref 0), (1, .ref 22)]) (stk' := []) (mem' := fm g tp bt a b) (fun _ _ _ => rfl) ?_
    refine fe_s 2 (pc' := 72) (lc' := [(6, .int 15), (5, .int 0), (4, .int 21), (3, .int 15), (2, .int 3), (0, .ref 0), (1, .ref 22)]) (stk' := [.int 21, .int 15]) (mem' := fm g tp bt a b) (fun _ _ _ => rfl) ?_
    refine fe_s 1 (pc' := cond (fx_cb .ge 15 21) 115 75) (lc' := [(6, .int 15), (5, .int 0), (4, .int 21), (3, .int 15), (2, .int 3), (0, .ref 0), (1, .ref 22)]) (stk' := []) (mem' := fm g tp bt a b) (fun _ _ _ => rfl) ?_
    rw [show (fx_cb .ge 15 21) = false from by decide]
    dsimp only [cond]
    refine fe_s 1 (pc' := 77) (lc' := [(6, .int 15), (5, .int 0), (4, .int 21), (3, .int 15), (2, .int 3), (0, .ref 0), (1, .ref 22)]) (stk' := [.int 0]) (mem' := fm g tp bt a b) (fun _ _ _ => rfl) ?_
    refine fe_s 1 (pc' := cond (fx_cb .eq 0 0) 115 80) (lc' := [(6, .int 15), (5, .int 0), (4, .int 21), (3, .int 15), (2, .int 3), (0, .ref 0), (1, .ref 22)]) (stk' := []) (mem' := fm g tp bt a b) (fun _ _ _ => rfl) ?_
    rw [show (fx_cb .eq 0 0) = true from by decide]
    dsimp only [cond]
    refine fe_s 1 (pc' := 117) (lc' := [(6, .int 15), (5, .int 0), (4, .int 21), (3, .int 15), (2, .int 3), (0, .ref 0), (1, .ref 22)]) (stk' := [.int 0]) (mem' := fm g tp bt a b) (fun _ _ _ => rfl) ?_
    refine fe_s 1 (pc' := cond (fx_cb .eq 0 0) 122 120) (lc' := [(6, .int 15), (5, .int 0), (4, .int 21), (3, .int 15), (2, .int 3), (0, .ref 0), (1, .ref 22)]) (stk' := []) (mem' := fm g tp bt a b) (fun _ _ _ => rfl) ?_
    rw [show (fx_cb .eq 0 0) = true from by decide]
    dsimp only [cond]
    refine fe_s 4 (pc' := 129) (lc' := [(2, .int (3 + 1)), (6, .int 15), (5, .int 0), (4, .int 21), (3, .int 15), (0, .ref 0), (1, .ref 22)]) (stk' := [.int (21 + 1)]) (mem' := fm g tp bt a b) (fun _ _ _ => rfl) ?_
    rw [show (3 + 1 : Int32) = 4 from rfl]
    rw [show (21 + 1 : Int32) = 22 from rfl]
    refine fe_s 1 (pc' := 130) (lc' := [(3, .int 22), (2, .int 4), (6, .int 15), (5, .int 0), (4, .int 21), (0, .ref 0), (1, .ref 22)]) (stk' := []) (mem' := fm g tp bt a b) (fun _ _ _ => rfl) ?_
    refine fe_s 1 (pc' := fx_to 130 (-116)) (lc' := [(3, .int 22), (2, .int 4), (6, .int 15), (5, .int 0), (4, .int 21), (0, .ref 0), (1, .ref 22)]) (stk' := []) (mem' := fm g tp bt a b) (fun _ _ _ => rfl) ?_
    rw [show fx_to 130 (-116) = 14 from by decide]
    refine fe_w (lc' := [(3, .int 22), (2, .int 4), (0, .ref 0), (1, .ref 22)]) ⟨rfl, rfl, rfl, rfl, trivial⟩ (by show List.Nodup [3, 2, 0, 1]; decide) (by show List.Nodup [3, 2, 6, 5, 4, 0, 1]; decide) ?_
    exact fw_4 hxp
end FIW7
