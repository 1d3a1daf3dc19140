/-! ===== fx: which word it is (9) ===== -/
section FIW9
variable {g : Nat → Int32} {tp bt : Int64} {a : Nat → Nat → Int32} {b : Nat → Nat → Int64}
theorem fw_0 {S E F : Nat} (hxp : fm_xp g S E F) : fe_R 1 gk_m226 14 [(3, .int 1), (2, .int 0), (0, .ref 0), (1, .ref 22)] [] (fm g tp bt a b) (fm_FI (fm g tp bt a b)) := by
  obtain ⟨h11, hS9, h14, hES, h13, hFE, -, -, -⟩ := id hxp
  refine fe_s 2 (pc' := 16) (lc' := [(3, .int 1), (2, .int 0), (0, .ref 0), (1, .ref 22)]) (stk' := [.ref 22, .int 1]) (mem' := fm g tp bt a b) (fun _ _ _ => rfl) ?_
  refine fe_s 1 (pc' := 19) (lc' := [(3, .int 1), (2, .int 0), (0, .ref 0), (1, .ref 22)]) (stk' := [.int 117, .int 1]) (mem' := fm g tp bt a b) (fun _ _ _ => rfl) ?_
  refine fe_s 1 (pc' := cond (fx_cb .ge 1 117) 133 22) (lc' := [(3, .int 1), (2, .int 0), (0, .ref 0), (1, .ref 22)]) (stk' := []) (mem' := fm g tp bt a b) (fun _ _ _ => rfl) ?_
  rw [show (fx_cb .ge 1 117) = false from by decide]
  dsimp only [cond]
  refine fe_s 4 (pc' := 28) (lc' := [(4, .int 1), (3, .int 1), (2, .int 0), (0, .ref 0), (1, .ref 22)]) (stk' := [.int 1, .ref 22]) (mem' := fm g tp bt a b) (fun _ _ _ => rfl) ?_
  refine fe_chr (i := 1) (by omega) (by rfl) (by rfl) ⟨by rfl, by rfl⟩ (by rfl) ?_
  rw [show sk_b.getD 1 0 = 105 from rfl]
  refine fe_s 1 (pc' := 33) (lc' := [(4, .int 1), (3, .int 1), (2, .int 0), (0, .ref 0), (1, .ref 22)]) (stk' := [.int 32, .int 105]) (mem' := fm g tp bt a b) (fun _ _ _ => rfl) ?_
  refine fe_s 1 (pc' := cond (fx_cb .eq 105 32) 42 36) (lc' := [(4, .int 1), (3, .int 1), (2, .int 0), (0, .ref 0), (1, .ref 22)]) (stk' := []) (mem' := fm g tp bt a b) (fun _ _ _ => rfl) ?_
  rw [show (fx_cb .eq 105 32) = false from by decide]
  dsimp only [cond]
  refine fe_s 4 (pc' := 28) (lc' := [(4, .int (1 + 1)), (3, .int 1), (2, .int 0), (0, .ref 0), (1, .ref 22)]) (stk' := [.int (1 + 1), .ref 22]) (mem' := fm g tp bt a b) (fun _ _ _ => rfl) ?_
  rw [show (1 + 1 : Int32) = 2 from rfl]
  refine fe_chr (i := 2) (by omega) (by rfl) (by rfl) ⟨by rfl, by rfl⟩ (by rfl) ?_
  rw [show sk_b.getD 2 0 = 99 from rfl]
  refine fe_s 1 (pc' := 33) (lc' := [(4, .int 2), (3, .int 1), (2, .int 0), (0, .ref 0), (1, .ref 22)]) (stk' := [.int 32, .int 99]) (mem' := fm g tp bt a b) (fun _ _ _ => rfl) ?_
  refine fe_s 1 (pc' := cond (fx_cb .eq 99 32) 42 36) (lc' := [(4, .int 2), (3, .int 1), (2, .int 0), (0, .ref 0), (1, .ref 22)]) (stk' := []) (mem' := fm g tp bt a b) (fun _ _ _ => rfl) ?_
  rw [show (fx_cb .eq 99 32) = false from by decide]
  dsimp only [cond]
  refine fe_s 4 (pc' := 28) (lc' := [(4, .int (2 + 1)), (3, .int 1), (2, .int 0), (0, .ref 0), (1, .ref 22)]) (stk' := [.int (2 + 1), .ref 22]) (mem' := fm g tp bt a b) (fun _ _ _ => rfl) ?_
  rw [show (2 + 1 : Int32) = 3 from rfl]
  refine fe_chr (i := 3) (by omega) (by rfl) (by rfl) ⟨by rfl, by rfl⟩ (by rfl) ?_
  rw [show sk_b.getD 3 0 = 101 from rfl]
  refine fe_s 1 (pc' := 33) (lc' := [(4, .int 3), (3, .int 1), (2, .int 0), (0, .ref 0), (1, .ref 22)]) (stk' := [.int 32, .int 101]) (mem' := fm g tp bt a b) (fun _ _ _ => rfl) ?_
  refine fe_s 1 (pc' := cond (fx_cb .eq 101 32) 42 36) (lc' := [(4, .int 3), (3, .int 1), (2, .int 0), (0, .ref 0), (1, .ref 22)]) (stk' := []) (mem' := fm g tp bt a b) (fun _ _ _ => rfl) ?_
  rw [show (fx_cb .eq 101 32) = false from by decide]
  dsimp only [cond]
  refine fe_s 4 (pc' := 28) (lc' := [(4, .int (3 + 1)), (3, .int 1), (2, .int 0), (0, .ref 0), (1, .ref 22)]) (stk' := [.int (3 + 1), .ref 22]) (mem' := fm g tp bt a b) (fun _ _ _ => rfl) ?_
  rw [show (3 + 1 : Int32) = 4 from rfl]
  refine fe_chr (i := 4) (by omega) (by rfl) (by rfl) ⟨by rfl, by rfl⟩ (by rfl) ?_
  rw [show sk_b.getD 4 0 = 32 from rfl]
  refine fe_s 1 (pc' := 33) (lc' := [(4, .int 4), (3, .int 1), (2, .int 0), (0, .ref 0), (1, .ref 22)]) (stk' := [.int 32, .int 32]) (mem' := fm g tp bt a b) (fun _ _ _ => rfl) ?_
  refine fe_s 1 (pc' := cond (fx_cb .eq 32 32) 42 36) (lc' := [(4, .int 4), (3, .int 1), (2, .int 0), (0, .ref 0), (1, .ref 22)]) (stk' := []) (mem' := fm g tp bt a b) (fun _ _ _ => rfl) ?_
  rw [show (fx_cb .eq 32 32) = true from by decide]
  dsimp only [cond]
  refine fe_s 4 (pc' := 47) (lc' := [(4, .int 4), (3, .int 1), (2, .int 0), (0, .ref 0), (1, .ref 22)]) (stk' := [.ref 0, .int (4 - 1)]) (mem' := fm g tp bt a b) (fun _ _ _ => rfl) ?_
  rw [show (4 - 1 : Int32) = 3 from rfl]
  refine fe_s 4 (pc' := 55) (lc' := [(4, .int 4), (3, .int 1), (2, .int 0), (0, .ref 0), (1, .ref 22)]) (stk' := [.int ((g 14) - (g 13)), .int 3]) (mem' := fm g tp bt a b) (fun _ _ _ => rfl) ?_
  try rw [h14]
  try rw [h13]
  rw [show ((nI E) - (nI F) : Int32) = nI (E - F) from by simp only [tg_sub2 (x := E) (y := F) (by omega), nI_add, fm_mul]]
  refine fe_s 1 (pc' := cond (fx_cb .ne 3 (nI (E - F))) 62 58) (lc' := [(4, .int 4), (3, .int 1), (2, .int 0), (0, .ref 0), (1, .ref 22)]) (stk' := []) (mem' := fm g tp bt a b) (fun _ _ _ => rfl) ?_
  by_cases h1 : 3 = (E - F)
  · rw [show (fx_cb .ne 3 (nI (E - F))) = false from cb_neF (a := 3) (b := E - F) (by omega) (by omega) (by omega)]
    dsimp only [cond]
    refine fe_s 4 (pc' := 66) (lc' := [(5, .int 1), (4, .int 4), (3, .int 1), (2, .int 0), (0, .ref 0), (1, .ref 22)]) (stk' := [.int 1]) (mem' := fm g tp bt a b) (fun _ _ _ => rfl) ?_
    refine fe_s 3 (pc' := 72) (lc' := [(6, .int 1), (5, .int 1), (4, .int 4), (3, .int 1), (2, .int 0), (0, .ref 0), (1, .ref 22)]) (stk' := [.int 4, .int 1]) (mem' := fm g tp bt a b) (fun _ _ _ => rfl) ?_
    refine fe_s 1 (pc' := cond (fx_cb .ge 1 4) 115 75) (lc' := [(6, .int 1), (5, .int 1), (4, .int 4), (3, .int 1), (2, .int 0), (0, .ref 0), (1, .ref 22)]) (stk' := []) (mem' := fm g tp bt a b) (fun _ _ _ => rfl) ?_
    rw [show (fx_cb .ge 1 4) = false from by decide]
    dsimp only [cond]
    refine fe_s 1 (pc' := 77) (lc' := [(6, .int 1), (5, .int 1), (4, .int 4), (3, .int 1), (2, .int 0), (0, .ref 0), (1, .ref 22)]) (stk' := [.int 1]) (mem' := fm g tp bt a b) (fun _ _ _ => rfl) ?_
    refine fe_s 1 (pc' := cond (fx_cb .eq 1 0) 115 80) (lc' := [(6, .int 1), (5, .int 1), (4, .int 4), (3, .int 1), (2, .int 0), (0, .ref 0), (1, .ref 22)]) (stk' := []) (mem' := fm g tp bt a b) (fun _ _ _ => rfl) ?_
    rw [show (fx_cb .eq 1 0) = false from by decide]
    dsimp only [cond]
    refine fe_s 2 (pc' := 83) (lc' := [(6, .int 1), (5, .int 1), (4, .int 4), (3, .int 1), (2, .int 0), (0, .ref 0), (1, .ref 22)]) (stk' := [.int 1, .ref 22]) (mem' := fm g tp bt a b) (fun _ _ _ => rfl) ?_
    refine fe_chr (i := 1) (by omega) (by rfl) (by rfl) ⟨by rfl, by rfl⟩ (by rfl) ?_
    rw [show sk_b.getD 1 0 = 105 from rfl]
    refine fe_s 4 (pc' := 93) (lc' := [(6, .int 1), (5, .int 1), (4, .int 4), (3, .int 1), (2, .int 0), (0, .ref 0), (1, .ref 22)]) (stk' := [.int 1, .int (g 13), .ref 0, .int 105]) (mem' := fm g tp bt a b) (fun _ _ _ => rfl) ?_
    try rw [h13]
    refine fe_s 3 (pc' := 96) (lc' := [(6, .int 1), (5, .int 1), (4, .int 4), (3, .int 1), (2, .int 0), (0, .ref 0), (1, .ref 22)]) (stk' := [.int (((nI F) + 1) - 1), .ref 0, .int 105]) (mem' := fm g tp bt a b) (fun _ _ _ => rfl) ?_
    rw [show (((nI F) + 1) - 1 : Int32) = nI ((F + 1) - 1) from by simp only [show (1 : Int32) = nI 1 from rfl, tg_sub2 (x := F + 1) (y := 1) (by omega), nI_add, fm_mul]]
    refine fe_ivV (fr_byteAt (S := S) (k := (F + 1) - 1) (g := g) (tp := tp) (bt := bt) (a := a) (b := b) h11 (by omega) (by omega)) (by omega) (by rfl) (by rfl) (by rfl) (by rfl) (by rfl) (by rfl) ?_
    rcases fm_byte_or a S ((F + 1) - 1) with ⟨e3, q4⟩ | ⟨q4, n2, qn2, e3⟩
    · rw [e3]
      refine fe_s 1 (pc' := cond (fx_cb .ne 105 (-1)) 106 102) (lc' := [(6, .int 1), (5, .int 1), (4, .int 4), (3, .int 1), (2, .int 0), (0, .ref 0), (1, .ref 22)]) (stk' := []) (mem' := fm g tp bt a b) (fun _ _ _ => rfl) ?_
      rw [show (fx_cb .ne 105 (-1)) = true from by decide]
      dsimp only [cond]
      refine fe_s 4 (pc' := 68) (lc' := [(6, .int (1 + 1)), (5, .int 0), (4, .int 4), (3, .int 1), (2, .int 0), (0, .ref 0), (1, .ref 22)]) (stk' := []) (mem' := fm g tp bt a b) (fun _ _ _ => rfl) ?_
      rw [show (1 + 1 : Int32) = 2 from rfl]
      refine fe_s 2 (pc' := 72) (lc' := [(6, .int 2), (5, .int 0), (4, .int 4), (3, .int 1), (2, .int 0), (0, .ref 0), (1, .ref 22)]) (stk' := [.int 4, .int 2]) (mem' := fm g tp bt a b) (fun _ _ _ => rfl) ?_
      refine fe_s 1 (pc' := cond (fx_cb .ge 2 4) 115 75) (lc' := [(6, .int 2), (5, .int 0), (4, .int 4), (3, .int 1), (2, .int 0), (0, .ref 0), (1, .ref 22)]) (stk' := []) (mem' := fm g tp bt a b) (fun _ _ _ => rfl) ?_
      rw [show (fx_cb .ge 2 4) = false from by decide]
      dsimp only [cond]
      refine fe_s 1 (pc' := 77) (lc' := [(6, .int 2), (5, .int 0), (4, .int 4), (3, .int 1), (2, .int 0), (0, .ref 0), (1, .ref 22)]) (stk' := [.int 0]) (mem' := fm g tp bt a b) (fun _ _ _ => rfl) ?_
      refine fe_s 1 (pc' := cond (fx_cb .eq 0 0) 115 80) (lc' := [(6, .int 2), (5, .int 0), (4, .int 4), (3, .int 1), (2, .int 0), (0, .ref 0), (1, .ref 22)]) (stk' := []) (mem' := fm g tp bt a b) (fun _ _ _ => rfl) ?_
      rw [show (fx_cb .eq 0 0) = true from by decide]
      dsimp only [cond]
      refine fe_s 1 (pc' := 117) (lc' := [(6, .int 2), (5, .int 0), (4, .int 4), (3, .int 1), (2, .int 0), (0, .ref 0), (1, .ref 22)]) (stk' := [.int 0]) (mem' := fm g tp bt a b) (fun _ _ _ => rfl) ?_
      refine fe_s 1 (pc' := cond (fx_cb .eq 0 0) 122 120) (lc' := [(6, .int 2), (5, .int 0), (4, .int 4), (3, .int 1), (2, .int 0), (0, .ref 0), (1, .ref 22)]) (stk' := []) (mem' := fm g tp bt a b) (fun _ _ _ => rfl) ?_
      rw [show (fx_cb .eq 0 0) = true from by decide]
      dsimp only [cond]
      refine fe_s 4 (pc' := 129) (lc' := [(2, .int (0 + 1)), (6, .int 2), (5, .int 0), (4, .int 4), (3, .int 1), (0, .ref 0), (1, .ref 22)]) (stk' := [.int (4 + 1)]) (mem' := fm g tp bt a b) (fun _ _ _ => rfl) ?_
      rw [show (4 + 1 : Int32) = 5 from rfl]
      rw [show (0 + 1 : Int32) = 1 from rfl]
      refine fe_s 1 (pc' := 130) (lc' := [(3, .int 5), (2, .int 1), (6, .int 2), (5, .int 0), (4, .int 4), (0, .ref 0), (1, .ref 22)]) (stk' := []) (mem' := fm g tp bt a b) (fun _ _ _ => rfl) ?_
      refine fe_s 1 (pc' := fx_to 130 (-116)) (lc' := [(3, .int 5), (2, .int 1), (6, .int 2), (5, .int 0), (4, .int 4), (0, .ref 0), (1, .ref 22)]) (stk' := []) (mem' := fm g tp bt a b) (fun _ _ _ => rfl) ?_
      rw [show fx_to 130 (-116) = 14 from by decide]
      refine fe_w (lc' := [(3, .int 5), (2, .int 1), (0, .ref 0), (1, .ref 22)]) ⟨rfl, rfl, rfl, rfl, trivial⟩ (by show List.Nodup [3, 2, 0, 1]; decide) (by show List.Nodup [3, 2, 6, 5, 4, 0, 1]; decide) ?_
      exact fw_1 hxp
    · rw [e3]
      refine fe_s 1 (pc' := cond (fx_cb .ne 105 (nI n2)) 106 102) (lc' := [(6, .int 1), (5, .int 1), (4, .int 4), (3, .int 1), (2, .int 0), (0, .ref 0), (1, .ref 22)]) (stk' := []) (mem' := fm g tp bt a b) (fun _ _ _ => rfl) ?_
      by_cases h5 : 105 = n2
      · rw [show (fx_cb .ne 105 (nI n2)) = false from cb_neF (a := 105) (b := n2) (by omega) (by omega) (by omega)]
        dsimp only [cond]
        refine fe_s 4 (pc' := 112) (lc' := [(6, .int (1 + 1)), (5, .int 1), (4, .int 4), (3, .int 1), (2, .int 0), (0, .ref 0), (1, .ref 22)]) (stk' := []) (mem' := fm g tp bt a b) (fun _ _ _ => rfl) ?_
        rw [show (1 + 1 : Int32) = 2 from rfl]
        refine fe_s 3 (pc' := 72) (lc' := [(6, .int 2), (5, .int 1), (4, .int 4), (3, .int 1), (2, .int 0), (0, .ref 0), (1, .ref 22)]) (stk' := [.int 4, .int 2]) (mem' := fm g tp bt a b) (fun _ _ _ => rfl) ?_
        refine fe_s 1 (pc' := cond (fx_cb .ge 2 4) 115 75) (lc' := [(6, .int 2), (5, .int 1), (4, .int 4), (3, .int 1), (2, .int 0), (0, .ref 0), (1, .ref 22)]) (stk' := []) (mem' := fm g tp bt a b) (fun _ _ _ => rfl) ?_
        rw [show (fx_cb .ge 2 4) = false from by decide]
        dsimp only [cond]
        refine fe_s 1 (pc' := 77) (lc' := [(6, .int 2), (5, .int 1), (4, .int 4), (3, .int 1), (2, .int 0), (0, .ref 0), (1, .ref 22)]) (stk' := [.int 1]) (mem' := fm g tp bt a b) (fun _ _ _ => rfl) ?_
        refine fe_s 1 (pc' := cond (fx_cb .eq 1 0) 115 80) (lc' := [(6, .int 2), (5, .int 1), (4, .int 4), (3, .int 1), (2, .int 0), (0, .ref 0), (1, .ref 22)]) (stk' := []) (mem' := fm g tp bt a b) (fun _ _ _ => rfl) ?_
        rw [show (fx_cb .eq 1 0) = false from by decide]
        dsimp only [cond]
        refine fe_s 2 (pc' := 83) (lc' := [(6, .int 2), (5, .int 1), (4, .int 4), (3, .int 1), (2, .int 0), (0, .ref 0), (1, .ref 22)]) (stk' := [.int 2, .ref 22]) (mem' := fm g tp bt a b) (fun _ _ _ => rfl) ?_
        refine fe_chr (i := 2) (by omega) (by rfl) (by rfl) ⟨by rfl, by rfl⟩ (by rfl) ?_
        rw [show sk_b.getD 2 0 = 99 from rfl]
        refine fe_s 4 (pc' := 93) (lc' := [(6, .int 2), (5, .int 1), (4, .int 4), (3, .int 1), (2, .int 0), (0, .ref 0), (1, .ref 22)]) (stk' := [.int 2, .int (g 13), .ref 0, .int 99]) (mem' := fm g tp bt a b) (fun _ _ _ => rfl) ?_
        try rw [h13]
        refine fe_s 3 (pc' := 96) (lc' := [(6, .int 2), (5, .int 1), (4, .int 4), (3, .int 1), (2, .int 0), (0, .ref 0), (1, .ref 22)]) (stk' := [.int (((nI F) + 2) - 1), .ref 0, .int 99]) (mem' := fm g tp bt a b) (fun _ _ _ => rfl) ?_
        rw [show (((nI F) + 2) - 1 : Int32) = nI ((F + 2) - 1) from by simp only [show (2 : Int32) = nI 2 from rfl, show (1 : Int32) = nI 1 from rfl, tg_sub2 (x := F + 2) (y := 1) (by omega), nI_add, fm_mul]]
        refine fe_ivV (fr_byteAt (S := S) (k := (F + 2) - 1) (g := g) (tp := tp) (bt := bt) (a := a) (b := b) h11 (by omega) (by omega)) (by omega) (by rfl) (by rfl) (by rfl) (by rfl) (by rfl) (by rfl) ?_
        rcases fm_byte_or a S ((F + 2) - 1) with ⟨e7, q8⟩ | ⟨q8, n6, qn6, e7⟩
        · rw [e7]
          refine fe_s 1 (pc' := cond (fx_cb .ne 99 (-1)) 106 102) (lc' := [(6, .int 2), (5, .int 1), (4, .int 4), (3, .int 1), (2, .int 0), (0, .ref 0), (1, .ref 22)]) (stk' := []) (mem' := fm g tp bt a b) (fun _ _ _ => rfl) ?_
          rw [show (fx_cb .ne 99 (-1)) = true from by decide]
          dsimp only [cond]
          refine fe_s 4 (pc' := 68) (lc' := [(6, .int (2 + 1)), (5, .int 0), (4, .int 4), (3, .int 1), (2, .int 0), (0, .ref 0), (1, .ref 22)]) (stk' := []) (mem' := fm g tp bt a b) (fun _ _ _ => rfl) ?_
          rw [show (2 + 1 : Int32) = 3 from rfl]
          refine fe_s 2 (pc' := 72) (lc' := [(6, .int 3), (5, .int 0), (4, .int 4), (3, .int 1), (2, .int 0), (0, .ref 0), (1, .ref 22)]) (stk' := [.int 4, .int 3]) (mem' := fm g tp bt a b) (fun _ _ _ => rfl) ?_
          refine fe_s 1 (pc' := cond (fx_cb .ge 3 4) 115 75) (lc' := [(6, .int 3), (5, .int 0), (4, .int 4), (3, .int 1), (2, .int 0), (0, .ref 0), (1, .ref 22)]) (stk' := []) (mem' := fm g tp bt a b) (fun _ _ _ => rfl) ?_
          rw [show (fx_cb .ge 3 4) = false from by decide]
          dsimp only [cond]
          refine fe_s 1 (pc' := 77) (lc' := [(6, .int 3), (5, .int 0), (4, .int 4), (3, .int 1), (2, .int 0), (0, .ref 0), (1, .ref 22)]) (stk' := [.int 0]) (mem' := fm g tp bt a b) (fun _ _ _ => rfl) ?_
          refine fe_s 1 (pc' := cond (fx_cb .eq 0 0) 115 80) (lc' := [(6, .int 3), (5, .int 0), (4, .int 4), (3, .int 1), (2, .int 0), (0, .ref 0), (1, .ref 22)]) (stk' := []) (mem' := fm g tp bt a b) (fun _ _ _ => rfl) ?_
          rw [show (fx_cb .eq 0 0) = true from by decide]
          dsimp only [cond]
          refine fe_s 1 (pc' := 117) (lc' := [(6, .int 3), (5, .int 0), (4, .int 4), (3, .int 1), (2, .int 0), (0, .ref 0), (1, .ref 22)]) (stk' := [.int 0]) (mem' := fm g tp bt a b) (fun _ _ _ => rfl) ?_
          refine fe_s 1 (pc' := cond (fx_cb .eq 0 0) 122 120) (lc' := [(6, .int 3), (5, .int 0), (4, .int 4), (3, .int 1), (2, .int 0), (0, .ref 0), (1, .ref 22)]) (stk' := []) (mem' := fm g tp bt a b) (fun _ _ _ => rfl) ?_
          rw [show (fx_cb .eq 0 0) = true from by decide]
          dsimp only [cond]
          refine fe_s 4 (pc' := 129) (lc' := [(2, .int (0 + 1)), (6, .int 3), (5, .int 0), (4, .int 4), (3, .int 1), (0, .ref 0), (1, .ref 22)]) (stk' := [.int (4 + 1)]) (mem' := fm g tp bt a b) (fun _ _ _ => rfl) ?_
          rw [show (4 + 1 : Int32) = 5 from rfl]
          rw [show (0 + 1 : Int32) = 1 from rfl]
          refine fe_s 1 (pc' := 130) (lc' := [(3, .int 5), (2, .int 1), (6, .int 3), (5, .int 0), (4, .int 4), (0, .ref 0), (1, .ref 22)]) (stk' := []) (mem' := fm g tp bt a b) (fun _ _ _ => rfl) ?_
          refine fe_s 1 (pc' := fx_to 130 (-116)) (lc' := [(3, .int 5), (2, .int 1), (6, .int 3), (5, .int 0), (4, .int 4), (0, .ref 0), (1, .ref 22)]) (stk' := []) (mem' := fm g tp bt a b) (fun _ _ _ => rfl) ?_
          rw [show fx_to 130 (-116) = 14 from by decide]
          refine fe_w (lc' := [(3, .int 5), (2, .int 1), (0, .ref 0), (1, .ref 22)]) ⟨rfl, rfl, rfl, rfl, trivial⟩ (by show List.Nodup [3, 2, 0, 1]; decide) (by show List.Nodup [3, 2, 6, 5, 4, 0, 1]; decide) ?_
          exact fw_1 hxp
        · rw [e7]
          refine fe_s 1 (pc' := cond (fx_cb .ne 99 (nI n6)) 106 102) (lc' := [(6, .int 2), (5, .int 1), (4, .int 4), (3, .int 1), (2, .int 0), (0, .ref 0), (1, .ref 22)]) (stk' := []) (mem' := fm g tp bt a b) (fun _ _ _ => rfl) ?_
          by_cases h9 : 99 = n6
          · rw [show (fx_cb .ne 99 (nI n6)) = false from cb_neF (a := 99) (b := n6) (by omega) (by omega) (by omega)]
            dsimp only [cond]
            refine fe_s 4 (pc' := 112) (lc' := [(6, .int (2 + 1)), (5, .int 1), (4, .int 4), (3, .int 1), (2, .int 0), (0, .ref 0), (1, .ref 22)]) (stk' := []) (mem' := fm g tp bt a b) (fun _ _ _ => rfl) ?_
            rw [show (2 + 1 : Int32) = 3 from rfl]
            refine fe_s 3 (pc' := 72) (lc' := [(6, .int 3), (5, .int 1), (4, .int 4), (3, .int 1), (2, .int 0), (0, .ref 0), (1, .ref 22)]) (stk' := [.int 4, .int 3]) (mem' := fm g tp bt a b) (fun _ _ _ => rfl) ?_
            refine fe_s 1 (pc' := cond (fx_cb .ge 3 4) 115 75) (lc' := [(6, .int 3), (5, .int 1), (4, .int 4), (3, .int 1), (2, .int 0), (0, .ref 0), (1, .ref 22)]) (stk' := []) (mem' := fm g tp bt a b) (fun _ _ _ => rfl) ?_
            rw [show (fx_cb .ge 3 4) = false from by decide]
            dsimp only [cond]
            refine fe_s 1 (pc' := 77) (lc' := [(6, .int 3), (5, .int 1), (4, .int 4), (3, .int 1), (2, .int 0), (0, .ref 0), (1, .ref 22)]) (stk' := [.int 1]) (mem' := fm g tp bt a b) (fun _ _ _ => rfl) ?_
            refine fe_s 1 (pc' := cond (fx_cb .eq 1 0) 115 80) (lc' := [(6, .int 3), (5, .int 1), (4, .int 4), (3, .int 1), (2, .int 0), (0, .ref 0), (1, .ref 22)]) (stk' := []) (mem' := fm g tp bt a b) (fun _ _ _ => rfl) ?_
            rw [show (fx_cb .eq 1 0) = false from by decide]
            dsimp only [cond]
            refine fe_s 2 (pc' := 83) (lc' := [(6, .int 3), (5, .int 1), (4, .int 4), (3, .int 1), (2, .int 0), (0, .ref 0), (1, .ref 22)]) (stk' := [.int 3, .ref 22]) (mem' := fm g tp bt a b) (fun _ _ _ => rfl) ?_
            refine fe_chr (i := 3) (by omega) (by rfl) (by rfl) ⟨by rfl, by rfl⟩ (by rfl) ?_
            rw [show sk_b.getD 3 0 = 101 from rfl]
            refine fe_s 4 (pc' := 93) (lc' := [(6, .int 3), (5, .int 1), (4, .int 4), (3, .int 1), (2, .int 0), (0, .ref 0), (1, .ref 22)]) (stk' := [.int 3, .int (g 13), .ref 0, .int 101]) (mem' := fm g tp bt a b) (fun _ _ _ => rfl) ?_
            try rw [h13]
            refine fe_s 3 (pc' := 96) (lc' := [(6, .int 3), (5, .int 1), (4, .int 4), (3, .int 1), (2, .int 0), (0, .ref 0), (1, .ref 22)]) (stk' := [.int (((nI F) + 3) - 1), .ref 0, .int 101]) (mem' := fm g tp bt a b) (fun _ _ _ => rfl) ?_
            rw [show (((nI F) + 3) - 1 : Int32) = nI ((F + 3) - 1) from by simp only [show (3 : Int32) = nI 3 from rfl, show (1 : Int32) = nI 1 from rfl, tg_sub2 (x := F + 3) (y := 1) (by omega), nI_add, fm_mul]]
            refine fe_ivV (fr_byteAt (S := S) (k := (F + 3) - 1) (g := g) (tp := tp) (bt := bt) (a := a) (b := b) h11 (by omega) (by omega)) (by omega) (by rfl) (by rfl) (by rfl) (by rfl) (by rfl) (by rfl) ?_
            rcases fm_byte_or a S ((F + 3) - 1) with ⟨e11, q12⟩ | ⟨q12, n10, qn10, e11⟩
            · rw [e11]
              refine fe_s 1 (pc' := cond (fx_cb .ne 101 (-1)) 106 102) (lc' := [(6, .int 3), (5, .int 1), (4, .int 4), (3, .int 1), (2, .int 0), (0, .ref 0), (1, .ref 22)]) (stk' := []) (mem' := fm g tp bt a b) (fun _ _ _ => rfl) ?_
              rw [show (fx_cb .ne 101 (-1)) = true from by decide]
              dsimp only [cond]
              refine fe_s 4 (pc' := 68) (lc' := [(6, .int (3 + 1)), (5, .int 0), (4, .int 4), (3, .int 1), (2, .int 0), (0, .ref 0), (1, .ref 22)]) (stk' := []) (mem' := fm g tp bt a b) (fun _ _ _ => rfl) ?_
              rw [show (3 + 1 : Int32) = 4 from rfl]
              refine fe_s 2 (pc' := 72) (lc' := [(6, .int 4), (5, .int 0), (4, .int 4), (3, .int 1), (2, .int 0), (0, .ref 0), (1, .ref 22)]) (stk' := [.int 4, .int 4]) (mem' := fm g tp bt a b) (fun _ _ _ => rfl) ?_
              refine fe_s 1 (pc' := cond (fx_cb .ge 4 4) 115 75) (lc' := [(6, .int 4), (5, .int 0), (4, .int 4), (3, .int 1), (2, .int 0), (0, .ref 0), (1, .ref 22)]) (stk' := []) (mem' := fm g tp bt a b) (fun _ _ _ => rfl) ?_
              rw [show (fx_cb .ge 4 4) = true from by decide]
              dsimp only [cond]
              refine fe_s 1 (pc' := 117) (lc' := [(6, .int 4), (5, .int 0), (4, .int 4), (3, .int 1), (2, .int 0), (0, .ref 0), (1, .ref 22)]) (stk' := [.int 0]) (mem' := fm g tp bt a b) (fun _ _ _ => rfl) ?_
              refine fe_s 1 (pc' := cond (fx_cb .eq 0 0) 122 120) (lc' := [(6, .int 4), (5, .int 0), (4, .int 4), (3, .int 1), (2, .int 0), (0, .ref 0), (1, .ref 22)]) (stk' := []) (mem' := fm g tp bt a b) (fun _ _ _ => rfl) ?_
              rw [show (fx_cb .eq 0 0) = true from by decide]
              dsimp only [cond]
              refine fe_s 4 (pc' := 129) (lc' := [(2, .int (0 + 1)), (6, .int 4), (5, .int 0), (4, .int 4), (3, .int 1), (0, .ref 0), (1, .ref 22)]) (stk' := [.int (4 + 1)]) (mem' := fm g tp bt a b) (fun _ _ _ => rfl) ?_
              rw [show (4 + 1 : Int32) = 5 from rfl]
              rw [show (0 + 1 : Int32) = 1 from rfl]
              refine fe_s 1 (pc' := 130) (lc' := [(3, .int 5), (2, .int 1), (6, .int 4), (5, .int 0), (4, .int 4), (0, .ref 0), (1, .ref 22)]) (stk' := []) (mem' := fm g tp bt a b) (fun _ _ _ => rfl) ?_
              refine fe_s 1 (pc' := fx_to 130 (-116)) (lc' := [(3, .int 5), (2, .int 1), (6, .int 4), (5, .int 0), (4, .int 4), (0, .ref 0), (1, .ref 22)]) (stk' := []) (mem' := fm g tp bt a b) (fun _ _ _ => rfl) ?_
              rw [show fx_to 130 (-116) = 14 from by decide]
              refine fe_w (lc' := [(3, .int 5), (2, .int 1), (0, .ref 0), (1, .ref 22)]) ⟨rfl, rfl, rfl, rfl, trivial⟩ (by show List.Nodup [3, 2, 0, 1]; decide) (by show List.Nodup [3, 2, 6, 5, 4, 0, 1]; decide) ?_
              exact fw_1 hxp
            · rw [e11]
              refine fe_s 1 (pc' := cond (fx_cb .ne 101 (nI n10)) 106 102) (lc' := [(6, .int 3), (5, .int 1), (4, .int 4), (3, .int 1), (2, .int 0), (0, .ref 0), (1, .ref 22)]) (stk' := []) (mem' := fm g tp bt a b) (fun _ _ _ => rfl) ?_
              by_cases h13 : 101 = n10
              · rw [show (fx_cb .ne 101 (nI n10)) = false from cb_neF (a := 101) (b := n10) (by omega) (by omega) (by omega)]
                dsimp only [cond]
                refine fe_s 4 (pc' := 112) (lc' := [(6, .int (3 + 1)), (5, .int 1), (4, .int 4), (3, .int 1), (2, .int 0), (0, .ref 0), (1, .ref 22)]) (stk' := []) (mem' := fm g tp bt a b) (fun _ _ _ => rfl) ?_
                rw [show (3 + 1 : Int32) = 4 from rfl]
                refine fe_s 3 (pc' := 72) (lc' := [(6, .int 4), (5, .int 1), (4, .int 4), (3, .int 1), (2, .int 0), (0, .ref 0), (1, .ref 22)]) (stk' := [.int 4, .int 4]) (mem' := fm g tp bt a b) (fun _ _ _ => rfl) ?_
                refine fe_s 1 (pc' := cond (fx_cb .ge 4 4) 115 75) (lc' := [(6, .int 4), (5, .int 1), (4, .int 4), (3, .int 1), (2, .int 0), (0, .ref 0), (1, .ref 22)]) (stk' := []) (mem' := fm g tp bt a b) (fun _ _ _ => rfl) ?_
                rw [show (fx_cb .ge 4 4) = true from by decide]
                dsimp only [cond]
                refine fe_s 1 (pc' := 117) (lc' := [(6, .int 4), (5, .int 1), (4, .int 4), (3, .int 1), (2, .int 0), (0, .ref 0), (1, .ref 22)]) (stk' := [.int 1]) (mem' := fm g tp bt a b) (fun _ _ _ => rfl) ?_
                refine fe_s 1 (pc' := cond (fx_cb .eq 1 0) 122 120) (lc' := [(6, .int 4), (5, .int 1), (4, .int 4), (3, .int 1), (2, .int 0), (0, .ref 0), (1, .ref 22)]) (stk' := []) (mem' := fm g tp bt a b) (fun _ _ _ => rfl) ?_
                rw [show (fx_cb .eq 1 0) = false from by decide]
                dsimp only [cond]
                refine fe_s 1 (pc' := 121) (lc' := [(6, .int 4), (5, .int 1), (4, .int 4), (3, .int 1), (2, .int 0), (0, .ref 0), (1, .ref 22)]) (stk' := [.int 0]) (mem' := fm g tp bt a b) (fun _ _ _ => rfl) ?_
                exact fe_ret ⟨_, Or.inr ⟨0, by omega, rfl⟩, rfl⟩ (by rfl) (by rfl) (by rfl)
              · rw [show (fx_cb .ne 101 (nI n10)) = true from cb_neT (a := 101) (b := n10) (by omega) (by omega) (by omega)]
                dsimp only [cond]
                refine fe_s 4 (pc' := 68) (lc' := [(6, .int (3 + 1)), (5, .int 0), (4, .int 4), (3, .int 1), (2, .int 0), (0, .ref 0), (1, .ref 22)]) (stk' := []) (mem' := fm g tp bt a b) (fun _ _ _ => rfl) ?_
                rw [show (3 + 1 : Int32) = 4 from rfl]
                refine fe_s 2 (pc' := 72) (lc' := [(6, .int 4), (5, .int 0), (4, .int 4), (3, .int 1), (2, .int 0), (0, .ref 0), (1, .ref 22)]) (stk' := [.int 4, .int 4]) (mem' := fm g tp bt a b) (fun _ _ _ => rfl) ?_
                refine fe_s 1 (pc' := cond (fx_cb .ge 4 4) 115 75) (lc' := [(6, .int 4), (5, .int 0), (4, .int 4), (3, .int 1), (2, .int 0), (0, .ref 0), (1, .ref 22)]) (stk' := []) (mem' := fm g tp bt a b) (fun _ _ _ => rfl) ?_
                rw [show (fx_cb .ge 4 4) = true from by decide]
                dsimp only [cond]
                refine fe_s 1 (pc' := 117) (lc' := [(6, .int 4), (5, .int 0), (4, .int 4), (3, .int 1), (2, .int 0), (0, .ref 0), (1, .ref 22)]) (stk' := [.int 0]) (mem' := fm g tp bt a b) (fun _ _ _ => rfl) ?_
                refine fe_s 1 (pc' := cond (fx_cb .eq 0 0) 122 120) (lc' := [(6, .int 4), (5, .int 0), (4, .int 4), (3, .int 1), (2, .int 0), (0, .ref 0), (1, .ref 22)]) (stk' := []) (mem' := fm g tp bt a b) (fun _ _ _ => rfl) ?_
                rw [show (fx_cb .eq 0 0) = true from by decide]
                dsimp only [cond]
                refine fe_s 4 (pc' := 129) (lc' := [(2, .int (0 + 1)), (6, .int 4), (5, .int 0), (4, .int 4), (3, .int 1), (0, .ref 0), (1, .ref 22)]) (stk' := [.int (4 + 1)]) (mem' := fm g tp bt a b) (fun _ _ _ => rfl) ?_
                rw [show (4 + 1 : Int32) = 5 from rfl]
                rw [show (0 + 1 : Int32) = 1 from rfl]
                refine fe_s 1 (pc' := 130) (lc' := [(3, .int 5), (2, .int 1), (6, .int 4), (5, .int 0), (4, .int 4), (0, .ref 0), (1, .ref 22)]) (stk' := []) (mem' := fm g tp bt a b) (fun _ _ _ => rfl) ?_
                refine fe_s 1 (pc' := fx_to 130 (-116)) (lc' := [(3, .int 5), (2, .int 1), (6, .int 4), (5, .int 0), (4, .int 4), (0, .ref 0), (1, .ref 22)]) (stk' := []) (mem' := fm g tp bt a b) (fun _ _ _ => rfl) ?_
                rw [show fx_to 130 (-116) = 14 from by decide]
                refine fe_w (lc' := [(3, .int 5), (2, .int 1), (0, .ref 0), (1, .ref 22)]) ⟨rfl, rfl, rfl, rfl, trivial⟩ (by show List.Nodup [3, 2, 0, 1]; decide) (by show List.Nodup [3, 2, 6, 5, 4, 0, 1]; decide) ?_
                exact fw_1 hxp
          · rw [show (fx_cb .ne 99 (nI n6)) = true from cb_neT (a := 99) (b := n6) (by omega) (by omega) (by omega)]
            dsimp only [cond]
            refine fe_s 4 (pc' := 68) (lc' := [(6, .int (2 + 1)), (5, .int 0), (4, .int 4), (3, .int 1), (2, .int 0), (0, .ref 0), (1, .ref 22)]) (stk' := []) (mem' := fm g tp bt a b) (fun _ _ _ => rfl) ?_
            rw [show (2 + 1 : Int32) = 3 from rfl]
            refine fe_s 2 (pc' := 72) (lc' := [(6, .int 3), (5, .int 0), (4, .int 4), (3, .int 1), (2, .int 0), (0, .ref 0), (1, .ref 22)]) (stk' := [.int 4, .int 3]) (mem' := fm g tp bt a b) (fun _ _ _ => rfl) ?_
            refine fe_s 1 (pc' := cond (fx_cb .ge 3 4) 115 75) (lc' := [(6, .int 3), (5, .int 0), (4, .int 4), (3, .int 1), (2, .int 0), (0, .ref 0), (1, .ref 22)]) (stk' := []) (mem' := fm g tp bt a b) (fun _ _ _ => rfl) ?_
            rw [show (fx_cb .ge 3 4) = false from by decide]
            dsimp only [cond]
            refine fe_s 1 (pc' := 77) (lc' := [(6, .int 3), (5, .int 0), (4, .int 4), (3, .int 1), (2, .int 0), (0, .ref 0), (1, .ref 22)]) (stk' := [.int 0]) (mem' := fm g tp bt a b) (fun _ _ _ => rfl) ?_
            refine fe_s 1 (pc' := cond (fx_cb .eq 0 0) 115 80) (lc' := [(6, .int 3), (5, .int 0), (4, .int 4), (3, .int 1), (2, .int 0), (0, .ref 0), (1, .ref 22)]) (stk' := []) (mem' := fm g tp bt a b) (fun _ _ _ => rfl) ?_
            rw [show (fx_cb .eq 0 0) = true from by decide]
            dsimp only [cond]
            refine fe_s 1 (pc' := 117) (lc' := [(6, .int 3), (5, .int 0), (4, .int 4), (3, .int 1), (2, .int 0), (0, .ref 0), (1, .ref 22)]) (stk' := [.int 0]) (mem' := fm g tp bt a b) (fun _ _ _ => rfl) ?_
            refine fe_s 1 (pc' := cond (fx_cb .eq 0 0) 122 120) (lc' := [(6, .int 3), (5, .int 0), (4, .int 4), (3, .int 1), (2, .int 0), (0, .ref 0), (1, .ref 22)]) (stk' := []) (mem' := fm g tp bt a b) (fun _ _ _ => rfl) ?_
            rw [show (fx_cb .eq 0 0) = true from by decide]
            dsimp only [cond]
            refine fe_s 4 (pc' := 129) (lc' := [(2, .int (0 + 1)), (6, .int 3), (5, .int 0), (4, .int 4), (3, .int 1), (0, .ref 0), (1, .ref 22)]) (stk' := [.int (4 + 1)]) (mem' := fm g tp bt a b) (fun _ _ _ => rfl) ?_
            rw [show (4 + 1 : Int32) = 5 from rfl]
            rw [show (0 + 1 : Int32) = 1 from rfl]
            refine fe_s 1 (pc' := 130) (lc' := [(3, .int 5), (2, .int 1), (6, .int 3), (5, .int 0), (4, .int 4), (0, .ref 0), (1, .ref 22)]) (stk' := []) (mem' := fm g tp bt a b) (fun _ _ _ => rfl) ?_
            refine fe_s 1 (pc' := fx_to 130 (-116)) (lc' := [(3, .int 5), (2, .int 1), (6, .int 3), (5, .int 0), (4, .int 4), (0, .ref 0), (1, .ref 22)]) (stk' := []) (mem' := fm g tp bt a b) (fun _ _ _ => rfl) ?_
            rw [show fx_to 130 (-116) = 14 from by decide]
            refine fe_w (lc' := [(3, .int 5), (2, .int 1), (0, .ref 0), (1, .ref 22)]) ⟨rfl, rfl, rfl, rfl, trivial⟩ (by show List.Nodup [3, 2, 0, 1]; decide) (by show List.Nodup [3, 2, 6, 5, 4, 0, 1]; decide) ?_
            exact fw_1 hxp
      · rw [show (fx_cb .ne 105 (nI n2)) = true from cb_neT (a := 105) (b := n2) (by omega) (by omega) (by omega)]
        dsimp only [cond]
        refine fe_s 4 (pc' := 68) (lc' := [(6, .int (1 + 1)), (5, .int 0), (4, .int 4), (3, .int 1), (2, .int 0), (0, .ref 0), (1, .ref 22)]) (stk' := []) (mem' := fm g tp bt a b) (fun _ _ _ => rfl) ?_
        rw [show (1 + 1 : Int32) = 2 from rfl]
        refine fe_s 2 (pc' := 72) (lc' := [(6, .int 2), (5, .int 0), (4, .int 4), (3, .int 1), (2, .int 0), (0, .ref 0), (1, .ref 22)]) (stk' := [.int 4, .int 2]) (mem' := fm g tp bt a b) (fun _ _ _ => rfl) ?_
        refine fe_s 1 (pc' := cond (fx_cb .ge 2 4) 115 75) (lc' := [(6, .int 2), (5, .int 0), (4, .int 4), (3, .int 1), (2, .int 0), (0, .ref 0), (1, .ref 22)]) (stk' := []) (mem' := fm g tp bt a b) (fun _ _ _ => rfl) ?_
        rw [show (fx_cb .ge 2 4) = false from by decide]
        dsimp only [cond]
        refine fe_s 1 (pc' := 77) (lc' := [(6, .int 2), (5, .int 0), (4, .int 4), (3, .int 1), (2, .int 0), (0, .ref 0), (1, .ref 22)]) (stk' := [.int 0]) (mem' := fm g tp bt a b) (fun _ _ _ => rfl) ?_
        refine fe_s 1 (pc' := cond (fx_cb .eq 0 0) 115 80) (lc' := [(6, .int 2), (5, .int 0), (4, .int 4), (3, .int 1), (2, .int 0), (0, .ref 0), (1, .ref 22)]) (stk' := []) (mem' := fm g tp bt a b) (fun _ _ _ => rfl) ?_
        rw [show (fx_cb .eq 0 0) = true from by decide]
        dsimp only [cond]
        refine fe_s 1 (pc' := 117) (lc' := [(6, .int 2), (5, .int 0), (4, .int 4), (3, .int 1), (2, .int 0), (0, .ref 0), (1, .ref 22)]) (stk' := [.int 0]) (mem' := fm g tp bt a b) (fun _ _ _ => rfl) ?_
        refine fe_s 1 (pc' := cond (fx_cb .eq 0 0) 122 120) (lc' := [(6, .int 2), (5, .int 0), (4, .int 4), (3, .int 1), (2, .int 0), (0, .ref 0), (1, .ref 22)]) (stk' := []) (mem' := fm g tp bt a b) (fun _ _ _ => rfl) ?_
        rw [show (fx_cb .eq 0 0) = true from by decide]
        dsimp only [cond]
        refine fe_s 4 (pc' := 129) (lc' := [(2, .int (0 + 1)), (6, .int 2), (5, .int 0), (4, .int 4), (3, .int 1), (0, .ref 0), (1, .ref 22)]) (stk' := [.int (4 + 1)]) (mem' := fm g tp bt a b) (fun _ _ _ => rfl) ?_
        rw [show (4 + 1 : Int32) = 5 from rfl]
        rw [show (0 + 1 : Int32) = 1 from rfl]
        refine fe_s 1 (pc' := 130) (lc' := [(3, .int 5), (2, .int 1), (6, .int 2), (5, .int 0), (4, .int 4), (0, .ref 0), (1, .ref 22)]) (stk' := []) (mem' := fm g tp bt a b) (fun _ _ _ => rfl) ?_
        refine fe_s 1 (pc' := fx_to 130 (-116)) (lc' := [(3, .int 5), (2, .int 1), (6, .int 2), (5, .int 0), (4, .int 4), (0, .ref 0), (1, .ref 22)]) (stk' := []) (mem' := fm g tp bt a b) (fun _ _ _ => rfl) ?_
        rw [show fx_to 130 (-116) = 14 from by decide]
        refine fe_w (lc' := [(3, .int 5), (2, .int 1), (0, .ref 0), (1, .ref 22)]) ⟨rfl, rfl, rfl, rfl, trivial⟩ (by show List.Nodup [3, 2, 0, 1]; decide) (by show List.Nodup [3, 2, 6, 5, 4, 0, 1]; decide) ?_
        exact fw_1 hxp
  · rw [show (fx_cb .ne 3 (nI (E - F))) = true from cb_neT (a := 3) (b := E - F) (by omega) (by omega) (by omega)]
    dsimp only [cond]
    refine fe_s 4 (pc' := 68) (lc' := [(6, .int 1), (5, .int 0), (4, .int 4), (3, .int 1), (2, .int 0), (0, .ref 0), (1, .ref 22)]) (stk' := []) (mem' := fm g tp bt a b) (fun _ _ _ => rfl) ?_
    refine fe_s 2 (pc' := 72) (lc' := [(6, .int 1), (5, .int 0), (4, .int 4), (3, .int 1), (2, .int 0), (0, .ref 0), (1, .ref 22)]) (stk' := [.int 4, .int 1]) (mem' := fm g tp bt a b) (fun _ _ _ => rfl) ?_
    refine fe_s 1 (pc' := cond (fx_cb .ge 1 4) 115 75) (lc' := [(6, .int 1), (5, .int 0), (4, .int 4), (3, .int 1), (2, .int 0), (0, .ref 0), (1, .ref 22)]) (stk' := []) (mem' := fm g tp bt a b) (fun _ _ _ => rfl) ?_
    rw [show (fx_cb .ge 1 4) = false from by decide]
    dsimp only [cond]
    refine fe_s 1 (pc' := 77) (lc' := [(6, .int 1), (5, .int 0), (4, .int 4), (3, .int 1), (2, .int 0), (0, .ref 0), (1, .ref 22)]) (stk' := [.int 0]) (mem' := fm g tp bt a b) (fun _ _ _ => rfl) ?_
    refine fe_s 1 (pc' := cond (fx_cb .eq 0 0) 115 80) (lc' := [(6, .int 1), (5, .int 0), (4, .int 4), (3, .int 1), (2, .int 0), (0, .ref 0), (1, .ref 22)]) (stk' := []) (mem' := fm g tp bt a b) (fun _ _ _ => rfl) ?_
    rw [show (fx_cb .eq 0 0) = true from by decide]
    dsimp only [cond]
    refine fe_s 1 (pc' := 117) (lc' := [(6, .int 1), (5, .int 0), (4, .int 4), (3, .int 1), (2, .int 0), (0, .ref 0), (1, .ref 22)]) (stk' := [.int 0]) (mem' := fm g tp bt a b) (fun _ _ _ => rfl) ?_
    refine fe_s 1 (pc' := cond (fx_cb .eq 0 0) 122 120) (lc' := [(6, .int 1), (5, .int 0), (4, .int 4), (3, .int 1), (2, .int 0), (0, .ref 0), (1, .ref 22)]) (stk' := []) (mem' := fm g tp bt a b) (fun _ _ _ => rfl) ?_
    rw [show (fx_cb .eq 0 0) = true from by decide]
    dsimp only [cond]
    refine fe_s 4 (pc' := 129) (lc' := [(2, .int (0 + 1)), (6, .int 1), (5, .int 0), (4, .int 4), (3, .int 1), (0, .ref 0), (1, .ref 22)]) (stk' := [.int (4 + 1)]) (mem' := fm g tp bt a b) (fun _ _ _ => rfl) ?_
    rw [show (4 + 1 : Int32) = 5 from rfl]
    rw [show (0 + 1 : Int32) = 1 from rfl]
    refine fe_s 1 (pc' := 130) (lc' := [(3, .int 5), (2, .int 1), (6, .int 1), (5, .int 0), (4, .int 4), (0, .ref 0), (1, .ref 22)]) (stk' := []) (mem' := fm g tp bt a b) (fun _ _ _ => rfl) ?_
    refine fe_s 1 (pc' := fx_to 130 (-116)) (lc' := [(3, .int 5), (2, .int 1), (6, .int 1), (5, .int 0), (4, .int 4), (0, .ref 0), (1, .ref 22)]) (stk' := []) (mem' := fm g tp bt a b) (fun _ _ _ => rfl) ?_
    rw [show fx_to 130 (-116) = 14 from by decide]
    refine fe_w (lc' := [(3, .int 5), (2, .int 1), (0, .ref 0), (1, .ref 22)]) ⟨rfl, rfl, rfl, rfl, trivial⟩ (by show List.Nodup [3, 2, 0, 1]; decide) (by show List.Nodup [3, 2, 6, 5, 4, 0, 1]; decide) ?_
    exact fw_1 hxp
theorem fr_inWords {S E F : Nat} (hxp : fm_xp g S E F) : ∃ (v : Option Value) (mem' : fx_M), fm_FI (fm g tp bt a b) (v, mem') ∧ fr_T 2 226 [.ref 0, .ref 22] (fm g tp bt a b) v mem' := by
  refine fe_meth (F := fm_FI (fm g tp bt a b)) (M := gk_m226) (by rfl) (by rfl) ?_
  refine fe_s 3 (pc' := 5) (lc' := [(0, .ref 0), (1, .ref 22)]) (stk' := [.int 2, .int (g 12)]) (mem' := fm g tp bt a b) (fun _ _ _ => rfl) ?_
  refine fe_s 1 (pc' := cond (fx_cb .eq (g 12) 2) 10 8) (lc' := [(0, .ref 0), (1, .ref 22)]) (stk' := []) (mem' := fm g tp bt a b) (fun _ _ _ => rfl) ?_
  cases h14 : fx_cb .eq (g 12) 2
  · refine fe_s 1 (pc' := 9) (lc' := [(0, .ref 0), (1, .ref 22)]) (stk' := [.int (-1)]) (mem' := fm g tp bt a b) (fun _ _ _ => rfl) ?_
    exact fe_ret ⟨_, Or.inl rfl, rfl⟩ (by rfl) (by rfl) (by rfl)
  · refine fe_s 4 (pc' := 14) (lc' := [(3, .int 1), (2, .int 0), (0, .ref 0), (1, .ref 22)]) (stk' := []) (mem' := fm g tp bt a b) (fun _ _ _ => rfl) ?_
    refine fe_w (lc' := [(3, .int 1), (2, .int 0), (0, .ref 0), (1, .ref 22)]) ⟨rfl, rfl, rfl, rfl, trivial⟩ (by show List.Nodup [3, 2, 0, 1]; decide) (by show List.Nodup [3, 2, 0, 1]; decide) ?_
    exact fw_0 hxp
end FIW9
