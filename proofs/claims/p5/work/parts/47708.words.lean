/-! ===== fx: which word it is (8) ===== -/
section FIW8
variable {g : Nat → Int32} {tp bt : Int64} {a : Nat → Nat → Int32} {b : Nat → Nat → Int64}
theorem fw_2 {S E F : Nat} (hxp : fm_xp g S E F) : fe_R 1 gk_m226 14 [(3, .int 11), (2, .int 2), (0, .ref 0), (1, .ref 22)] [] (fm g tp bt a b) (fm_FI (fm g tp bt a b)) := by
  obtain ⟨h11, hS9, h14, hES, h13, hFE, -, -, -⟩ := id hxp
  refine fe_s 2 (pc' := 16) (lc' := [(3, .int 11), (2, .int 2), (0, .ref 0), (1, .ref 22)]) (stk' := [.ref 22, .int 11]) (mem' := fm g tp bt a b) (fun _ _ _ => rfl) ?_
  refine fe_s 1 (pc' := 19) (lc' := [(3, .int 11), (2, .int 2), (0, .ref 0), (1, .ref 22)]) (stk' := [.int 117, .int 11]) (mem' := fm g tp bt a b) (fun _ _ _ => rfl) ?_
  refine fe_s 1 (pc' := cond (fx_cb .ge 11 117) 133 22) (lc' := [(3, .int 11), (2, .int 2), (0, .ref 0), (1, .ref 22)]) (stk' := []) (mem' := fm g tp bt a b) (fun _ _ _ => rfl) ?_
  rw [show (fx_cb .ge 11 117) = false from by decide]
  dsimp only [cond]
  refine fe_s 4 (pc' := 28) (lc' := [(4, .int 11), (3, .int 11), (2, .int 2), (0, .ref 0), (1, .ref 22)]) (stk' := [.int 11, .ref 22]) (mem' := fm g tp bt a b) (fun _ _ _ => rfl) ?_
  refine fe_chr (i := 11) (by omega) (by rfl) (by rfl) ⟨by rfl, by rfl⟩ (by rfl) ?_
  rw [show sk_b.getD 11 0 = 119 from rfl]
  refine fe_s 1 (pc' := 33) (lc' := [(4, .int 11), (3, .int 11), (2, .int 2), (0, .ref 0), (1, .ref 22)]) (stk' := [.int 32, .int 119]) (mem' := fm g tp bt a b) (fun _ _ _ => rfl) ?_
  refine fe_s 1 (pc' := cond (fx_cb .eq 119 32) 42 36) (lc' := [(4, .int 11), (3, .int 11), (2, .int 2), (0, .ref 0), (1, .ref 22)]) (stk' := []) (mem' := fm g tp bt a b) (fun _ _ _ => rfl) ?_
  rw [show (fx_cb .eq 119 32) = false from by decide]
  dsimp only [cond]
  refine fe_s 4 (pc' := 28) (lc' := [(4, .int (11 + 1)), (3, .int 11), (2, .int 2), (0, .ref 0), (1, .ref 22)]) (stk' := [.int (11 + 1), .ref 22]) (mem' := fm g tp bt a b) (fun _ _ _ => rfl) ?_
  rw [show (11 + 1 : Int32) = 12 from rfl]
  refine fe_chr (i := 12) (by omega) (by rfl) (by rfl) ⟨by rfl, by rfl⟩ (by rfl) ?_
  rw [show sk_b.getD 12 0 = 97 from rfl]
  refine fe_s 1 (pc' := 33) (lc' := [(4, .int 12), (3, .int 11), (2, .int 2), (0, .ref 0), (1, .ref 22)]) (stk' := [.int 32, .int 97]) (mem' := fm g tp bt a b) (fun _ _ _ => rfl) ?_
  refine fe_s 1 (pc' := cond (fx_cb .eq 97 32) 42 36) (lc' := [(4, .int 12), (3, .int 11), (2, .int 2), (0, .ref 0), (1, .ref 22)]) (stk' := []) (mem' := fm g tp bt a b) (fun _ _ _ => rfl) ?_
  rw [show (fx_cb .eq 97 32) = false from by decide]
  dsimp only [cond]
  refine fe_s 4 (pc' := 28) (lc' := [(4, .int (12 + 1)), (3, .int 11), (2, .int 2), (0, .ref 0), (1, .ref 22)]) (stk' := [.int (12 + 1), .ref 22]) (mem' := fm g tp bt a b) (fun _ _ _ => rfl) ?_
  rw [show (12 + 1 : Int32) = 13 from rfl]
  refine fe_chr (i := 13) (by omega) (by rfl) (by rfl) ⟨by rfl, by rfl⟩ (by rfl) ?_
  rw [show sk_b.getD 13 0 = 121 from rfl]
  refine fe_s 1 (pc' := 33) (lc' := [(4, .int 13), (3, .int 11), (2, .int 2), (0, .ref 0), (1, .ref 22)]) (stk' := [.int 32, .int 121]) (mem' := fm g tp bt a b) (fun _ _ _ => rfl) ?_
  refine fe_s 1 (pc' := cond (fx_cb .eq 121 32) 42 36) (lc' := [(4, .int 13), (3, .int 11), (2, .int 2), (0, .ref 0), (1, .ref 22)]) (stk' := []) (mem' := fm g tp bt a b) (fun _ _ _ => rfl) ?_
  rw [show (fx_cb .eq 121 32) = false from by decide]
  dsimp only [cond]
  refine fe_s 4 (pc' := 28) (lc' := [(4, .int (13 + 1)), (3, .int 11), (2, .int 2), (0, .ref 0), (1, .ref 22)]) (stk' := [.int (13 + 1), .ref 22]) (mem' := fm g tp bt a b) (fun _ _ _ => rfl) ?_
  rw [show (13 + 1 : Int32) = 14 from rfl]
  refine fe_chr (i := 14) (by omega) (by rfl) (by rfl) ⟨by rfl, by rfl⟩ (by rfl) ?_
  rw [show sk_b.getD 14 0 = 32 from rfl]
  refine fe_s 1 (pc' := 33) (lc' := [(4, .int 14), (3, .int 11), (2, .int 2), (0, .ref 0), (1, .ref 22)]) (stk' := [.int 32, .int 32]) (mem' := fm g tp bt a b) (fun _ _ _ => rfl) ?_
  refine fe_s 1 (pc' := cond (fx_cb .eq 32 32) 42 36) (lc' := [(4, .int 14), (3, .int 11), (2, .int 2), (0, .ref 0), (1, .ref 22)]) (stk' := []) (mem' := fm g tp bt a b) (fun _ _ _ => rfl) ?_
  rw [show (fx_cb .eq 32 32) = true from by decide]
  dsimp only [cond]
  refine fe_s 4 (pc' := 47) (lc' := [(4, .int 14), (3, .int 11), (2, .int 2), (0, .ref 0), (1, .ref 22)]) (stk' := [.ref 0, .int (14 - 11)]) (mem' := fm g tp bt a b) (fun _ _ _ => rfl) ?_
  rw [show (14 - 11 : Int32) = 3 from rfl]
  refine fe_s 4 (pc' := 55) (lc' := [(4, .int 14), (3, .int 11), (2, .int 2), (0, .ref 0), (1, .ref 22)]) (stk' := [.int ((g 14) - (g 13)), .int 3]) (mem' := fm g tp bt a b) (fun _ _ _ => rfl) ?_
  try rw [h14]
  try rw [h13]
  rw [show ((nI E) - (nI F) : Int32) = nI (E - F) from by simp only [tg_sub2 (x := E) (y := F) (by omega), nI_add, fm_mul]]
  refine fe_s 1 (pc' := cond (fx_cb .ne 3 (nI (E - F))) 62 58) (lc' := [(4, .int 14), (3, .int 11), (2, .int 2), (0, .ref 0), (1, .ref 22)]) (stk' := []) (mem' := fm g tp bt a b) (fun _ _ _ => rfl) ?_
  by_cases h1 : 3 = (E - F)
  · rw [show (fx_cb .ne 3 (nI (E - F))) = false from cb_neF (a := 3) (b := E - F) (by omega) (by omega) (by omega)]
    dsimp only [cond]
    refine fe_s 4 (pc' := 66) (lc' := [(5, .int 1), (4, .int 14), (3, .int 11), (2, .int 2), (0, .ref 0), (1, .ref 22)]) (stk' := [.int 11]) (mem' := fm g tp bt a b) (fun _ _ _ => rfl) ?_
    refine fe_s 3 (pc' := 72) (lc' := [(6, .int 11), (5, .int 1), (4, .int 14), (3, .int 11), (2, .int 2), (0, .ref 0), (1, .ref 22)]) (stk' := [.int 14, .int 11]) (mem' := fm g tp bt a b) (fun _ _ _ => rfl) ?_
    refine fe_s 1 (pc' := cond (fx_cb .ge 11 14) 115 75) (lc' := [(6, .int 11), (5, .int 1), (4, .int 14), (3, .int 11), (2, .int 2), (0, .ref 0), (1, .ref 22)]) (stk' := []) (mem' := fm g tp bt a b) (fun _ _ _ => rfl) ?_
    rw [show (fx_cb .ge 11 14) = false from by decide]
    dsimp only [cond]
    refine fe_s 1 (pc' := 77) (lc' := [(6, .int 11), (5, .int 1), (4, .int 14), (3, .int 11), (2, .int 2), (0, .ref 0), (1, .ref 22)]) (stk' := [.int 1]) (mem' := fm g tp bt a b) (fun _ _ _ => rfl) ?_
    refine fe_s 1 (pc' := cond (fx_cb .eq 1 0) 115 80) (lc' := [(6, .int 11), (5, .int 1), (4, .int 14), (3, .int 11), (2, .int 2), (0, .ref 0), (1, .ref 22)]) (stk' := []) (mem' := fm g tp bt a b) (fun _ _ _ => rfl) ?_
    rw [show (fx_cb .eq 1 0) = false from by decide]
    dsimp only [cond]
    refine fe_s 2 (pc' := 83) (lc' := [(6, .int 11), (5, .int 1), (4, .int 14), (3, .int 11), (2, .int 2), (0, .ref 0), (1, .ref 22)]) (stk' := [.int 11, .ref 22]) (mem' := fm g tp bt a b) (fun _ _ _ => rfl) ?_
    refine fe_chr (i := 11) (by omega) (by rfl) (by rfl) ⟨by rfl, by rfl⟩ (by rfl) ?_
    rw [show sk_b.getD 11 0 = 119 from rfl]
    refine fe_s 4 (pc' := 93) (lc' := [(6, .int 11), (5, .int 1), (4, .int 14), (3, .int 11), (2, .int 2), (0, .ref 0), (1, .ref 22)]) (stk' := [.int 11, .int (g 13), .ref 0, .int 119]) (mem' := fm g tp bt a b) (fun _ _ _ => rfl) ?_
    try rw [h13]
    refine fe_s 3 (pc' := 96) (lc' := [(6, .int 11), (5, .int 1), (4, .int 14), (3, .int 11), (2, .int 2), (0, .ref 0), (1, .ref 22)]) (stk' := [.int (((nI F) + 11) - 11), .ref 0, .int 119]) (mem' := fm g tp bt a b) (fun _ _ _ => rfl) ?_
    rw [show (((nI F) + 11) - 11 : Int32) = nI ((F + 11) - 11) from by simp only [show (11 : Int32) = nI 11 from rfl, tg_sub2 (x := F + 11) (y := 11) (by omega), nI_add, fm_mul]]
    refine fe_ivV (fr_byteAt (S := S) (k := (F + 11) - 11) (g := g) (tp := tp) (bt := bt) (a := a) (b := b) h11 (by omega) (by omega)) (by omega) (by rfl) (by rfl) (by rfl) (by rfl) (by rfl) (by rfl) ?_
    rcases fm_byte_or a S ((F + 11) - 11) with ⟨e3, q4⟩ | ⟨q4, n2, qn2, e3⟩
    · rw [e3]
      refine fe_s 1 (pc' := cond (fx_cb .ne 119 (-1)) 106 102) (lc' := [(6, .int 11), (5, .int 1), (4, .int 14), (3, .int 11), (2, .int 2), (0, .ref 0), (1, .ref 22)]) (stk' := []) (mem' := fm g tp bt a b) (fun _ _ _ => rfl) ?_
      rw [show (fx_cb .ne 119 (-1)) = true from by decide]
      dsimp only [cond]
      refine fe_s 4 (pc' := 68) (lc' := [(6, .int (11 + 1)), (5, .int 0), (4, .int 14), (3, .int 11), (2, .int 2), (0, .ref 0), (1, .ref 22)]) (stk' := []) (mem' := fm g tp bt a b) (fun _ _ _ => rfl) ?_
      rw [show (11 + 1 : Int32) = 12 from rfl]
      refine fe_s 2 (pc' := 72) (lc' := [(6, .int 12), (5, .int 0), (4, .int 14), (3, .int 11), (2, .int 2), (0, .ref 0), (1, .ref 22)]) (stk' := [.int 14, .int 12]) (mem' := fm g tp bt a b) (fun _ _ _ => rfl) ?_
      refine fe_s 1 (pc' := cond (fx_cb .ge 12 14) 115 75) (lc' := [(6, .int 12), (5, .int 0), (4, .int 14), (3, .int 11), (2, .int 2), (0, .ref 0), (1, .ref 22)]) (stk' := []) (mem' := fm g tp bt a b) (fun _ _ _ => rfl) ?_
      rw [show (fx_cb .ge 12 14) = false from by decide]
      dsimp only [cond]
      refine fe_s 1 (pc' := 77) (lc' := [(6, .int 12), (5, .int 0), (4, .int 14), (3, .int 11), (2, .int 2), (0, .ref 0), (1, .ref 22)]) (stk' := [.int 0]) (mem' := fm g tp bt a b) (fun _ _ _ => rfl) ?_
      refine fe_s 1 (pc' := cond (fx_cb .eq 0 0) 115 80) (lc' := [(6, .int 12), (5, .int 0), (4, .int 14), (3, .int 11), (2, .int 2), (0, .ref 0), (1, .ref 22)]) (stk' := []) (mem' := fm g tp bt a b) (fun _ _ _ => rfl) ?_
      rw [show (fx_cb .eq 0 0) = true from by decide]
      dsimp only [cond]
      refine fe_s 1 (pc' := 117) (lc' := [(6, .int 12), (5, .int 0), (4, .int 14), (3, .int 11), (2, .int 2), (0, .ref 0), (1, .ref 22)]) (stk' := [.int 0]) (mem' := fm g tp bt a b) (fun _ _ _ => rfl) ?_
      refine fe_s 1 (pc' := cond (fx_cb .eq 0 0) 122 120) (lc' := [(6, .int 12), (5, .int 0), (4, .int 14), (3, .int 11), (2, .int 2), (0, .ref 0), (1, .ref 22)]) (stk' := []) (mem' := fm g tp bt a b) (fun _ _ _ => rfl) ?_
      rw [show (fx_cb .eq 0 0) = true from by decide]
      dsimp only [cond]
      refine fe_s 4 (pc' := 129) (lc' := [(2, .int (2 + 1)), (6, .int 12), (5, .int 0), (4, .int 14), (3, .int 11), (0, .ref 0), (1, .ref 22)]) (stk' := [.int (14 + 1)]) (mem' := fm g tp bt a b) (fun _ _ _ => rfl) ?_
      rw [show (2 + 1 : Int32) = 3 from rfl]
      rw [show (14 + 1 : Int32) = 15 from rfl]
      refine fe_s 1 (pc' := 130) (lc' := [(3, .int 15), (2, .int 3), (6, .int 12), (5, .int 0), (4, .int 14), (0, .ref 0), (1, .ref 22)]) (stk' := []) (mem' := fm g tp bt a b) (fun _ _ _ => rfl) ?_
      refine fe_s 1 (pc' := fx_to 130 (-116)) (lc' := [(3, .int 15), (2, .int 3), (6, .int 12), (5, .int 0), (4, .int 14), (0, .ref 0), (1, .ref 22)]) (stk' := []) (mem' := fm g tp bt a b) (fun _ _ _ => rfl) ?_
      rw [show fx_to 130 (-116) = 14 from by decide]
      refine fe_w (lc' := [(3, .int 15), (2, .int 3), (0, .ref 0), (1, .ref 22)]) ⟨rfl, rfl, rfl, rfl, trivial⟩ (by show List.Nodup [3, 2, 0, 1]; decide) (by show List.Nodup [3, 2, 6, 5, 4, 0, 1]; decide) ?_
      exact fw_3 hxp
    · rw [e3]
      refine fe_s 1 (pc' := cond (fx_cb .ne 119 (nI n2)) 106 102) (lc' := [(6, .int 11), (5, .int 1), (4, .int 14), (3, .int 11), (2, .int 2), (0, .ref 0), (1, .ref 22)]) (stk' := []) (mem' := fm g tp bt a b) (fun _ _ _ => rfl) ?_
      by_cases h5 : 119 = n2
      · rw [show (fx_cb .ne 119 (nI n2)) = false from cb_neF (a := 119) (b := n2) (by omega) (by omega) (by omega)]
        dsimp only [cond]
        refine fe_s 4 (pc' := 112) (lc' := [(6, .int (11 + 1)), (5, .int 1), (4, .int 14), (3, .int 11), (2, .int 2), (0, .ref 0), (1, .ref 22)]) (stk' := []) (mem' := fm g tp bt a b) (fun _ _ _ => rfl) ?_
        rw [show (11 + 1 : Int32) = 12 from rfl]
        refine fe_s 3 (pc' := 72) (lc' := [(6, .int 12), (5, .int 1), (4, .int 14), (3, .int 11), (2, .int 2), (0, .ref 0), (1, .ref 22)]) (stk' := [.int 14, .int 12]) (mem' := fm g tp bt a b) (fun _ _ _ => rfl) ?_
        refine fe_s 1 (pc' := cond (fx_cb .ge 12 14) 115 75) (lc' := [(6, .int 12), (5, .int 1), (4, .int 14), (3, .int 11), (2, .int 2), (0, .ref 0), (1, .ref 22)]) (stk' := []) (mem' := fm g tp bt a b) (fun _ _ _ => rfl) ?_
        rw [show (fx_cb .ge 12 14) = false from by decide]
        dsimp only [cond]
        refine fe_s 1 (pc' := 77) (lc' := [(6, .int 12), (5, .int 1), (4, .int 14), (3, .int 11), (2, .int 2), (0, .ref 0), (1, .ref 22)]) (stk' := [.int 1]) (mem' := fm g tp bt a b) (fun _ _ _ => rfl) ?_
        refine fe_s 1 (pc' := cond (fx_cb .eq 1 0) 115 80) (lc' := [(6, .int 12), (5, .int 1), (4, .int 14), (3, .int 11), (2, .int 2), (0, .ref 0), (1, .ref 22)]) (stk' := []) (mem' := fm g tp bt a b) (fun _ _ _ => rfl) ?_
        rw [show (fx_cb .eq 1 0) = false from by decide]
        dsimp only [cond]
        refine fe_s 2 (pc' := 83) (lc' := [(6, .int 12), (5, .int 1), (4, .int 14), (3, .int 11), (2, .int 2), (0, .ref 0), (1, .ref 22)]) (stk' := [.int 12, .ref 22]) (mem' := fm g tp bt a b) (fun _ _ _ => rfl) ?_
        refine fe_chr (i := 12) (by omega) (by rfl) (by rfl) ⟨by rfl, by rfl⟩ (by rfl) ?_
        rw [show sk_b.getD 12 0 = 97 from rfl]
        refine fe_s 4 (pc' := 93) (lc' := [(6, .int 12), (5, .int 1), (4, .int 14), (3, .int 11), (2, .int 2), (0, .ref 0), (1, .ref 22)]) (stk' := [.int 12, .int (g 13), .ref 0, .int 97]) (mem' := fm g tp bt a b) (fun _ _ _ => rfl) ?_
        try rw [h13]
        refine fe_s 3 (pc' := 96) (lc' := [(6, .int 12), (5, .int 1), (4, .int 14), (3, .int 11), (2, .int 2), (0, .ref 0), (1, .ref 22)]) (stk' := [.int (((nI F) + 12) - 11), .ref 0, .int 97]) (mem' := fm g tp bt a b) (fun _ _ _ => rfl) ?_
        rw [show (((nI F) + 12) - 11 : Int32) = nI ((F + 12) - 11) from by simp only [show (12 : Int32) = nI 12 from rfl, show (11 : Int32) = nI 11 from rfl, tg_sub2 (x := F + 12) (y := 11) (by omega), nI_add, fm_mul]]
        refine fe_ivV (fr_byteAt (S := S) (k := (F + 12) - 11) (g := g) (tp := tp) (bt := bt) (a := a) (b := b) h11 (by omega) (by omega)) (by omega) (by rfl) (by rfl) (by rfl) (by rfl) (by rfl) (by rfl) ?_
        rcases fm_byte_or a S ((F + 12) - 11) with ⟨e7, q8⟩ | ⟨q8, n6, qn6, e7⟩
        · rw [e7]
          refine fe_s 1 (pc' := cond (fx_cb .ne 97 (-1)) 106 102) (lc' := [(6, .int 12), (5, .int 1), (4, .int 14), (3, .int 11), (2, .int 2), (0, .ref 0), (1, .ref 22)]) (stk' := []) (mem' := fm g tp bt a b) (fun _ _ _ => rfl) ?_
          rw [show (fx_cb .ne 97 (-1)) = true from by decide]
          dsimp only [cond]
          refine fe_s 4 (pc' := 68) (lc' := [(6, .int (12 + 1)), (5, .int 0), (4, .int 14), (3, .int 11), (2, .int 2), (0, .ref 0), (1, .ref 22)]) (stk' := []) (mem' := fm g tp bt a b) (fun _ _ _ => rfl) ?_
          rw [show (12 + 1 : Int32) = 13 from rfl]
          refine fe_s 2 (pc' := 72) (lc' := [(6, .int 13), (5, .int 0), (4, .int 14), (3, .int 11), (2, .int 2), (0, .ref 0), (1, .ref 22)]) (stk' := [.int 14, .int 13]) (mem' := fm g tp bt a b) (fun _ _ _ => rfl) ?_
          refine fe_s 1 (pc' := cond (fx_cb .ge 13 14) 115 75) (lc' := [(6, .int 13), (5, .int 0), (4, .int 14), (3, .int 11), (2, .int 2), (0, .ref 0), (1, .ref 22)]) (stk' := []) (mem' := fm g tp bt a b) (fun _ _ _ => rfl) ?_
          rw [show (fx_cb .ge 13 14) = false from by decide]
          dsimp only [cond]
          refine fe_s 1 (pc' := 77) (lc' := [(6, .int 13), (5, .int 0), (4, .int 14), (3, .int 11), (2, .int 2), (0, .ref 0), (1, .ref 22)]) (stk' := [.int 0]) (mem' := fm g tp bt a b) (fun _ _ _ => rfl) ?_
          refine fe_s 1 (pc' := cond (fx_cb .eq 0 0) 115 80) (lc' := [(6, .int 13), (5, .int 0), (4, .int 14), (3, .int 11), (2, .int 2), (0, .ref 0), (1, .ref 22)]) (stk' := []) (mem' := fm g tp bt a b) (fun _ _ _ => rfl) ?_
          rw [show (fx_cb .eq 0 0) = true from by decide]
          dsimp only [cond]
          refine fe_s 1 (pc' := 117) (lc' := [(6, .int 13), (5, .int 0), (4, .int 14), (3, .int 11), (2, .int 2), (0, .ref 0), (1, .ref 22)]) (stk' := [.int 0]) (mem' := fm g tp bt a b) (fun _ _ _ => rfl) ?_
          refine fe_s 1 (pc' := cond (fx_cb .eq 0 0) 122 120) (lc' := [(6, .int 13), (5, .int 0), (4, .int 14), (3, .int 11), (2, .int 2), (0, .ref 0), (1, .ref 22)]) (stk' := []) (mem' := fm g tp bt a b) (fun _ _ _ => rfl) ?_
          rw [show (fx_cb .eq 0 0) = true from by decide]
          dsimp only [cond]
          refine fe_s 4 (pc' := 129) (lc' := [(2, .int (2 + 1)), (6, .int 13), (5, .int 0), (4, .int 14), (3, .int 11), (0, .ref 0), (1, .ref 22)]) (stk' := [.int (14 + 1)]) (mem' := fm g tp bt a b) (fun _ _ _ => rfl) ?_
          rw [show (2 + 1 : Int32) = 3 from rfl]
          rw [show (14 + 1 : Int32) = 15 from rfl]
          refine fe_s 1 (pc' := 130) (lc' := [(3, .int 15), (2, .int 3), (6, .int 13), (5, .int 0), (4, .int 14), (0, .ref 0), (1, .ref 22)]) (stk' := []) (mem' := fm g tp bt a b) (fun _ _ _ => rfl) ?_
          refine fe_s 1 (pc' := fx_to 130 (-116)) (lc' := [(3, .int 15), (2, .int 3), (6, .int 13), (5, .int 0), (4, .int 14), (0, .ref 0), (1, .ref 22)]) (stk' := []) (mem' := fm g tp bt a b) (fun _ _ _ => rfl) ?_
          rw [show fx_to 130 (-116) = 14 from by decide]
          refine fe_w (lc' := [(3, .int 15), (2, .int 3), (0, .ref 0), (1, .ref 22)]) ⟨rfl, rfl, rfl, rfl, trivial⟩ (by show List.Nodup [3, 2, 0, 1]; decide) (by show List.Nodup [3, 2, 6, 5, 4, 0, 1]; decide) ?_
          exact fw_3 hxp
        · rw [e7]
          refine fe_s 1 (pc' := cond (fx_cb .ne 97 (nI n6)) 106 102) (lc' := [(6, .int 12), (5, .int 1), (4, .int 14), (3, .int 11), (2, .int 2), (0, .ref 0), (1, .ref 22)]) (stk' := []) (mem' := fm g tp bt a b) (fun _ _ _ => rfl) ?_
          by_cases h9 : 97 = n6
          · rw [show (fx_cb .ne 97 (nI n6)) = false from cb_neF (a := 97) (b := n6) (by omega) (by omega) (by omega)]
            dsimp only [cond]
            refine fe_s 4 (pc' := 112) (lc' := [(6, .int (12 + 1)), (5, .int 1), (4, .int 14), (3, .int 11), (2, .int 2), (0, .ref 0), (1, .ref 22)]) (stk' := []) (mem' := fm g tp bt a b) (fun _ _ _ => rfl) ?_
            rw [show (12 + 1 : Int32) = 13 from rfl]
            refine fe_s 3 (pc' := 72) (lc' := [(6, .int 13), (5, .int 1), (4, .int 14), (3, .int 11), (2, .int 2), (0, .ref 0), (1, .ref 22)]) (stk' := [.int 14, .int 13]) (mem' := fm g tp bt a b) (fun _ _ _ => rfl) ?_
            refine fe_s 1 (pc' := cond (fx_cb .ge 13 14) 115 75) (lc' := [(6, .int 13), (5, .int 1), (4, .int 14), (3, .int 11), (2, .int 2), (0, .ref 0), (1, .ref 22)]) (stk' := []) (mem' := fm g tp bt a b) (fun _ _ _ => rfl) ?_
            rw [show (fx_cb .ge 13 14) = false from by decide]
            dsimp only [cond]
            refine fe_s 1 (pc' := 77) (lc' := [(6, .int 13), (5, .int 1), (4, .int 14), (3, .int 11), (2, .int 2), (0, .ref 0), (1, .ref 22)]) (stk' := [.int 1]) (mem' := fm g tp bt a b) (fun _ _ _ => rfl) ?_
            refine fe_s 1 (pc' := cond (fx_cb .eq 1 0) 115 80) (lc' := [(6, .int 13), (5, .int 1), (4, .int 14), (3, .int 11), (2, .int 2), (0, .ref 0), (1, .ref 22)]) (stk' := []) (mem' := fm g tp bt a b) (fun _ _ _ => rfl) ?_
            rw [show (fx_cb .eq 1 0) = false from by decide]
            dsimp only [cond]
            refine fe_s 2 (pc' := 83) (lc' := [(6, .int 13), (5, .int 1), (4, .int 14), (3, .int 11), (2, .int 2), (0, .ref 0), (1, .ref 22)]) (stk' := [.int 13, .ref 22]) (mem' := fm g tp bt a b) (fun _ _ _ => rfl) ?_
            refine fe_chr (i := 13) (by omega) (by rfl) (by rfl) ⟨by rfl, by rfl⟩ (by rfl) ?_
            rw [show sk_b.getD 13 0 = 121 from rfl]
            refine fe_s 4 (pc' := 93) (lc' := [(6, .int 13), (5, .int 1), (4, .int 14), (3, .int 11), (2, .int 2), (0, .ref 0), (1, .ref 22)]) (stk' := [.int 13, .int (g 13), .ref 0, .int 121]) (mem' := fm g tp bt a b) (fun _ _ _ => rfl) ?_
            try rw [h13]
            refine fe_s 3 (pc' := 96) (lc' := [(6, .int 13), (5, .int 1), (4, .int 14), (3, .int 11), (2, .int 2), (0, .ref 0), (1, .ref 22)]) (stk' := [.int (((nI F) + 13) - 11), .ref 0, .int 121]) (mem' := fm g tp bt a b) (fun _ _ _ => rfl) ?_
            rw [show (((nI F) + 13) - 11 : Int32) = nI ((F + 13) - 11) from by simp only [show (13 : Int32) = nI 13 from rfl, show (11 : Int32) = nI 11 from rfl, tg_sub2 (x := F + 13) (y := 11) (by omega), nI_add, fm_mul]]
            refine fe_ivV (fr_byteAt (S := S) (k := (F + 13) - 11) (g := g) (tp := tp) (bt := bt) (a := a) (b := b) h11 (by omega) (by omega)) (by omega) (by rfl) (by rfl) (by rfl) (by rfl) (by rfl) (by rfl) ?_
            rcases fm_byte_or a S ((F + 13) - 11) with ⟨e11, q12⟩ | ⟨q12, n10, qn10, e11⟩
            · rw [e11]
              refine fe_s 1 (pc' := cond (fx_cb .ne 121 (-1)) 106 102) (lc' := [(6, .int 13), (5, .int 1), (4, .int 14), (3, .int 11), (2, .int 2), (0, .ref 0), (1, .ref 22)]) (stk' := []) (mem' := fm g tp bt a b) (fun _ _ _ => rfl) ?_
              rw [show (fx_cb .ne 121 (-1)) = true from by decide]
              dsimp only [cond]
              refine fe_s 4 (pc' := 68) (lc' := [(6, .int (13 + 1)), (5, .int 0), (4, .int 14), (3, .int 11), (2, .int 2), (0, .ref 0), (1, .ref 22)]) (stk' := []) (mem' := fm g tp bt a b) (fun _ _ _ => rfl) ?_
              rw [show (13 + 1 : Int32) = 14 from rfl]
              refine fe_s 2 (pc' := 72) (lc' := [(6, .int 14), (5, .int 0), (4, .int 14), (3, .int 11), (2, .int 2), (0, .ref 0), (1, .ref 22)]) (stk' := [.int 14, .int 14]) (mem' := fm g tp bt a b) (fun _ _ _ => rfl) ?_
              refine fe_s 1 (pc' := cond (fx_cb .ge 14 14) 115 75) (lc' := [(6, .int 14), (5, .int 0), (4, .int 14), (3, .int 11), (2, .int 2), (0, .ref 0), (1, .ref 22)]) (stk' := []) (mem' := fm g tp bt a b) (fun _ _ _ => rfl) ?_
              rw [show (fx_cb .ge 14 14) = true from by decide]
              dsimp only [cond]
              refine fe_s 1 (pc' := 117) (lc' := [(6, .int 14), (5, .int 0), (4, .int 14), (3, .int 11), (2, .int 2), (0, .ref 0), (1, .ref 22)]) (stk' := [.int 0]) (mem' := fm g tp bt a b) (fun _ _ _ => rfl) ?_
              refine fe_s 1 (pc' := cond (fx_cb .eq 0 0) 122 120) (lc' := [(6, .int 14), (5, .int 0), (4, .int 14), (3, .int 11), (2, .int 2), (0, .ref 0), (1, .ref 22)]) (stk' := []) (mem' := fm g tp bt a b) (fun _ _ _ => rfl) ?_
              rw [show (fx_cb .eq 0 0) = true from by decide]
              dsimp only [cond]
              refine fe_s 4 (pc' := 129) (lc' := [(2, .int (2 + 1)), (6, .int 14), (5, .int 0), (4, .int 14), (3, .int 11), (0, .ref 0), (1, .ref 22)]) (stk' := [.int (14 + 1)]) (mem' := fm g tp bt a b) (fun _ _ _ => rfl) ?_
              rw [show (2 + 1 : Int32) = 3 from rfl]
              rw [show (14 + 1 : Int32) = 15 from rfl]
              refine fe_s 1 (pc' := 130) (lc' := [(3, .int 15), (2, .int 3), (6, .int 14), (5, .int 0), (4, .int 14), (0, .ref 0), (1, .ref 22)]) (stk' := []) (mem' := fm g tp bt a b) (fun _ _ _ => rfl) ?_
              refine fe_s 1 (pc' := fx_to 130 (-116)) (lc' := [(3, .int 15), (2, .int 3), (6, .int 14), (5, .int 0), (4, .int 14), (0, .ref 0), (1, .ref 22)]) (stk' := []) (mem' := fm g tp bt a b) (fun _ _ _ => rfl) ?_
              rw [show fx_to 130 (-116) = 14 from by decide]
              refine fe_w (lc' := [(3, .int 15), (2, .int 3), (0, .ref 0), (1, .ref 22)]) ⟨rfl, rfl, rfl, rfl, trivial⟩ (by show List.Nodup [3, 2, 0, 1]; decide) (by show List.Nodup [3, 2, 6, 5, 4, 0, 1]; decide) ?_
              exact fw_3 hxp
            · rw [e11]
              refine fe_s 1 (pc' := cond (fx_cb .ne 121 (nI n10)) 106 102) (lc' := [(6, .int 13), (5, .int 1), (4, .int 14), (3, .int 11), (2, .int 2), (0, .ref 0), (1, .ref 22)]) (stk' := []) (mem' := fm g tp bt a b) (fun _ _ _ => rfl) ?_
              by_cases h13 : 121 = n10
              · rw [show (fx_cb .ne 121 (nI n10)) = false from cb_neF (a := 121) (b := n10) (by omega) (by omega) (by omega)]
                dsimp only [cond]
                refine fe_s 4 (pc' := 112) (lc' := [(6, .int (13 + 1)), (5, .int 1), (4, .int 14), (3, .int 11), (2, .int 2), (0, .ref 0), (1, .ref 22)]) (stk' := []) (mem' := fm g tp bt a b) (fun _ _ _ => rfl) ?_
                rw [show (13 + 1 : Int32) = 14 from rfl]
                refine fe_s 3 (pc' := 72) (lc' := [(6, .int 14), (5, .int 1), (4, .int 14), (3, .int 11), (2, .int 2), (0, .ref 0), (1, .ref 22)]) (stk' := [.int 14, .int 14]) (mem' := fm g tp bt a b) (fun _ _ _ => rfl) ?_
                refine fe_s 1 (pc' := cond (fx_cb .ge 14 14) 115 75) (lc' := [(6, .int 14), (5, .int 1), (4, .int 14), (3, .int 11), (2, .int 2), (0, .ref 0), (1, .ref 22)]) (stk' := []) (mem' := fm g tp bt a b) (fun _ _ _ => rfl) ?_
                rw [show (fx_cb .ge 14 14) = true from by decide]
                dsimp only [cond]
                refine fe_s 1 (pc' := 117) (lc' := [(6, .int 14), (5, .int 1), (4, .int 14), (3, .int 11), (2, .int 2), (0, .ref 0), (1, .ref 22)]) (stk' := [.int 1]) (mem' := fm g tp bt a b) (fun _ _ _ => rfl) ?_
                refine fe_s 1 (pc' := cond (fx_cb .eq 1 0) 122 120) (lc' := [(6, .int 14), (5, .int 1), (4, .int 14), (3, .int 11), (2, .int 2), (0, .ref 0), (1, .ref 22)]) (stk' := []) (mem' := fm g tp bt a b) (fun _ _ _ => rfl) ?_
                rw [show (fx_cb .eq 1 0) = false from by decide]
                dsimp only [cond]
                refine fe_s 1 (pc' := 121) (lc' := [(6, .int 14), (5, .int 1), (4, .int 14), (3, .int 11), (2, .int 2), (0, .ref 0), (1, .ref 22)]) (stk' := [.int 2]) (mem' := fm g tp bt a b) (fun _ _ _ => rfl) ?_
                exact fe_ret ⟨_, Or.inr ⟨2, by omega, rfl⟩, rfl⟩ (by rfl) (by rfl) (by rfl)
              · rw [show (fx_cb .ne 121 (nI n10)) = true from cb_neT (a := 121) (b := n10) (by omega) (by omega) (by omega)]
                dsimp only [cond]
                refine fe_s 4 (pc' := 68) (lc' := [(6, .int (13 + 1)), (5, .int 0), (4, .int 14), (3, .int 11), (2, .int 2), (0, .ref 0), (1, .ref 22)]) (stk' := []) (mem' := fm g tp bt a b) (fun _ _ _ => rfl) ?_
                rw [show (13 + 1 : Int32) = 14 from rfl]
                refine fe_s 2 (pc' := 72) (lc' := [(6, .int 14), (5, .int 0), (4, .int 14), (3, .int 11), (2, .int 2), (0, .ref 0), (1, .ref 22)]) (stk' := [.int 14, .int 14]) (mem' := fm g tp bt a b) (fun _ _ _ => rfl) ?_
                refine fe_s 1 (pc' := cond (fx_cb .ge 14 14) 115 75) (lc' := [(6, .int 14), (5, .int 0), (4, .int 14), (3, .int 11), (2, .int 2), (0, .ref 0), (1, .ref 22)]) (stk' := []) (mem' := fm g tp bt a b) (fun _ _ _ => rfl) ?_
                rw [show (fx_cb .ge 14 14) = true from by decide]
                dsimp only [cond]
                refine fe_s 1 (pc' := 117) (lc' := [(6, .int 14), (5, .int 0), (4, .int 14), (3, .int 11), (2, .int 2), (0, .ref 0), (1, .ref 22)]) (stk' := [.int 0]) (mem' := fm g tp bt a b) (fun _ _ _ => rfl) ?_
                refine fe_s 1 (pc' := cond (fx_cb .eq 0 0) 122 120) (lc' := [(6, .int 14), (5, .int 0), (4, .int 14), (3, .int 11), (2, .int 2), (0, .ref 0), (1, .ref 22)]) (stk' := []) (mem' := fm g tp bt a b) (fun _ _ _ => rfl) ?_
                rw [show (fx_cb .eq 0 0) = true from by decide]
                dsimp only [cond]
                refine fe_s 4 (pc' := 129) (lc' := [(2, .int (2 + 1)), (6, .int 14), (5, .int 0), (4, .int 14), (3, .int 11), (0, .ref 0), (1, .ref 22)]) (stk' := [.int (14 + 1)]) (mem' := fm g tp bt a b) (fun _ _ _ => rfl) ?_
                rw [show (2 + 1 : Int32) = 3 from rfl]
                rw [show (14 + 1 : Int32) = 15 from rfl]
                refine fe_s 1 (pc' := 130) (lc' := [(3, .int 15), (2, .int 3), (6, .int 14), (5, .int 0), (4, .int 14), (0, .ref 0), (1, .ref 22)]) (stk' := []) (mem' := fm g tp bt a b) (fun _ _ _ => rfl) ?_
                refine fe_s 1 (pc' := fx_to 130 (-116)) (lc' := [(3, .int 15), (2, .int 3), (6, .int 14), (5, .int 0), (4, .int 14), (0, .ref 0), (1, .ref 22)]) (stk' := []) (mem' := fm g tp bt a b) (fun _ _ _ => rfl) ?_
                rw [show fx_to 130 (-116) = 14 from by decide]
                refine fe_w (lc' := [(3, .int 15), (2, .int 3), (0, .ref 0), (1, .ref 22)]) ⟨rfl, rfl, rfl, rfl, trivial⟩ (by show List.Nodup [3, 2, 0, 1]; decide) (by show List.Nodup [3, 2, 6, 5, 4, 0, 1]; decide) ?_
                exact fw_3 hxp
          · rw [show (fx_cb .ne 97 (nI n6)) = true from cb_neT (a := 97) (b := n6) (by omega) (by omega) (by omega)]
            dsimp only [cond]
            refine fe_s 4 (pc' := 68) (lc' := [(6, .int (12 + 1)), (5, .int 0), (4, .int 14), (3, .int 11), (2, .int 2), (0, .ref 0), (1, .ref 22)]) (stk' := []) (mem' := fm g tp bt a b) (fun _ _ _ => rfl) ?_
            rw [show (12 + 1 : Int32) = 13 from rfl]
            refine fe_s 2 (pc' := 72) (lc' := [(6, .int 13), (5, .int 0), (4, .int 14), (3, .int 11), (2, .int 2), (0, .ref 0), (1, .ref 22)]) (stk' := [.int 14, .int 13]) (mem' := fm g tp bt a b) (fun _ _ _ => rfl) ?_
            refine fe_s 1 (pc' := cond (fx_cb .ge 13 14) 115 75) (lc' := [(6, .int 13), (5, .int 0), (4, .int 14), (3, .int 11), (2, .int 2), (0, .ref 0), (1, .ref 22)]) (stk' := []) (mem' := fm g tp bt a b) (fun _ _ _ => rfl) ?_
            rw [show (fx_cb .ge 13 14) = false from by decide]
            dsimp only [cond]
            refine fe_s 1 (pc' := 77) (lc' := [(6, .int 13), (5, .int 0), (4, .int 14), (3, .int 11), (2, .int 2), (0, .ref 0), (1, .ref 22)]) (stk' := [.int 0]) (mem' := fm g tp bt a b) (fun _ _ _ => rfl) ?_
            refine fe_s 1 (pc' := cond (fx_cb .eq 0 0) 115 80) (lc' := [(6, .int 13), (5, .int 0), (4, .int 14), (3, .int 11), (2, .int 2), (0, .ref 0), (1, .ref 22)]) (stk' := []) (mem' := fm g tp bt a b) (fun _ _ _ => rfl) ?_
            rw [show (fx_cb .eq 0 0) = true from by decide]
            dsimp only [cond]
            refine fe_s 1 (pc' := 117) (lc' := [(6, .int 13), (5, .int 0), (4, .int 14), (3, .int 11), (2, .int 2), (0, .ref 0), (1, .ref 22)]) (stk' := [.int 0]) (mem' := fm g tp bt a b) (fun _ _ _ => rfl) ?_
            refine fe_s 1 (pc' := cond (fx_cb .eq 0 0) 122 120) (lc' := [(6, .int 13), (5, .int 0), (4, .int 14), (3, .int 11), (2, .int 2), (0, .ref 0), (1, .ref 22)]) (stk' := []) (mem' := fm g tp bt a b) (fun _ _ _ => rfl) ?_
            rw [show (fx_cb .eq 0 0) = true from by decide]
            dsimp only [cond]
            refine fe_s 4 (pc' := 129) (lc' := [(2, .int (2 + 1)), (6, .int 13), (5, .int 0), (4, .int 14), (3, .int 11), (0, .ref 0), (1, .ref 22)]) (stk' := [.int (14 + 1)]) (mem' := fm g tp bt a b) (fun _ _ _ => rfl) ?_
            rw [show (2 + 1 : Int32) = 3 from rfl]
            rw [show (14 + 1 : Int32) = 15 from rfl]
            refine fe_s 1 (pc' := 130) (lc' := [(3, .int 15), (2, .int 3), (6, .int 13), (5, .int 0), (4, .int 14), (0, .ref 0), (1, .ref 22)]) (stk' := []) (mem' := fm g tp bt a b) (fun _ _ _ => rfl) ?_
            refine fe_s 1 (pc' := fx_to 130 (-116)) (lc' := [(3, .int 15), (2, .int 3), (6, .int 13), (5, .int 0), (4, .int 14), (0, .ref 0), (1, .ref 22)]) (stk' := []) (mem' := fm g tp bt a b) (fun _ _ _ => rfl) ?_
            rw [show fx_to 130 (-116) = 14 from by decide]
            refine fe_w (lc' := [(3, .int 15), (2, .int 3), (0, .ref 0), (1, .ref 22)]) ⟨rfl, rfl, rfl, rfl, trivial⟩ (by show List.Nodup [3, 2, 0, 1]; decide) (by show List.Nodup [3, 2, 6, 5, 4, 0, 1]; decide) ?_
            exact fw_3 hxp
      · rw [show (fx_cb .ne 119 (nI n2)) = true from cb_neT (a := 119) (b := n2) (by omega) (by omega) (by omega)]
        dsimp only [cond]
        refine fe_s 4 (pc' := 68) (lc' := [(6, .int (11 + 1)), (5, .int 0), (4, .int 14), (3, .int 11), (2, .int 2), (0, .ref 0), (1, .ref 22)]) (stk' := []) (mem' := fm g tp bt a b) (fun _ _ _ => rfl) ?_
        rw [show (11 + 1 : Int32) = 12 from rfl]
        refine fe_s 2 (pc' := 72) (lc' := [(6, .int 12), (5, .int 0), (4, .int 14), (3, .int 11), (2, .int 2), (0, .ref 0), (1, .ref 22)]) (stk' := [.int 14, .int 12]) (mem' := fm g tp bt a b) (fun _ _ _ => rfl) ?_
        refine fe_s 1 (pc' := cond (fx_cb .ge 12 14) 115 75) (lc' := [(6, .int 12), (5, .int 0), (4, .int 14), (3, .int 11), (2, .int 2), (0, .ref 0), (1, .ref 22)]) (stk' := []) (mem' := fm g tp bt a b) (fun _ _ _ => rfl) ?_
        rw [show (fx_cb .ge 12 14) = false from by decide]
        dsimp only [cond]
        refine fe_s 1 (pc' := 77) (lc' := [(6, .int 12), (5, .int 0), (4, .int 14), (3, .int 11), (2, .int 2), (0, .ref 0), (1, .ref 22)]) (stk' := [.int 0]) (mem' := fm g tp bt a b) (fun _ _ _ => rfl) ?_
        refine fe_s 1 (pc' := cond (fx_cb .eq 0 0) 115 80) (lc' := [(6, .int 12), (5, .int 0), (4, .int 14), (3, .int 11), (2, .int 2), (0, .ref 0), (1, .ref 22)]) (stk' := []) (mem' := fm g tp bt a b) (fun _ _ _ => rfl) ?_
        rw [show (fx_cb .eq 0 0) = true from by decide]
        dsimp only [cond]
        refine fe_s 1 (pc' := 117) (lc' := [(6, .int 12), (5, .int 0), (4, .int 14), (3, .int 11), (2, .int 2), (0, .ref 0), (1, .ref 22)]) (stk' := [.int 0]) (mem' := fm g tp bt a b) (fun _ _ _ => rfl) ?_
        refine fe_s 1 (pc' := cond (fx_cb .eq 0 0) 122 120) (lc' := [(6, .int 12), (5, .int 0), (4, .int 14), (3, .int 11), (2, .int 2), (0, .ref 0), (1, .ref 22)]) (stk' := []) (mem' := fm g tp bt a b) (fun _ _ _ => rfl) ?_
        rw [show (fx_cb .eq 0 0) = true from by decide]
        dsimp only [cond]
        refine fe_s 4 (pc' := 129) (lc' := [(2, .int (2 + 1)), (6, .int 12), (5, .int 0), (4, .int 14), (3, .int 11), (0, .ref 0), (1, .ref 22)]) (stk' := [.int (14 + 1)]) (mem' := fm g tp bt a b) (fun _ _ _ => rfl) ?_
        rw [show (2 + 1 : Int32) = 3 from rfl]
        rw [show (14 + 1 : Int32) = 15 from rfl]
        refine fe_s 1 (pc' := 130) (lc' := [(3, .int 15), (2, .int 3), (6, .int 12), (5, .int 0), (4, .int 14), (0, .ref 0), (1, .ref 22)]) (stk' := []) (mem' := fm g tp bt a b) (fun _ _ _ => rfl) ?_
        refine fe_s 1 (pc' := fx_to 130 (-116)) (lc' := [(3, .int 15), (2, .int 3), (6, .int 12), (5, .int 0), (4, .int 14), (0, .ref 0), (1, .ref 22)]) (stk' := []) (mem' := fm g tp bt a b) (fun _ _ _ => rfl) ?_
        rw [show fx_to 130 (-116) = 14 from by decide]
        refine fe_w (lc' := [(3, .int 15), (2, .int 3), (0, .ref 0), (1, .ref 22)]) ⟨rfl, rfl, rfl, rfl, trivial⟩ (by show List.Nodup [3, 2, 0, 1]; decide) (by show List.Nodup [3, 2, 6, 5, 4, 0, 1]; decide) ?_
        exact fw_3 hxp
  · rw [show (fx_cb .ne 3 (nI (E - F))) = true from cb_neT (a := 3) (b := E - F) (by omega) (by omega) (by omega)]
    dsimp only [cond]
    refine fe_s 4 (pc' := 68) (lc' := [(6, .int 11), (5, .int 0), (4, .int 14), (3, .int 11), (2, .int 2), (0, .ref 0), (1, .ref 22)]) (stk' := []) (mem' := fm g tp bt a b) (fun _ _ _ => rfl) ?_
    refine fe_s 2 (pc' := 72) (lc' := [(6, .int 11), (5, .int 0), (4, .int 14), (3, .int 11), (2, .int 2), (0, .ref 0), (1, .ref 22)]) (stk' := [.int 14, .int 11]) (mem' := fm g tp bt a b) (fun _ _ _ => rfl) ?_
    refine fe_s 1 (pc' := cond (fx_cb .ge 11 14) 115 75) (lc' := [(6, .int 11), (5, .int 0), (4, .int 14), (3, .int 11), (2, .int 2), (0, .ref 0), (1, .ref 22)]) (stk' := []) (mem' := fm g tp bt a b) (fun _ _ _ => rfl) ?_
    rw [show (fx_cb .ge 11 14) = false from by decide]
    dsimp only [cond]
    refine fe_s 1 (pc' := 77) (lc' := [(6, .int 11), (5, .int 0), (4, .int 14), (3, .int 11), (2, .int 2), (0, .ref 0), (1, .ref 22)]) (stk' := [.int 0]) (mem' := fm g tp bt a b) (fun _ _ _ => rfl) ?_
    refine fe_s 1 (pc' := cond (fx_cb .eq 0 0) 115 80) (lc' := [(6, .int 11), (5, .int 0), (4, .int 14), (3, .int 11), (2, .int 2), (0, .ref 0), (1, .ref 22)]) (stk' := []) (mem' := fm g tp bt a b) (fun _ _ _ => rfl) ?_
    rw [show (fx_cb .eq 0 0) = true from by decide]
    dsimp only [cond]
    refine fe_s 1 (pc' := 117) (lc' := [(6, .int 11), (5, .int 0), (4, .int 14), (3, .int 11), (2, .int 2), (0, .ref 0), (1, .ref 22)]) (stk' := [.int 0]) (mem' := fm g tp bt a b) (fun _ _ _ => rfl) ?_
    refine fe_s 1 (pc' := cond (fx_cb .eq 0 0) 122 120) (lc' := [(6, .int 11), (5, .int 0), (4, .int 14), (3, .int 11), (2, .int 2), (0, .ref 0), (1, .ref 22)]) (stk' := []) (mem' := fm g tp bt a b) (fun _ _ _ => rfl) ?_
    rw [show (fx_cb .eq 0 0) = true from by decide]
    dsimp only [cond]
    refine fe_s 4 (pc' := 129) (lc' := [(2, .int (2 + 1)), (6, .int 11), (5, .int 0), (4, .int 14), (3, .int 11), (0, .ref 0), (1, .ref 22)]) (stk' := [.int (14 + 1)]) (mem' := fm g tp bt a b) (fun _ _ _ => rfl) ?_
    rw [show (2 + 1 : Int32) = 3 from rfl]
    rw [show (14 + 1 : Int32) = 15 from rfl]
    refine fe_s 1 (pc' := 130) (lc' := [(3, .int 15), (2, .int 3), (6, .int 11), (5, .int 0), (4, .int 14), (0, .ref 0), (1, .ref 22)]) (stk' := []) (mem' := fm g tp bt a b) (fun _ _ _ => rfl) ?_
    refine fe_s 1 (pc' := fx_to 130 (-116)) (lc' := [(3, .int 15), (2, .int 3), (6, .int 11), (5, .int 0), (4, .int 14), (0, .ref 0), (1, .ref 22)]) (stk' := []) (mem' := fm g tp bt a b) (fun _ _ _ => rfl) ?_
    rw [show fx_to 130 (-116) = 14 from by decide]
    refine fe_w (lc' := [(3, .int 15), (2, .int 3), (0, .ref 0), (1, .ref 22)]) ⟨rfl, rfl, rfl, rfl, trivial⟩ (by show List.Nodup [3, 2, 0, 1]; decide) (by show List.Nodup [3, 2, 6, 5, 4, 0, 1]; decide) ?_
    exact fw_3 hxp
theorem fw_1 {S E F : Nat} (hxp : fm_xp g S E F) : fe_R 1 gk_m226 14 [(3, .int 5), (2, .int 1), (0, .ref 0), (1, .ref 22)] [] (fm g tp bt a b) (fm_FI (fm g tp bt a b)) := by
  obtain ⟨h11, hS9, h14, hES, h13, hFE, -, -, -⟩ := id hxp
  refine fe_s 2 (pc' := 16) (lc' := [(3, .int 5), (2, .int 1), (0, .ref 0), (1, .ref 22)]) (stk' := [.ref 22, .int 5]) (mem' := fm g tp bt a b) (fun _ _ _ => rfl) ?_
  refine fe_s 1 (pc' := 19) (lc' := [(3, .int 5), (2, .int 1), (0, .ref 0), (1, .ref 22)]) (stk' := [.int 117, .int 5]) (mem' := fm g tp bt a b) (fun _ _ _ => rfl) ?_
  refine fe_s 1 (pc' := cond (fx_cb .ge 5 117) 133 22) (lc' := [(3, .int 5), (2, .int 1), (0, .ref 0), (1, .ref 22)]) (stk' := []) (mem' := fm g tp bt a b) (fun _ _ _ => rfl) ?_
  rw [show (fx_cb .ge 5 117) = false from by decide]
  dsimp only [cond]
  refine fe_s 4 (pc' := 28) (lc' := [(4, .int 5), (3, .int 5), (2, .int 1), (0, .ref 0), (1, .ref 22)]) (stk' := [.int 5, .ref 22]) (mem' := fm g tp bt a b) (fun _ _ _ => rfl) ?_
  refine fe_chr (i := 5) (by omega) (by rfl) (by rfl) ⟨by rfl, by rfl⟩ (by rfl) ?_
  rw [show sk_b.getD 5 0 = 115 from rfl]
  refine fe_s 1 (pc' := 33) (lc' := [(4, .int 5), (3, .int 5), (2, .int 1), (0, .ref 0), (1, .ref 22)]) (stk' := [.int 32, .int 115]) (mem' := fm g tp bt a b) (fun _ _ _ => rfl) ?_
  refine fe_s 1 (pc' := cond (fx_cb .eq 115 32) 42 36) (lc' := [(4, .int 5), (3, .int 5), (2, .int 1), (0, .ref 0), (1, .ref 22)]) (stk' := []) (mem' := fm g tp bt a b) (fun _ _ _ => rfl) ?_
  rw [show (fx_cb .eq 115 32) = false from by decide]
  dsimp only [cond]
  refine fe_s 4 (pc' := 28) (lc' := [(4, .int (5 + 1)), (3, .int 5), (2, .int 1), (0, .ref 0), (1, .ref 22)]) (stk' := [.int (5 + 1), .ref 22]) (mem' := fm g tp bt a b) (fun _ _ _ => rfl) ?_
  rw [show (5 + 1 : Int32) = 6 from rfl]
  refine fe_chr (i := 6) (by omega) (by rfl) (by rfl) ⟨by rfl, by rfl⟩ (by rfl) ?_
  rw [show sk_b.getD 6 0 = 104 from rfl]
  refine fe_s 1 (pc' := 33) (lc' := [(4, .int 6), (3, .int 5), (2, .int 1), (0, .ref 0), (1, .ref 22)]) (stk' := [.int 32, .int 104]) (mem' := fm g tp bt a b) (fun _ _ _ => rfl) ?_
  refine fe_s 1 (pc' := cond (fx_cb .eq 104 32) 42 36) (lc' := [(4, .int 6), (3, .int 5), (2, .int 1), (0, .ref 0), (1, .ref 22)]) (stk' := []) (mem' := fm g tp bt a b) (fun _ _ _ => rfl) ?_
  rw [show (fx_cb .eq 104 32) = false from by decide]
  dsimp only [cond]
  refine fe_s 4 (pc' := 28) (lc' := [(4, .int (6 + 1)), (3, .int 5), (2, .int 1), (0, .ref 0), (1, .ref 22)]) (stk' := [.int (6 + 1), .ref 22]) (mem' := fm g tp bt a b) (fun _ _ _ => rfl) ?_
  rw [show (6 + 1 : Int32) = 7 from rfl]
  refine fe_chr (i := 7) (by omega) (by rfl) (by rfl) ⟨by rfl, by rfl⟩ (by rfl) ?_
  rw [show sk_b.getD 7 0 = 111 from rfl]
  refine fe_s 1 (pc' := 33) (lc' := [(4, .int 7), (3, .int 5), (2, .int 1), (0, .ref 0), (1, .ref 22)]) (stk' := [.int 32, .int 111]) (mem' := fm g tp bt a b) (fun _ _ _ => rfl) ?_
  refine fe_s 1 (pc' := cond (fx_cb .eq 111 32) 42 36) (lc' := [(4, .int 7), (3, .int 5), (2, .int 1), (0, .ref 0), (1, .ref 22)]) (stk' := []) (mem' := fm g tp bt a b) (fun _ _ _ => rfl) ?_
  rw [show (fx_cb .eq 111 32) = false from by decide]
  dsimp only [cond]
  refine fe_s 4 (pc' := 28) (lc' := [(4, .int (7 + 1)), (3, .int 5), (2, .int 1), (0, .ref 0), (1, .ref 22)]) (stk' := [.int (7 + 1), .ref 22]) (mem' := fm g tp bt a b) (fun _ _ _ => rfl) ?_
  rw [show (7 + 1 : Int32) = 8 from rfl]
  refine fe_chr (i := 8) (by omega) (by rfl) (by rfl) ⟨by rfl, by rfl⟩ (by rfl) ?_
  rw [show sk_b.getD 8 0 = 114 from rfl]
  refine fe_s 1 (pc' := 33) (lc' := [(4, .int 8), (3, .int 5), (2, .int 1), (0, .ref 0), (1, .ref 22)]) (stk' := [.int 32, .int 114]) (mem' := fm g tp bt a b) (fun _ _ _ => rfl) ?_
  refine fe_s 1 (pc' := cond (fx_cb .eq 114 32) 42 36) (lc' := [(4, .int 8), (3, .int 5), (2, .int 1), (0, .ref 0), (1, .ref 22)]) (stk' := []) (mem' := fm g tp bt a b) (fun _ _ _ => rfl) ?_
  rw [show (fx_cb .eq 114 32) = false from by decide]
  dsimp only [cond]
  refine fe_s 4 (pc' := 28) (lc' := [(4, .int (8 + 1)), (3, .int 5), (2, .int 1), (0, .ref 0), (1, .ref 22)]) (stk' := [.int (8 + 1), .ref 22]) (mem' := fm g tp bt a b) (fun _ _ _ => rfl) ?_
  rw [show (8 + 1 : Int32) = 9 from rfl]
  refine fe_chr (i := 9) (by omega) (by rfl) (by rfl) ⟨by rfl, by rfl⟩ (by rfl) ?_
  rw [show sk_b.getD 9 0 = 101 from rfl]
  refine fe_s 1 (pc' := 33) (lc' := [(4, .int 9), (3, .int 5), (2, .int 1), (0, .ref 0), (1, .ref 22)]) (stk' := [.int 32, .int 101]) (mem' := fm g tp bt a b) (fun _ _ _ => rfl) ?_
  refine fe_s 1 (pc' := cond (fx_cb .eq 101 32) 42 36) (lc' := [(4, .int 9), (3, .int 5), (2, .int 1), (0, .ref 0), (1, .ref 22)]) (stk' := []) (mem' := fm g tp bt a b) (fun _ _ _ => rfl) ?_
  rw [show (fx_cb .eq 101 32) = false from by decide]
  dsimp only [cond]
  refine fe_s 4 (pc' := 28) (lc' := [(4, .int (9 + 1)), (3, .int 5), (2, .int 1), (0, .ref 0), (1, .ref 22)]) (stk' := [.int (9 + 1), .ref 22]) (mem' := fm g tp bt a b) (fun _ _ _ => rfl) ?_
  rw [show (9 + 1 : Int32) = 10 from rfl]
  refine fe_chr (i := 10) (by omega) (by rfl) (by rfl) ⟨by rfl, by rfl⟩ (by rfl) ?_
  rw [show sk_b.getD 10 0 = 32 from rfl]
  refine fe_s 1 (pc' := 33) (lc' := [(4, .int 10), (3, .int 5), (2, .int 1), (0, .ref 0), (1, .ref 22)]) (stk' := [.int 32, .int 32]) (mem' := fm g tp bt a b) (fun _ _ _ => rfl) ?_
  refine fe_s 1 (pc' := cond (fx_cb .eq 32 32) 42 36) (lc' := [(4, .int 10), (3, .int 5), (2, .int 1), (0, .ref 0), (1, .ref 22)]) (stk' := []) (mem' := fm g tp bt a b) (fun _ _ _ => rfl) ?_
  rw [show (fx_cb .eq 32 32) = true from by decide]
  dsimp only [cond]
  refine fe_s 4 (pc' := 47) (lc' := [(4, .int 10), (3, .int 5), (2, .int 1), (0, .ref 0), (1, .ref 22)]) (stk' := [.ref 0, .int (10 - 5)]) (mem' := fm g tp bt a b) (fun _ _ _ => rfl) ?_
  rw [show (10 - 5 : Int32) = 5 from rfl]
  refine fe_s 4 (pc' := 55) (lc' := [(4, .int 10), (3, .int 5), (2, .int 1), (0, .ref 0), (1, .ref 22)]) (stk' := [.int ((g 14) - (g 13)), .int 5]) (mem' := fm g tp bt a b) (fun _ _ _ => rfl) ?_
  try rw [h14]
  try rw [h13]
  rw [show ((nI E) - (nI F) : Int32) = nI (E - F) from by simp only [tg_sub2 (x := E) (y := F) (by omega), nI_add, fm_mul]]
  refine fe_s 1 (pc' := cond (fx_cb .ne 5 (nI (E - F))) 62 58) (lc' := [(4, .int 10), (3, .int 5), (2, .int 1), (0, .ref 0), (1, .ref 22)]) (stk' := []) (mem' := fm g tp bt a b) (fun _ _ _ => rfl) ?_
  by_cases h1 : 5 = (E - F)
  · rw [show (fx_cb .ne 5 (nI (E - F))) = false from cb_neF (a := 5) (b := E - F) (by omega) (by omega) (by omega)]
    dsimp only [cond]
    refine fe_s 4 (pc' := 66) (lc' := [(5, .int 1), (4, .int 10), (3, .int 5), (2, .int 1), (0, .ref 0), (1, .ref 22)]) (stk' := [.int 5]) (mem' := fm g tp bt a b) (fun _ _ _ => rfl) ?_
    refine fe_s 3 (pc' := 72) (lc' := [(6, .int 5), (5, .int 1), (4, .int 10), (3, .int 5), (2, .int 1), (0, .ref 0), (1, .ref 22)]) (stk' := [.int 10, .int 5]) (mem' := fm g tp bt a b) (fun _ _ _ => rfl) ?_
    refine fe_s 1 (pc' := cond (fx_cb .ge 5 10) 115 75) (lc' := [(6, .int 5), (5, .int 1), (4, .int 10), (3, .int 5), (2, .int 1), (0, .ref 0), (1, .ref 22)]) (stk' := []) (mem' := fm g tp bt a b) (fun _ _ _ => rfl) ?_
    rw [show (fx_cb .ge 5 10) = false from by decide]
    dsimp only [cond]
    refine fe_s 1 (pc' := 77) (lc' := [(6, .int 5), (5, .int 1), (4, .int 10), (3, .int 5), (2, .int 1), (0, .ref 0), (1, .ref 22)]) (stk' := [.int 1]) (mem' := fm g tp bt a b) (fun _ _ _ => rfl) ?_
    refine fe_s 1 (pc' := cond (fx_cb .eq 1 0) 115 80) (lc' := [(6, .int 5), (5, .int 1), (4, .int 10), (3, .int 5), (2, .int 1), (0, .ref 0), (1, .ref 22)]) (stk' := []) (mem' := fm g tp bt a b) (fun _ _ _ => rfl) ?_
    rw [show (fx_cb .eq 1 0) = false from by decide]
    dsimp only [cond]
    refine fe_s 2 (pc' := 83) (lc' := [(6, .int 5), (5, .int 1), (4, .int 10), (3, .int 5), (2, .int 1), (0, .ref 0), (1, .ref 22)]) (stk' := [.int 5, .ref 22]) (mem' := fm g tp bt a b) (fun _ _ _ => rfl) ?_
    refine fe_chr (i := 5) (by omega) (by rfl) (by rfl) ⟨by rfl, by rfl⟩ (by rfl) ?_
    rw [show sk_b.getD 5 0 = 115 from rfl]
    refine fe_s 4 (pc' := 93) (lc' := [(6, .int 5), (5, .int 1), (4, .int 10), (3, .int 5), (2, .int 1), (0, .ref 0), (1, .ref 22)]) (stk' := [.int 5, .int (g 13), .ref 0, .int 115]) (mem' := fm g tp bt a b) (fun _ _ _ => rfl) ?_
    try rw [h13]
    refine fe_s 3 (pc' := 96) (lc' := [(6, .int 5), (5, .int 1), (4, .int 10), (3, .int 5), (2, .int 1), (0, .ref 0), (1, .ref 22)]) (stk' := [.int (((nI F) + 5) - 5), .ref 0, .int 115]) (mem' := fm g tp bt a b) (fun _ _ _ => rfl) ?_
    rw [show (((nI F) + 5) - 5 : Int32) = nI ((F + 5) - 5) from by simp only [show (5 : Int32) = nI 5 from rfl, tg_sub2 (x := F + 5) (y := 5) (by omega), nI_add, fm_mul]]
    refine fe_ivV (fr_byteAt (S := S) (k := (F + 5) - 5) (g := g) (tp := tp) (bt := bt) (a := a) (b := b) h11 (by omega) (by omega)) (by omega) (by rfl) (by rfl) (by rfl) (by rfl) (by rfl) (by rfl) ?_
    rcases fm_byte_or a S ((F + 5) - 5) with ⟨e3, q4⟩ | ⟨q4, n2, qn2, e3⟩
    · rw [e3]
      refine fe_s 1 (pc' := cond (fx_cb .ne 115 (-1)) 106 102) (lc' := [(6, .int 5), (5, .int 1), (4, .int 10), (3, .int 5), (2, .int 1), (0, .ref 0), (1, .ref 22)]) (stk' := []) (mem' := fm g tp bt a b) (fun _ _ _ => rfl) ?_
      rw [show (fx_cb .ne 115 (-1)) = true from by decide]
      dsimp only [cond]
      refine fe_s 4 (pc' := 68) (lc' := [(6, .int (5 + 1)), (5, .int 0), (4, .int 10), (3, .int 5), (2, .int 1), (0, .ref 0), (1, .ref 22)]) (stk' := []) (mem' := fm g tp bt a b) (fun _ _ _ => rfl) ?_
      rw [show (5 + 1 : Int32) = 6 from rfl]
      refine fe_s 2 (pc' := 72) (lc' := [(6, .int 6), (5, .int 0), (4, .int 10), (3, .int 5), (2, .int 1), (0, .ref 0), (1, .ref 22)]) (stk' := [.int 10, .int 6]) (mem' := fm g tp bt a b) (fun _ _ _ => rfl) ?_
      refine fe_s 1 (pc' := cond (fx_cb .ge 6 10) 115 75) (lc' := [(6, .int 6), (5, .int 0), (4, .int 10), (3, .int 5), (2, .int 1), (0, .ref 0), (1, .ref 22)]) (stk' := []) (mem' := fm g tp bt a b) (fun _ _ _ => rfl) ?_
      rw [show (fx_cb .ge 6 10) = false from by decide]
      dsimp only [cond]
      refine fe_s 1 (pc' := 77) (lc' := [(6, .int 6), (5, .int 0), (4, .int 10), (3, .int 5), (2, .int 1), (0, .ref 0), (1, .ref 22)]) (stk' := [.int 0]) (mem' := fm g tp bt a b) (fun _ _ _ => rfl) ?_
      refine fe_s 1 (pc' := cond (fx_cb .eq 0 0) 115 80) (lc' := [(6, .int 6), (5, .int 0), (4, .int 10), (3, .int 5), (2, .int 1), (0, .ref 0), (1, .ref 22)]) (stk' := []) (mem' := fm g tp bt a b) (fun _ _ _ => rfl) ?_
      rw [show (fx_cb .eq 0 0) = true from by decide]
      dsimp only [cond]
      refine fe_s 1 (pc' := 117) (lc' := [(6, .int 6), (5, .int 0), (4, .int 10), (3, .int 5), (2, .int 1), (0, .ref 0), (1, .ref 22)]) (stk' := [.int 0]) (mem' := fm g tp bt a b) (fun _ _ _ => rfl) ?_
      refine fe_s 1 (pc' := cond (fx_cb .eq 0 0) 122 120) (lc' := [(6, .int 6), (5, .int 0), (4, .int 10), (3, .int 5), (2, .int 1), (0, .ref 0), (1, .ref 22)]) (stk' := []) (mem' := fm g tp bt a b) (fun _ _ _ => rfl) ?_
      rw [show (fx_cb .eq 0 0) = true from by decide]
      dsimp only [cond]
      refine fe_s 4 (pc' := 129) (lc' := [(2, .int (1 + 1)), (6, .int 6), (5, .int 0), (4, .int 10), (3, .int 5), (0, .ref 0), (1, .ref 22)]) (stk' := [.int (10 + 1)]) (mem' := fm g tp bt a b) (fun _ _ _ => rfl) ?_
      rw [show (1 + 1 : Int32) = 2 from rfl]
      rw [show (10 + 1 : Int32) = 11 from rfl]
      refine fe_s 1 (pc' := 130) (lc' := [(3, .int 11), (2, .int 2), (6, .int 6), (5, .int 0), (4, .int 10), (0, .ref 0), (1, .ref 22)]) (stk' := []) (mem' := fm g tp bt a b) (fun _ _ _ => rfl) ?_
      refine fe_s 1 (pc' := fx_to 130 (-116)) (lc' := [(3, .int 11), (2, .int 2), (6, .int 6), (5, .int 0), (4, .int 10), (0, .ref 0), (1, .ref 22)]) (stk' := []) (mem' := fm g tp bt a b) (fun _ _ _ => rfl) ?_
      rw [show fx_to 130 (-116) = 14 from by decide]
      refine fe_w (lc' := [(3, .int 11), (2, .int 2), (0, .ref 0), (1, .ref 22)]) ⟨rfl, rfl, rfl, rfl, trivial⟩ (by show List.Nodup [3, 2, 0, 1]; decide) (by show List.Nodup [3, 2, 6, 5, 4, 0, 1]; decide) ?_
      exact fw_2 hxp
    · rw [e3]
      refine fe_s 1 (pc' := cond (fx_cb .ne 115 (nI n2)) 106 102) (lc' := [(6, .int 5), (5, .int 1), (4, .int 10), (3, .int 5), (2, .int 1), (0, .ref 0), (1, .ref 22)]) (stk' := []) (mem' := fm g tp bt a b) (fun _ _ _ => rfl) ?_
      by_cases h5 : 115 = n2
      · rw [show (fx_cb .ne 115 (nI n2)) = false from cb_neF (a := 115) (b := n2) (by omega) (by omega) (by omega)]
        dsimp only [cond]
        refine fe_s 4 (pc' := 112) (lc' := [(6, .int (5 + 1)), (5, .int 1), (4, .int 10), (3, .int 5), (2, .int 1), (0, .ref 0), (1, .ref 22)]) (stk' := []) (mem' := fm g tp bt a b) (fun _ _ _ => rfl) ?_
        rw [show (5 + 1 : Int32) = 6 from rfl]
        refine fe_s 3 (pc' := 72) (lc' := [(6, .int 6), (5, .int 1), (4, .int 10), (3, .int 5), (2, .int 1), (0, .ref 0), (1, .ref 22)]) (stk' := [.int 10, .int 6]) (mem' := fm g tp bt a b) (fun _ _ _ => rfl) ?_
        refine fe_s 1 (pc' := cond (fx_cb .ge 6 10) 115 75) (lc' := [(6, .int 6), (5, .int 1), (4, .int 10), (3, .int 5), (2, .int 1), (0, .ref 0), (1, .ref 22)]) (stk' := []) (mem' := fm g tp bt a b) (fun _ _ _ => rfl) ?_
        rw [show (fx_cb .ge 6 10) = false from by decide]
        dsimp only [cond]
        refine fe_s 1 (pc' := 77) (lc' := [(6, .int 6), (5, .int 1), (4, .int 10), (3, .int 5), (2, .int 1), (0, .ref 0), (1, .ref 22)]) (stk' := [.int 1]) (mem' := fm g tp bt a b) (fun _ _ _ => rfl) ?_
        refine fe_s 1 (pc' := cond (fx_cb .eq 1 0) 115 80) (lc' := [(6, .int 6), (5, .int 1), (4, .int 10), (3, .int 5), (2, .int 1), (0, .ref 0), (1, .ref 22)]) (stk' := []) (mem' := fm g tp bt a b) (fun _ _ _ => rfl) ?_
        rw [show (fx_cb .eq 1 0) = false from by decide]
        dsimp only [cond]
        refine fe_s 2 (pc' := 83) (lc' := [(6, .int 6), (5, .int 1), (4, .int 10), (3, .int 5), (2, .int 1), (0, .ref 0), (1, .ref 22)]) (stk' := [.int 6, .ref 22]) (mem' := fm g tp bt a b) (fun _ _ _ => rfl) ?_
        refine fe_chr (i := 6) (by omega) (by rfl) (by rfl) ⟨by rfl, by rfl⟩ (by rfl) ?_
        rw [show sk_b.getD 6 0 = 104 from rfl]
        refine fe_s 4 (pc' := 93) (lc' := [(6, .int 6), (5, .int 1), (4, .int 10), (3, .int 5), (2, .int 1), (0, .ref 0), (1, .ref 22)]) (stk' := [.int 6, .int (g 13), .ref 0, .int 104]) (mem' := fm g tp bt a b) (fun _ _ _ => rfl) ?_
        try rw [h13]
        refine fe_s 3 (pc' := 96) (lc' := [(6, .int 6), (5, .int 1), (4, .int 10), (3, .int 5), (2, .int 1), (0, .ref 0), (1, .ref 22)]) (stk' := [.int (((nI F) + 6) - 5), .ref 0, .int 104]) (mem' := fm g tp bt a b) (fun _ _ _ => rfl) ?_
        rw [show (((nI F) + 6) - 5 : Int32) = nI ((F + 6) - 5) from by simp only [show (6 : Int32) = nI 6 from rfl, show (5 : Int32) = nI 5 from rfl, tg_sub2 (x := F + 6) (y := 5) (by omega), nI_add, fm_mul]]
        refine fe_ivV (fr_byteAt (S := S) (k := (F + 6) - 5) (g := g) (tp := tp) (bt := bt) (a := a) (b := b) h11 (by omega) (by omega)) (by omega) (by rfl) (by rfl) (by rfl) (by rfl) (by rfl) (by rfl) ?_
        rcases fm_byte_or a S ((F + 6) - 5) with ⟨e7, q8⟩ | ⟨q8, n6, qn6, e7⟩
        · rw [e7]
          refine fe_s 1 (pc' := cond (fx_cb .ne 104 (-1)) 106 102) (lc' := [(6, .int 6), (5, .int 1), (4, .int 10), (3, .int 5), (2, .int 1), (0, .ref 0), (1, .ref 22)]) (stk' := []) (mem' := fm g tp bt a b) (fun _ _ _ => rfl) ?_
          rw [show (fx_cb .ne 104 (-1)) = true from by decide]
          dsimp only [cond]
          refine fe_s 4 (pc' := 68) (lc' := [(6, .int (6 + 1)), (5, .int 0), (4, .int 10), (3, .int 5), (2, .int 1), (0, .ref 0), (1, .ref 22)]) (stk' := []) (mem' := fm g tp bt a b) (fun _ _ _ => rfl) ?_
          rw [show (6 + 1 : Int32) = 7 from rfl]
          refine fe_s 2 (pc' := 72) (lc' := [(6, .int 7), (5, .int 0), (4, .int 10), (3, .int 5), (2, .int 1), (0, .ref 0), (1, .ref 22)]) (stk' := [.int 10, .int 7]) (mem' := fm g tp bt a b) (fun _ _ _ => rfl) ?_
          refine fe_s 1 (pc' := cond (fx_cb .ge 7 10) 115 75) (lc' := [(6, .int 7), (5, .int 0), (4, .int 10), (3, .int 5), (2, .int 1), (0, .ref 0), (1, .ref 22)]) (stk' := []) (mem' := fm g tp bt a b) (fun _ _ _ => rfl) ?_
          rw [show (fx_cb .ge 7 10) = false from by decide]
          dsimp only [cond]
          refine fe_s 1 (pc' := 77) (lc' := [(6, .int 7), (5, .int 0), (4, .int 10), (3, .int 5), (2, .int 1), (0, .ref 0), (1, .ref 22)]) (stk' := [.int 0]) (mem' := fm g tp bt a b) (fun _ _ _ => rfl) ?_
          refine fe_s 1 (pc' := cond (fx_cb .eq 0 0) 115 80) (lc' := [(6, .int 7), (5, .int 0), (4, .int 10), (3, .int 5), (2, .int 1), (0, .ref 0), (1, .ref 22)]) (stk' := []) (mem' := fm g tp bt a b) (fun _ _ _ => rfl) ?_
          rw [show (fx_cb .eq 0 0) = true from by decide]
          dsimp only [cond]
          refine fe_s 1 (pc' := 117) (lc' := [(6, .int 7), (5, .int 0), (4, .int 10), (3, .int 5), (2, .int 1), (0, .ref 0), (1, .ref 22)]) (stk' := [.int 0]) (mem' := fm g tp bt a b) (fun _ _ _ => rfl) ?_
          refine fe_s 1 (pc' := cond (fx_cb .eq 0 0) 122 120) (lc' := [(6, .int 7), (5, .int 0), (4, .int 10), (3, .int 5), (2, .int 1), (0, .ref 0), (1, .ref 22)]) (stk' := []) (mem' := fm g tp bt a b) (fun _ _ _ => rfl) ?_
          rw [show (fx_cb .eq 0 0) = true from by decide]
          dsimp only [cond]
          refine fe_s 4 (pc' := 129) (lc' := [(2, .int (1 + 1)), (6, .int 7), (5, .int 0), (4, .int 10), (3, .int 5), (0, .ref 0), (1, .ref 22)]) (stk' := [.int (10 + 1)]) (mem' := fm g tp bt a b) (fun _ _ _ => rfl) ?_
          rw [show (1 + 1 : Int32) = 2 from rfl]
          rw [show (10 + 1 : Int32) = 11 from rfl]
          refine fe_s 1 (pc' := 130) (lc' := [(3, .int 11), (2, .int 2), (6, .int 7), (5, .int 0), (4, .int 10), (0, .ref 0), (1, .ref 22)]) (stk' := []) (mem' := fm g tp bt a b) (fun _ _ _ => rfl) ?_
          refine fe_s 1 (pc' := fx_to 130 (-116)) (lc' := [(3, .int 11), (2, .int 2), (6, .int 7), (5, .int 0), (4, .int 10), (0, .ref 0), (1, .ref 22)]) (stk' := []) (mem' := fm g tp bt a b) (fun _ _ _ => rfl) ?_
          rw [show fx_to 130 (-116) = 14 from by decide]
          refine fe_w (lc' := [(3, .int 11), (2, .int 2), (0, .ref 0), (1, .ref 22)]) ⟨rfl, rfl, rfl, rfl, trivial⟩ (by show List.Nodup [3, 2, 0, 1]; decide) (by show List.Nodup [3, 2, 6, 5, 4, 0, 1]; decide) ?_
          exact fw_2 hxp
        · rw [e7]
          refine fe_s 1 (pc' := cond (fx_cb .ne 104 (nI n6)) 106 102) (lc' := [(6, .int 6), (5, .int 1), (4, .int 10), (3, .int 5), (2, .int 1), (0, .ref 0), (1, .ref 22)]) (stk' := []) (mem' := fm g tp bt a b) (fun _ _ _ => rfl) ?_
          by_cases h9 : 104 = n6
          · rw [show (fx_cb .ne 104 (nI n6)) = false from cb_neF (a := 104) (b := n6) (by omega) (by omega) (by omega)]
            dsimp only [cond]
            refine fe_s 4 (pc' := 112) (lc' := [(6, .int (6 + 1)), (5, .int 1), (4, .int 10), (3, .int 5), (2, .int 1), (0, .ref 0), (1, .ref 22)]) (stk' := []) (mem' := fm g tp bt a b) (fun _ _ _ => rfl) ?_
            rw [show (6 + 1 : Int32) = 7 from rfl]
            refine fe_s 3 (pc' := 72) (lc' := [(6, .int 7), (5, .int 1), (4, .int 10), (3, .int 5), (2, .int 1), (0, .ref 0), (1, .ref 22)]) (stk' := [.int 10, .int 7]) (mem' := fm g tp bt a b) (fun _ _ _ => rfl) ?_
            refine fe_s 1 (pc' := cond (fx_cb .ge 7 10) 115 75) (lc' := [(6, .int 7), (5, .int 1), (4, .int 10), (3, .int 5), (2, .int 1), (0, .ref 0), (1, .ref 22)]) (stk' := []) (mem' := fm g tp bt a b) (fun _ _ _ => rfl) ?_
            rw [show (fx_cb .ge 7 10) = false from by decide]
            dsimp only [cond]
            refine fe_s 1 (pc' := 77) (lc' := [(6, .int 7), (5, .int 1), (4, .int 10), (3, .int 5), (2, .int 1), (0, .ref 0), (1, .ref 22)]) (stk' := [.int 1]) (mem' := fm g tp bt a b) (fun _ _ _ => rfl) ?_
            refine fe_s 1 (pc' := cond (fx_cb .eq 1 0) 115 80) (lc' := [(6, .int 7), (5, .int 1), (4, .int 10), (3, .int 5), (2, .int 1), (0, .ref 0), (1, .ref 22)]) (stk' := []) (mem' := fm g tp bt a b) (fun _ _ _ => rfl) ?_
            rw [show (fx_cb .eq 1 0) = false from by decide]
            dsimp only [cond]
            refine fe_s 2 (pc' := 83) (lc' := [(6, .int 7), (5, .int 1), (4, .int 10), (3, .int 5), (2, .int 1), (0, .ref 0), (1, .ref 22)]) (stk' := [.int 7, .ref 22]) (mem' := fm g tp bt a b) (fun _ _ _ => rfl) ?_
            refine fe_chr (i := 7) (by omega) (by rfl) (by rfl) ⟨by rfl, by rfl⟩ (by rfl) ?_
            rw [show sk_b.getD 7 0 = 111 from rfl]
            refine fe_s 4 (pc' := 93) (lc' := [(6, .int 7), (5, .int 1), (4, .int 10), (3, .int 5), (2, .int 1), (0, .ref 0), (1, .ref 22)]) (stk' := [.int 7, .int (g 13), .ref 0, .int 111]) (mem' := fm g tp bt a b) (fun _ _ _ => rfl) ?_
            try rw [h13]
            refine fe_s 3 (pc' := 96) (lc' := [(6, .int 7), (5, .int 1), (4, .int 10), (3, .int 5), (2, .int 1), (0, .ref 0), (1, .ref 22)]) (stk' := [.int (((nI F) + 7) - 5), .ref 0, .int 111]) (mem' := fm g tp bt a b) (fun _ _ _ => rfl) ?_
            rw [show (((nI F) + 7) - 5 : Int32) = nI ((F + 7) - 5) from by simp only [show (7 : Int32) = nI 7 from rfl, show (5 : Int32) = nI 5 from rfl, tg_sub2 (x := F + 7) (y := 5) (by omega), nI_add, fm_mul]]
            refine fe_ivV (fr_byteAt (S := S) (k := (F + 7) - 5) (g := g) (tp := tp) (bt := bt) (a := a) (b := b) h11 (by omega) (by omega)) (by omega) (by rfl) (by rfl) (by rfl) (by rfl) (by rfl) (by rfl) ?_
            rcases fm_byte_or a S ((F + 7) - 5) with ⟨e11, q12⟩ | ⟨q12, n10, qn10, e11⟩
            · rw [e11]
              refine fe_s 1 (pc' := cond (fx_cb .ne 111 (-1)) 106 102) (lc' := [(6, .int 7), (5, .int 1), (4, .int 10), (3, .int 5), (2, .int 1), (0, .ref 0), (1, .ref 22)]) (stk' := []) (mem' := fm g tp bt a b) (fun _ _ _ => rfl) ?_
              rw [show (fx_cb .ne 111 (-1)) = true from by decide]
              dsimp only [cond]
              refine fe_s 4 (pc' := 68) (lc' := [(6, .int (7 + 1)), (5, .int 0), (4, .int 10), (3, .int 5), (2, .int 1), (0, .ref 0), (1, .ref 22)]) (stk' := []) (mem' := fm g tp bt a b) (fun _ _ _ => rfl) ?_
              rw [show (7 + 1 : Int32) = 8 from rfl]
              refine fe_s 2 (pc' := 72) (lc' := [(6, .int 8), (5, .int 0), (4, .int 10), (3, .int 5), (2, .int 1), (0, .ref 0), (1, .ref 22)]) (stk' := [.int 10, .int 8]) (mem' := fm g tp bt a b) (fun _ _ _ => rfl) ?_
              refine fe_s 1 (pc' := cond (fx_cb .ge 8 10) 115 75) (lc' := [(6, .int 8), (5, .int 0), (4, .int 10), (3, .int 5), (2, .int 1), (0, .ref 0), (1, .ref 22)]) (stk' := []) (mem' := fm g tp bt a b) (fun _ _ _ => rfl) ?_
              rw [show (fx_cb .ge 8 10) = false from by decide]
              dsimp only [cond]
              refine fe_s 1 (pc' := 77) (lc' := [(6, .int 8), (5, .int 0), (4, .int 10), (3, .int 5), (2, .int 1), (0, .ref 0), (1, .ref 22)]) (stk' := [.int 0]) (mem' := fm g tp bt a b) (fun _ _ _ => rfl) ?_
              refine fe_s 1 (pc' := cond (fx_cb .eq 0 0) 115 80) (lc' := [(6, .int 8), (5, .int 0), (4, .int 10), (3, .int 5), (2, .int 1), (0, .ref 0), (1, .ref 22)]) (stk' := []) (mem' := fm g tp bt a b) (fun _ _ _ => rfl) ?_
              rw [show (fx_cb .eq 0 0) = true from by decide]
              dsimp only [cond]
              refine fe_s 1 (pc' := 117) (lc' := [(6, .int 8), (5, .int 0), (4, .int 10), (3, .int 5), (2, .int 1), (0, .ref 0), (1, .ref 22)]) (stk' := [.int 0]) (mem' := fm g tp bt a b) (fun _ _ _ => rfl) ?_
              refine fe_s 1 (pc' := cond (fx_cb .eq 0 0) 122 120) (lc' := [(6, .int 8), (5, .int 0), (4, .int 10), (3, .int 5), (2, .int 1), (0, .ref 0), (1, .ref 22)]) (stk' := []) (mem' := fm g tp bt a b) (fun _ _ _ => rfl) ?_
              rw [show (fx_cb .eq 0 0) = true from by decide]
              dsimp only [cond]
              refine fe_s 4 (pc' := 129) (lc' := [(2, .int (1 + 1)), (6, .int 8), (5, .int 0), (4, .int 10), (3, .int 5), (0, .ref 0), (1, .ref 22)]) (stk' := [.int (10 + 1)]) (mem' := fm g tp bt a b) (fun _ _ _ => rfl) ?_
              rw [show (1 + 1 : Int32) = 2 from rfl]
              rw [show (10 + 1 : Int32) = 11 from rfl]
              refine fe_s 1 (pc' := 130) (lc' := [(3, .int 11), (2, .int 2), (6, .int 8), (5, .int 0), (4, .int 10), (0, .ref 0), (1, .ref 22)]) (stk' := []) (mem' := fm g tp bt a b) (fun _ _ _ => rfl) ?_
              refine fe_s 1 (pc' := fx_to 130 (-116)) (lc' := [(3, .int 11), (2, .int 2), (6, .int 8), (5, .int 0), (4, .int 10), (0, .ref 0), (1, .ref 22)]) (stk' := []) (mem' := fm g tp bt a b) (fun _ _ _ => rfl) ?_
              rw [show fx_to 130 (-116) = 14 from by decide]
              refine fe_w (lc' := [(3, .int 11), (2, .int 2), (0, .ref 0), (1, .ref 22)]) ⟨rfl, rfl, rfl, rfl, trivial⟩ (by show List.Nodup [3, 2, 0, 1]; decide) (by show List.Nodup [3, 2, 6, 5, 4, 0, 1]; decide) ?_
              exact fw_2 hxp
            · rw [e11]
              refine fe_s 1 (pc' := cond (fx_cb .ne 111 (nI n10)) 106 102) (lc' := [(6, .int 7), (5, .int 1), (4, .int 10), (3, .int 5), (2, .int 1), (0, .ref 0), (1, .ref 22)]) (stk' := []) (mem' := fm g tp bt a b) (fun _ _ _ => rfl) ?_
              by_cases h13 : 111 = n10
              · rw [show (fx_cb .ne 111 (nI n10)) = false from cb_neF (a := 111) (b := n10) (by omega) (by omega) (by omega)]
                dsimp only [cond]
                refine fe_s 4 (pc' := 112) (lc' := [(6, .int (7 + 1)), (5, .int 1), (4, .int 10), (3, .int 5), (2, .int 1), (0, .ref 0), (1, .ref 22)]) (stk' := []) (mem' := fm g tp bt a b) (fun _ _ _ => rfl) ?_
                rw [show (7 + 1 : Int32) = 8 from rfl]
                refine fe_s 3 (pc' := 72) (lc' := [(6, .int 8), (5, .int 1), (4, .int 10), (3, .int 5), (2, .int 1), (0, .ref 0), (1, .ref 22)]) (stk' := [.int 10, .int 8]) (mem' := fm g tp bt a b) (fun _ _ _ => rfl) ?_
                refine fe_s 1 (pc' := cond (fx_cb .ge 8 10) 115 75) (lc' := [(6, .int 8), (5, .int 1), (4, .int 10), (3, .int 5), (2, .int 1), (0, .ref 0), (1, .ref 22)]) (stk' := []) (mem' := fm g tp bt a b) (fun _ _ _ => rfl) ?_
                rw [show (fx_cb .ge 8 10) = false from by decide]
                dsimp only [cond]
                refine fe_s 1 (pc' := 77) (lc' := [(6, .int 8), (5, .int 1), (4, .int 10), (3, .int 5), (2, .int 1), (0, .ref 0), (1, .ref 22)]) (stk' := [.int 1]) (mem' := fm g tp bt a b) (fun _ _ _ => rfl) ?_
                refine fe_s 1 (pc' := cond (fx_cb .eq 1 0) 115 80) (lc' := [(6, .int 8), (5, .int 1), (4, .int 10), (3, .int 5), (2, .int 1), (0, .ref 0), (1, .ref 22)]) (stk' := []) (mem' := fm g tp bt a b) (fun _ _ _ => rfl) ?_
                rw [show (fx_cb .eq 1 0) = false from by decide]
                dsimp only [cond]
                refine fe_s 2 (pc' := 83) (lc' := [(6, .int 8), (5, .int 1), (4, .int 10), (3, .int 5), (2, .int 1), (0, .ref 0), (1, .ref 22)]) (stk' := [.int 8, .ref 22]) (mem' := fm g tp bt a b) (fun _ _ _ => rfl) ?_
                refine fe_chr (i := 8) (by omega) (by rfl) (by rfl) ⟨by rfl, by rfl⟩ (by rfl) ?_
                rw [show sk_b.getD 8 0 = 114 from rfl]
                refine fe_s 4 (pc' := 93) (lc' := [(6, .int 8), (5, .int 1), (4, .int 10), (3, .int 5), (2, .int 1), (0, .ref 0), (1, .ref 22)]) (stk' := [.int 8, .int (g 13), .ref 0, .int 114]) (mem' := fm g tp bt a b) (fun _ _ _ => rfl) ?_
                try rw [h13]
                refine fe_s 3 (pc' := 96) (lc' := [(6, .int 8), (5, .int 1), (4, .int 10), (3, .int 5), (2, .int 1), (0, .ref 0), (1, .ref 22)]) (stk' := [.int (((nI F) + 8) - 5), .ref 0, .int 114]) (mem' := fm g tp bt a b) (fun _ _ _ => rfl) ?_
                rw [show (((nI F) + 8) - 5 : Int32) = nI ((F + 8) - 5) from by simp only [show (8 : Int32) = nI 8 from rfl, show (5 : Int32) = nI 5 from rfl, tg_sub2 (x := F + 8) (y := 5) (by omega), nI_add, fm_mul]]
                refine fe_ivV (fr_byteAt (S := S) (k := (F + 8) - 5) (g := g) (tp := tp) (bt := bt) (a := a) (b := b) h11 (by omega) (by omega)) (by omega) (by rfl) (by rfl) (by rfl) (by rfl) (by rfl) (by rfl) ?_
                rcases fm_byte_or a S ((F + 8) - 5) with ⟨e15, q16⟩ | ⟨q16, n14, qn14, e15⟩
                · rw [e15]
                  refine fe_s 1 (pc' := cond (fx_cb .ne 114 (-1)) 106 102) (lc' := [(6, .int 8), (5, .int 1), (4, .int 10), (3, .int 5), (2, .int 1), (0, .ref 0), (1, .ref 22)]) (stk' := []) (mem' := fm g tp bt a b) (fun _ _ _ => rfl) ?_
                  rw [show (fx_cb .ne 114 (-1)) = true from by decide]
                  dsimp only [cond]
                  refine fe_s 4 (pc' := 68) (lc' := [(6, .int (8 + 1)), (5, .int 0), (4, .int 10), (3, .int 5), (2, .int 1), (0, .ref 0), (1, .ref 22)]) (stk' := []) (mem' := fm g tp bt a b) (fun _ _ _ => rfl) ?_
                  rw [show (8 + 1 : Int32) = 9 from rfl]
                  refine fe_s 2 (pc' := 72) (lc' := [(6, .int 9), (5, .int 0), (4, .int 10), (3, .int 5), (2, .int 1), (0, .ref 0), (1, .ref 22)]) (stk' := [.int 10, .int 9]) (mem' := fm g tp bt a b) (fun _ _ _ => rfl) ?_
                  refine fe_s 1 (pc' := cond (fx_cb .ge 9 10) 115 75) (lc' := [(6, .int 9), (5, .int 0), (4, .int 10), (3, .int 5), (2, .int 1), (0, .ref 0), (1, .ref 22)]) (stk' := []) (mem' := fm g tp bt a b) (fun _ _ _ => rfl) ?_
                  rw [show (fx_cb .ge 9 10) = false from by decide]
                  dsimp only [cond]
                  refine fe_s 1 (pc' := 77) (lc' := [(6, .int 9), (5, .int 0), (4, .int 10), (3, .int 5), (2, .int 1), (0, .ref 0), (1, .ref 22)]) (stk' := [.int 0]) (mem' := fm g tp bt a b) (fun _ _ _ => rfl) ?_
                  refine fe_s 1 (pc' := cond (fx_cb .eq 0 0) 115 80) (lc' := [(6, .int 9), (5, .int 0), (4, .int 10), (3, .int 5), (2, .int 1), (0, .ref 0), (1, .ref 22)]) (stk' := []) (mem' := fm g tp bt a b) (fun _ _ _ => rfl) ?_
                  rw [show (fx_cb .eq 0 0) = true from by decide]
                  dsimp only [cond]
                  refine fe_s 1 (pc' := 117) (lc' := [(6, .int 9), (5, .int 0), (4, .int 10), (3, .int 5), (2, .int 1), (0, .ref 0), (1, .ref 22)]) (stk' := [.int 0]) (mem' := fm g tp bt a b) (fun _ _ _ => rfl) ?_
                  refine fe_s 1 (pc' := cond (fx_cb .eq 0 0) 122 120) (lc' := [(6, .int 9), (5, .int 0), (4, .int 10), (3, .int 5), (2, .int 1), (0, .ref 0), (1, .ref 22)]) (stk' := []) (mem' := fm g tp bt a b) (fun _ _ _ => rfl) ?_
                  rw [show (fx_cb .eq 0 0) = true from by decide]
                  dsimp only [cond]
                  refine fe_s 4 (pc' := 129) (lc' := [(2, .int (1 + 1)), (6, .int 9), (5, .int 0), (4, .int 10), (3, .int 5), (0, .ref 0), (1, .ref 22)]) (stk' := [.int (10 + 1)]) (mem' := fm g tp bt a b) (fun _ _ _ => rfl) ?_
                  rw [show (1 + 1 : Int32) = 2 from rfl]
                  rw [show (10 + 1 : Int32) = 11 from rfl]
                  refine fe_s 1 (pc' := 130) (lc' := [(3, .int 11), (2, .int 2), (6, .int 9), (5, .int 0), (4, .int 10), (0, .ref 0), (1, .ref 22)]) (stk' := []) (mem' := fm g tp bt a b) (fun _ _ _ => rfl) ?_
                  refine fe_s 1 (pc' := fx_to 130 (-116)) (lc' := [(3, .int 11), (2, .int 2), (6, .int 9), (5, .int 0), (4, .int 10), (0, .ref 0), (1, .ref 22)]) (stk' := []) (mem' := fm g tp bt a b) (fun _ _ _ => rfl) ?_
                  rw [show fx_to 130 (-116) = 14 from by decide]
                  refine fe_w (lc' := [(3, .int 11), (2, .int 2), (0, .ref 0), (1, .ref 22)]) ⟨rfl, rfl, rfl, rfl, trivial⟩ (by show List.Nodup [3, 2, 0, 1]; decide) (by show List.Nodup [3, 2, 6, 5, 4, 0, 1]; decide) ?_
                  exact fw_2 hxp
                · rw [e15]
                  refine fe_s 1 (pc' := cond (fx_cb .ne 114 (nI n14)) 106 102) (lc' := [(6, .int 8), (5, .int 1), (4, .int 10), (3, .int 5), (2, .int 1), (0, .ref 0), (1, .ref 22)]) (stk' := []) (mem' := fm g tp bt a b) (fun _ _ _ => rfl) ?_
                  by_cases h17 : 114 = n14
                  · rw [show (fx_cb .ne 114 (nI n14)) = false from cb_neF (a := 114) (b := n14) (by omega) (by omega) (by omega)]
                    dsimp only [cond]
                    refine fe_s 4 (pc' := 112) (lc' := [(6, .int (8 + 1)), (5, .int 1), (4, .int 10), (3, .int 5), (2, .int 1), (0, .ref 0), (1, .ref 22)]) (stk' := []) (mem' := fm g tp bt a b) (fun _ _ _ => rfl) ?_
                    rw [show (8 + 1 : Int32) = 9 from rfl]
                    refine fe_s 3 (pc' := 72) (lc' := [(6, .int 9), (5, .int 1), (4, .int 10), (3, .int 5), (2, .int 1), (0, .ref 0), (1, .ref 22)]) (stk' := [.int 10, .int 9]) (mem' := fm g tp bt a b) (fun _ _ _ => rfl) ?_
                    refine fe_s 1 (pc' := cond (fx_cb .ge 9 10) 115 75) (lc' := [(6, .int 9), (5, .int 1), (4, .int 10), (3, .int 5), (2, .int 1), (0, .ref 0), (1, .ref 22)]) (stk' := []) (mem' := fm g tp bt a b) (fun _ _ _ => rfl) ?_
                    rw [show (fx_cb .ge 9 10) = false from by decide]
                    dsimp only [cond]
                    refine fe_s 1 (pc' := 77) (lc' := [(6, .int 9), (5, .int 1), (4, .int 10), (3, .int 5), (2, .int 1), (0, .ref 0), (1, .ref 22)]) (stk' := [.int 1]) (mem' := fm g tp bt a b) (fun _ _ _ => rfl) ?_
                    refine fe_s 1 (pc' := cond (fx_cb .eq 1 0) 115 80) (lc' := [(6, .int 9), (5, .int 1), (4, .int 10), (3, .int 5), (2, .int 1), (0, .ref 0), (1, .ref 22)]) (stk' := []) (mem' := fm g tp bt a b) (fun _ _ _ => rfl) ?_
                    rw [show (fx_cb .eq 1 0) = false from by decide]
                    dsimp only [cond]
                    refine fe_s 2 (pc' := 83) (lc' := [(6, .int 9), (5, .int 1), (4, .int 10), (3, .int 5), (2, .int 1), (0, .ref 0), (1, .ref 22)]) (stk' := [.int 9, .ref 22]) (mem' := fm g tp bt a b) (fun _ _ _ => rfl) ?_
                    refine fe_chr (i := 9) (by omega) (by rfl) (by rfl) ⟨by rfl, by rfl⟩ (by rfl) ?_
                    rw [show sk_b.getD 9 0 = 101 from rfl]
                    refine fe_s 4 (pc' := 93) (lc' := [(6, .int 9), (5, .int 1), (4, .int 10), (3, .int 5), (2, .int 1), (0, .ref 0), (1, .ref 22)]) (stk' := [.int 9, .int (g 13), .ref 0, .int 101]) (mem' := fm g tp bt a b) (fun _ _ _ => rfl) ?_
                    try rw [h13]
                    refine fe_s 3 (pc' := 96) (lc' := [(6, .int 9), (5, .int 1), (4, .int 10), (3, .int 5), (2, .int 1), (0, .ref 0), (1, .ref 22)]) (stk' := [.int (((nI F) + 9) - 5), .ref 0, .int 101]) (mem' := fm g tp bt a b) (fun _ _ _ => rfl) ?_
                    rw [show (((nI F) + 9) - 5 : Int32) = nI ((F + 9) - 5) from by simp only [show (9 : Int32) = nI 9 from rfl, show (5 : Int32) = nI 5 from rfl, tg_sub2 (x := F + 9) (y := 5) (by omega), nI_add, fm_mul]]
                    refine fe_ivV (fr_byteAt (S := S) (k := (F + 9) - 5) (g := g) (tp := tp) (bt := bt) (a := a) (b := b) h11 (by omega) (by omega)) (by omega) (by rfl) (by rfl) (by rfl) (by rfl) (by rfl) (by rfl) ?_
                    rcases fm_byte_or a S ((F + 9) - 5) with ⟨e19, q20⟩ | ⟨q20, n18, qn18, e19⟩
                    · rw [e19]
                      refine fe_s 1 (pc' := cond (fx_cb .ne 101 (-1)) 106 102) (lc' := [(6, .int 9), (5, .int 1), (4, .int 10), (3, .int 5), (2, .int 1), (0, .ref 0), (1, .ref 22)]) (stk' := []) (mem' := fm g tp bt a b) (fun _ _ _ => rfl) ?_
                      rw [show (fx_cb .ne 101 (-1)) = true from by decide]
                      dsimp only [cond]
                      refine fe_s 4 (pc' := 68) (lc' := [(6, .int (9 + 1)), (5, .int 0), (4, .int 10), (3, .int 5), (2, .int 1), (0, .ref 0), (1, .ref 22)]) (stk' := []) (mem' := fm g tp bt a b) (fun _ _ _ => rfl) ?_
                      rw [show (9 + 1 : Int32) = 10 from rfl]
                      refine fe_s 2 (pc' := 72) (lc' := [(6, .int 10), (5, .int 0), (4, .int 10), (3, .int 5), (2, .int 1), (0, .ref 0), (1, .ref 22)]) (stk' := [.int 10, .int 10]) (mem' := fm g tp bt a b) (fun _ _ _ => rfl) ?_
                      refine fe_s 1 (pc' := cond (fx_cb .ge 10 10) 115 75) (lc' := [(6, .int 10), (5, .int 0), (4, .int 10), (3, .int 5), (2, .int 1), (0, .ref 0), (1, .ref 22)]) (stk' := []) (mem' := fm g tp bt a b) (fun _ _ _ => rfl) ?_
                      rw [show (fx_cb .ge 10 10) = true from by decide]
                      dsimp only [cond]
                      refine fe_s 1 (pc' := 117) (lc' := [(6, .int 10), (5, .int 0), (4, .int 10), (3, .int 5), (2, .int 1), (0, .ref 0), (1, .ref 22)]) (stk' := [.int 0]) (mem' := fm g tp bt a b) (fun _ _ _ => rfl) ?_
                      refine fe_s 1 (pc' := cond (fx_cb .eq 0 0) 122 120) (lc' := [(6, .int 10), (5, .int 0), (4, .int 10), (3, .int 5), (2, .int 1), (0, .ref 0), (1, .ref 22)]) (stk' := []) (mem' := fm g tp bt a b) (fun _ _ _ => rfl) ?_
                      rw [show (fx_cb .eq 0 0) = true from by decide]
                      dsimp only [cond]
                      refine fe_s 4 (pc' := 129) (lc' := [(2, .int (1 + 1)), (6, .int 10), (5, .int 0), (4, .int 10), (3, .int 5), (0, .ref 0), (1, .ref 22)]) (stk' := [.int (10 + 1)]) (mem' := fm g tp bt a b) (fun _ _ _ => rfl) ?_
                      rw [show (1 + 1 : Int32) = 2 from rfl]
                      rw [show (10 + 1 : Int32) = 11 from rfl]
                      refine fe_s 1 (pc' := 130) (lc' := [(3, .int 11), (2, .int 2), (6, .int 10), (5, .int 0), (4, .int 10), (0, .ref 0), (1, .ref 22)]) (stk' := []) (mem' := fm g tp bt a b) (fun _ _ _ => rfl) ?_
                      refine fe_s 1 (pc' := fx_to 130 (-116)) (lc' := [(3, .int 11), (2, .int 2), (6, .int 10), (5, .int 0), (4, .int 10), (0, .ref 0), (1, .ref 22)]) (stk' := []) (mem' := fm g tp bt a b) (fun _ _ _ => rfl) ?_
                      rw [show fx_to 130 (-116) = 14 from by decide]
                      refine fe_w (lc' := [(3, .int 11), (2, .int 2), (0, .ref 0), (1, .ref 22)]) ⟨rfl, rfl, rfl, rfl, trivial⟩ (by show List.Nodup [3, 2, 0, 1]; decide) (by show List.Nodup [3, 2, 6, 5, 4, 0, 1]; decide) ?_
                      exact fw_2 hxp
                    · rw [e19]
                      refine fe_s 1 (pc' := cond (fx_cb .ne 101 (nI n18)) 106 102) (lc' := [(6, .int 9), (5, .int 1), (4, .int 10), (3, .int 5), (2, .int 1), (0, .ref 0), (1, .ref 22)]) (stk' := []) (mem' := fm g tp bt a b) (fun _ _ _ => rfl) ?_
                      by_cases h21 : 101 = n18
                      · rw [show (fx_cb .ne 101 (nI n18)) = false from cb_neF (a := 101) (b := n18) (by omega) (by omega) (by omega)]
                        dsimp only [cond]
                        refine fe_s 4 (pc' := 112) (lc' := [(6, .int (9 + 1)), (5, .int 1), (4, .int 10), (3, .int 5), (2, .int 1), (0, .ref 0), (1, .ref 22)]) (stk' := []) (mem' := fm g tp bt a b) (fun _ _ _ => rfl) ?_
                        rw [show (9 + 1 : Int32) = 10 from rfl]
                        refine fe_s 3 (pc' := 72) (lc' := [(6, .int 10), (5, .int 1), (4, .int 10), (3, .int 5), (2, .int 1), (0, .ref 0), (1, .ref 22)]) (stk' := [.int 10, .int 10]) (mem' := fm g tp bt a b) (fun _ _ _ => rfl) ?_
                        refine fe_s 1 (pc' := cond (fx_cb .ge 10 10) 115 75) (lc' := [(6, .int 10), (5, .int 1), (4, .int 10), (3, .int 5), (2, .int 1), (0, .ref 0), (1, .ref 22)]) (stk' := []) (mem' := fm g tp bt a b) (fun _ _ _ => rfl) ?_
                        rw [show (fx_cb .ge 10 10) = true from by decide]
                        dsimp only [cond]
                        refine fe_s 1 (pc' := 117) (lc' := [(6, .int 10), (5, .int 1), (4, .int 10), (3, .int 5), (2, .int 1), (0, .ref 0), (1, .ref 22)]) (stk' := [.int 1]) (mem' := fm g tp bt a b) (fun _ _ _ => rfl) ?_
                        refine fe_s 1 (pc' := cond (fx_cb .eq 1 0) 122 120) (lc' := [(6, .int 10), (5, .int 1), (4, .int 10), (3, .int 5), (2, .int 1), (0, .ref 0), (1, .ref 22)]) (stk' := []) (mem' := fm g tp bt a b) (fun _ _ _ => rfl) ?_
                        rw [show (fx_cb .eq 1 0) = false from by decide]
                        dsimp only [cond]
                        refine fe_s 1 (pc' := 121) (lc' := [(6, .int 10), (5, .int 1), (4, .int 10), (3, .int 5), (2, .int 1), (0, .ref 0), (1, .ref 22)]) (stk' := [.int 1]) (mem' := fm g tp bt a b) (fun _ _ _ => rfl) ?_
                        exact fe_ret ⟨_, Or.inr ⟨1, by omega, rfl⟩, rfl⟩ (by rfl) (by rfl) (by rfl)
                      · rw [show (fx_cb .ne 101 (nI n18)) = true from cb_neT (a := 101) (b := n18) (by omega) (by omega) (by omega)]
                        dsimp only [cond]
                        refine fe_s 4 (pc' := 68) (lc' := [(6, .int (9 + 1)), (5, .int 0), (4, .int 10), (3, .int 5), (2, .int 1), (0, .ref 0), (1, .ref 22)]) (stk' := []) (mem' := fm g tp bt a b) (fun _ _ _ => rfl) ?_
                        rw [show (9 + 1 : Int32) = 10 from rfl]
                        refine fe_s 2 (pc' := 72) (lc' := [(6, .int 10), (5, .int 0), (4, .int 10), (3, .int 5), (2, .int 1), (0, .ref 0), (1, .ref 22)]) (stk' := [.int 10, .int 10]) (mem' := fm g tp bt a b) (fun _ _ _ => rfl) ?_
                        refine fe_s 1 (pc' := cond (fx_cb .ge 10 10) 115 75) (lc' := [(6, .int 10), (5, .int 0), (4, .int 10), (3, .int 5), (2, .int 1), (0, .ref 0), (1, .ref 22)]) (stk' := []) (mem' := fm g tp bt a b) (fun _ _ _ => rfl) ?_
                        rw [show (fx_cb .ge 10 10) = true from by decide]
                        dsimp only [cond]
                        refine fe_s 1 (pc' := 117) (lc' := [(6, .int 10), (5, .int 0), (4, .int 10), (3, .int 5), (2, .int 1), (0, .ref 0), (1, .ref 22)]) (stk' := [.int 0]) (mem' := fm g tp bt a b) (fun _ _ _ => rfl) ?_
                        refine fe_s 1 (pc' := cond (fx_cb .eq 0 0) 122 120) (lc' := [(6, .int 10), (5, .int 0), (4, .int 10), (3, .int 5), (2, .int 1), (0, .ref 0), (1, .ref 22)]) (stk' := []) (mem' := fm g tp bt a b) (fun _ _ _ => rfl) ?_
                        rw [show (fx_cb .eq 0 0) = true from by decide]
                        dsimp only [cond]
                        refine fe_s 4 (pc' := 129) (lc' := [(2, .int (1 + 1)), (6, .int 10), (5, .int 0), (4, .int 10), (3, .int 5), (0, .ref 0), (1, .ref 22)]) (stk' := [.int (10 + 1)]) (mem' := fm g tp bt a b) (fun _ _ _ => rfl) ?_
                        rw [show (1 + 1 : Int32) = 2 from rfl]
                        rw [show (10 + 1 : Int32) = 11 from rfl]
                        refine fe_s 1 (pc' := 130) (lc' := [(3, .int 11), (2, .int 2), (6, .int 10), (5, .int 0), (4, .int 10), (0, .ref 0), (1, .ref 22)]) (stk' := []) (mem' := fm g tp bt a b) (fun _ _ _ => rfl) ?_
                        refine fe_s 1 (pc' := fx_to 130 (-116)) (lc' := [(3, .int 11), (2, .int 2), (6, .int 10), (5, .int 0), (4, .int 10), (0, .ref 0), (1, .ref 22)]) (stk' := []) (mem' := fm g tp bt a b) (fun _ _ _ => rfl) ?_
                        rw [show fx_to 130 (-116) = 14 from by decide]
                        refine fe_w (lc' := [(3, .int 11), (2, .int 2), (0, .ref 0), (1, .ref 22)]) ⟨rfl, rfl, rfl, rfl, trivial⟩ (by show List.Nodup [3, 2, 0, 1]; decide) (by show List.Nodup [3, 2, 6, 5, 4, 0, 1]; decide) ?_
                        exact fw_2 hxp
                  · rw [show (fx_cb .ne 114 (nI n14)) = true from cb_neT (a := 114) (b := n14) (by omega) (by omega) (by omega)]
                    dsimp only [cond]
                    refine fe_s 4 (pc' := 68) (lc' := [(6, .int (8 + 1)), (5, .int 0), (4, .int 10), (3, .int 5), (2, .int 1), (0, .ref 0), (1, .ref 22)]) (stk' := []) (mem' := fm g tp bt a b) (fun _ _ _ => rfl) ?_
                    rw [show (8 + 1 : Int32) = 9 from rfl]
                    refine fe_s 2 (pc' := 72) (lc' := [(6, .int 9), (5, .int 0), (4, .int 10), (3, .int 5), (2, .int 1), (0, .ref 0), (1, .ref 22)]) (stk' := [.int 10, .int 9]) (mem' := fm g tp bt a b) (fun _ _ _ => rfl) ?_
                    refine fe_s 1 (pc' := cond (fx_cb .ge 9 10) 115 75) (lc' := [(6, .int 9), (5, .int 0), (4, .int 10), (3, .int 5), (2, .int 1), (0, .ref 0), (1, .ref 22)]) (stk' := []) (mem' := fm g tp bt a b) (fun _ _ _ => rfl) ?_
                    rw [show (fx_cb .ge 9 10) = false from by decide]
                    dsimp only [cond]
                    refine fe_s 1 (pc' := 77) (lc' := [(6, .int 9), (5, .int 0), (4, .int 10), (3, .int 5), (2, .int 1), (0, .ref 0), (1, .ref 22)]) (stk' := [.int 0]) (mem' := fm g tp bt a b) (fun _ _ _ => rfl) ?_
                    refine fe_s 1 (pc' := cond (fx_cb .eq 0 0) 115 80) (lc' := [(6, .int 9), (5, .int 0), (4, .int 10), (3, .int 5), (2, .int 1), (0, .ref 0), (1, .ref 22)]) (stk' := []) (mem' := fm g tp bt a b) (fun _ _ _ => rfl) ?_
                    rw [show (fx_cb .eq 0 0) = true from by decide]
                    dsimp only [cond]
                    refine fe_s 1 (pc' := 117) (lc' := [(6, .int 9), (5, .int 0), (4, .int 10), (3, .int 5), (2, .int 1), (0, .ref 0), (1, .ref 22)]) (stk' := [.int 0]) (mem' := fm g tp bt a b) (fun _ _ _ => rfl) ?_
                    refine fe_s 1 (pc' := cond (fx_cb .eq 0 0) 122 120) (lc' := [(6, .int 9), (5, .int 0), (4, .int 10), (3, .int 5), (2, .int 1), (0, .ref 0), (1, .ref 22)]) (stk' := []) (mem' := fm g tp bt a b) (fun _ _ _ => rfl) ?_
                    rw [show (fx_cb .eq 0 0) = true from by decide]
                    dsimp only [cond]
                    refine fe_s 4 (pc' := 129) (lc' := [(2, .int (1 + 1)), (6, .int 9), (5, .int 0), (4, .int 10), (3, .int 5), (0, .ref 0), (1, .ref 22)]) (stk' := [.int (10 + 1)]) (mem' := fm g tp bt a b) (fun _ _ _ => rfl) ?_
                    rw [show (1 + 1 : Int32) = 2 from rfl]
                    rw [show (10 + 1 : Int32) = 11 from rfl]
                    refine fe_s 1 (pc' := 130) (lc' := [(3, .int 11), (2, .int 2), (6, .int 9), (5, .int 0), (4, .int 10), (0, .ref 0), (1, .ref 22)]) (stk' := []) (mem' := fm g tp bt a b) (fun _ _ _ => rfl) ?_
                    refine fe_s 1 (pc' := fx_to 130 (-116)) (lc' := [(3, .int 11), (2, .int 2), (6, .int 9), (5, .int 0), (4, .int 10), (0, .ref 0), (1, .ref 22)]) (stk' := []) (mem' := fm g tp bt a b) (fun _ _ _ => rfl) ?_
                    rw [show fx_to 130 (-116) = 14 from by decide]
                    refine fe_w (lc' := [(3, .int 11), (2, .int 2), (0, .ref 0), (1, .ref 22)]) ⟨rfl, rfl, rfl, rfl, trivial⟩ (by show List.Nodup [3, 2, 0, 1]; decide) (by show List.Nodup [3, 2, 6, 5, 4, 0, 1]; decide) ?_
                    exact fw_2 hxp
              · rw [show (fx_cb .ne 111 (nI n10)) = true from cb_neT (a := 111) (b := n10) (by omega) (by omega) (by omega)]
                dsimp only [cond]
                refine fe_s 4 (pc' := 68) (lc' := [(6, .int (7 + 1)), (5, .int 0), (4, .int 10), (3, .int 5), (2, .int 1), (0, .ref 0), (1, .ref 22)]) (stk' := []) (mem' := fm g tp bt a b) (fun _ _ _ => rfl) ?_
                rw [show (7 + 1 : Int32) = 8 from rfl]
                refine fe_s 2 (pc' := 72) (lc' := [(6, .int 8), (5, .int 0), (4, .int 10), (3, .int 5), (2, .int 1), (0, .ref 0), (1, .ref 22)]) (stk' := [.int 10, .int 8]) (mem' := fm g tp bt a b) (fun _ _ _ => rfl) ?_
                refine fe_s 1 (pc' := cond (fx_cb .ge 8 10) 115 75) (lc' := [(6, .int 8), (5, .int 0), (4, .int 10), (3, .int 5), (2, .int 1), (0, .ref 0), (1, .ref 22)]) (stk' := []) (mem' := fm g tp bt a b) (fun _ _ _ => rfl) ?_
                rw [show (fx_cb .ge 8 10) = false from by decide]
                dsimp only [cond]
                refine fe_s 1 (pc' := 77) (lc' := [(6, .int 8), (5, .int 0), (4, .int 10), (3, .int 5), (2, .int 1), (0, .ref 0), (1, .ref 22)]) (stk' := [.int 0]) (mem' := fm g tp bt a b) (fun _ _ _ => rfl) ?_
                refine fe_s 1 (pc' := cond (fx_cb .eq 0 0) 115 80) (lc' := [(6, .int 8), (5, .int 0), (4, .int 10), (3, .int 5), (2, .int 1), (0, .ref 0), (1, .ref 22)]) (stk' := []) (mem' := fm g tp bt a b) (fun _ _ _ => rfl) ?_
                rw [show (fx_cb .eq 0 0) = true from by decide]
                dsimp only [cond]
                refine fe_s 1 (pc' := 117) (lc' := [(6, .int 8), (5, .int 0), (4, .int 10), (3, .int 5), (2, .int 1), (0, .ref 0), (1, .ref 22)]) (stk' := [.int 0]) (mem' := fm g tp bt a b) (fun _ _ _ => rfl) ?_
                refine fe_s 1 (pc' := cond (fx_cb .eq 0 0) 122 120) (lc' := [(6, .int 8), (5, .int 0), (4, .int 10), (3, .int 5), (2, .int 1), (0, .ref 0), (1, .ref 22)]) (stk' := []) (mem' := fm g tp bt a b) (fun _ _ _ => rfl) ?_
                rw [show (fx_cb .eq 0 0) = true from by decide]
                dsimp only [cond]
                refine fe_s 4 (pc' := 129) (lc' := [(2, .int (1 + 1)), (6, .int 8), (5, .int 0), (4, .int 10), (3, .int 5), (0, .ref 0), (1, .ref 22)]) (stk' := [.int (10 + 1)]) (mem' := fm g tp bt a b) (fun _ _ _ => rfl) ?_
                rw [show (1 + 1 : Int32) = 2 from rfl]
                rw [show (10 + 1 : Int32) = 11 from rfl]
                refine fe_s 1 (pc' := 130) (lc' := [(3, .int 11), (2, .int 2), (6, .int 8), (5, .int 0), (4, .int 10), (0, .ref 0), (1, .ref 22)]) (stk' := []) (mem' := fm g tp bt a b) (fun _ _ _ => rfl) ?_
                refine fe_s 1 (pc' := fx_to 130 (-116)) (lc' := [(3, .int 11), (2, .int 2), (6, .int 8), (5, .int 0), (4, .int 10), (0, .ref 0), (1, .ref 22)]) (stk' := []) (mem' := fm g tp bt a b) (fun _ _ _ => rfl) ?_
                rw [show fx_to 130 (-116) = 14 from by decide]
                refine fe_w (lc' := [(3, .int 11), (2, .int 2), (0, .ref 0), (1, .ref 22)]) ⟨rfl, rfl, rfl, rfl, trivial⟩ (by show List.Nodup [3, 2, 0, 1]; decide) (by show List.Nodup [3, 2, 6, 5, 4, 0, 1]; decide) ?_
                exact fw_2 hxp
          · rw [show (fx_cb .ne 104 (nI n6)) = true from cb_neT (a := 104) (b := n6) (by omega) (by omega) (by omega)]
            dsimp only [cond]
            refine fe_s 4 (pc' := 68) (lc' := [(6, .int (6 + 1)), (5, .int 0), (4, .int 10), (3, .int 5), (2, .int 1), (0, .ref 0), (1, .ref 22)]) (stk' := []) (mem' := fm g tp bt a b) (fun _ _ _ => rfl) ?_
            rw [show (6 + 1 : Int32) = 7 from rfl]
            refine fe_s 2 (pc' := 72) (lc' := [(6, .int 7), (5, .int 0), (4, .int 10), (3, .int 5), (2, .int 1), (0, .ref 0), (1, .ref 22)]) (stk' := [.int 10, .int 7]) (mem' := fm g tp bt a b) (fun _ _ _ => rfl) ?_
            refine fe_s 1 (pc' := cond (fx_cb .ge 7 10) 115 75) (lc' := [(6, .int 7), (5, .int 0), (4, .int 10), (3, .int 5), (2, .int 1), (0, .ref 0), (1, .ref 22)]) (stk' := []) (mem' := fm g tp bt a b) (fun _ _ _ => rfl) ?_
            rw [show (fx_cb .ge 7 10) = false from by decide]
            dsimp only [cond]
            refine fe_s 1 (pc' := 77) (lc' := [(6, .int 7), (5, .int 0), (4, .int 10), (3, .int 5), (2, .int 1), (0, .ref 0), (1, .ref 22)]) (stk' := [.int 0]) (mem' := fm g tp bt a b) (fun _ _ _ => rfl) ?_
            refine fe_s 1 (pc' := cond (fx_cb .eq 0 0) 115 80) (lc' := [(6, .int 7), (5, .int 0), (4, .int 10), (3, .int 5), (2, .int 1), (0, .ref 0), (1, .ref 22)]) (stk' := []) (mem' := fm g tp bt a b) (fun _ _ _ => rfl) ?_
            rw [show (fx_cb .eq 0 0) = true from by decide]
            dsimp only [cond]
            refine fe_s 1 (pc' := 117) (lc' := [(6, .int 7), (5, .int 0), (4, .int 10), (3, .int 5), (2, .int 1), (0, .ref 0), (1, .ref 22)]) (stk' := [.int 0]) (mem' := fm g tp bt a b) (fun _ _ _ => rfl) ?_
            refine fe_s 1 (pc' := cond (fx_cb .eq 0 0) 122 120) (lc' := [(6, .int 7), (5, .int 0), (4, .int 10), (3, .int 5), (2, .int 1), (0, .ref 0), (1, .ref 22)]) (stk' := []) (mem' := fm g tp bt a b) (fun _ _ _ => rfl) ?_
            rw [show (fx_cb .eq 0 0) = true from by decide]
            dsimp only [cond]
            refine fe_s 4 (pc' := 129) (lc' := [(2, .int (1 + 1)), (6, .int 7), (5, .int 0), (4, .int 10), (3, .int 5), (0, .ref 0), (1, .ref 22)]) (stk' := [.int (10 + 1)]) (mem' := fm g tp bt a b) (fun _ _ _ => rfl) ?_
            rw [show (1 + 1 : Int32) = 2 from rfl]
            rw [show (10 + 1 : Int32) = 11 from rfl]
            refine fe_s 1 (pc' := 130) (lc' := [(3, .int 11), (2, .int 2), (6, .int 7), (5, .int 0), (4, .int 10), (0, .ref 0), (1, .ref 22)]) (stk' := []) (mem' := fm g tp bt a b) (fun _ _ _ => rfl) ?_
            refine fe_s 1 (pc' := fx_to 130 (-116)) (lc' := [(3, .int 11), (2, .int 2), (6, .int 7), (5, .int 0), (4, .int 10), (0, .ref 0), (1, .ref 22)]) (stk' := []) (mem' := fm g tp bt a b) (fun _ _ _ => rfl) ?_
            rw [show fx_to 130 (-116) = 14 from by decide]
            refine fe_w (lc' := [(3, .int 11), (2, .int 2), (0, .ref 0), (1, .ref 22)]) ⟨rfl, rfl, rfl, rfl, trivial⟩ (by show List.Nodup [3, 2, 0, 1]; decide) (by show List.Nodup [3, 2, 6, 5, 4, 0, 1]; decide) ?_
            exact fw_2 hxp
      · rw [show (fx_cb .ne 115 (nI n2)) = true from cb_neT (a := 115) (b := n2) (by omega) (by omega) (by omega)]
        dsimp only [cond]
        refine fe_s 4 (pc' := 68) (lc' := [(6, .int (5 + 1)), (5, .int 0), (4, .int 10), (3, .int 5), (2, .int 1), (0, .ref 0), (1, .ref 22)]) (stk' := []) (mem' := fm g tp bt a b) (fun _ _ _ => rfl) ?_
        rw [show (5 + 1 : Int32) = 6 from rfl]
        refine fe_s 2 (pc' := 72) (lc' := [(6, .int 6), (5, .int 0), (4, .int 10), (3, .int 5), (2, .int 1), (0, .ref 0), (1, .ref 22)]) (stk' := [.int 10, .int 6]) (mem' := fm g tp bt a b) (fun _ _ _ => rfl) ?_
        refine fe_s 1 (pc' := cond (fx_cb .ge 6 10) 115 75) (lc' := [(6, .int 6), (5, .int 0), (4, .int 10), (3, .int 5), (2, .int 1), (0, .ref 0), (1, .ref 22)]) (stk' := []) (mem' := fm g tp bt a b) (fun _ _ _ => rfl) ?_
        rw [show (fx_cb .ge 6 10) = false from by decide]
        dsimp only [cond]
        refine fe_s 1 (pc' := 77) (lc' := [(6, .int 6), (5, .int 0), (4, .int 10), (3, .int 5), (2, .int 1), (0, .ref 0), (1, .ref 22)]) (stk' := [.int 0]) (mem' := fm g tp bt a b) (fun _ _ _ => rfl) ?_
        refine fe_s 1 (pc' := cond (fx_cb .eq 0 0) 115 80) (lc' := [(6, .int 6), (5, .int 0), (4, .int 10), (3, .int 5), (2, .int 1), (0, .ref 0), (1, .ref 22)]) (stk' := []) (mem' := fm g tp bt a b) (fun _ _ _ => rfl) ?_
        rw [show (fx_cb .eq 0 0) = true from by decide]
        dsimp only [cond]
        refine fe_s 1 (pc' := 117) (lc' := [(6, .int 6), (5, .int 0), (4, .int 10), (3, .int 5), (2, .int 1), (0, .ref 0), (1, .ref 22)]) (stk' := [.int 0]) (mem' := fm g tp bt a b) (fun _ _ _ => rfl) ?_
        refine fe_s 1 (pc' := cond (fx_cb .eq 0 0) 122 120) (lc' := [(6, .int 6), (5, .int 0), (4, .int 10), (3, .int 5), (2, .int 1), (0, .ref 0), (1, .ref 22)]) (stk' := []) (mem' := fm g tp bt a b) (fun _ _ _ => rfl) ?_
        rw [show (fx_cb .eq 0 0) = true from by decide]
        dsimp only [cond]
        refine fe_s 4 (pc' := 129) (lc' := [(2, .int (1 + 1)), (6, .int 6), (5, .int 0), (4, .int 10), (3, .int 5), (0, .ref 0), (1, .ref 22)]) (stk' := [.int (10 + 1)]) (mem' := fm g tp bt a b) (fun _ _ _ => rfl) ?_
        rw [show (1 + 1 : Int32) = 2 from rfl]
        rw [show (10 + 1 : Int32) = 11 from rfl]
        refine fe_s 1 (pc' := 130) (lc' := [(3, .int 11), (2, .int 2), (6, .int 6), (5, .int 0), (4, .int 10), (0, .ref 0), (1, .ref 22)]) (stk' := []) (mem' := fm g tp bt a b) (fun _ _ _ => rfl) ?_
        refine fe_s 1 (pc' := fx_to 130 (-116)) (lc' := [(3, .int 11), (2, .int 2), (6, .int 6), (5, .int 0), (4, .int 10), (0, .ref 0), (1, .ref 22)]) (stk' := []) (mem' := fm g tp bt a b) (fun _ _ _ => rfl) ?_
        rw [show fx_to 130 (-116) = 14 from by decide]
        refine fe_w (lc' := [(3, .int 11), (2, .int 2), (0, .ref 0), (1, .ref 22)]) ⟨rfl, rfl, rfl, rfl, trivial⟩ (by show List.Nodup [3, 2, 0, 1]; decide) (by show List.Nodup [3, 2, 6, 5, 4, 0, 1]; decide) ?_
        exact fw_2 hxp
  · rw [show (fx_cb .ne 5 (nI (E - F))) = true from cb_neT (a := 5) (b := E - F) (by omega) (by omega) (by omega)]
    dsimp only [cond]
    refine fe_s 4 (pc' := 68) (lc' := [(6, .int 5), (5, .int 0), (4, .int 10), (3, .int 5), (2, .int 1), (0, .ref 0), (1, .ref 22)]) (stk' := []) (mem' := fm g tp bt a b) (fun _ _ _ => rfl) ?_
    refine fe_s 2 (pc' := 72) (lc' := [(6, .int 5), (5, .int 0), (4, .int 10), (3, .int 5), (2, .int 1), (0, .ref 0), (1, .ref 22)]) (stk' := [.int 10, .int 5]) (mem' := fm g tp bt a b) (fun _ _ _ => rfl) ?_
    refine fe_s 1 (pc' := cond (fx_cb .ge 5 10) 115 75) (lc' := [(6, .int 5), (5, .int 0), (4, .int 10), (3, .int 5), (2, .int 1), (0, .ref 0), (1, .ref 22)]) (stk' := []) (mem' := fm g tp bt a b) (fun _ _ _ => rfl) ?_
    rw [show (fx_cb .ge 5 10) = false from by decide]
    dsimp only [cond]
    refine fe_s 1 (pc' := 77) (lc' := [(6, .int 5), (5, .int 0), (4, .int 10), (3, .int 5), (2, .int 1), (0, .ref 0), (1, .ref 22)]) (stk' := [.int 0]) (mem' := fm g tp bt a b) (fun _ _ _ => rfl) ?_
    refine fe_s 1 (pc' := cond (fx_cb .eq 0 0) 115 80) (lc' := [(6, .int 5), (5, .int 0), (4, .int 10), (3, .int 5), (2, .int 1), (0, .ref 0), (1, .ref 22)]) (stk' := []) (mem' := fm g tp bt a b) (fun _ _ _ => rfl) ?_
    rw [show (fx_cb .eq 0 0) = true from by decide]
    dsimp only [cond]
    refine fe_s 1 (pc' := 117) (lc' := [(6, .int 5), (5, .int 0), (4, .int 10), (3, .int 5), (2, .int 1), (0, .ref 0), (1, .ref 22)]) (stk' := [.int 0]) (mem' := fm g tp bt a b) (fun _ _ _ => rfl) ?_
    refine fe_s 1 (pc' := cond (fx_cb .eq 0 0) 122 120) (lc' := [(6, .int 5), (5, .int 0), (4, .int 10), (3, .int 5), (2, .int 1), (0, .ref 0), (1, .ref 22)]) (stk' := []) (mem' := fm g tp bt a b) (fun _ _ _ => rfl) ?_
    rw [show (fx_cb .eq 0 0) = true from by decide]
    dsimp only [cond]
    refine fe_s 4 (pc' := 129) (lc' := [(2, .int (1 + 1)), (6, .int 5), (5, .int 0), (4, .int 10), (3, .int 5), (0, .ref 0), (1, .ref 22)]) (stk' := [.int (10 + 1)]) (mem' := fm g tp bt a b) (fun _ _ _ => rfl) ?_
    rw [show (1 + 1 : Int32) = 2 from rfl]
    rw [show (10 + 1 : Int32) = 11 from rfl]
    refine fe_s 1 (pc' := 130) (lc' := [(3, .int 11), (2, .int 2), (6, .int 5), (5, .int 0), (4, .int 10), (0, .ref 0), (1, .ref 22)]) (stk' := []) (mem' := fm g tp bt a b) (fun _ _ _ => rfl) ?_
    refine fe_s 1 (pc' := fx_to 130 (-116)) (lc' := [(3, .int 11), (2, .int 2), (6, .int 5), (5, .int 0), (4, .int 10), (0, .ref 0), (1, .ref 22)]) (stk' := []) (mem' := fm g tp bt a b) (fun _ _ _ => rfl) ?_
    rw [show fx_to 130 (-116) = 14 from by decide]
    refine fe_w (lc' := [(3, .int 11), (2, .int 2), (0, .ref 0), (1, .ref 22)]) ⟨rfl, rfl, rfl, rfl, trivial⟩ (by show List.Nodup [3, 2, 0, 1]; decide) (by show List.Nodup [3, 2, 6, 5, 4, 0, 1]; decide) ?_
    exact fw_2 hxp
end FIW8
