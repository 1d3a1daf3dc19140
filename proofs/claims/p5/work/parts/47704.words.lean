/-! ===== fx: which word it is (4) ===== -/
section FIW4
variable {g : Nat → Int32} {tp bt : Int64} {a : Nat → Nat → Int32} {b : Nat → Nat → Int64}
theorem fw_11 {S E F : Nat} (hxp : fm_xp g S E F) : fe_R 1 gk_m226 14 [(3, .int 63), (2, .int 11), (0, .ref 0), (1, .ref 22)] [] (fm g tp bt a b) (fm_FI (fm g tp bt a b)) := by
  obtain ⟨h11, hS9, h14, hES, h13, hFE, -, -, -⟩ := id hxp
  refine fe_s 2 (pc' := 16) (lc' := [(3, .int 63), (2, .int 11), (0, .ref 0), (1, .ref 22)]) (stk' := [.ref 22, .int 63]) (mem' := fm g tp bt a b) (fun _ _ _ => rfl) ?_
  refine fe_s 1 (pc' := 19) (lc' := [(3, .int 63), (2, .int 11), (0, .ref 0), (1, .ref 22)]) (stk' := [.int 117, .int 63]) (mem' := fm g tp bt a b) (fun _ _ _ => rfl) ?_
  refine fe_s 1 (pc' := cond (fx_cb .ge 63 117) 133 22) (lc' := [(3, .int 63), (2, .int 11), (0, .ref 0), (1, .ref 22)]) (stk' := []) (mem' := fm g tp bt a b) (fun _ _ _ => rfl) ?_
  rw [show (fx_cb .ge 63 117) = false from by decide]
  dsimp only [cond]
  refine fe_s 4 (pc' := 28) (lc' := [(4, .int 63), (3, .int 63), (2, .int 11), (0, .ref 0), (1, .ref 22)]) (stk' := [.int 63, .ref 22]) (mem' := fm g tp bt a b) (fun _ _ _ => rfl) ?_
  refine fe_chr (i := 63) (by omega) (by rfl) (by rfl) ⟨by rfl, by rfl⟩ (by rfl) ?_
  rw [show sk_b.getD 63 0 = 115 from rfl]
  refine fe_s 1 (pc' := 33) (lc' := [(4, .int 63), (3, .int 63), (2, .int 11), (0, .ref 0), (1, .ref 22)]) (stk' := [.int 32, .int 115]) (mem' := fm g tp bt a b) (fun _ _ _ => rfl) ?_
  refine fe_s 1 (pc' := cond (fx_cb .eq 115 32) 42 36) (lc' := [(4, .int 63), (3, .int 63), (2, .int 11), (0, .ref 0), (1, .ref 22)]) (stk' := []) (mem' := fm g tp bt a b) (fun _ _ _ => rfl) ?_
  rw [show (fx_cb .eq 115 32) = false from by decide]
  dsimp only [cond]
  refine fe_s 4 (pc' := 28) (lc' := [(4, .int (63 + 1)), (3, .int 63), (2, .int 11), (0, .ref 0), (1, .ref 22)]) (stk' := [.int (63 + 1), .ref 22]) (mem' := fm g tp bt a b) (fun _ _ _ => rfl) ?_
  rw [show (63 + 1 : Int32) = 64 from rfl]
  refine fe_chr (i := 64) (by omega) (by rfl) (by rfl) ⟨by rfl, by rfl⟩ (by rfl) ?_
  rw [show sk_b.getD 64 0 = 101 from rfl]
  refine fe_s 1 (pc' := 33) (lc' := [(4, .int 64), (3, .int 63), (2, .int 11), (0, .ref 0), (1, .ref 22)]) (stk' := [.int 32, .int 101]) (mem' := fm g tp bt a b) (fun _ _ _ => rfl) ?_
  refine fe_s 1 (pc' := cond (fx_cb .eq 101 32) 42 36) (lc' := [(4, .int 64), (3, .int 63), (2, .int 11), (0, .ref 0), (1, .ref 22)]) (stk' := []) (mem' := fm g tp bt a b) (fun _ _ _ => rfl) ?_
  rw [show (fx_cb .eq 101 32) = false from by decide]
  dsimp only [cond]
  refine fe_s 4 (pc' := 28) (lc' := [(4, .int (64 + 1)), (3, .int 63), (2, .int 11), (0, .ref 0), (1, .ref 22)]) (stk' := [.int (64 + 1), .ref 22]) (mem' := fm g tp bt a b) (fun _ _ _ => rfl) ?_
  rw [show (64 + 1 : Int32) = 65 from rfl]
  refine fe_chr (i := 65) (by omega) (by rfl) (by rfl) ⟨by rfl, by rfl⟩ (by rfl) ?_
  rw [show sk_b.getD 65 0 = 110 from rfl]
  refine fe_s 1 (pc' := 33) (lc' := [(4, .int 65), (3, .int 63), (2, .int 11), (0, .ref 0), (1, .ref 22)]) (stk' := [.int 32, .int 110]) (mem' := fm g tp bt a b) (fun _ _ _ => rfl) ?_
  refine fe_s 1 (pc' := cond (fx_cb .eq 110 32) 42 36) (lc' := [(4, .int 65), (3, .int 63), (2, .int 11), (0, .ref 0), (1, .ref 22)]) (stk' := []) (mem' := fm g tp bt a b) (fun _ _ _ => rfl) ?_
  rw [show (fx_cb .eq 110 32) = false from by decide]
  dsimp only [cond]
  refine fe_s 4 (pc' := 28) (lc' := [(4, .int (65 + 1)), (3, .int 63), (2, .int 11), (0, .ref 0), (1, .ref 22)]) (stk' := [.int (65 + 1), .ref 22]) (mem' := fm g tp bt a b) (fun _ _ _ => rfl) ?_
  rw [show (65 + 1 : Int32) = 66 from rfl]
  refine fe_chr (i := 66) (by omega) (by rfl) (by rfl) ⟨by rfl, by rfl⟩ (by rfl) ?_
  rw [show sk_b.getD 66 0 = 100 from rfl]
  refine fe_s 1 (pc' := 33) (lc' := [(4, .int 66), (3, .int 63), (2, .int 11), (0, .ref 0), (1, .ref 22)]) (stk' := [.int 32, .int 100]) (mem' := fm g tp bt a b) (fun _ _ _ => rfl) ?_
  refine fe_s 1 (pc' := cond (fx_cb .eq 100 32) 42 36) (lc' := [(4, .int 66), (3, .int 63), (2, .int 11), (0, .ref 0), (1, .ref 22)]) (stk' := []) (mem' := fm g tp bt a b) (fun _ _ _ => rfl) ?_
  rw [show (fx_cb .eq 100 32) = false from by decide]
  dsimp only [cond]
  refine fe_s 4 (pc' := 28) (lc' := [(4, .int (66 + 1)), (3, .int 63), (2, .int 11), (0, .ref 0), (1, .ref 22)]) (stk' := [.int (66 + 1), .ref 22]) (mem' := fm g tp bt a b) (fun _ _ _ => rfl) ?_
  rw [show (66 + 1 : Int32) = 67 from rfl]
  refine fe_chr (i := 67) (by omega) (by rfl) (by rfl) ⟨by rfl, by rfl⟩ (by rfl) ?_
  rw [show sk_b.getD 67 0 = 32 from rfl]
  refine fe_s 1 (pc' := 33) (lc' := [(4, .int 67), (3, .int 63), (2, .int 11), (0, .ref 0), (1, .ref 22)]) (stk' := [.int 32, .int 32]) (mem' := fm g tp bt a b) (fun _ _ _ => rfl) ?_
  refine fe_s 1 (pc' := cond (fx_cb .eq 32 32) 42 36) (lc' := [(4, .int 67), (3, .int 63), (2, .int 11), (0, .ref 0), (1, .ref 22)]) (stk' := []) (mem' := fm g tp bt a b) (fun _ _ _ => rfl) ?_
  rw [show (fx_cb .eq 32 32) = true from by decide]
  dsimp only [cond]
  refine fe_s 4 (pc' := 47) (lc' := [(4, .int 67), (3, .int 63), (2, .int 11), (0, .ref 0), (1, .ref 22)]) (stk' := [.ref 0, .int (67 - 63)]) (mem' := fm g tp bt a b) (fun _ _ _ => rfl) ?_
  rw [show (67 - 63 : Int32) = 4 from rfl]
  refine fe_s 4 (pc' := 55) (lc' := [(4, .int 67), (3, .int 63), (2, .int 11), (0, .ref 0), (1, .ref 22)]) (stk' := [.int ((g 14) - (g 13)), .int 4]) (mem' := fm g tp bt a b) (fun _ _ _ => rfl) ?_
  try rw [h14]
  try rw [h13]
  rw [show ((nI E) - (nI F) : Int32) = nI (E - F) from by simp only [tg_sub2 (x := E) (y := F) (by omega), nI_add, fm_mul]]
  refine fe_s 1 (pc' := cond (fx_cb .ne 4 (nI (E - F))) 62 58) (lc' := [(4, .int 67), (3, .int 63), (2, .int 11), (0, .ref 0), (1, .ref 22)]) (stk' := []) (mem' := fm g tp bt a b) (fun _ _ _ => rfl) ?_
  by_cases h1 : 4 = (E - F)
  · rw [show (fx_cb .ne 4 (nI (E - F))) = false from cb_neF (a := 4) (b := E - F) (by omega) (by omega) (by omega)]
    dsimp only [cond]
    refine fe_s 4 (pc' := 66) (lc' := [(5, .int 1), (4, .int 67), (3, .int 63), (2, .int 11), (0, .ref 0), (1, .ref 22)]) (stk' := [.int 63]) (mem' := fm g tp bt a b) (fun _ _ _ => rfl) ?_
    refine fe_s 3 (pc' := 72) (lc' := [(6, .int 63), (5, .int 1), (4, .int 67), (3, .int 63), (2, .int 11), (0, .ref 0), (1, .ref 22)]) (stk' := [.int 67, .int 63]) (mem' := fm g tp bt a b) (fun _ _ _ => rfl) ?_
    refine fe_s 1 (pc' := cond (fx_cb .ge 63 67) 115 75) (lc' := [(6, .int 63), (5, .int 1), (4, .int 67), (3, .int 63), (2, .int 11), (0, .ref 0), (1, .ref 22)]) (stk' := []) (mem' := fm g tp bt a b) (fun _ _ _ => rfl) ?_
    rw [show (fx_cb .ge 63 67) = false from by decide]
    dsimp only [cond]
    refine fe_s 1 (pc' := 77) (lc' := [(6, .int 63), (5, .int 1), (4, .int 67), (3, .int 63), (2, .int 11), (0, .ref 0), (1, .ref 22)]) (stk' := [.int 1]) (mem' := fm g tp bt a b) (fun _ _ _ => rfl) ?_
    refine fe_s 1 (pc' := cond (fx_cb .eq 1 0) 115 80) (lc' := [(6, .int 63), (5, .int 1), (4, .int 67), (3, .int 63), (2, .int 11), (0, .ref 0), (1, .ref 22)]) (stk' := []) (mem' := fm g tp bt a b) (fun _ _ _ => rfl) ?_
    rw [show (fx_cb .eq 1 0) = false from by decide]
    dsimp only [cond]
    refine fe_s 2 (pc' := 83) (lc' := [(6, .int 63), (5, .int 1), (4, .int 67), (3, .int 63), (2, .int 11), (0, .ref 0), (1, .ref 22)]) (stk' := [.int 63, .ref 22]) (mem' := fm g tp bt a b) (fun _ _ _ => rfl) ?_
    refine fe_chr (i := 63) (by omega) (by rfl) (by rfl) ⟨by rfl, by rfl⟩ (by rfl) ?_
    rw [show sk_b.getD 63 0 = 115 from rfl]
    refine fe_s 4 (pc' := 93) (lc' := [(6, .int 63), (5, .int 1), (4, .int 67), (3, .int 63), (2, .int 11), (0, .ref 0), (1, .ref 22)]) (stk' := [.int 63, .int (g 13), .ref 0, .int 115]) (mem' := fm g tp bt a b) (fun _ _ _ => rfl) ?_
    try rw [h13]
    refine fe_s 3 (pc' := 96) (lc' := [(6, .int 63), (5, .int 1), (4, .int 67), (3, .int 63), (2, .int 11), (0, .ref 0), (1, .ref 22)]) (stk' := [.int (((nI F) + 63) - 63), .ref 0, .int 115]) (mem' := fm g tp bt a b) (fun _ _ _ => rfl) ?_
    rw [show (((nI F) + 63) - 63 : Int32) = nI ((F + 63) - 63) from by simp only [show (63 : Int32) = nI 63 from rfl, tg_sub2 (x := F + 63) (y := 63) (by omega), nI_add, fm_mul]]
    refine fe_ivV (fr_byteAt (S := S) (k := (F + 63) - 63) (g := g) (tp := tp) (bt := bt) (a := a) (b := b) h11 (by omega) (by omega)) (by omega) (by rfl) (by rfl) (by rfl) (by rfl) (by rfl) (by rfl) ?_
    rcases fm_byte_or a S ((F + 63) - 63) with ⟨e3, q4⟩ | ⟨q4, n2, qn2, e3⟩
    · rw [e3]
      refine fe_s 1 (pc' := cond (fx_cb .ne 115 (-1)) 106 102) (lc' := [(6, .int 63), (5, .int 1), (4, .int 67), (3, .int 63), (2, .int 11), (0, .ref 0), (1, .ref 22)]) (stk' := []) (mem' := fm g tp bt a b) (fun _ _ _ => rfl) ?_
      rw [show (fx_cb .ne 115 (-1)) = true from by decide]
      dsimp only [cond]
      refine fe_s 4 (pc' := 68) (lc' := [(6, .int (63 + 1)), (5, .int 0), (4, .int 67), (3, .int 63), (2, .int 11), (0, .ref 0), (1, .ref 22)]) (stk' := []) (mem' := fm g tp bt a b) (fun _ _ _ => rfl) ?_
      rw [show (63 + 1 : Int32) = 64 from rfl]
      refine fe_s 2 (pc' := 72) (lc' := [(6, .int 64), (5, .int 0), (4, .int 67), (3, .int 63), (2, .int 11), (0, .ref 0), (1, .ref 22)]) (stk' := [.int 67, .int 64]) (mem' := fm g tp bt a b) (fun _ _ _ => rfl) ?_
      refine fe_s 1 (pc' := cond (fx_cb .ge 64 67) 115 75) (lc' := [(6, .int 64), (5, .int 0), (4, .int 67), (3, .int 63), (2, .int 11), (0, .ref 0), (1, .ref 22)]) (stk' := []) (mem' := fm g tp bt a b) (fun _ _ _ => rfl) ?_
      rw [show (fx_cb .ge 64 67) = false from by decide]
      dsimp only [cond]
      refine fe_s 1 (pc' := 77) (lc' := [(6, .int 64), (5, .int 0), (4, .int 67), (3, .int 63), (2, .int 11), (0, .ref 0), (1, .ref 22)]) (stk' := [.int 0]) (mem' := fm g tp bt a b) (fun _ _ _ => rfl) ?_
      refine fe_s 1 (pc' := cond (fx_cb .eq 0 0) 115 80) (lc' := [(6, .int 64), (5, .int 0), (4, .int 67), (3, .int 63), (2, .int 11), (0, .ref 0), (1, .ref 22)]) (stk' := []) (mem' := fm g tp bt a b) (fun _ _ _ => rfl) ?_
      rw [show (fx_cb .eq 0 0) = true from by decide]
      dsimp only [cond]
      refine fe_s 1 (pc' := 117) (lc' := [(6, .int 64), (5, .int 0), (4, .int 67), (3, .int 63), (2, .int 11), (0, .ref 0), (1, .ref 22)]) (stk' := [.int 0]) (mem' := fm g tp bt a b) (fun _ _ _ => rfl) ?_
      refine fe_s 1 (pc' := cond (fx_cb .eq 0 0) 122 120) (lc' := [(6, .int 64), (5, .int 0), (4, .int 67), (3, .int 63), (2, .int 11), (0, .ref 0), (1, .ref 22)]) (stk' := []) (mem' := fm g tp bt a b) (fun _ _ _ => rfl) ?_
      rw [show (fx_cb .eq 0 0) = true from by decide]
      dsimp only [cond]
      refine fe_s 4 (pc' := 129) (lc' := [(2, .int (11 + 1)), (6, .int 64), (5, .int 0), (4, .int 67), (3, .int 63), (0, .ref 0), (1, .ref 22)]) (stk' := [.int (67 + 1)]) (mem' := fm g tp bt a b) (fun _ _ _ => rfl) ?_
      rw [show (67 + 1 : Int32) = 68 from rfl]
      rw [show (11 + 1 : Int32) = 12 from rfl]
      refine fe_s 1 (pc' := 130) (lc' := [(3, .int 68), (2, .int 12), (6, .int 64), (5, .int 0), (4, .int 67), (0, .ref 0), (1, .ref 22)]) (stk' := []) (mem' := fm g tp bt a b) (fun _ _ _ => rfl) ?_
      refine fe_s 1 (pc' := fx_to 130 (-116)) (lc' := [(3, .int 68), (2, .int 12), (6, .int 64), (5, .int 0), (4, .int 67), (0, .ref 0), (1, .ref 22)]) (stk' := []) (mem' := fm g tp bt a b) (fun _ _ _ => rfl) ?_
      rw [show fx_to 130 (-116) = 14 from by decide]
      refine fe_w (lc' := [(3, .int 68), (2, .int 12), (0, .ref 0), (1, .ref 22)]) ⟨rfl, rfl, rfl, rfl, trivial⟩ (by show List.Nodup [3, 2, 0, 1]; decide) (by show List.Nodup [3, 2, 6, 5, 4, 0, 1]; decide) ?_
      exact fw_12 hxp
    · rw [e3]
      refine fe_s 1 (pc' := cond (fx_cb .ne 115 (nI n2)) 106 102) (lc' := [(6, .int 63), (5, .int 1), (4, .int 67), (3, .int 63), (2, .int 11), (0, .ref 0), (1, .ref 22)]) (stk' := []) (mem' := fm g tp bt a b) (fun _ _ _ => rfl) ?_
      by_cases h5 : 115 = n2
      · rw [show (fx_cb .ne 115 (nI n2)) = false from cb_neF (a := 115) (b := n2) (by omega) (by omega) (by omega)]
        dsimp only [cond]
        refine fe_s 4 (pc' := 112) (lc' := [(6, .int (63 + 1)), (5, .int 1), (4, .int 67), (3, .int 63), (2, .int 11), (0, .ref 0), (1, .ref 22)]) (stk' := []) (mem' := fm g tp bt a b) (fun _ _ _ => rfl) ?_
        rw [show (63 + 1 : Int32) = 64 from rfl]
        refine fe_s 3 (pc' := 72) (lc' := [(6, .int 64), (5, .int 1), (4, .int 67), (3, .int 63), (2, .int 11), (0, .ref 0), (1, .ref 22)]) (stk' := [.int 67, .int 64]) (mem' := fm g tp bt a b) (fun _ _ _ => rfl) ?_
        refine fe_s 1 (pc' := cond (fx_cb .ge 64 67) 115 75) (lc' := [(6, .int 64), (5, .int 1), (4, .int 67), (3, .int 63), (2, .int 11), (0, .ref 0), (1, .ref 22)]) (stk' := []) (mem' := fm g tp bt a b) (fun _ _ _ => rfl) ?_
        rw [show (fx_cb .ge 64 67) = false from by decide]
        dsimp only [cond]
        refine fe_s 1 (pc' := 77) (lc' := [(6, .int 64), (5, .int 1), (4, .int 67), (3, .int 63), (2, .int 11), (0, .ref 0), (1, .ref 22)]) (stk' := [.int 1]) (mem' := fm g tp bt a b) (fun _ _ _ => rfl) ?_
        refine fe_s 1 (pc' := cond (fx_cb .eq 1 0) 115 80) (lc' := [(6, .int 64), (5, .int 1), (4, .int 67), (3, .int 63), (2, .int 11), (0, .ref 0), (1, .ref 22)]) (stk' := []) (mem' := fm g tp bt a b) (fun _ _ _ => rfl) ?_
        rw [show (fx_cb .eq 1 0) = false from by decide]
        dsimp only [cond]
        refine fe_s 2 (pc' := 83) (lc' := [(6, .int 64), (5, .int 1), (4, .int 67), (3, .int 63), (2, .int 11), (0, .ref 0), (1, .ref 22)]) (stk' := [.int 64, .ref 22]) (mem' := fm g tp bt a b) (fun _ _ _ => rfl) ?_
        refine fe_chr (i := 64) (by omega) (by rfl) (by rfl) ⟨by rfl, by rfl⟩ (by rfl) ?_
        rw [show sk_b.getD 64 0 = 101 from rfl]
        refine fe_s 4 (pc' := 93) (lc' := [(6, .int 64), (5, .int 1), (4, .int 67), (3, .int 63), (2, .int 11), (0, .ref 0), (1, .ref 22)]) (stk' := [.int 64, .int (g 13), .ref 0, .int 101]) (mem' := fm g tp bt a b) (fun _ _ _ => rfl) ?_
        try rw [h13]
        refine fe_s 3 (pc' := 96) (lc' := [(6, .int 64), (5, .int 1), (4, .int 67), (3, .int 63), (2, .int 11), (0, .ref 0), (1, .ref 22)]) (stk' := [.int (((nI F) + 64) - 63), .ref 0, .int 101]) (mem' := fm g tp bt a b) (fun _ _ _ => rfl) ?_
        rw [show (((nI F) + 64) - 63 : Int32) = nI ((F + 64) - 63) from by simp only [show (64 : Int32) = nI 64 from rfl, show (63 : Int32) = nI 63 from rfl, tg_sub2 (x := F + 64) (y := 63) (by omega), nI_add, fm_mul]]
        refine fe_ivV (fr_byteAt (S := S) (k := (F + 64) - 63) (g := g) (tp := tp) (bt := bt) (a := a) (b := b) h11 (by omega) (by omega)) (by omega) (by rfl) (by rfl) (by rfl) (by rfl) (by rfl) (by rfl) ?_
        rcases fm_byte_or a S ((F + 64) - 63) with ⟨e7, q8⟩ | ⟨q8, n6, qn6, e7⟩
        · rw [e7]
          refine fe_s 1 (pc' := cond (fx_cb .ne 101 (-1)) 106 102) (lc' := [(6, .int 64), (5, .int 1), (4, .int 67), (3, .int 63), (2, .int 11), (0, .ref 0), (1, .ref 22)]) (stk' := []) (mem' := fm g tp bt a b) (fun _ _ _ => rfl) ?_
          rw [show (fx_cb .ne 101 (-1)) = true from by decide]
          dsimp only [cond]
          refine fe_s 4 (pc' := 68) (lc' := [(6, .int (64 + 1)), (5, .int 0), (4, .int 67), (3, .int 63), (2, .int 11), (0, .ref 0), (1, .ref 22)]) (stk' := []) (mem' := fm g tp bt a b) (fun _ _ _ => rfl) ?_
          rw [show (64 + 1 : Int32) = 65 from rfl]
          refine fe_s 2 (pc' := 72) (lc' := [(6, .int 65), (5, .int 0), (4, .int 67), (3, .int 63), (2, .int 11), (0, .ref 0), (1, .ref 22)]) (stk' := [.int 67, .int 65]) (mem' := fm g tp bt a b) (fun _ _ _ => rfl) ?_
          refine fe_s 1 (pc' := cond (fx_cb .ge 65 67) 115 75) (lc' := [(6, .int 65), (5, .int 0), (4, .int 67), (3, .int 63), (2, .int 11), (0, .ref 0), (1, .ref 22)]) (stk' := []) (mem' := fm g tp bt a b) (fun _ _ _ => rfl) ?_
          rw [show (fx_cb .ge 65 67) = false from by decide]
          dsimp only [cond]
          refine fe_s 1 (pc' := 77) (lc' := [(6, .int 65), (5, .int 0), (4, .int 67), (3, .int 63), (2, .int 11), (0, .ref 0), (1, .ref 22)]) (stk' := [.int 0]) (mem' := fm g tp bt a b) (fun _ _ _ => rfl) ?_
          refine fe_s 1 (pc' := cond (fx_cb .eq 0 0) 115 80) (lc' := [(6, .int 65), (5, .int 0), (4, .int 67), (3, .int 63), (2, .int 11), (0, .ref 0), (1, .ref 22)]) (stk' := []) (mem' := fm g tp bt a b) (fun _ _ _ => rfl) ?_
          rw [show (fx_cb .eq 0 0) = true from by decide]
          dsimp only [cond]
          refine fe_s 1 (pc' := 117) (lc' := [(6, .int 65), (5, .int 0), (4, .int 67), (3, .int 63), (2, .int 11), (0, .ref 0), (1, .ref 22)]) (stk' := [.int 0]) (mem' := fm g tp bt a b) (fun _ _ _ => rfl) ?_
          refine fe_s 1 (pc' := cond (fx_cb .eq 0 0) 122 120) (lc' := [(6, .int 65), (5, .int 0), (4, .int 67), (3, .int 63), (2, .int 11), (0, .ref 0), (1, .ref 22)]) (stk' := []) (mem' := fm g tp bt a b) (fun _ _ _ => rfl) ?_
          rw [show (fx_cb .eq 0 0) = true from by decide]
          dsimp only [cond]
          refine fe_s 4 (pc' := 129) (lc' := [(2, .int (11 + 1)), (6, .int 65), (5, .int 0), (4, .int 67), (3, .int 63), (0, .ref 0), (1, .ref 22)]) (stk' := [.int (67 + 1)]) (mem' := fm g tp bt a b) (fun _ _ _ => rfl) ?_
          rw [show (67 + 1 : Int32) = 68 from rfl]
          rw [show (11 + 1 : Int32) = 12 from rfl]
          refine fe_s 1 (pc' := 130) (lc' := [(3, .int 68), (2, .int 12), (6, .int 65), (5, .int 0), (4, .int 67), (0, .ref 0), (1, .ref 22)]) (stk' := []) (mem' := fm g tp bt a b) (fun _ _ _ => rfl) ?_
          refine fe_s 1 (pc' := fx_to 130 (-116)) (lc' := [(3, .int 68), (2, .int 12), (6, .int 65), (5, .int 0), (4, .int 67), (0, .ref 0), (1, .ref 22)]) (stk' := []) (mem' := fm g tp bt a b) (fun _ _ _ => rfl) ?_
          rw [show fx_to 130 (-116) = 14 from by decide]
          refine fe_w (lc' := [(3, .int 68), (2, .int 12), (0, .ref 0), (1, .ref 22)]) ⟨rfl, rfl, rfl, rfl, trivial⟩ (by show List.Nodup [3, 2, 0, 1]; decide) (by show List.Nodup [3, 2, 6, 5, 4, 0, 1]; decide) ?_
          exact fw_12 hxp
        · rw [e7]
          refine fe_s 1 (pc' := cond (fx_cb .ne 101 (nI n6)) 106 102) (lc' := [(6, .int 64), (5, .int 1), (4, .int 67), (3, .int 63), (2, .int 11), (0, .ref 0), (1, .ref 22)]) (stk' := []) (mem' := fm g tp bt a b) (fun _ _ _ => rfl) ?_
          by_cases h9 : 101 = n6
          · rw [show (fx_cb .ne 101 (nI n6)) = false from cb_neF (a := 101) (b := n6) (by omega) (by omega) (by omega)]
            dsimp only [cond]
            refine fe_s 4 (pc' := 112) (lc' := [(6, .int (64 + 1)), (5, .int 1), (4, .int 67), (3, .int 63), (2, .int 11), (0, .ref 0), (1, .ref 22)]) (stk' := []) (mem' := fm g tp bt a b) (fun _ _ _ => rfl) ?_
            rw [show (64 + 1 : Int32) = 65 from rfl]
            refine fe_s 3 (pc' := 72) (lc' := [(6, .int 65), (5, .int 1), (4, .int 67), (3, .int 63), (2, .int 11), (0, .ref 0), (1, .ref 22)]) (stk' := [.int 67, .int 65]) (mem' := fm g tp bt a b) (fun _ _ _ => rfl) ?_
            refine fe_s 1 (pc' := cond (fx_cb .ge 65 67) 115 75) (lc' := [(6, .int 65), (5, .int 1), (4, .int 67), (3, .int 63), (2, .int 11), (0, .ref 0), (1, .ref 22)]) (stk' := []) (mem' := fm g tp bt a b) (fun _ _ _ => rfl) ?_
            rw [show (fx_cb .ge 65 67) = false from by decide]
            dsimp only [cond]
            refine fe_s 1 (pc' := 77) (lc' := [(6, .int 65), (5, .int 1), (4, .int 67), (3, .int 63), (2, .int 11), (0, .ref 0), (1, .ref 22)]) (stk' := [.int 1]) (mem' := fm g tp bt a b) (fun _ _ _ => rfl) ?_
            refine fe_s 1 (pc' := cond (fx_cb .eq 1 0) 115 80) (lc' := [(6, .int 65), (5, .int 1), (4, .int 67), (3, .int 63), (2, .int 11), (0, .ref 0), (1, .ref 22)]) (stk' := []) (mem' := fm g tp bt a b) (fun _ _ _ => rfl) ?_
            rw [show (fx_cb .eq 1 0) = false from by decide]
            dsimp only [cond]
            refine fe_s 2 (pc' := 83) (lc' := [(6, .int 65), (5, .int 1), (4, .int 67), (3, .int 63), (2, .int 11), (0, .ref 0), (1, .ref 22)]) (stk' := [.int 65, .ref 22]) (mem' := fm g tp bt a b) (fun _ _ _ => rfl) ?_
            refine fe_chr (i := 65) (by omega) (by rfl) (by rfl) ⟨by rfl, by rfl⟩ (by rfl) ?_
            rw [show sk_b.getD 65 0 = 110 from rfl]
            refine fe_s 4 (pc' := 93) (lc' := [(6, .int 65), (5, .int 1), (4, .int 67), (3, .int 63), (2, .int 11), (0, .ref 0), (1, .ref 22)]) (stk' := [.int 65, .int (g 13), .ref 0, .int 110]) (mem' := fm g tp bt a b) (fun _ _ _ => rfl) ?_
            try rw [h13]
            refine fe_s 3 (pc' := 96) (lc' := [(6, .int 65), (5, .int 1), (4, .int 67), (3, .int 63), (2, .int 11), (0, .ref 0), (1, .ref 22)]) (stk' := [.int (((nI F) + 65) - 63), .ref 0, .int 110]) (mem' := fm g tp bt a b) (fun _ _ _ => rfl) ?_
            rw [show (((nI F) + 65) - 63 : Int32) = nI ((F + 65) - 63) from by simp only [show (65 : Int32) = nI 65 from rfl, show (63 : Int32) = nI 63 from rfl, tg_sub2 (x := F + 65) (y := 63) (by omega), nI_add, fm_mul]]
            refine fe_ivV (fr_byteAt (S := S) (k := (F + 65) - 63) (g := g) (tp := tp) (bt := bt) (a := a) (b := b) h11 (by omega) (by omega)) (by omega) (by rfl) (by rfl) (by rfl) (by rfl) (by rfl) (by rfl) ?_
            rcases fm_byte_or a S ((F + 65) - 63) with ⟨e11, q12⟩ | ⟨q12, n10, qn10, e11⟩
            · rw [e11]
              refine fe_s 1 (pc' := cond (fx_cb .ne 110 (-1)) 106 102) (lc' := [(6, .int 65), (5, .int 1), (4, .int 67), (3, .int 63), (2, .int 11), (0, .ref 0), (1, .ref 22)]) (stk' := []) (mem' := fm g tp bt a b) (fun _ _ _ => rfl) ?_
              rw [show (fx_cb .ne 110 (-1)) = true from by decide]
              dsimp only [cond]
              refine fe_s 4 (pc' := 68) (lc' := [(6, .int (65 + 1)), (5, .int 0), (4, .int 67), (3, .int 63), (2, .int 11), (0, .ref 0), (1, .ref 22)]) (stk' := []) (mem' := fm g tp bt a b) (fun _ _ _ => rfl) ?_
              rw [show (65 + 1 : Int32) = 66 from rfl]
              refine fe_s 2 (pc' := 72) (lc' := [(6, .int 66), (5, .int 0), (4, .int 67), (3, .int 63), (2, .int 11), (0, .ref 0), (1, .ref 22)]) (stk' := [.int 67, .int 66]) (mem' := fm g tp bt a b) (fun _ _ _ => rfl) ?_
              refine fe_s 1 (pc' := cond (fx_cb .ge 66 67) 115 75) (lc' := [(6, .int 66), (5, .int 0), (4, .int 67), (3, .int 63), (2, .int 11), (0, .ref 0), (1, .ref 22)]) (stk' := []) (mem' := fm g tp bt a b) (fun _ _ _ => rfl) ?_
              rw [show (fx_cb .ge 66 67) = false from by decide]
              dsimp only [cond]
              refine fe_s 1 (pc' := 77) (lc' := [(6, .int 66), (5, .int 0), (4, .int 67), (3, .int 63), (2, .int 11), (0, .ref 0), (1, .ref 22)]) (stk' := [.int 0]) (mem' := fm g tp bt a b) (fun _ _ _ => rfl) ?_
              refine fe_s 1 (pc' := cond (fx_cb .eq 0 0) 115 80) (lc' := [(6, .int 66), (5, .int 0), (4, .int 67), (3, .int 63), (2, .int 11), (0, .ref 0), (1, .ref 22)]) (stk' := []) (mem' := fm g tp bt a b) (fun _ _ _ => rfl) ?_
              rw [show (fx_cb .eq 0 0) = true from by decide]
              dsimp only [cond]
              refine fe_s 1 (pc' := 117) (lc' := [(6, .int 66), (5, .int 0), (4, .int 67), (3, .int 63), (2, .int 11), (0, .ref 0), (1, .ref 22)]) (stk' := [.int 0]) (mem' := fm g tp bt a b) (fun _ _ _ => rfl) ?_
              refine fe_s 1 (pc' := cond (fx_cb .eq 0 0) 122 120) (lc' := [(6, .int 66), (5, .int 0), (4, .int 67), (3, .int 63), (2, .int 11), (0, .ref 0), (1, .ref 22)]) (stk' := []) (mem' := fm g tp bt a b) (fun _ _ _ => rfl) ?_
              rw [show (fx_cb .eq 0 0) = true from by decide]
              dsimp only [cond]
              refine fe_s 4 (pc' := 129) (lc' := [(2, .int (11 + 1)), (6, .int 66), (5, .int 0), (4, .int 67), (3, .int 63), (0, .ref 0), (1, .ref 22)]) (stk' := [.int (67 + 1)]) (mem' := fm g tp bt a b) (fun _ _ _ => rfl) ?_
              rw [show (67 + 1 : Int32) = 68 from rfl]
              rw [show (11 + 1 : Int32) = 12 from rfl]
              refine fe_s 1 (pc' := 130) (lc' := [(3, .int 68), (2, .int 12), (6, .int 66), (5, .int 0), (4, .int 67), (0, .ref 0), (1, .ref 22)]) (stk' := []) (mem' := fm g tp bt a b) (fun _ _ _ => rfl) ?_
              refine fe_s 1 (pc' := fx_to 130 (-116)) (lc' := [(3, .int 68), (2, .int 12), (6, .int 66), (5, .int 0), (4, .int 67), (0, .ref 0), (1, .ref 22)]) (stk' := []) (mem' := fm g tp bt a b) (fun _ _ _ => rfl) ?_
              rw [show fx_to 130 (-116) = 14 from by decide]
              refine fe_w (lc' := [(3, .int 68), (2, .int 12), (0, .ref 0), (1, .ref 22)]) ⟨rfl, rfl, rfl, rfl, trivial⟩ (by show List.Nodup [3, 2, 0, 1]; decide) (by show List.Nodup [3, 2, 6, 5, 4, 0, 1]; decide) ?_
              exact fw_12 hxp
            · rw [e11]
              refine fe_s 1 (pc' := cond (fx_cb .ne 110 (nI n10)) 106 102) (lc' := [(6, .int 65), (5, .int 1), (4, .int 67), (3, .int 63), (2, .int 11), (0, .ref 0), (1, .ref 22)]) (stk' := []) (mem' := fm g tp bt a b) (fun _ _ _ => rfl) ?_
              by_cases h13 : 110 = n10
              · rw [show (fx_cb .ne 110 (nI n10)) = false from cb_neF (a := 110) (b := n10) (by omega) (by omega) (by omega)]
                dsimp only [cond]
                refine fe_s 4 (pc' := 112) (lc' := [(6, .int (65 + 1)), (5, .int 1), (4, .int 67), (3, .int 63), (2, .int 11), (0, .ref 0), (1, .ref 22)]) (stk' := []) (mem' := fm g tp bt a b) (fun _ _ _ => rfl) ?_
                rw [show (65 + 1 : Int32) = 66 from rfl]
                refine fe_s 3 (pc' := 72) (lc' := [(6, .int 66), (5, .int 1), (4, .int 67), (3, .int 63), (2, .int 11), (0, .ref 0), (1, .ref 22)]) (stk' := [.int 67, .int 66]) (mem' := fm g tp bt a b) (fun _ _ _ => rfl) ?_
                refine fe_s 1 (pc' := cond (fx_cb .ge 66 67) 115 75) (lc' := [(6, .int 66), (5, .int 1), (4, .int 67), (3, .int 63), (2, .int 11), (0, .ref 0), (1, .ref 22)]) (stk' := []) (mem' := fm g tp bt a b) (fun _ _ _ => rfl) ?_
                rw [show (fx_cb .ge 66 67) = false from by decide]
                dsimp only [cond]
                refine fe_s 1 (pc' := 77) (lc' := [(6, .int 66), (5, .int 1), (4, .int 67), (3, .int 63), (2, .int 11), (0, .ref 0), (1, .ref 22)]) (stk' := [.int 1]) (mem' := fm g tp bt a b) (fun _ _ _ => rfl) ?_
                refine fe_s 1 (pc' := cond (fx_cb .eq 1 0) 115 80) (lc' := [(6, .int 66), (5, .int 1), (4, .int 67), (3, .int 63), (2, .int 11), (0, .ref 0), (1, .ref 22)]) (stk' := []) (mem' := fm g tp bt a b) (fun _ _ _ => rfl) ?_
                rw [show (fx_cb .eq 1 0) = false from by decide]
                dsimp only [cond]
                refine fe_s 2 (pc' := 83) (lc' := [(6, .int 66), (5, .int 1), (4, .int 67), (3, .int 63), (2, .int 11), (0, .ref 0), (1, .ref 22)]) (stk' := [.int 66, .ref 22]) (mem' := fm g tp bt a b) (fun _ _ _ => rfl) ?_
                refine fe_chr (i := 66) (by omega) (by rfl) (by rfl) ⟨by rfl, by rfl⟩ (by rfl) ?_
                rw [show sk_b.getD 66 0 = 100 from rfl]
                refine fe_s 4 (pc' := 93) (lc' := [(6, .int 66), (5, .int 1), (4, .int 67), (3, .int 63), (2, .int 11), (0, .ref 0), (1, .ref 22)]) (stk' := [.int 66, .int (g 13), .ref 0, .int 100]) (mem' := fm g tp bt a b) (fun _ _ _ => rfl) ?_
                try rw [h13]
                refine fe_s 3 (pc' := 96) (lc' := [(6, .int 66), (5, .int 1), (4, .int 67), (3, .int 63), (2, .int 11), (0, .ref 0), (1, .ref 22)]) (stk' := [.int (((nI F) + 66) - 63), .ref 0, .int 100]) (mem' := fm g tp bt a b) (fun _ _ _ => rfl) ?_
                rw [show (((nI F) + 66) - 63 : Int32) = nI ((F + 66) - 63) from by simp only [show (66 : Int32) = nI 66 from rfl, show (63 : Int32) = nI 63 from rfl, tg_sub2 (x := F + 66) (y := 63) (by omega), nI_add, fm_mul]]
                refine fe_ivV (fr_byteAt (S := S) (k := (F + 66) - 63) (g := g) (tp := tp) (bt := bt) (a := a) (b := b) h11 (by omega) (by omega)) (by omega) (by rfl) (by rfl) (by rfl) (by rfl) (by rfl) (by rfl) ?_
                rcases fm_byte_or a S ((F + 66) - 63) with ⟨e15, q16⟩ | ⟨q16, n14, qn14, e15⟩
                · rw [e15]
                  refine fe_s 1 (pc' := cond (fx_cb .ne 100 (-1)) 106 102) (lc' := [(6, .int 66), (5, .int 1), (4, .int 67), (3, .int 63), (2, .int 11), (0, .ref 0), (1, .ref 22)]) (stk' := []) (mem' := fm g tp bt a b) (fun _ _ _ => rfl) ?_
                  rw [show (fx_cb .ne 100 (-1)) = true from by decide]
                  dsimp only [cond]
                  refine fe_s 4 (pc' := 68) (lc' := [(6, .int (66 + 1)), (5, .int 0), (4, .int 67), (3, .int 63), (2, .int 11), (0, .ref 0), (1, .ref 22)]) (stk' := []) (mem' := fm g tp bt a b) (fun _ _ _ => rfl) ?_
                  rw [show (66 + 1 : Int32) = 67 from rfl]
                  refine fe_s 2 (pc' := 72) (lc' := [(6, .int 67), (5, .int 0), (4, .int 67), (3, .int 63), (2, .int 11), (0, .ref 0), (1, .ref 22)]) (stk' := [.int 67, .int 67]) (mem' := fm g tp bt a b) (fun _ _ _ => rfl) ?_
                  refine fe_s 1 (pc' := cond (fx_cb .ge 67 67) 115 75) (lc' := [(6, .int 67), (5, .int 0), (4, .int 67), (3, .int 63), (2, .int 11), (0, .ref 0), (1, .ref 22)]) (stk' := []) (mem' := fm g tp bt a b) (fun _ _ _ => rfl) ?_
                  rw [show (fx_cb .ge 67 67) = true from by decide]
                  dsimp only [cond]
                  refine fe_s 1 (pc' := 117) (lc' := [(6, .int 67), (5, .int 0), (4, .int 67), (3, .int 63), (2, .int 11), (0, .ref 0), (1, .ref 22)]) (stk' := [.int 0]) (mem' := fm g tp bt a b) (fun _ _ _ => rfl) ?_
                  refine fe_s 1 (pc' := cond (fx_cb .eq 0 0) 122 120) (lc' := [(6, .int 67), (5, .int 0), (4, .int 67), (3, .int 63), (2, .int 11), (0, .ref 0), (1, .ref 22)]) (stk' := []) (mem' := fm g tp bt a b) (fun _ _ _ => rfl) ?_
                  rw [show (fx_cb .eq 0 0) = true from by decide]
                  dsimp only [cond]
                  refine fe_s 4 (pc' := 129) (lc' := [(2, .int (11 + 1)), (6, .int 67), (5, .int 0), (4, .int 67), (3, .int 63), (0, .ref 0), (1, .ref 22)]) (stk' := [.int (67 + 1)]) (mem' := fm g tp bt a b) (fun _ _ _ => rfl) ?_
                  rw [show (67 + 1 : Int32) = 68 from rfl]
                  rw [show (11 + 1 : Int32) = 12 from rfl]
                  refine fe_s 1 (pc' := 130) (lc' := [(3, .int 68), (2, .int 12), (6, .int 67), (5, .int 0), (4, .int 67), (0, .ref 0), (1, .ref 22)]) (stk' := []) (mem' := fm g tp bt a b) (fun _ _ _ => rfl) ?_
                  refine fe_s 1 (pc' := fx_to 130 (-116)) (lc' := [(3, .int 68), (2, .int 12), (6, .int 67), (5, .int 0), (4, .int 67), (0, .ref 0), (1, .ref 22)]) (stk' := []) (mem' := fm g tp bt a b) (fun _ _ _ => rfl) ?_
                  rw [show fx_to 130 (-116) = 14 from by decide]
                  refine fe_w (lc' := [(3, .int 68), (2, .int 12), (0, .ref 0), (1, .ref 22)]) ⟨rfl, rfl, rfl, rfl, trivial⟩ (by show List.Nodup [3, 2, 0, 1]; decide) (by show List.Nodup [3, 2, 6, 5, 4, 0, 1]; decide) ?_
                  exact fw_12 hxp
                · rw [e15]
                  refine fe_s 1 (pc' := cond (fx_cb .ne 100 (nI n14)) 106 102) (lc' := [(6, .int 66), (5, .int 1), (4, .int 67), (3, .int 63), (2, .int 11), (0, .ref 0), (1, .ref 22)]) (stk' := []) (mem' := fm g tp bt a b) (fun _ _ _ => rfl) ?_
                  by_cases h17 : 100 = n14
                  · rw [show (fx_cb .ne 100 (nI n14)) = false from cb_neF (a := 100) (b := n14) (by omega) (by omega) (by omega)]
                    dsimp only [cond]
                    refine fe_s 4 (pc' := 112) (lc' := [(6, .int (66 + 1)), (5, .int 1), (4, .int 67), (3, .int 63), (2, .int 11), (0, .ref 0), (1, .ref 22)]) (stk' := []) (mem' := fm g tp bt a b) (fun _ _ _ => rfl) ?_
                    rw [show (66 + 1 : Int32) = 67 from rfl]
                    refine fe_s 3 (pc' := 72) (lc' := [(6, .int 67), (5, .int 1), (4, .int 67), (3, .int 63), (2, .int 11), (0, .ref 0), (1, .ref 22)]) (stk' := [.int 67, .int 67]) (mem' := fm g tp bt a b) (fun _ _ _ => rfl) ?_
                    refine fe_s 1 (pc' := cond (fx_cb .ge 67 67) 115 75) (lc' := [(6, .int 67), (5, .int 1), (4, .int 67), (3, .int 63), (2, .int 11), (0, .ref 0), (1, .ref 22)]) (stk' := []) (mem' := fm g tp bt a b) (fun _ _ _ => rfl) ?_
                    rw [show (fx_cb .ge 67 67) = true from by decide]
                    dsimp only [cond]
                    refine fe_s 1 (pc' := 117) (lc' := [(6, .int 67), (5, .int 1), (4, .int 67), (3, .int 63), (2, .int 11), (0, .ref 0), (1, .ref 22)]) (stk' := [.int 1]) (mem' := fm g tp bt a b) (fun _ _ _ => rfl) ?_
                    refine fe_s 1 (pc' := cond (fx_cb .eq 1 0) 122 120) (lc' := [(6, .int 67), (5, .int 1), (4, .int 67), (3, .int 63), (2, .int 11), (0, .ref 0), (1, .ref 22)]) (stk' := []) (mem' := fm g tp bt a b) (fun _ _ _ => rfl) ?_
                    rw [show (fx_cb .eq 1 0) = false from by decide]
                    dsimp only [cond]
                    refine fe_s 1 (pc' := 121) (lc' := [(6, .int 67), (5, .int 1), (4, .int 67), (3, .int 63), (2, .int 11), (0, .ref 0), (1, .ref 22)]) (stk' := [.int 11]) (mem' := fm g tp bt a b) (fun _ _ _ => rfl) ?_
                    exact fe_ret ⟨_, Or.inr ⟨11, by omega, rfl⟩, rfl⟩ (by rfl) (by rfl) (by rfl)
                  · rw [show (fx_cb .ne 100 (nI n14)) = true from cb_neT (a := 100) (b := n14) (by omega) (by omega) (by omega)]
                    dsimp only [cond]
                    refine fe_s 4 (pc' := 68) (lc' := [(6, .int (66 + 1)), (5, .int 0), (4, .int 67), (3, .int 63), (2, .int 11), (0, .ref 0), (1, .ref 22)]) (stk' := []) (mem' := fm g tp bt a b) (fun _ _ _ => rfl) ?_
                    rw [show (66 + 1 : Int32) = 67 from rfl]
                    refine fe_s 2 (pc' := 72) (lc' := [(6, .int 67), (5, .int 0), (4, .int 67), (3, .int 63), (2, .int 11), (0, .ref 0), (1, .ref 22)]) (stk' := [.int 67, .int 67]) (mem' := fm g tp bt a b) (fun _ _ _ => rfl) ?_
                    refine fe_s 1 (pc' := cond (fx_cb .ge 67 67) 115 75) (lc' := [(6, .int 67), (5, .int 0), (4, .int 67), (3, .int 63), (2, .int 11), (0, .ref 0), (1, .ref 22)]) (stk' := []) (mem' := fm g tp bt a b) (fun _ _ _ => rfl) ?_
                    rw [show (fx_cb .ge 67 67) = true from by decide]
                    dsimp only [cond]
                    refine fe_s 1 (pc' := 117) (lc' := [(6, .int 67), (5, .int 0), (4, .int 67), (3, .int 63), (2, .int 11), (0, .ref 0), (1, .ref 22)]) (stk' := [.int 0]) (mem' := fm g tp bt a b) (fun _ _ _ => rfl) ?_
                    refine fe_s 1 (pc' := cond (fx_cb .eq 0 0) 122 120) (lc' := [(6, .int 67), (5, .int 0), (4, .int 67), (3, .int 63), (2, .int 11), (0, .ref 0), (1, .ref 22)]) (stk' := []) (mem' := fm g tp bt a b) (fun _ _ _ => rfl) ?_
                    rw [show (fx_cb .eq 0 0) = true from by decide]
                    dsimp only [cond]
                    refine fe_s 4 (pc' := 129) (lc' := [(2, .int (11 + 1)), (6, .int 67), (5, .int 0), (4, .int 67), (3, .int 63), (0, .ref 0), (1, .ref 22)]) (stk' := [.int (67 + 1)]) (mem' := fm g tp bt a b) (fun _ _ _ => rfl) ?_
                    rw [show (67 + 1 : Int32) = 68 from rfl]
                    rw [show (11 + 1 : Int32) = 12 from rfl]
                    refine fe_s 1 (pc' := 130) (lc' := [(3, .int 68), (2, .int 12), (6, .int 67), (5, .int 0), (4, .int 67), (0, .ref 0), (1, .ref 22)]) (stk' := []) (mem' := fm g tp bt a b) (fun _ _ _ => rfl) ?_
                    refine fe_s 1 (pc' := fx_to 130 (-116)) (lc' := [(3, .int 68), (2, .int 12), (6, .int 67), (5, .int 0), (4, .int 67), (0, .ref 0), (1, .ref 22)]) (stk' := []) (mem' := fm g tp bt a b) (fun _ _ _ => rfl) ?_
                    rw [show fx_to 130 (-116) = 14 from by decide]
                    refine fe_w (lc' := [(3, .int 68), (2, .int 12), (0, .ref 0), (1, .ref 22)]) ⟨rfl, rfl, rfl, rfl, trivial⟩ (by show List.Nodup [3, 2, 0, 1]; decide) (by show List.Nodup [3, 2, 6, 5, 4, 0, 1]; decide) ?_
                    exact fw_12 hxp
              · rw [show (fx_cb .ne 110 (nI n10)) = true from cb_neT (a := 110) (b := n10) (by omega) (by omega) (by omega)]
                dsimp only [cond]
                refine fe_s 4 (pc' := 68) (lc' := [(6, .int (65 + 1)), (5, .int 0), (4, .int 67), (3, .int 63), (2, .int 11), (0, .ref 0), (1, .ref 22)]) (stk' := []) (mem' := fm g tp bt a b) (fun _ _ _ => rfl) ?_
                rw [show (65 + 1 : Int32) = 66 from rfl]
                refine fe_s 2 (pc' := 72) (lc' := [(6, .int 66), (5, .int 0), (4, .int 67), (3, .int 63), (2, .int 11), (0, .ref 0), (1, .ref 22)]) (stk' := [.int 67, .int 66]) (mem' := fm g tp bt a b) (fun _ _ _ => rfl) ?_
                refine fe_s 1 (pc' := cond (fx_cb .ge 66 67) 115 75) (lc' := [(6, .int 66), (5, .int 0), (4, .int 67), (3, .int 63), (2, .int 11), (0, .ref 0), (1, .ref 22)]) (stk' := []) (mem' := fm g tp bt a b) (fun _ _ _ => rfl) ?_
                rw [show (fx_cb .ge 66 67) = false from by decide]
                dsimp only [cond]
                refine fe_s 1 (pc' := 77) (lc' := [(6, .int 66), (5, .int 0), (4, .int 67), (3, .int 63), (2, .int 11), (0, .ref 0), (1, .ref 22)]) (stk' := [.int 0]) (mem' := fm g tp bt a b) (fun _ _ _ => rfl) ?_
                refine fe_s 1 (pc' := cond (fx_cb .eq 0 0) 115 80) (lc' := [(6, .int 66), (5, .int 0), (4, .int 67), (3, .int 63), (2, .int 11), (0, .ref 0), (1, .ref 22)]) (stk' := []) (mem' := fm g tp bt a b) (fun _ _ _ => rfl) ?_
                rw [show (fx_cb .eq 0 0) = true from by decide]
                dsimp only [cond]
                refine fe_s 1 (pc' := 117) (lc' := [(6, .int 66), (5, .int 0), (4, .int 67), (3, .int 63), (2, .int 11), (0, .ref 0), (1, .ref 22)]) (stk' := [.int 0]) (mem' := fm g tp bt a b) (fun _ _ _ => rfl) ?_
                refine fe_s 1 (pc' := cond (fx_cb .eq 0 0) 122 120) (lc' := [(6, .int 66), (5, .int 0), (4, .int 67), (3, .int 63), (2, .int 11), (0, .ref 0), (1, .ref 22)]) (stk' := []) (mem' := fm g tp bt a b) (fun _ _ _ => rfl) ?_
                rw [show (fx_cb .eq 0 0) = true from by decide]
                dsimp only [cond]
                refine fe_s 4 (pc' := 129) (lc' := [(2, .int (11 + 1)), (6, .int 66), (5, .int 0), (4, .int 67), (3, .int 63), (0, .ref 0), (1, .ref 22)]) (stk' := [.int (67 + 1)]) (mem' := fm g tp bt a b) (fun _ _ _ => rfl) ?_
                rw [show (67 + 1 : Int32) = 68 from rfl]
                rw [show (11 + 1 : Int32) = 12 from rfl]
                refine fe_s 1 (pc' := 130) (lc' := [(3, .int 68), (2, .int 12), (6, .int 66), (5, .int 0), (4, .int 67), (0, .ref 0), (1, .ref 22)]) (stk' := []) (mem' := fm g tp bt a b) (fun _ _ _ => rfl) ?_
                refine fe_s 1 (pc' := fx_to 130 (-116)) (lc' := [(3, .int 68), (2, .int 12), (6, .int 66), (5, .int 0), (4, .int 67), (0, .ref 0), (1, .ref 22)]) (stk' := []) (mem' := fm g tp bt a b) (fun _ _ _ => rfl) ?_
                rw [show fx_to 130 (-116) = 14 from by decide]
                refine fe_w (lc' := [(3, .int 68), (2, .int 12), (0, .ref 0), (1, .ref 22)]) ⟨rfl, rfl, rfl, rfl, trivial⟩ (by show List.Nodup [3, 2, 0, 1]; decide) (by show List.Nodup [3, 2, 6, 5, 4, 0, 1]; decide) ?_
                exact fw_12 hxp
          · rw [show (fx_cb .ne 101 (nI n6)) = true from cb_neT (a := 101) (b := n6) (by omega) (by omega) (by omega)]
            dsimp only [cond]
            refine fe_s 4 (pc' := 68) (lc' := [(6, .int (64 + 1)), (5, .int 0), (4, .int 67), (3, .int 63), (2, .int 11), (0, .ref 0), (1, .ref 22)]) (stk' := []) (mem' := fm g tp bt a b) (fun _ _ _ => rfl) ?_
            rw [show (64 + 1 : Int32) = 65 from rfl]
            refine fe_s 2 (pc' := 72) (lc' := [(6, .int 65), (5, .int 0), (4, .int 67), (3, .int 63), (2, .int 11), (0, .ref 0), (1, .ref 22)]) (stk' := [.int 67, .int 65]) (mem' := fm g tp bt a b) (fun _ _ _ => rfl) ?_
            refine fe_s 1 (pc' := cond (fx_cb .ge 65 67) 115 75) (lc' := [(6, .int 65), (5, .int 0), (4, .int 67), (3, .int 63), (2, .int 11), (0, .ref 0), (1, .ref 22)]) (stk' := []) (mem' := fm g tp bt a b) (fun _ _ _ => rfl) ?_
            rw [show (fx_cb .ge 65 67) = false from by decide]
            dsimp only [cond]
            refine fe_s 1 (pc' := 77) (lc' := [(6, .int 65), (5, .int 0), (4, .int 67), (3, .int 63), (2, .int 11), (0, .ref 0), (1, .ref 22)]) (stk' := [.int 0]) (mem' := fm g tp bt a b) (fun _ _ _ => rfl) ?_
            refine fe_s 1 (pc' := cond (fx_cb .eq 0 0) 115 80) (lc' := [(6, .int 65), (5, .int 0), (4, .int 67), (3, .int 63), (2, .int 11), (0, .ref 0), (1, .ref 22)]) (stk' := []) (mem' := fm g tp bt a b) (fun _ _ _ => rfl) ?_
            rw [show (fx_cb .eq 0 0) = true from by decide]
            dsimp only [cond]
            refine fe_s 1 (pc' := 117) (lc' := [(6, .int 65), (5, .int 0), (4, .int 67), (3, .int 63), (2, .int 11), (0, .ref 0), (1, .ref 22)]) (stk' := [.int 0]) (mem' := fm g tp bt a b) (fun _ _ _ => rfl) ?_
            refine fe_s 1 (pc' := cond (fx_cb .eq 0 0) 122 120) (lc' := [(6, .int 65), (5, .int 0), (4, .int 67), (3, .int 63), (2, .int 11), (0, .ref 0), (1, .ref 22)]) (stk' := []) (mem' := fm g tp bt a b) (fun _ _ _ => rfl) ?_
            rw [show (fx_cb .eq 0 0) = true from by decide]
            dsimp only [cond]
            refine fe_s 4 (pc' := 129) (lc' := [(2, .int (11 + 1)), (6, .int 65), (5, .int 0), (4, .int 67), (3, .int 63), (0, .ref 0), (1, .ref 22)]) (stk' := [.int (67 + 1)]) (mem' := fm g tp bt a b) (fun _ _ _ => rfl) ?_
            rw [show (67 + 1 : Int32) = 68 from rfl]
            rw [show (11 + 1 : Int32) = 12 from rfl]
            refine fe_s 1 (pc' := 130) (lc' := [(3, .int 68), (2, .int 12), (6, .int 65), (5, .int 0), (4, .int 67), (0, .ref 0), (1, .ref 22)]) (stk' := []) (mem' := fm g tp bt a b) (fun _ _ _ => rfl) ?_
            refine fe_s 1 (pc' := fx_to 130 (-116)) (lc' := [(3, .int 68), (2, .int 12), (6, .int 65), (5, .int 0), (4, .int 67), (0, .ref 0), (1, .ref 22)]) (stk' := []) (mem' := fm g tp bt a b) (fun _ _ _ => rfl) ?_
            rw [show fx_to 130 (-116) = 14 from by decide]
            refine fe_w (lc' := [(3, .int 68), (2, .int 12), (0, .ref 0), (1, .ref 22)]) ⟨rfl, rfl, rfl, rfl, trivial⟩ (by show List.Nodup [3, 2, 0, 1]; decide) (by show List.Nodup [3, 2, 6, 5, 4, 0, 1]; decide) ?_
            exact fw_12 hxp
      · rw [show (fx_cb .ne 115 (nI n2)) = true from cb_neT (a := 115) (b := n2) (by omega) (by omega) (by omega)]
        dsimp only [cond]
        refine fe_s 4 (pc' := 68) (lc' := [(6, .int (63 + 1)), (5, .int 0), (4, .int 67), (3, .int 63), (2, .int 11), (0, .ref 0), (1, .ref 22)]) (stk' := []) (mem' := fm g tp bt a b) (fun _ _ _ => rfl) ?_
        rw [show (63 + 1 : Int32) = 64 from rfl]
        refine fe_s 2 (pc' := 72) (lc' := [(6, .int 64), (5, .int 0), (4, .int 67), (3, .int 63), (2, .int 11), (0, .ref 0), (1, .ref 22)]) (stk' := [.int 67, .int 64]) (mem' := fm g tp bt a b) (fun _ _ _ => rfl) ?_
        refine fe_s 1 (pc' := cond (fx_cb .ge 64 67) 115 75) (lc' := [(6, .int 64), (5, .int 0), (4, .int 67), (3, .int 63), (2, .int 11), (0, .ref 0), (1, .ref 22)]) (stk' := []) (mem' := fm g tp bt a b) (fun _ _ _ => rfl) ?_
        rw [show (fx_cb .ge 64 67) = false from by decide]
        dsimp only [cond]
        refine fe_s 1 (pc' := 77) (lc' := [(6, .int 64), (5, .int 0), (4, .int 67), (3, .int 63), (2, .int 11), (0, .ref 0), (1, .ref 22)]) (stk' := [.int 0]) (mem' := fm g tp bt a b) (fun _ _ _ => rfl) ?_
        refine fe_s 1 (pc' := cond (fx_cb .eq 0 0) 115 80) (lc' := [(6, .int 64), (5, .int 0), (4, .int 67), (3, .int 63), (2, .int 11), (0, .ref 0), (1, .ref 22)]) (stk' := []) (mem' := fm g tp bt a b) (fun _ _ _ => rfl) ?_
        rw [show (fx_cb .eq 0 0) = true from by decide]
        dsimp only [cond]
        refine fe_s 1 (pc' := 117) (lc' := [(6, .int 64), (5, .int 0), (4, .int 67), (3, .int 63), (2, .int 11), (0, .ref 0), (1, .ref 22)]) (stk' := [.int 0]) (mem' := fm g tp bt a b) (fun _ _ _ => rfl) ?_
        refine fe_s 1 (pc' := cond (fx_cb .eq 0 0) 122 120) (lc' := [(6, .int 64), (5, .int 0), (4, .int 67), (3, .int 63), (2, .int 11), (0, .ref 0), (1, .ref 22)]) (stk' := []) (mem' := fm g tp bt a b) (fun _ _ _ => rfl) ?_
        rw [show (fx_cb .eq 0 0) = true from by decide]
        dsimp only [cond]
        refine fe_s 4 (pc' := 129) (lc' := [(2, .int (11 + 1)), (6, .int 64), (5, .int 0), (4, .int 67), (3, .int 63), (0, .ref 0), (1, .ref 22)]) (stk' := [.int (67 + 1)]) (mem' := fm g tp bt a b) (fun _ _ _ => rfl) ?_
        rw [show (67 + 1 : Int32) = 68 from rfl]
        rw [show (11 + 1 : Int32) = 12 from rfl]
        refine fe_s 1 (pc' := 130) (lc' := [(3, .int 68), (2, .int 12), (6, .int 64), (5, .int 0), (4, .int 67), (0, .ref 0), (1, .ref 22)]) (stk' := []) (mem' := fm g tp bt a b) (fun _ _ _ => rfl) ?_
        refine fe_s 1 (pc' := fx_to 130 (-116)) (lc' := [(3, .int 68), (2, .int 12), (6, .int 64), (5, .int 0), (4, .int 67), (0, .ref 0), (1, .ref 22)]) (stk' := []) (mem' := fm g tp bt a b) (fun _ _ _ => rfl) ?_
        rw [show fx_to 130 (-116) = 14 from by decide]
        refine fe_w (lc' := [(3, .int 68), (2, .int 12), (0, .ref 0), (1, .ref 22)]) ⟨rfl, rfl, rfl, rfl, trivial⟩ (by show List.Nodup [3, 2, 0, 1]; decide) (by show List.Nodup [3, 2, 6, 5, 4, 0, 1]; decide) ?_
        exact fw_12 hxp
  · rw [show (fx_cb .ne 4 (nI (E - F))) = true from cb_neT (a := 4) (b := E - F) (by omega) (by omega) (by omega)]
    dsimp only [cond]
    refine fe_s 4 (pc' := 68) (lc' := [(6, .int 63), (5, .int 0), (4, .int 67), (3, .int 63), (2, .int 11), (0, .ref 0), (1, .ref 22)]) (stk' := []) (mem' := fm g tp bt a b) (fun _ _ _ => rfl) ?_
    refine fe_s 2 (pc' := 72) (lc' := [(6, .int 63), (5, .int 0), (4, .int 67), (3, .int 63), (2, .int 11), (0, .ref 0), (1, .ref 22)]) (stk' := [.int 67, .int 63]) (mem' := fm g tp bt a b) (fun _ _ _ => rfl) ?_
    refine fe_s 1 (pc' := cond (fx_cb .ge 63 67) 115 75) (lc' := [(6, .int 63), (5, .int 0), (4, .int 67), (3, .int 63), (2, .int 11), (0, .ref 0), (1, .ref 22)]) (stk' := []) (mem' := fm g tp bt a b) (fun _ _ _ => rfl) ?_
    rw [show (fx_cb .ge 63 67) = false from by decide]
    dsimp only [cond]
    refine fe_s 1 (pc' := 77) (lc' := [(6, .int 63), (5, .int 0), (4, .int 67), (3, .int 63), (2, .int 11), (0, .ref 0), (1, .ref 22)]) (stk' := [.int 0]) (mem' := fm g tp bt a b) (fun _ _ _ => rfl) ?_
    refine fe_s 1 (pc' := cond (fx_cb .eq 0 0) 115 80) (lc' := [(6, .int 63), (5, .int 0), (4, .int 67), (3, .int 63), (2, .int 11), (0, .ref 0), (1, .ref 22)]) (stk' := []) (mem' := fm g tp bt a b) (fun _ _ _ => rfl) ?_
    rw [show (fx_cb .eq 0 0) = true from by decide]
    dsimp only [cond]
    refine fe_s 1 (pc' := 117) (lc' := [(6, .int 63), (5, .int 0), (4, .int 67), (3, .int 63), (2, .int 11), (0, .ref 0), (1, .ref 22)]) (stk' := [.int 0]) (mem' := fm g tp bt a b) (fun _ _ _ => rfl) ?_
    refine fe_s 1 (pc' := cond (fx_cb .eq 0 0) 122 120) (lc' := [(6, .int 63), (5, .int 0), (4, .int 67), (3, .int 63), (2, .int 11), (0, .ref 0), (1, .ref 22)]) (stk' := []) (mem' := fm g tp bt a b) (fun _ _ _ => rfl) ?_
    rw [show (fx_cb .eq 0 0) = true from by decide]
    dsimp only [cond]
    refine fe_s 4 (pc' := 129) (lc' := [(2, .int (11 + 1)), (6, .int 63), (5, .int 0), (4, .int 67), (3, .int 63), (0, .ref 0), (1, .ref 22)]) (stk' := [.int (67 + 1)]) (mem' := fm g tp bt a b) (fun _ _ _ => rfl) ?_
    rw [show (67 + 1 : Int32) = 68 from rfl]
    rw [show (11 + 1 : Int32) = 12 from rfl]
    refine fe_s 1 (pc' := 130) (lc' := [(3, .int 68), (2, .int 12), (6, .int 63), (5, .int 0), (4, .int 67), (0, .ref 0), (1, .ref 22)]) (stk' := []) (mem' := fm g tp bt a b) (fun _ _ _ => rfl) ?_
    refine fe_s 1 (pc' := fx_to 130 (-116)) (lc' := [(3, .int 68), (2, .int 12), (6, .int 63), (5, .int 0), (4, .int 67), (0, .ref 0), (1, .ref 22)]) (stk' := []) (mem' := fm g tp bt a b) (fun _ _ _ => rfl) ?_
    rw [show fx_to 130 (-116) = 14 from by decide]
    refine fe_w (lc' := [(3, .int 68), (2, .int 12), (0, .ref 0), (1, .ref 22)]) ⟨rfl, rfl, rfl, rfl, trivial⟩ (by show List.Nodup [3, 2, 0, 1]; decide) (by show List.Nodup [3, 2, 6, 5, 4, 0, 1]; decide) ?_
    exact fw_12 hxp
theorem fw_10 {S E F : Nat} (hxp : fm_xp g S E F) : fe_R 1 gk_m226 14 [(3, .int 60), (2, .int 10), (0, .ref 0), (1, .ref 22)] [] (fm g tp bt a b) (fm_FI (fm g tp bt a b)) := by
  obtain ⟨h11, hS9, h14, hES, h13, hFE, -, -, -⟩ := id hxp
  refine fe_s 2 (pc' := 16) (lc' := [(3, .int 60), (2, .int 10), (0, .ref 0), (1, .ref 22)]) (stk' := [.ref 22, .int 60]) (mem' := fm g tp bt a b) (fun _ _ _ => rfl) ?_
  refine fe_s 1 (pc' := 19) (lc' := [(3, .int 60), (2, .int 10), (0, .ref 0), (1, .ref 22)]) (stk' := [.int 117, .int 60]) (mem' := fm g tp bt a b) (fun _ _ _ => rfl) ?_
  refine fe_s 1 (pc' := cond (fx_cb .ge 60 117) 133 22) (lc' := [(3, .int 60), (2, .int 10), (0, .ref 0), (1, .ref 22)]) (stk' := []) (mem' := fm g tp bt a b) (fun _ _ _ => rfl) ?_
  rw [show (fx_cb .ge 60 117) = false from by decide]
  dsimp only [cond]
  refine fe_s 4 (pc' := 28) (lc' := [(4, .int 60), (3, .int 60), (2, .int 10), (0, .ref 0), (1, .ref 22)]) (stk' := [.int 60, .ref 22]) (mem' := fm g tp bt a b) (fun _ _ _ => rfl) ?_
  refine fe_chr (i := 60) (by omega) (by rfl) (by rfl) ⟨by rfl, by rfl⟩ (by rfl) ?_
  rw [show sk_b.getD 60 0 = 97 from rfl]
  refine fe_s 1 (pc' := 33) (lc' := [(4, .int 60), (3, .int 60), (2, .int 10), (0, .ref 0), (1, .ref 22)]) (stk' := [.int 32, .int 97]) (mem' := fm g tp bt a b) (fun _ _ _ => rfl) ?_
  refine fe_s 1 (pc' := cond (fx_cb .eq 97 32) 42 36) (lc' := [(4, .int 60), (3, .int 60), (2, .int 10), (0, .ref 0), (1, .ref 22)]) (stk' := []) (mem' := fm g tp bt a b) (fun _ _ _ => rfl) ?_
  rw [show (fx_cb .eq 97 32) = false from by decide]
  dsimp only [cond]
  refine fe_s 4 (pc' := 28) (lc' := [(4, .int (60 + 1)), (3, .int 60), (2, .int 10), (0, .ref 0), (1, .ref 22)]) (stk' := [.int (60 + 1), .ref 22]) (mem' := fm g tp bt a b) (fun _ _ _ => rfl) ?_
  rw [show (60 + 1 : Int32) = 61 from rfl]
  refine fe_chr (i := 61) (by omega) (by rfl) (by rfl) ⟨by rfl, by rfl⟩ (by rfl) ?_
  rw [show sk_b.getD 61 0 = 116 from rfl]
  refine fe_s 1 (pc' := 33) (lc' := [(4, .int 61), (3, .int 60), (2, .int 10), (0, .ref 0), (1, .ref 22)]) (stk' := [.int 32, .int 116]) (mem' := fm g tp bt a b) (fun _ _ _ => rfl) ?_
  refine fe_s 1 (pc' := cond (fx_cb .eq 116 32) 42 36) (lc' := [(4, .int 61), (3, .int 60), (2, .int 10), (0, .ref 0), (1, .ref 22)]) (stk' := []) (mem' := fm g tp bt a b) (fun _ _ _ => rfl) ?_
  rw [show (fx_cb .eq 116 32) = false from by decide]
  dsimp only [cond]
  refine fe_s 4 (pc' := 28) (lc' := [(4, .int (61 + 1)), (3, .int 60), (2, .int 10), (0, .ref 0), (1, .ref 22)]) (stk' := [.int (61 + 1), .ref 22]) (mem' := fm g tp bt a b) (fun _ _ _ => rfl) ?_
  rw [show (61 + 1 : Int32) = 62 from rfl]
  refine fe_chr (i := 62) (by omega) (by rfl) (by rfl) ⟨by rfl, by rfl⟩ (by rfl) ?_
  rw [show sk_b.getD 62 0 = 32 from rfl]
  refine fe_s 1 (pc' := 33) (lc' := [(4, .int 62), (3, .int 60), (2, .int 10), (0, .ref 0), (1, .ref 22)]) (stk' := [.int 32, .int 32]) (mem' := fm g tp bt a b) (fun _ _ _ => rfl) ?_
  refine fe_s 1 (pc' := cond (fx_cb .eq 32 32) 42 36) (lc' := [(4, .int 62), (3, .int 60), (2, .int 10), (0, .ref 0), (1, .ref 22)]) (stk' := []) (mem' := fm g tp bt a b) (fun _ _ _ => rfl) ?_
  rw [show (fx_cb .eq 32 32) = true from by decide]
  dsimp only [cond]
  refine fe_s 4 (pc' := 47) (lc' := [(4, .int 62), (3, .int 60), (2, .int 10), (0, .ref 0), (1, .ref 22)]) (stk' := [.ref 0, .int (62 - 60)]) (mem' := fm g tp bt a b) (fun _ _ _ => rfl) ?_
  rw [show (62 - 60 : Int32) = 2 from rfl]
  refine fe_s 4 (pc' := 55) (lc' := [(4, .int 62), (3, .int 60), (2, .int 10), (0, .ref 0), (1, .ref 22)]) (stk' := [.int ((g 14) - (g 13)), .int 2]) (mem' := fm g tp bt a b) (fun _ _ _ => rfl) ?_
  try rw [h14]
  try rw [h13]
  rw [show ((nI E) - (nI F) : Int32) = nI (E - F) from by simp only [tg_sub2 (x := E) (y := F) (by omega), nI_add, fm_mul]]
  refine fe_s 1 (pc' := cond (fx_cb .ne 2 (nI (E - F))) 62 58) (lc' := [(4, .int 62), (3, .int 60), (2, .int 10), (0, .ref 0), (1, .ref 22)]) (stk' := []) (mem' := fm g tp bt a b) (fun _ _ _ => rfl) ?_
  by_cases h1 : 2 = (E - F)
  · rw [show (fx_cb .ne 2 (nI (E - F))) = false from cb_neF (a := 2) (b := E - F) (by omega) (by omega) (by omega)]
    dsimp only [cond]
    refine fe_s 4 (pc' := 66) (lc' := [(5, .int 1), (4, .int 62), (3, .int 60), (2, .int 10), (0, .ref 0), (1, .ref 22)]) (stk' := [.int 60]) (mem' := fm g tp bt a b) (fun _ _ _ => rfl) ?_
    refine fe_s 3 (pc' := 72) (lc' := [(6, .int 60), (5, .int 1), (4, .int 62), (3, .int 60), (2, .int 10), (0, .ref 0), (1, .ref 22)]) (stk' := [.int 62, .int 60]) (mem' := fm g tp bt a b) (fun _ _ _ => rfl) ?_
    refine fe_s 1 (pc' := cond (fx_cb .ge 60 62) 115 75) (lc' := [(6, .int 60), (5, .int 1), (4, .int 62), (3, .int 60), (2, .int 10), (0, .ref 0), (1, .ref 22)]) (stk' := []) (mem' := fm g tp bt a b) (fun _ _ _ => rfl) ?_
    rw [show (fx_cb .ge 60 62) = false from by decide]
    dsimp only [cond]
    refine fe_s 1 (pc' := 77) (lc' := [(6, .int 60), (5, .int 1), (4, .int 62), (3, .int 60), (2, .int 10), (0, .ref 0), (1, .ref 22)]) (stk' := [.int 1]) (mem' := fm g tp bt a b) (fun _ _ _ => rfl) ?_
    refine fe_s 1 (pc' := cond (fx_cb .eq 1 0) 115 80) (lc' := [(6, .int 60), (5, .int 1), (4, .int 62), (3, .int 60), (2, .int 10), (0, .ref 0), (1, .ref 22)]) (stk' := []) (mem' := fm g tp bt a b) (fun _ _ _ => rfl) ?_
    rw [show (fx_cb .eq 1 0) = false from by decide]
    dsimp only [cond]
    refine fe_s 2 (pc' := 83) (lc' := [(6, .int 60), (5, .int 1), (4, .int 62), (3, .int 60), (2, .int 10), (0, .ref 0), (1, .ref 22)]) (stk' := [.int 60, .ref 22]) (mem' := fm g tp bt a b) (fun _ _ _ => rfl) ?_
    refine fe_chr (i := 60) (by omega) (by rfl) (by rfl) ⟨by rfl, by rfl⟩ (by rfl) ?_
    rw [show sk_b.getD 60 0 = 97 from rfl]
    refine fe_s 4 (pc' := 93) (lc' := [(6, .int 60), (5, .int 1), (4, .int 62), (3, .int 60), (2, .int 10), (0, .ref 0), (1, .ref 22)]) (stk' := [.int 60, .int (g 13), .ref 0, .int 97]) (mem' := fm g tp bt a b) (fun _ _ _ => rfl) ?_
    try rw [h13]
    refine fe_s 3 (pc' := 96) (lc' := [(6, .int 60), (5, .int 1), (4, .int 62), (3, .int 60), (2, .int 10), (0, .ref 0), (1, .ref 22)]) (stk' := [.int (((nI F) + 60) - 60), .ref 0, .int 97]) (mem' := fm g tp bt a b) (fun _ _ _ => rfl) ?_
    rw [show (((nI F) + 60) - 60 : Int32) = nI ((F + 60) - 60) from by simp only [show (60 : Int32) = nI 60 from rfl, tg_sub2 (x := F + 60) (y := 60) (by omega), nI_add, fm_mul]]
    refine fe_ivV (fr_byteAt (S := S) (k := (F + 60) - 60) (g := g) (tp := tp) (bt := bt) (a := a) (b := b) h11 (by omega) (by omega)) (by omega) (by rfl) (by rfl) (by rfl) (by rfl) (by rfl) (by rfl) ?_
    rcases fm_byte_or a S ((F + 60) - 60) with ⟨e3, q4⟩ | ⟨q4, n2, qn2, e3⟩
    · rw [e3]
      refine fe_s 1 (pc' := cond (fx_cb .ne 97 (-1)) 106 102) (lc' := [(6, .int 60), (5, .int 1), (4, .int 62), (3, .int 60), (2, .int 10), (0, .ref 0), (1, .ref 22)]) (stk' := []) (mem' := fm g tp bt a b) (fun _ _ _ => rfl) ?_
      rw [show (fx_cb .ne 97 (-1)) = true from by decide]
      dsimp only [cond]
      refine fe_s 4 (pc' := 68) (lc' := [(6, .int (60 + 1)), (5, .int 0), (4, .int 62), (3, .int 60), (2, .int 10), (0, .ref 0), (1, .ref 22)]) (stk' := []) (mem' := fm g tp bt a b) (fun _ _ _ => rfl) ?_
      rw [show (60 + 1 : Int32) = 61 from rfl]
      refine fe_s 2 (pc' := 72) (lc' := [(6, .int 61), (5, .int 0), (4, .int 62), (3, .int 60), (2, .int 10), (0, .ref 0), (1, .ref 22)]) (stk' := [.int 62, .int 61]) (mem' := fm g tp bt a b) (fun _ _ _ => rfl) ?_
      refine fe_s 1 (pc' := cond (fx_cb .ge 61 62) 115 75) (lc' := [(6, .int 61), (5, .int 0), (4, .int 62), (3, .int 60), (2, .int 10), (0, .ref 0), (1, .ref 22)]) (stk' := []) (mem' := fm g tp bt a b) (fun _ _ _ => rfl) ?_
      rw [show (fx_cb .ge 61 62) = false from by decide]
      dsimp only [cond]
      refine fe_s 1 (pc' := 77) (lc' := [(6, .int 61), (5, .int 0), (4, .int 62), (3, .int 60), (2, .int 10), (0, .ref 0), (1, .ref 22)]) (stk' := [.int 0]) (mem' := fm g tp bt a b) (fun _ _ _ => rfl) ?_
      refine fe_s 1 (pc' := cond (fx_cb .eq 0 0) 115 80) (lc' := [(6, .int 61), (5, .int 0), (4, .int 62), (3, .int 60), (2, .int 10), (0, .ref 0), (1, .ref 22)]) (stk' := []) (mem' := fm g tp bt a b) (fun _ _ _ => rfl) ?_
      rw [show (fx_cb .eq 0 0) = true from by decide]
      dsimp only [cond]
      refine fe_s 1 (pc' := 117) (lc' := [(6, .int 61), (5, .int 0), (4, .int 62), (3, .int 60), (2, .int 10), (0, .ref 0), (1, .ref 22)]) (stk' := [.int 0]) (mem' := fm g tp bt a b) (fun _ _ _ => rfl) ?_
      refine fe_s 1 (pc' := cond (fx_cb .eq 0 0) 122 120) (lc' := [(6, .int 61), (5, .int 0), (4, .int 62), (3, .int 60), (2, .int 10), (0, .ref 0), (1, .ref 22)]) (stk' := []) (mem' := fm g tp bt a b) (fun _ _ _ => rfl) ?_
      rw [show (fx_cb .eq 0 0) = true from by decide]
      dsimp only [cond]
      refine fe_s 4 (pc' := 129) (lc' := [(2, .int (10 + 1)), (6, .int 61), (5, .int 0), (4, .int 62), (3, .int 60), (0, .ref 0), (1, .ref 22)]) (stk' := [.int (62 + 1)]) (mem' := fm g tp bt a b) (fun _ _ _ => rfl) ?_
      rw [show (62 + 1 : Int32) = 63 from rfl]
      rw [show (10 + 1 : Int32) = 11 from rfl]
      refine fe_s 1 (pc' := 130) (lc' := [(3, .int 63), (2, .int 11), (6, .int 61), (5, .int 0), (4, .int 62), (0, .ref 0), (1, .ref 22)]) (stk' := []) (mem' := fm g tp bt a b) (fun _ _ _ => rfl) ?_
      refine fe_s 1 (pc' := fx_to 130 (-116)) (lc' := [(3, .int 63), (2, .int 11), (6, .int 61), (5, .int 0), (4, .int 62), (0, .ref 0), (1, .ref 22)]) (stk' := []) (mem' := fm g tp bt a b) (fun _ _ _ => rfl) ?_
      rw [show fx_to 130 (-116) = 14 from by decide]
      refine fe_w (lc' := [(3, .int 63), (2, .int 11), (0, .ref 0), (1, .ref 22)]) ⟨rfl, rfl, rfl, rfl, trivial⟩ (by show List.Nodup [3, 2, 0, 1]; decide) (by show List.Nodup [3, 2, 6, 5, 4, 0, 1]; decide) ?_
      exact fw_11 hxp
    · rw [e3]
      refine fe_s 1 (pc' := cond (fx_cb .ne 97 (nI n2)) 106 102) (lc' := [(6, .int 60), (5, .int 1), (4, .int 62), (3, .int 60), (2, .int 10), (0, .ref 0), (1, .ref 22)]) (stk' := []) (mem' := fm g tp bt a b) (fun _ _ _ => rfl) ?_
      by_cases h5 : 97 = n2
      · rw [show (fx_cb .ne 97 (nI n2)) = false from cb_neF (a := 97) (b := n2) (by omega) (by omega) (by omega)]
        dsimp only [cond]
        refine fe_s 4 (pc' := 112) (lc' := [(6, .int (60 + 1)), (5, .int 1), (4, .int 62), (3, .int 60), (2, .int 10), (0, .ref 0), (1, .ref 22)]) (stk' := []) (mem' := fm g tp bt a b) (fun _ _ _ => rfl) ?_
        rw [show (60 + 1 : Int32) = 61 from rfl]
        refine fe_s 3 (pc' := 72) (lc' := [(6, .int 61), (5, .int 1), (4, .int 62), (3, .int 60), (2, .int 10), (0, .ref 0), (1, .ref 22)]) (stk' := [.int 62, .int 61]) (mem' := fm g tp bt a b) (fun _ _ _ => rfl) ?_
        refine fe_s 1 (pc' := cond (fx_cb .ge 61 62) 115 75) (lc' := [(6, .int 61), (5, .int 1), (4, .int 62), (3, .int 60), (2, .int 10), (0, .ref 0), (1, .ref 22)]) (stk' := []) (mem' := fm g tp bt a b) (fun _ _ _ => rfl) ?_
        rw [show (fx_cb .ge 61 62) = false from by decide]
        dsimp only [cond]
        refine fe_s 1 (pc' := 77) (lc' := [(6, .int 61), (5, .int 1), (4, .int 62), (3, .int 60), (2, .int 10), (0, .ref 0), (1, .ref 22)]) (stk' := [.int 1]) (mem' := fm g tp bt a b) (fun _ _ _ => rfl) ?_
        refine fe_s 1 (pc' := cond (fx_cb .eq 1 0) 115 80) (lc' := [(6, .int 61), (5, .int 1), (4, .int 62), (3, .int 60), (2, .int 10), (0, .ref 0), (1, .ref 22)]) (stk' := []) (mem' := fm g tp bt a b) (fun _ _ _ => rfl) ?_
        rw [show (fx_cb .eq 1 0) = false from by decide]
        dsimp only [cond]
        refine fe_s 2 (pc' := 83) (lc' := [(6, .int 61), (5, .int 1), (4, .int 62), (3, .int 60), (2, .int 10), (0, .ref 0), (1, .ref 22)]) (stk' := [.int 61, .ref 22]) (mem' := fm g tp bt a b) (fun _ _ _ => rfl) ?_
        refine fe_chr (i := 61) (by omega) (by rfl) (by rfl) ⟨by rfl, by rfl⟩ (by rfl) ?_
        rw [show sk_b.getD 61 0 = 116 from rfl]
        refine fe_s 4 (pc' := 93) (lc' := [(6, .int 61), (5, .int 1), (4, .int 62), (3, .int 60), (2, .int 10), (0, .ref 0), (1, .ref 22)]) (stk' := [.int 61, .int (g 13), .ref 0, .int 116]) (mem' := fm g tp bt a b) (fun _ _ _ => rfl) ?_
        try rw [h13]
        refine fe_s 3 (pc' := 96) (lc' := [(6, .int 61), (5, .int 1), (4, .int 62), (3, .int 60), (2, .int 10), (0, .ref 0), (1, .ref 22)]) (stk' := [.int (((nI F) + 61) - 60), .ref 0, .int 116]) (mem' := fm g tp bt a b) (fun _ _ _ => rfl) ?_
        rw [show (((nI F) + 61) - 60 : Int32) = nI ((F + 61) - 60) from by simp only [show (61 : Int32) = nI 61 from rfl, show (60 : Int32) = nI 60 from rfl, tg_sub2 (x := F + 61) (y := 60) (by omega), nI_add, fm_mul]]
        refine fe_ivV (fr_byteAt (S := S) (k := (F + 61) - 60) (g := g) (tp := tp) (bt := bt) (a := a) (b := b) h11 (by omega) (by omega)) (by omega) (by rfl) (by rfl) (by rfl) (by rfl) (by rfl) (by rfl) ?_
        rcases fm_byte_or a S ((F + 61) - 60) with ⟨e7, q8⟩ | ⟨q8, n6, qn6, e7⟩
        · rw [e7]
          refine fe_s 1 (pc' := cond (fx_cb .ne 116 (-1)) 106 102) (lc' := [(6, .int 61), (5, .int 1), (4, .int 62), (3, .int 60), (2, .int 10), (0, .ref 0), (1, .ref 22)]) (stk' := []) (mem' := fm g tp bt a b) (fun _ _ _ => rfl) ?_
          rw [show (fx_cb .ne 116 (-1)) = true from by decide]
          dsimp only [cond]
          refine fe_s 4 (pc' := 68) (lc' := [(6, .int (61 + 1)), (5, .int 0), (4, .int 62), (3, .int 60), (2, .int 10), (0, .ref 0), (1, .ref 22)]) (stk' := []) (mem' := fm g tp bt a b) (fun _ _ _ => rfl) ?_
          rw [show (61 + 1 : Int32) = 62 from rfl]
          refine fe_s 2 (pc' := 72) (lc' := [(6, .int 62), (5, .int 0), (4, .int 62), (3, .int 60), (2, .int 10), (0, .ref 0), (1, .ref 22)]) (stk' := [.int 62, .int 62]) (mem' := fm g tp bt a b) (fun _ _ _ => rfl) ?_
          refine fe_s 1 (pc' := cond (fx_cb .ge 62 62) 115 75) (lc' := [(6, .int 62), (5, .int 0), (4, .int 62), (3, .int 60), (2, .int 10), (0, .ref 0), (1, .ref 22)]) (stk' := []) (mem' := fm g tp bt a b) (fun _ _ _ => rfl) ?_
          rw [show (fx_cb .ge 62 62) = true from by decide]
          dsimp only [cond]
          refine fe_s 1 (pc' := 117) (lc' := [(6, .int 62), (5, .int 0), (4, .int 62), (3, .int 60), (2, .int 10), (0, .ref 0), (1, .ref 22)]) (stk' := [.int 0]) (mem' := fm g tp bt a b) (fun _ _ _ => rfl) ?_
          refine fe_s 1 (pc' := cond (fx_cb .eq 0 0) 122 120) (lc' := [(6, .int 62), (5, .int 0), (4, .int 62), (3, .int 60), (2, .int 10), (0, .ref 0), (1, .ref 22)]) (stk' := []) (mem' := fm g tp bt a b) (fun _ _ _ => rfl) ?_
          rw [show (fx_cb .eq 0 0) = true from by decide]
          dsimp only [cond]
          refine fe_s 4 (pc' := 129) (lc' := [(2, .int (10 + 1)), (6, .int 62), (5, .int 0), (4, .int 62), (3, .int 60), (0, .ref 0), (1, .ref 22)]) (stk' := [.int (62 + 1)]) (mem' := fm g tp bt a b) (fun _ _ _ => rfl) ?_
          rw [show (62 + 1 : Int32) = 63 from rfl]
          rw [show (10 + 1 : Int32) = 11 from rfl]
          refine fe_s 1 (pc' := 130) (lc' := [(3, .int 63), (2, .int 11), (6, .int 62), (5, .int 0), (4, .int 62), (0, .ref 0), (1, .ref 22)]) (stk' := []) (mem' := fm g tp bt a b) (fun _ _ _ => rfl) ?_
          refine fe_s 1 (pc' := fx_to 130 (-116)) (lc' := [(3, .int 63), (2, .int 11), (6, .int 62), (5, .int 0), (4, .int 62), (0, .ref 0), (1, .ref 22)]) (stk' := []) (mem' := fm g tp bt a b) (fun _ _ _ => rfl) ?_
          rw [show fx_to 130 (-116) = 14 from by decide]
          refine fe_w (lc' := [(3, .int 63), (2, .int 11), (0, .ref 0), (1, .ref 22)]) ⟨rfl, rfl, rfl, rfl, trivial⟩ (by show List.Nodup [3, 2, 0, 1]; decide) (by show List.Nodup [3, 2, 6, 5, 4, 0, 1]; decide) ?_
          exact fw_11 hxp
        · rw [e7]
          refine fe_s 1 (pc' := cond (fx_cb .ne 116 (nI n6)) 106 102) (lc' := [(6, .int 61), (5, .int 1), (4, .int 62), (3, .int 60), (2, .int 10), (0, .ref 0), (1, .ref 22)]) (stk' := []) (mem' := fm g tp bt a b) (fun _ _ _ => rfl) ?_
          by_cases h9 : 116 = n6
          · rw [show (fx_cb .ne 116 (nI n6)) = false from cb_neF (a := 116) (b := n6) (by omega) (by omega) (by omega)]
            dsimp only [cond]
            refine fe_s 4 (pc' := 112) (lc' := [(6, .int (61 + 1)), (5, .int 1), (4, .int 62), (3, .int 60), (2, .int 10), (0, .ref 0), (1, .ref 22)]) (stk' := []) (mem' := fm g tp bt a b) (fun _ _ _ => rfl) ?_
            rw [show (61 + 1 : Int32) = 62 from rfl]
            refine fe_s 3 (pc' := 72) (lc' := [(6, .int 62), (5, .int 1), (4, .int 62), (3, .int 60), (2, .int 10), (0, .ref 0), (1, .ref 22)]) (stk' := [.int 62, .int 62]) (mem' := fm g tp bt a b) (fun _ _ _ => rfl) ?_
            refine fe_s 1 (pc' := cond (fx_cb .ge 62 62) 115 75) (lc' := [(6, .int 62), (5, .int 1), (4, .int 62), (3, .int 60), (2, .int 10), (0, .ref 0), (1, .ref 22)]) (stk' := []) (mem' := fm g tp bt a b) (fun _ _ _ => rfl) ?_
            rw [show (fx_cb .ge 62 62) = true from by decide]
            dsimp only [cond]
            refine fe_s 1 (pc' := 117) (lc' := [(6, .int 62), (5, .int 1), (4, .int 62), (3, .int 60), (2, .int 10), (0, .ref 0), (1, .ref 22)]) (stk' := [.int 1]) (mem' := fm g tp bt a b) (fun _ _ _ => rfl) ?_
            refine fe_s 1 (pc' := cond (fx_cb .eq 1 0) 122 120) (lc' := [(6, .int 62), (5, .int 1), (4, .int 62), (3, .int 60), (2, .int 10), (0, .ref 0), (1, .ref 22)]) (stk' := []) (mem' := fm g tp bt a b) (fun _ _ _ => rfl) ?_
            rw [show (fx_cb .eq 1 0) = false from by decide]
            dsimp only [cond]
            refine fe_s 1 (pc' := 121) (lc' := [(6, .int 62), (5, .int 1), (4, .int 62), (3, .int 60), (2, .int 10), (0, .ref 0), (1, .ref 22)]) (stk' := [.int 10]) (mem' := fm g tp bt a b) (fun _ _ _ => rfl) ?_
            exact fe_ret ⟨_, Or.inr ⟨10, by omega, rfl⟩, rfl⟩ (by rfl) (by rfl) (by rfl)
          · rw [show (fx_cb .ne 116 (nI n6)) = true from cb_neT (a := 116) (b := n6) (by omega) (by omega) (by omega)]
            dsimp only [cond]
            refine fe_s 4 (pc' := 68) (lc' := [(6, .int (61 + 1)), (5, .int 0), (4, .int 62), (3, .int 60), (2, .int 10), (0, .ref 0), (1, .ref 22)]) (stk' := []) (mem' := fm g tp bt a b) (fun _ _ _ => rfl) ?_
            rw [show (61 + 1 : Int32) = 62 from rfl]
            refine fe_s 2 (pc' := 72) (lc' := [(6, .int 62), (5, .int 0), (4, .int 62), (3, .int 60), (2, .int 10), (0, .ref 0), (1, .ref 22)]) (stk' := [.int 62, .int 62]) (mem' := fm g tp bt a b) (fun _ _ _ => rfl) ?_
            refine fe_s 1 (pc' := cond (fx_cb .ge 62 62) 115 75) (lc' := [(6, .int 62), (5, .int 0), (4, .int 62), (3, .int 60), (2, .int 10), (0, .ref 0), (1, .ref 22)]) (stk' := []) (mem' := fm g tp bt a b) (fun _ _ _ => rfl) ?_
            rw [show (fx_cb .ge 62 62) = true from by decide]
            dsimp only [cond]
            refine fe_s 1 (pc' := 117) (lc' := [(6, .int 62), (5, .int 0), (4, .int 62), (3, .int 60), (2, .int 10), (0, .ref 0), (1, .ref 22)]) (stk' := [.int 0]) (mem' := fm g tp bt a b) (fun _ _ _ => rfl) ?_
            refine fe_s 1 (pc' := cond (fx_cb .eq 0 0) 122 120) (lc' := [(6, .int 62), (5, .int 0), (4, .int 62), (3, .int 60), (2, .int 10), (0, .ref 0), (1, .ref 22)]) (stk' := []) (mem' := fm g tp bt a b) (fun _ _ _ => rfl) ?_
            rw [show (fx_cb .eq 0 0) = true from by decide]
            dsimp only [cond]
            refine fe_s 4 (pc' := 129) (lc' := [(2, .int (10 + 1)), (6, .int 62), (5, .int 0), (4, .int 62), (3, .int 60), (0, .ref 0), (1, .ref 22)]) (stk' := [.int (62 + 1)]) (mem' := fm g tp bt a b) (fun _ _ _ => rfl) ?_
            rw [show (62 + 1 : Int32) = 63 from rfl]
            rw [show (10 + 1 : Int32) = 11 from rfl]
            refine fe_s 1 (pc' := 130) (lc' := [(3, .int 63), (2, .int 11), (6, .int 62), (5, .int 0), (4, .int 62), (0, .ref 0), (1, .ref 22)]) (stk' := []) (mem' := fm g tp bt a b) (fun _ _ _ => rfl) ?_
            refine fe_s 1 (pc' := fx_to 130 (-116)) (lc' := [(3, .int 63), (2, .int 11), (6, .int 62), (5, .int 0), (4, .int 62), (0, .ref 0), (1, .ref 22)]) (stk' := []) (mem' := fm g tp bt a b) (fun _ _ _ => rfl) ?_
            rw [show fx_to 130 (-116) = 14 from by decide]
            refine fe_w (lc' := [(3, .int 63), (2, .int 11), (0, .ref 0), (1, .ref 22)]) ⟨rfl, rfl, rfl, rfl, trivial⟩ (by show List.Nodup [3, 2, 0, 1]; decide) (by show List.Nodup [3, 2, 6, 5, 4, 0, 1]; decide) ?_
            exact fw_11 hxp
      · rw [show (fx_cb .ne 97 (nI n2)) = true from cb_neT (a := 97) (b := n2) (by omega) (by omega) (by omega)]
        dsimp only [cond]
        refine fe_s 4 (pc' := 68) (lc' := [(6, .int (60 + 1)), (5, .int 0), (4, .int 62), (3, .int 60), (2, .int 10), (0, .ref 0), (1, .ref 22)]) (stk' := []) (mem' := fm g tp bt a b) (fun _ _ _ => rfl) ?_
        rw [show (60 + 1 : Int32) = 61 from rfl]
        refine fe_s 2 (pc' := 72) (lc' := [(6, .int 61), (5, .int 0), (4, .int 62), (3, .int 60), (2, .int 10), (0, .ref 0), (1, .ref 22)]) (stk' := [.int 62, .int 61]) (mem' := fm g tp bt a b) (fun _ _ _ => rfl) ?_
        refine fe_s 1 (pc' := cond (fx_cb .ge 61 62) 115 75) (lc' := [(6, .int 61), (5, .int 0), (4, .int 62), (3, .int 60), (2, .int 10), (0, .ref 0), (1, .ref 22)]) (stk' := []) (mem' := fm g tp bt a b) (fun _ _ _ => rfl) ?_
        rw [show (fx_cb .ge 61 62) = false from by decide]
        dsimp only [cond]
        refine fe_s 1 (pc' := 77) (lc' := [(6, .int 61), (5, .int 0), (4, .int 62), (3, .int 60), (2, .int 10), (0, .ref 0), (1, .ref 22)]) (stk' := [.int 0]) (mem' := fm g tp bt a b) (fun _ _ _ => rfl) ?_
        refine fe_s 1 (pc' := cond (fx_cb .eq 0 0) 115 80) (lc' := [(6, .int 61), (5, .int 0), (4, .int 62), (3, .int 60), (2, .int 10), (0, .ref 0), (1, .ref 22)]) (stk' := []) (mem' := fm g tp bt a b) (fun _ _ _ => rfl) ?_
        rw [show (fx_cb .eq 0 0) = true from by decide]
        dsimp only [cond]
        refine fe_s 1 (pc' := 117) (lc' := [(6, .int 61), (5, .int 0), (4, .int 62), (3, .int 60), (2, .int 10), (0, .ref 0), (1, .ref 22)]) (stk' := [.int 0]) (mem' := fm g tp bt a b) (fun _ _ _ => rfl) ?_
        refine fe_s 1 (pc' := cond (fx_cb .eq 0 0) 122 120) (lc' := [(6, .int 61), (5, .int 0), (4, .int 62), (3, .int 60), (2, .int 10), (0, .ref 0), (1, .ref 22)]) (stk' := []) (mem' := fm g tp bt a b) (fun _ _ _ => rfl) ?_
        rw [show (fx_cb .eq 0 0) = true from by decide]
        dsimp only [cond]
        refine fe_s 4 (pc' := 129) (lc' := [(2, .int (10 + 1)), (6, .int 61), (5, .int 0), (4, .int 62), (3, .int 60), (0, .ref 0), (1, .ref 22)]) (stk' := [.int (62 + 1)]) (mem' := fm g tp bt a b) (fun _ _ _ => rfl) ?_
        rw [show (62 + 1 : Int32) = 63 from rfl]
        rw [show (10 + 1 : Int32) = 11 from rfl]
        refine fe_s 1 (pc' := 130) (lc' := [(3, .int 63), (2, .int 11), (6, .int 61), (5, .int 0), (4, .int 62), (0, .ref 0), (1, .ref 22)]) (stk' := []) (mem' := fm g tp bt a b) (fun _ _ _ => rfl) ?_
        refine fe_s 1 (pc' := fx_to 130 (-116)) (lc' := [(3, .int 63), (2, .int 11), (6, .int 61), (5, .int 0), (4, .int 62), (0, .ref 0), (1, .ref 22)]) (stk' := []) (mem' := fm g tp bt a b) (fun _ _ _ => rfl) ?_
        rw [show fx_to 130 (-116) = 14 from by decide]
        refine fe_w (lc' := [(3, .int 63), (2, .int 11), (0, .ref 0), (1, .ref 22)]) ⟨rfl, rfl, rfl, rfl, trivial⟩ (by show List.Nodup [3, 2, 0, 1]; decide) (by show List.Nodup [3, 2, 6, 5, 4, 0, 1]; decide) ?_
        exact fw_11 hxp
  · rw [show (fx_cb .ne 2 (nI (E - F))) = true from cb_neT (a := 2) (b := E - F) (by omega) (by omega) (by omega)]
    dsimp only [cond]
    refine fe_s 4 (pc' := 68) (lc' := [(6, .int 60), (5, .int 0), (4, .int 62), (3, .int 60), (2, .int 10), (0, .ref 0), (1, .ref 22)]) (stk' := []) (mem' := fm g tp bt a b) (fun _ _ _ => rfl) ?_
    refine fe_s 2 (pc' := 72) (lc' := [(6, .int 60), (5, .int 0), (4, .int 62), (3, .int 60), (2, .int 10), (0, .ref 0), (1, .ref 22)]) (stk' := [.int 62, .int 60]) (mem' := fm g tp bt a b) (fun _ _ _ => rfl) ?_
    refine fe_s 1 (pc' := cond (fx_cb .ge 60 62) 115 75) (lc' := [(6, .int 60), (5, .int 0), (4, .int 62), (3, .int 60), (2, .int 10), (0, .ref 0), (1, .ref 22)]) (stk' := []) (mem' := fm g tp bt a b) (fun _ _ _ => rfl) ?_
    rw [show (fx_cb .ge 60 62) = false from by decide]
    dsimp only [cond]
    refine fe_s 1 (pc' := 77) (lc' := [(6, .int 60), (5, .int 0), (4, .int 62), (3, .int 60), (2, .int 10), (0, .ref 0), (1, .ref 22)]) (stk' := [.int 0]) (mem' := fm g tp bt a b) (fun _ _ _ => rfl) ?_
    refine fe_s 1 (pc' := cond (fx_cb .eq 0 0) 115 80) (lc' := [(6, .int 60), (5, .int 0), (4, .int 62), (3, .int 60), (2, .int 10), (0, .ref 0), (1, .ref 22)]) (stk' := []) (mem' := fm g tp bt a b) (fun _ _ _ => rfl) ?_
    rw [show (fx_cb .eq 0 0) = true from by decide]
    dsimp only [cond]
    refine fe_s 1 (pc' := 117) (lc' := [(6, .int 60), (5, .int 0), (4, .int 62), (3, .int 60), (2, .int 10), (0, .ref 0), (1, .ref 22)]) (stk' := [.int 0]) (mem' := fm g tp bt a b) (fun _ _ _ => rfl) ?_
    refine fe_s 1 (pc' := cond (fx_cb .eq 0 0) 122 120) (lc' := [(6, .int 60), (5, .int 0), (4, .int 62), (3, .int 60), (2, .int 10), (0, .ref 0), (1, .ref 22)]) (stk' := []) (mem' := fm g tp bt a b) (fun _ _ _ => rfl) ?_
    rw [show (fx_cb .eq 0 0) = true from by decide]
    dsimp only [cond]
    refine fe_s 4 (pc' := 129) (lc' := [(2, .int (10 + 1)), (6, .int 60), (5, .int 0), (4, .int 62), (3, .int 60), (0, .ref 0), (1, .ref 22)]) (stk' := [.int (62 + 1)]) (mem' := fm g tp bt a b) (fun _ _ _ => rfl) ?_
    rw [show (62 + 1 : Int32) = 63 from rfl]
    rw [show (10 + 1 : Int32) = 11 from rfl]
    refine fe_s 1 (pc' := 130) (lc' := [(3, .int 63), (2, .int 11), (6, .int 60), (5, .int 0), (4, .int 62), (0, .ref 0), (1, .ref 22)]) (stk' := []) (mem' := fm g tp bt a b) (fun _ _ _ => rfl) ?_
    refine fe_s 1 (pc' := fx_to 130 (-116)) (lc' := [(3, .int 63), (2, .int 11), (6, .int 60), (5, .int 0), (4, .int 62), (0, .ref 0), (1, .ref 22)]) (stk' := []) (mem' := fm g tp bt a b) (fun _ _ _ => rfl) ?_
    rw [show fx_to 130 (-116) = 14 from by decide]
    refine fe_w (lc' := [(3, .int 63), (2, .int 11), (0, .ref 0), (1, .ref 22)]) ⟨rfl, rfl, rfl, rfl, trivial⟩ (by show List.Nodup [3, 2, 0, 1]; decide) (by show List.Nodup [3, 2, 6, 5, 4, 0, 1]; decide) ?_
    exact fw_11 hxp
theorem fw_9 {S E F : Nat} (hxp : fm_xp g S E F) : fe_R 1 gk_m226 14 [(3, .int 53), (2, .int 9), (0, .ref 0), (1, .ref 22)] [] (fm g tp bt a b) (fm_FI (fm g tp bt a b)) := by
  obtain ⟨h11, hS9, h14, hES, h13, hFE, -, -, -⟩ := id hxp
  refine fe_s 2 (pc' := 16) (lc' := [(3, .int 53), (2, .int 9), (0, .ref 0), (1, .ref 22)]) (stk' := [.ref 22, .int 53]) (mem' := fm g tp bt a b) (fun _ _ _ => rfl) ?_
  refine fe_s 1 (pc' := 19) (lc' := [(3, .int 53), (2, .int 9), (0, .ref 0), (1, .ref 22)]) (stk' := [.int 117, .int 53]) (mem' := fm g tp bt a b) (fun _ _ _ => rfl) ?_
  refine fe_s 1 (pc' := cond (fx_cb .ge 53 117) 133 22) (lc' := [(3, .int 53), (2, .int 9), (0, .ref 0), (1, .ref 22)]) (stk' := []) (mem' := fm g tp bt a b) (fun _ _ _ => rfl) ?_
  rw [show (fx_cb .ge 53 117) = false from by decide]
  dsimp only [cond]
  refine fe_s 4 (pc' := 28) (lc' := [(4, .int 53), (3, .int 53), (2, .int 9), (0, .ref 0), (1, .ref 22)]) (stk' := [.int 53, .ref 22]) (mem' := fm g tp bt a b) (fun _ _ _ => rfl) ?_
  refine fe_chr (i := 53) (by omega) (by rfl) (by rfl) ⟨by rfl, by rfl⟩ (by rfl) ?_
  rw [show sk_b.getD 53 0 = 119 from rfl]
  refine fe_s 1 (pc' := 33) (lc' := [(4, .int 53), (3, .int 53), (2, .int 9), (0, .ref 0), (1, .ref 22)]) (stk' := [.int 32, .int 119]) (mem' := fm g tp bt a b) (fun _ _ _ => rfl) ?_
  refine fe_s 1 (pc' := cond (fx_cb .eq 119 32) 42 36) (lc' := [(4, .int 53), (3, .int 53), (2, .int 9), (0, .ref 0), (1, .ref 22)]) (stk' := []) (mem' := fm g tp bt a b) (fun _ _ _ => rfl) ?_
  rw [show (fx_cb .eq 119 32) = false from by decide]
  dsimp only [cond]
  refine fe_s 4 (pc' := 28) (lc' := [(4, .int (53 + 1)), (3, .int 53), (2, .int 9), (0, .ref 0), (1, .ref 22)]) (stk' := [.int (53 + 1), .ref 22]) (mem' := fm g tp bt a b) (fun _ _ _ => rfl) ?_
  rw [show (53 + 1 : Int32) = 54 from rfl]
  refine fe_chr (i := 54) (by omega) (by rfl) (by rfl) ⟨by rfl, by rfl⟩ (by rfl) ?_
  rw [show sk_b.getD 54 0 = 101 from rfl]
  refine fe_s 1 (pc' := 33) (lc' := [(4, .int 54), (3, .int 53), (2, .int 9), (0, .ref 0), (1, .ref 22)]) (stk' := [.int 32, .int 101]) (mem' := fm g tp bt a b) (fun _ _ _ => rfl) ?_
  refine fe_s 1 (pc' := cond (fx_cb .eq 101 32) 42 36) (lc' := [(4, .int 54), (3, .int 53), (2, .int 9), (0, .ref 0), (1, .ref 22)]) (stk' := []) (mem' := fm g tp bt a b) (fun _ _ _ => rfl) ?_
  rw [show (fx_cb .eq 101 32) = false from by decide]
  dsimp only [cond]
  refine fe_s 4 (pc' := 28) (lc' := [(4, .int (54 + 1)), (3, .int 53), (2, .int 9), (0, .ref 0), (1, .ref 22)]) (stk' := [.int (54 + 1), .ref 22]) (mem' := fm g tp bt a b) (fun _ _ _ => rfl) ?_
  rw [show (54 + 1 : Int32) = 55 from rfl]
  refine fe_chr (i := 55) (by omega) (by rfl) (by rfl) ⟨by rfl, by rfl⟩ (by rfl) ?_
  rw [show sk_b.getD 55 0 = 105 from rfl]
  refine fe_s 1 (pc' := 33) (lc' := [(4, .int 55), (3, .int 53), (2, .int 9), (0, .ref 0), (1, .ref 22)]) (stk' := [.int 32, .int 105]) (mem' := fm g tp bt a b) (fun _ _ _ => rfl) ?_
  refine fe_s 1 (pc' := cond (fx_cb .eq 105 32) 42 36) (lc' := [(4, .int 55), (3, .int 53), (2, .int 9), (0, .ref 0), (1, .ref 22)]) (stk' := []) (mem' := fm g tp bt a b) (fun _ _ _ => rfl) ?_
  rw [show (fx_cb .eq 105 32) = false from by decide]
  dsimp only [cond]
  refine fe_s 4 (pc' := 28) (lc' := [(4, .int (55 + 1)), (3, .int 53), (2, .int 9), (0, .ref 0), (1, .ref 22)]) (stk' := [.int (55 + 1), .ref 22]) (mem' := fm g tp bt a b) (fun _ _ _ => rfl) ?_
  rw [show (55 + 1 : Int32) = 56 from rfl]
  refine fe_chr (i := 56) (by omega) (by rfl) (by rfl) ⟨by rfl, by rfl⟩ (by rfl) ?_
  rw [show sk_b.getD 56 0 = 103 from rfl]
  refine fe_s 1 (pc' := 33) (lc' := [(4, .int 56), (3, .int 53), (2, .int 9), (0, .ref 0), (1, .ref 22)]) (stk' := [.int 32, .int 103]) (mem' := fm g tp bt a b) (fun _ _ _ => rfl) ?_
  refine fe_s 1 (pc' := cond (fx_cb .eq 103 32) 42 36) (lc' := [(4, .int 56), (3, .int 53), (2, .int 9), (0, .ref 0), (1, .ref 22)]) (stk' := []) (mem' := fm g tp bt a b) (fun _ _ _ => rfl) ?_
  rw [show (fx_cb .eq 103 32) = false from by decide]
  dsimp only [cond]
  refine fe_s 4 (pc' := 28) (lc' := [(4, .int (56 + 1)), (3, .int 53), (2, .int 9), (0, .ref 0), (1, .ref 22)]) (stk' := [.int (56 + 1), .ref 22]) (mem' := fm g tp bt a b) (fun _ _ _ => rfl) ?_
  rw [show (56 + 1 : Int32) = 57 from rfl]
  refine fe_chr (i := 57) (by omega) (by rfl) (by rfl) ⟨by rfl, by rfl⟩ (by rfl) ?_
  rw [show sk_b.getD 57 0 = 104 from rfl]
  refine fe_s 1 (pc' := 33) (lc' := [(4, .int 57), (3, .int 53), (2, .int 9), (0, .ref 0), (1, .ref 22)]) (stk' := [.int 32, .int 104]) (mem' := fm g tp bt a b) (fun _ _ _ => rfl) ?_
  refine fe_s 1 (pc' := cond (fx_cb .eq 104 32) 42 36) (lc' := [(4, .int 57), (3, .int 53), (2, .int 9), (0, .ref 0), (1, .ref 22)]) (stk' := []) (mem' := fm g tp bt a b) (fun _ _ _ => rfl) ?_
  rw [show (fx_cb .eq 104 32) = false from by decide]
  dsimp only [cond]
  refine fe_s 4 (pc' := 28) (lc' := [(4, .int (57 + 1)), (3, .int 53), (2, .int 9), (0, .ref 0), (1, .ref 22)]) (stk' := [.int (57 + 1), .ref 22]) (mem' := fm g tp bt a b) (fun _ _ _ => rfl) ?_
  rw [show (57 + 1 : Int32) = 58 from rfl]
  refine fe_chr (i := 58) (by omega) (by rfl) (by rfl) ⟨by rfl, by rfl⟩ (by rfl) ?_
  rw [show sk_b.getD 58 0 = 115 from rfl]
  refine fe_s 1 (pc' := 33) (lc' := [(4, .int 58), (3, .int 53), (2, .int 9), (0, .ref 0), (1, .ref 22)]) (stk' := [.int 32, .int 115]) (mem' := fm g tp bt a b) (fun _ _ _ => rfl) ?_
  refine fe_s 1 (pc' := cond (fx_cb .eq 115 32) 42 36) (lc' := [(4, .int 58), (3, .int 53), (2, .int 9), (0, .ref 0), (1, .ref 22)]) (stk' := []) (mem' := fm g tp bt a b) (fun _ _ _ => rfl) ?_
  rw [show (fx_cb .eq 115 32) = false from by decide]
  dsimp only [cond]
  refine fe_s 4 (pc' := 28) (lc' := [(4, .int (58 + 1)), (3, .int 53), (2, .int 9), (0, .ref 0), (1, .ref 22)]) (stk' := [.int (58 + 1), .ref 22]) (mem' := fm g tp bt a b) (fun _ _ _ => rfl) ?_
  rw [show (58 + 1 : Int32) = 59 from rfl]
  refine fe_chr (i := 59) (by omega) (by rfl) (by rfl) ⟨by rfl, by rfl⟩ (by rfl) ?_
  rw [show sk_b.getD 59 0 = 32 from rfl]
  refine fe_s 1 (pc' := 33) (lc' := [(4, .int 59), (3, .int 53), (2, .int 9), (0, .ref 0), (1, .ref 22)]) (stk' := [.int 32, .int 32]) (mem' := fm g tp bt a b) (fun _ _ _ => rfl) ?_
  refine fe_s 1 (pc' := cond (fx_cb .eq 32 32) 42 36) (lc' := [(4, .int 59), (3, .int 53), (2, .int 9), (0, .ref 0), (1, .ref 22)]) (stk' := []) (mem' := fm g tp bt a b) (fun _ _ _ => rfl) ?_
  rw [show (fx_cb .eq 32 32) = true from by decide]
  dsimp only [cond]
  refine fe_s 4 (pc' := 47) (lc' := [(4, .int 59), (3, .int 53), (2, .int 9), (0, .ref 0), (1, .ref 22)]) (stk' := [.ref 0, .int (59 - 53)]) (mem' := fm g tp bt a b) (fun _ _ _ => rfl) ?_
  rw [show (59 - 53 : Int32) = 6 from rfl]
  refine fe_s 4 (pc' := 55) (lc' := [(4, .int 59), (3, .int 53), (2, .int 9), (0, .ref 0), (1, .ref 22)]) (stk' := [.int ((g 14) - (g 13)), .int 6]) (mem' := fm g tp bt a b) (fun _ _ _ => rfl) ?_
  try rw [h14]
  try rw [h13]
  rw [show ((nI E) - (nI F) : Int32) = nI (E - F) from by simp only [tg_sub2 (x := E) (y := F) (by omega), nI_add, fm_mul]]
  refine fe_s 1 (pc' := cond (fx_cb .ne 6 (nI (E - F))) 62 58) (lc' := [(4, .int 59), (3, .int 53), (2, .int 9), (0, .ref 0), (1, .ref 22)]) (stk' := []) (mem' := fm g tp bt a b) (fun _ _ _ => rfl) ?_
  by_cases h1 : 6 = (E - F)
  · rw [show (fx_cb .ne 6 (nI (E - F))) = false from cb_neF (a := 6) (b := E - F) (by omega) (by omega) (by omega)]
    dsimp only [cond]
    refine fe_s 4 (pc' := 66) (lc' := [(5, .int 1), (4, .int 59), (3, .int 53), (2, .int 9), (0, .ref 0), (1, .ref 22)]) (stk' := [.int 53]) (mem' := fm g tp bt a b) (fun _ _ _ => rfl) ?_
    refine fe_s 3 (pc' := 72) (lc' := [(6, .int 53), (5, .int 1), (4, .int 59), (3, .int 53), (2, .int 9), (0, .ref 0), (1, .ref 22)]) (stk' := [.int 59, .int 53]) (mem' := fm g tp bt a b) (fun _ _ _ => rfl) ?_
    refine fe_s 1 (pc' := cond (fx_cb .ge 53 59) 115 75) (lc' := [(6, .int 53), (5, .int 1), (4, .int 59), (3, .int 53), (2, .int 9), (0, .ref 0), (1, .ref 22)]) (stk' := []) (mem' := fm g tp bt a b) (fun _ _ _ => rfl) ?_
    rw [show (fx_cb .ge 53 59) = false from by decide]
    dsimp only [cond]
    refine fe_s 1 (pc' := 77) (lc' := [(6, .int 53), (5, .int 1), (4, .int 59), (3, .int 53), (2, .int 9), (0, .ref 0), (1, .ref 22)]) (stk' := [.int 1]) (mem' := fm g tp bt a b) (fun _ _ _ => rfl) ?_
    refine fe_s 1 (pc' := cond (fx_cb .eq 1 0) 115 80) (lc' := [(6, .int 53), (5, .int 1), (4, .int 59), (3, .int 53), (2, .int 9), (0, .ref 0), (1, .ref 22)]) (stk' := []) (mem' := fm g tp bt a b) (fun _ _ _ => rfl) ?_
    rw [show (fx_cb .eq 1 0) = false from by decide]
    dsimp only [cond]
    refine fe_s 2 (pc' := 83) (lc' := [(6, .int 53), (5, .int 1), (4, .int 59), (3, .int 53), (2, .int 9), (0, .ref 0), (1, .ref 22)]) (stk' := [.int 53, .ref 22]) (mem' := fm g tp bt a b) (fun _ _ _ => rfl) ?_
    refine fe_chr (i := 53) (by omega) (by rfl) (by rfl) ⟨by rfl, by rfl⟩ (by rfl) ?_
    rw [show sk_b.getD 53 0 = 119 from rfl]
    refine fe_s 4 (pc' := 93) (lc' := [(6, .int 53), (5, .int 1), (4, .int 59), (3, .int 53), (2, .int 9), (0, .ref 0), (1, .ref 22)]) (stk' := [.int 53, .int (g 13), .ref 0, .int 119]) (mem' := fm g tp bt a b) (fun _ _ _ => rfl) ?_
    try rw [h13]
    refine fe_s 3 (pc' := 96) (lc' := [(6, .int 53), (5, .int 1), (4, .int 59), (3, .int 53), (2, .int 9), (0, .ref 0), (1, .ref 22)]) (stk' := [.int (((nI F) + 53) - 53), .ref 0, .int 119]) (mem' := fm g tp bt a b) (fun _ _ _ => rfl) ?_
    rw [show (((nI F) + 53) - 53 : Int32) = nI ((F + 53) - 53) from by simp only [show (53 : Int32) = nI 53 from rfl, tg_sub2 (x := F + 53) (y := 53) (by omega), nI_add, fm_mul]]
    refine fe_ivV (fr_byteAt (S := S) (k := (F + 53) - 53) (g := g) (tp := tp) (bt := bt) (a := a) (b := b) h11 (by omega) (by omega)) (by omega) (by rfl) (by rfl) (by rfl) (by rfl) (by rfl) (by rfl) ?_
    rcases fm_byte_or a S ((F + 53) - 53) with ⟨e3, q4⟩ | ⟨q4, n2, qn2, e3⟩
    · rw [e3]
      refine fe_s 1 (pc' := cond (fx_cb .ne 119 (-1)) 106 102) (lc' := [(6, .int 53), (5, .int 1), (4, .int 59), (3, .int 53), (2, .int 9), (0, .ref 0), (1, .ref 22)]) (stk' := []) (mem' := fm g tp bt a b) (fun _ _ _ => rfl) ?_
      rw [show (fx_cb .ne 119 (-1)) = true from by decide]
      dsimp only [cond]
      refine fe_s 4 (pc' := 68) (lc' := [(6, .int (53 + 1)), (5, .int 0), (4, .int 59), (3, .int 53), (2, .int 9), (0, .ref 0), (1, .ref 22)]) (stk' := []) (mem' := fm g tp bt a b) (fun _ _ _ => rfl) ?_
      rw [show (53 + 1 : Int32) = 54 from rfl]
      refine fe_s 2 (pc' := 72) (lc' := [(6, .int 54), (5, .int 0), (4, .int 59), (3, .int 53), (2, .int 9), (0, .ref 0), (1, .ref 22)]) (stk' := [.int 59, .int 54]) (mem' := fm g tp bt a b) (fun _ _ _ => rfl) ?_
      refine fe_s 1 (pc' := cond (fx_cb .ge 54 59) 115 75) (lc' := [(6, .int 54), (5, .int 0), (4, .int 59), (3, .int 53), (2, .int 9), (0, .ref 0), (1, .ref 22)]) (stk' := []) (mem' := fm g tp bt a b) (fun _ _ _ => rfl) ?_
      rw [show (fx_cb .ge 54 59) = false from by decide]
      dsimp only [cond]
      refine fe_s 1 (pc' := 77) (lc' := [(6, .int 54), (5, .int 0), (4, .int 59), (3, .int 53), (2, .int 9), (0, .ref 0), (1, .ref 22)]) (stk' := [.int 0]) (mem' := fm g tp bt a b) (fun _ _ _ => rfl) ?_
      refine fe_s 1 (pc' := cond (fx_cb .eq 0 0) 115 80) (lc' := [(6, .int 54), (5, .int 0), (4, .int 59), (3, .int 53), (2, .int 9), (0, .ref 0), (1, .ref 22)]) (stk' := []) (mem' := fm g tp bt a b) (fun _ _ _ => rfl) ?_
      rw [show (fx_cb .eq 0 0) = true from by decide]
      dsimp only [cond]
      refine fe_s 1 (pc' := 117) (lc' := [(6, .int 54), (5, .int 0), (4, .int 59), (3, .int 53), (2, .int 9), (0, .ref 0), (1, .ref 22)]) (stk' := [.int 0]) (mem' := fm g tp bt a b) (fun _ _ _ => rfl) ?_
      refine fe_s 1 (pc' := cond (fx_cb .eq 0 0) 122 120) (lc' := [(6, .int 54), (5, .int 0), (4, .int 59), (3, .int 53), (2, .int 9), (0, .ref 0), (1, .ref 22)]) (stk' := []) (mem' := fm g tp bt a b) (fun _ _ _ => rfl) ?_
      rw [show (fx_cb .eq 0 0) = true from by decide]
      dsimp only [cond]
      refine fe_s 4 (pc' := 129) (lc' := [(2, .int (9 + 1)), (6, .int 54), (5, .int 0), (4, .int 59), (3, .int 53), (0, .ref 0), (1, .ref 22)]) (stk' := [.int (59 + 1)]) (mem' := fm g tp bt a b) (fun _ _ _ => rfl) ?_
      rw [show (9 + 1 : Int32) = 10 from rfl]
      rw [show (59 + 1 : Int32) = 60 from rfl]
      refine fe_s 1 (pc' := 130) (lc' := [(3, .int 60), (2, .int 10), (6, .int 54), (5, .int 0), (4, .int 59), (0, .ref 0), (1, .ref 22)]) (stk' := []) (mem' := fm g tp bt a b) (fun _ _ _ => rfl) ?_
      refine fe_s 1 (pc' := fx_to 130 (-116)) (lc' := [(3, .int 60), (2, .int 10), (6, .int 54), (5, .int 0), (4, .int 59), (0, .ref 0), (1, .ref 22)]) (stk' := []) (mem' := fm g tp bt a b) (fun _ _ _ => rfl) ?_
      rw [show fx_to 130 (-116) = 14 from by decide]
      refine fe_w (lc' := [(3, .int 60), (2, .int 10), (0, .ref 0), (1, .ref 22)]) ⟨rfl, rfl, rfl, rfl, trivial⟩ (by show List.Nodup [3, 2, 0, 1]; decide) (by show List.Nodup [3, 2, 6, 5, 4, 0, 1]; decide) ?_
      exact fw_10 hxp
    · rw [e3]
      refine fe_s 1 (pc' := cond (fx_cb .ne 119 (nI n2)) 106 102) (lc' := [(6, .int 53), (5, .int 1), (4, .int 59), (3, .int 53), (2, .int 9), (0, .ref 0), (1, .ref 22)]) (stk' := []) (mem' := fm g tp bt a b) (fun _ _ _ => rfl) ?_
      by_cases h5 : 119 = n2
      · rw [show (fx_cb .ne 119 (nI n2)) = false from cb_neF (a := 119) (b := n2) (by omega) (by omega) (by omega)]
        dsimp only [cond]
        refine fe_s 4 (pc' := 112) (lc' := [(6, .int (53 + 1)), (5, .int 1), (4, .int 59), (3, .int 53), (2, .int 9), (0, .ref 0), (1, .ref 22)]) (stk' := []) (mem' := fm g tp bt a b) (fun _ _ _ => rfl) ?_
        rw [show (53 + 1 : Int32) = 54 from rfl]
        refine fe_s 3 (pc' := 72) (lc' := [(6, .int 54), (5, .int 1), (4, .int 59), (3, .int 53), (2, .int 9), (0, .ref 0), (1, .ref 22)]) (stk' := [.int 59, .int 54]) (mem' := fm g tp bt a b) (fun _ _ _ => rfl) ?_
        refine fe_s 1 (pc' := cond (fx_cb .ge 54 59) 115 75) (lc' := [(6, .int 54), (5, .int 1), (4, .int 59), (3, .int 53), (2, .int 9), (0, .ref 0), (1, .ref 22)]) (stk' := []) (mem' := fm g tp bt a b) (fun _ _ _ => rfl) ?_
        rw [show (fx_cb .ge 54 59) = false from by decide]
        dsimp only [cond]
        refine fe_s 1 (pc' := 77) (lc' := [(6, .int 54), (5, .int 1), (4, .int 59), (3, .int 53), (2, .int 9), (0, .ref 0), (1, .ref 22)]) (stk' := [.int 1]) (mem' := fm g tp bt a b) (fun _ _ _ => rfl) ?_
        refine fe_s 1 (pc' := cond (fx_cb .eq 1 0) 115 80) (lc' := [(6, .int 54), (5, .int 1), (4, .int 59), (3, .int 53), (2, .int 9), (0, .ref 0), (1, .ref 22)]) (stk' := []) (mem' := fm g tp bt a b) (fun _ _ _ => rfl) ?_
        rw [show (fx_cb .eq 1 0) = false from by decide]
        dsimp only [cond]
        refine fe_s 2 (pc' := 83) (lc' := [(6, .int 54), (5, .int 1), (4, .int 59), (3, .int 53), (2, .int 9), (0, .ref 0), (1, .ref 22)]) (stk' := [.int 54, .ref 22]) (mem' := fm g tp bt a b) (fun _ _ _ => rfl) ?_
        refine fe_chr (i := 54) (by omega) (by rfl) (by rfl) ⟨by rfl, by rfl⟩ (by rfl) ?_
        rw [show sk_b.getD 54 0 = 101 from rfl]
        refine fe_s 4 (pc' := 93) (lc' := [(6, .int 54), (5, .int 1), (4, .int 59), (3, .int 53), (2, .int 9), (0, .ref 0), (1, .ref 22)]) (stk' := [.int 54, .int (g 13), .ref 0, .int 101]) (mem' := fm g tp bt a b) (fun _ _ _ => rfl) ?_
        try rw [h13]
        refine fe_s 3 (pc' := 96) (lc' := [(6, .int 54), (5, .int 1), (4, .int 59), (3, .int 53), (2, .int 9), (0, .ref 0), (1, .ref 22)]) (stk' := [.int (((nI F) + 54) - 53), .ref 0, .int 101]) (mem' := fm g tp bt a b) (fun _ _ _ => rfl) ?_
        rw [show (((nI F) + 54) - 53 : Int32) = nI ((F + 54) - 53) from by simp only [show (54 : Int32) = nI 54 from rfl, show (53 : Int32) = nI 53 from rfl, tg_sub2 (x := F + 54) (y := 53) (by omega), nI_add, fm_mul]]
        refine fe_ivV (fr_byteAt (S := S) (k := (F + 54) - 53) (g := g) (tp := tp) (bt := bt) (a := a) (b := b) h11 (by omega) (by omega)) (by omega) (by rfl) (by rfl) (by rfl) (by rfl) (by rfl) (by rfl) ?_
        rcases fm_byte_or a S ((F + 54) - 53) with ⟨e7, q8⟩ | ⟨q8, n6, qn6, e7⟩
        · rw [e7]
          refine fe_s 1 (pc' := cond (fx_cb .ne 101 (-1)) 106 102) (lc' := [(6, .int 54), (5, .int 1), (4, .int 59), (3, .int 53), (2, .int 9), (0, .ref 0), (1, .ref 22)]) (stk' := []) (mem' := fm g tp bt a b) (fun _ _ _ => rfl) ?_
          rw [show (fx_cb .ne 101 (-1)) = true from by decide]
          dsimp only [cond]
          refine fe_s 4 (pc' := 68) (lc' := [(6, .int (54 + 1)), (5, .int 0), (4, .int 59), (3, .int 53), (2, .int 9), (0, .ref 0), (1, .ref 22)]) (stk' := []) (mem' := fm g tp bt a b) (fun _ _ _ => rfl) ?_
          rw [show (54 + 1 : Int32) = 55 from rfl]
          refine fe_s 2 (pc' := 72) (lc' := [(6, .int 55), (5, .int 0), (4, .int 59), (3, .int 53), (2, .int 9), (0, .ref 0), (1, .ref 22)]) (stk' := [.int 59, .int 55]) (mem' := fm g tp bt a b) (fun _ _ _ => rfl) ?_
          refine fe_s 1 (pc' := cond (fx_cb .ge 55 59) 115 75) (lc' := [(6, .int 55), (5, .int 0), (4, .int 59), (3, .int 53), (2, .int 9), (0, .ref 0), (1, .ref 22)]) (stk' := []) (mem' := fm g tp bt a b) (fun _ _ _ => rfl) ?_
          rw [show (fx_cb .ge 55 59) = false from by decide]
          dsimp only [cond]
          refine fe_s 1 (pc' := 77) (lc' := [(6, .int 55), (5, .int 0), (4, .int 59), (3, .int 53), (2, .int 9), (0, .ref 0), (1, .ref 22)]) (stk' := [.int 0]) (mem' := fm g tp bt a b) (fun _ _ _ => rfl) ?_
          refine fe_s 1 (pc' := cond (fx_cb .eq 0 0) 115 80) (lc' := [(6, .int 55), (5, .int 0), (4, .int 59), (3, .int 53), (2, .int 9), (0, .ref 0), (1, .ref 22)]) (stk' := []) (mem' := fm g tp bt a b) (fun _ _ _ => rfl) ?_
          rw [show (fx_cb .eq 0 0) = true from by decide]
          dsimp only [cond]
          refine fe_s 1 (pc' := 117) (lc' := [(6, .int 55), (5, .int 0), (4, .int 59), (3, .int 53), (2, .int 9), (0, .ref 0), (1, .ref 22)]) (stk' := [.int 0]) (mem' := fm g tp bt a b) (fun _ _ _ => rfl) ?_
          refine fe_s 1 (pc' := cond (fx_cb .eq 0 0) 122 120) (lc' := [(6, .int 55), (5, .int 0), (4, .int 59), (3, .int 53), (2, .int 9), (0, .ref 0), (1, .ref 22)]) (stk' := []) (mem' := fm g tp bt a b) (fun _ _ _ => rfl) ?_
          rw [show (fx_cb .eq 0 0) = true from by decide]
          dsimp only [cond]
          refine fe_s 4 (pc' := 129) (lc' := [(2, .int (9 + 1)), (6, .int 55), (5, .int 0), (4, .int 59), (3, .int 53), (0, .ref 0), (1, .ref 22)]) (stk' := [.int (59 + 1)]) (mem' := fm g tp bt a b) (fun _ _ _ => rfl) ?_
          rw [show (9 + 1 : Int32) = 10 from rfl]
          rw [show (59 + 1 : Int32) = 60 from rfl]
          refine fe_s 1 (pc' := 130) (lc' := [(3, .int 60), (2, .int 10), (6, .int 55), (5, .int 0), (4, .int 59), (0, .ref 0), (1, .ref 22)]) (stk' := []) (mem' := fm g tp bt a b) (fun _ _ _ => rfl) ?_
          refine fe_s 1 (pc' := fx_to 130 (-116)) (lc' := [(3, .int 60), (2, .int 10), (6, .int 55), (5, .int 0), (4, .int 59), (0, .ref 0), (1, .ref 22)]) (stk' := []) (mem' := fm g tp bt a b) (fun _ _ _ => rfl) ?_
          rw [show fx_to 130 (-116) = 14 from by decide]
          refine fe_w (lc' := [(3, .int 60), (2, .int 10), (0, .ref 0), (1, .ref 22)]) ⟨rfl, rfl, rfl, rfl, trivial⟩ (by show List.Nodup [3, 2, 0, 1]; decide) (by show List.Nodup [3, 2, 6, 5, 4, 0, 1]; decide) ?_
          exact fw_10 hxp
        · rw [e7]
          refine fe_s 1 (pc' := cond (fx_cb .ne 101 (nI n6)) 106 102) (lc' := [(6, .int 54), (5, .int 1), (4, .int 59), (3, .int 53), (2, .int 9), (0, .ref 0), (1, .ref 22)]) (stk' := []) (mem' := fm g tp bt a b) (fun _ _ _ => rfl) ?_
          by_cases h9 : 101 = n6
          · rw [show (fx_cb .ne 101 (nI n6)) = false from cb_neF (a := 101) (b := n6) (by omega) (by omega) (by omega)]
            dsimp only [cond]
            refine fe_s 4 (pc' := 112) (lc' := [(6, .int (54 + 1)), (5, .int 1), (4, .int 59), (3, .int 53), (2, .int 9), (0, .ref 0), (1, .ref 22)]) (stk' := []) (mem' := fm g tp bt a b) (fun _ _ _ => rfl) ?_
            rw [show (54 + 1 : Int32) = 55 from rfl]
            refine fe_s 3 (pc' := 72) (lc' := [(6, .int 55), (5, .int 1), (4, .int 59), (3, .int 53), (2, .int 9), (0, .ref 0), (1, .ref 22)]) (stk' := [.int 59, .int 55]) (mem' := fm g tp bt a b) (fun _ _ _ => rfl) ?_
            refine fe_s 1 (pc' := cond (fx_cb .ge 55 59) 115 75) (lc' := [(6, .int 55), (5, .int 1), (4, .int 59), (3, .int 53), (2, .int 9), (0, .ref 0), (1, .ref 22)]) (stk' := []) (mem' := fm g tp bt a b) (fun _ _ _ => rfl) ?_
            rw [show (fx_cb .ge 55 59) = false from by decide]
            dsimp only [cond]
            refine fe_s 1 (pc' := 77) (lc' := [(6, .int 55), (5, .int 1), (4, .int 59), (3, .int 53), (2, .int 9), (0, .ref 0), (1, .ref 22)]) (stk' := [.int 1]) (mem' := fm g tp bt a b) (fun _ _ _ => rfl) ?_
            refine fe_s 1 (pc' := cond (fx_cb .eq 1 0) 115 80) (lc' := [(6, .int 55), (5, .int 1), (4, .int 59), (3, .int 53), (2, .int 9), (0, .ref 0), (1, .ref 22)]) (stk' := []) (mem' := fm g tp bt a b) (fun _ _ _ => rfl) ?_
            rw [show (fx_cb .eq 1 0) = false from by decide]
            dsimp only [cond]
            refine fe_s 2 (pc' := 83) (lc' := [(6, .int 55), (5, .int 1), (4, .int 59), (3, .int 53), (2, .int 9), (0, .ref 0), (1, .ref 22)]) (stk' := [.int 55, .ref 22]) (mem' := fm g tp bt a b) (fun _ _ _ => rfl) ?_
            refine fe_chr (i := 55) (by omega) (by rfl) (by rfl) ⟨by rfl, by rfl⟩ (by rfl) ?_
            rw [show sk_b.getD 55 0 = 105 from rfl]
            refine fe_s 4 (pc' := 93) (lc' := [(6, .int 55), (5, .int 1), (4, .int 59), (3, .int 53), (2, .int 9), (0, .ref 0), (1, .ref 22)]) (stk' := [.int 55, .int (g 13), .ref 0, .int 105]) (mem' := fm g tp bt a b) (fun _ _ _ => rfl) ?_
            try rw [h13]
            refine fe_s 3 (pc' := 96) (lc' := [(6, .int 55), (5, .int 1), (4, .int 59), (3, .int 53), (2, .int 9), (0, .ref 0), (1, .ref 22)]) (stk' := [.int (((nI F) + 55) - 53), .ref 0, .int 105]) (mem' := fm g tp bt a b) (fun _ _ _ => rfl) ?_
            rw [show (((nI F) + 55) - 53 : Int32) = nI ((F + 55) - 53) from by simp only [show (55 : Int32) = nI 55 from rfl, show (53 : Int32) = nI 53 from rfl, tg_sub2 (x := F + 55) (y := 53) (by omega), nI_add, fm_mul]]
            refine fe_ivV (fr_byteAt (S := S) (k := (F + 55) - 53) (g := g) (tp := tp) (bt := bt) (a := a) (b := b) h11 (by omega) (by omega)) (by omega) (by rfl) (by rfl) (by rfl) (by rfl) (by rfl) (by rfl) ?_
            rcases fm_byte_or a S ((F + 55) - 53) with ⟨e11, q12⟩ | ⟨q12, n10, qn10, e11⟩
            · rw [e11]
              refine fe_s 1 (pc' := cond (fx_cb .ne 105 (-1)) 106 102) (lc' := [(6, .int 55), (5, .int 1), (4, .int 59), (3, .int 53), (2, .int 9), (0, .ref 0), (1, .ref 22)]) (stk' := []) (mem' := fm g tp bt a b) (fun _ _ _ => rfl) ?_
              rw [show (fx_cb .ne 105 (-1)) = true from by decide]
              dsimp only [cond]
              refine fe_s 4 (pc' := 68) (lc' := [(6, .int (55 + 1)), (5, .int 0), (4, .int 59), (3, .int 53), (2, .int 9), (0, .ref 0), (1, .ref 22)]) (stk' := []) (mem' := fm g tp bt a b) (fun _ _ _ => rfl) ?_
              rw [show (55 + 1 : Int32) = 56 from rfl]
              refine fe_s 2 (pc' := 72) (lc' := [(6, .int 56), (5, .int 0), (4, .int 59), (3, .int 53), (2, .int 9), (0, .ref 0), (1, .ref 22)]) (stk' := [.int 59, .int 56]) (mem' := fm g tp bt a b) (fun _ _ _ => rfl) ?_
              refine fe_s 1 (pc' := cond (fx_cb .ge 56 59) 115 75) (lc' := [(6, .int 56), (5, .int 0), (4, .int 59), (3, .int 53), (2, .int 9), (0, .ref 0), (1, .ref 22)]) (stk' := []) (mem' := fm g tp bt a b) (fun _ _ _ => rfl) ?_
              rw [show (fx_cb .ge 56 59) = false from by decide]
              dsimp only [cond]
              refine fe_s 1 (pc' := 77) (lc' := [(6, .int 56), (5, .int 0), (4, .int 59), (3, .int 53), (2, .int 9), (0, .ref 0), (1, .ref 22)]) (stk' := [.int 0]) (mem' := fm g tp bt a b) (fun _ _ _ => rfl) ?_
              refine fe_s 1 (pc' := cond (fx_cb .eq 0 0) 115 80) (lc' := [(6, .int 56), (5, .int 0), (4, .int 59), (3, .int 53), (2, .int 9), (0, .ref 0), (1, .ref 22)]) (stk' := []) (mem' := fm g tp bt a b) (fun _ _ _ => rfl) ?_
              rw [show (fx_cb .eq 0 0) = true from by decide]
              dsimp only [cond]
              refine fe_s 1 (pc' := 117) (lc' := [(6, .int 56), (5, .int 0), (4, .int 59), (3, .int 53), (2, .int 9), (0, .ref 0), (1, .ref 22)]) (stk' := [.int 0]) (mem' := fm g tp bt a b) (fun _ _ _ => rfl) ?_
              refine fe_s 1 (pc' := cond (fx_cb .eq 0 0) 122 120) (lc' := [(6, .int 56), (5, .int 0), (4, .int 59), (3, .int 53), (2, .int 9), (0, .ref 0), (1, .ref 22)]) (stk' := []) (mem' := fm g tp bt a b) (fun _ _ _ => rfl) ?_
              rw [show (fx_cb .eq 0 0) = true from by decide]
              dsimp only [cond]
              refine fe_s 4 (pc' := 129) (lc' := [(2, .int (9 + 1)), (6, .int 56), (5, .int 0), (4, .int 59), (3, .int 53), (0, .ref 0), (1, .ref 22)]) (stk' := [.int (59 + 1)]) (mem' := fm g tp bt a b) (fun _ _ _ => rfl) ?_
              rw [show (9 + 1 : Int32) = 10 from rfl]
              rw [show (59 + 1 : Int32) = 60 from rfl]
              refine fe_s 1 (pc' := 130) (lc' := [(3, .int 60), (2, .int 10), (6, .int 56), (5, .int 0), (4, .int 59), (0, .ref 0), (1, .ref 22)]) (stk' := []) (mem' := fm g tp bt a b) (fun _ _ _ => rfl) ?_
              refine fe_s 1 (pc' := fx_to 130 (-116)) (lc' := [(3, .int 60), (2, .int 10), (6, .int 56), (5, .int 0), (4, .int 59), (0, .ref 0), (1, .ref 22)]) (stk' := []) (mem' := fm g tp bt a b) (fun _ _ _ => rfl) ?_
              rw [show fx_to 130 (-116) = 14 from by decide]
              refine fe_w (lc' := [(3, .int 60), (2, .int 10), (0, .ref 0), (1, .ref 22)]) ⟨rfl, rfl, rfl, rfl, trivial⟩ (by show List.Nodup [3, 2, 0, 1]; decide) (by show List.Nodup [3, 2, 6, 5, 4, 0, 1]; decide) ?_
              exact fw_10 hxp
            · rw [e11]
              refine fe_s 1 (pc' := cond (fx_cb .ne 105 (nI n10)) 106 102) (lc' := [(6, .int 55), (5, .int 1), (4, .int 59), (3, .int 53), (2, .int 9), (0, .ref 0), (1, .ref 22)]) (stk' := []) (mem' := fm g tp bt a b) (fun _ _ _ => rfl) ?_
              by_cases h13 : 105 = n10
              · rw [show (fx_cb .ne 105 (nI n10)) = false from cb_neF (a := 105) (b := n10) (by omega) (by omega) (by omega)]
                dsimp only [cond]
                refine fe_s 4 (pc' := 112) (lc' := [(6, .int (55 + 1)), (5, .int 1), (4, .int 59), (3, .int 53), (2, .int 9), (0, .ref 0), (1, .ref 22)]) (stk' := []) (mem' := fm g tp bt a b) (fun _ _ _ => rfl) ?_
                rw [show (55 + 1 : Int32) = 56 from rfl]
                refine fe_s 3 (pc' := 72) (lc' := [(6, .int 56), (5, .int 1), (4, .int 59), (3, .int 53), (2, .int 9), (0, .ref 0), (1, .ref 22)]) (stk' := [.int 59, .int 56]) (mem' := fm g tp bt a b) (fun _ _ _ => rfl) ?_
                refine fe_s 1 (pc' := cond (fx_cb .ge 56 59) 115 75) (lc' := [(6, .int 56), (5, .int 1), (4, .int 59), (3, .int 53), (2, .int 9), (0, .ref 0), (1, .ref 22)]) (stk' := []) (mem' := fm g tp bt a b) (fun _ _ _ => rfl) ?_
                rw [show (fx_cb .ge 56 59) = false from by decide]
                dsimp only [cond]
                refine fe_s 1 (pc' := 77) (lc' := [(6, .int 56), (5, .int 1), (4, .int 59), (3, .int 53), (2, .int 9), (0, .ref 0), (1, .ref 22)]) (stk' := [.int 1]) (mem' := fm g tp bt a b) (fun _ _ _ => rfl) ?_
                refine fe_s 1 (pc' := cond (fx_cb .eq 1 0) 115 80) (lc' := [(6, .int 56), (5, .int 1), (4, .int 59), (3, .int 53), (2, .int 9), (0, .ref 0), (1, .ref 22)]) (stk' := []) (mem' := fm g tp bt a b) (fun _ _ _ => rfl) ?_
                rw [show (fx_cb .eq 1 0) = false from by decide]
                dsimp only [cond]
                refine fe_s 2 (pc' := 83) (lc' := [(6, .int 56), (5, .int 1), (4, .int 59), (3, .int 53), (2, .int 9), (0, .ref 0), (1, .ref 22)]) (stk' := [.int 56, .ref 22]) (mem' := fm g tp bt a b) (fun _ _ _ => rfl) ?_
                refine fe_chr (i := 56) (by omega) (by rfl) (by rfl) ⟨by rfl, by rfl⟩ (by rfl) ?_
                rw [show sk_b.getD 56 0 = 103 from rfl]
                refine fe_s 4 (pc' := 93) (lc' := [(6, .int 56), (5, .int 1), (4, .int 59), (3, .int 53), (2, .int 9), (0, .ref 0), (1, .ref 22)]) (stk' := [.int 56, .int (g 13), .ref 0, .int 103]) (mem' := fm g tp bt a b) (fun _ _ _ => rfl) ?_
                try rw [h13]
                refine fe_s 3 (pc' := 96) (lc' := [(6, .int 56), (5, .int 1), (4, .int 59), (3, .int 53), (2, .int 9), (0, .ref 0), (1, .ref 22)]) (stk' := [.int (((nI F) + 56) - 53), .ref 0, .int 103]) (mem' := fm g tp bt a b) (fun _ _ _ => rfl) ?_
                rw [show (((nI F) + 56) - 53 : Int32) = nI ((F + 56) - 53) from by simp only [show (56 : Int32) = nI 56 from rfl, show (53 : Int32) = nI 53 from rfl, tg_sub2 (x := F + 56) (y := 53) (by omega), nI_add, fm_mul]]
                refine fe_ivV (fr_byteAt (S := S) (k := (F + 56) - 53) (g := g) (tp := tp) (bt := bt) (a := a) (b := b) h11 (by omega) (by omega)) (by omega) (by rfl) (by rfl) (by rfl) (by rfl) (by rfl) (by rfl) ?_
                rcases fm_byte_or a S ((F + 56) - 53) with ⟨e15, q16⟩ | ⟨q16, n14, qn14, e15⟩
                · rw [e15]
                  refine fe_s 1 (pc' := cond (fx_cb .ne 103 (-1)) 106 102) (lc' := [(6, .int 56), (5, .int 1), (4, .int 59), (3, .int 53), (2, .int 9), (0, .ref 0), (1, .ref 22)]) (stk' := []) (mem' := fm g tp bt a b) (fun _ _ _ => rfl) ?_
                  rw [show (fx_cb .ne 103 (-1)) = true from by decide]
                  dsimp only [cond]
                  refine fe_s 4 (pc' := 68) (lc' := [(6, .int (56 + 1)), (5, .int 0), (4, .int 59), (3, .int 53), (2, .int 9), (0, .ref 0), (1, .ref 22)]) (stk' := []) (mem' := fm g tp bt a b) (fun _ _ _ => rfl) ?_
                  rw [show (56 + 1 : Int32) = 57 from rfl]
                  refine fe_s 2 (pc' := 72) (lc' := [(6, .int 57), (5, .int 0), (4, .int 59), (3, .int 53), (2, .int 9), (0, .ref 0), (1, .ref 22)]) (stk' := [.int 59, .int 57]) (mem' := fm g tp bt a b) (fun _ _ _ => rfl) ?_
                  refine fe_s 1 (pc' := cond (fx_cb .ge 57 59) 115 75) (lc' := [(6, .int 57), (5, .int 0), (4, .int 59), (3, .int 53), (2, .int 9), (0, .ref 0), (1, .ref 22)]) (stk' := []) (mem' := fm g tp bt a b) (fun _ _ _ => rfl) ?_
                  rw [show (fx_cb .ge 57 59) = false from by decide]
                  dsimp only [cond]
                  refine fe_s 1 (pc' := 77) (lc' := [(6, .int 57), (5, .int 0), (4, .int 59), (3, .int 53), (2, .int 9), (0, .ref 0), (1, .ref 22)]) (stk' := [.int 0]) (mem' := fm g tp bt a b) (fun _ _ _ => rfl) ?_
                  refine fe_s 1 (pc' := cond (fx_cb .eq 0 0) 115 80) (lc' := [(6, .int 57), (5, .int 0), (4, .int 59), (3, .int 53), (2, .int 9), (0, .ref 0), (1, .ref 22)]) (stk' := []) (mem' := fm g tp bt a b) (fun _ _ _ => rfl) ?_
                  rw [show (fx_cb .eq 0 0) = true from by decide]
                  dsimp only [cond]
                  refine fe_s 1 (pc' := 117) (lc' := [(6, .int 57), (5, .int 0), (4, .int 59), (3, .int 53), (2, .int 9), (0, .ref 0), (1, .ref 22)]) (stk' := [.int 0]) (mem' := fm g tp bt a b) (fun _ _ _ => rfl) ?_
                  refine fe_s 1 (pc' := cond (fx_cb .eq 0 0) 122 120) (lc' := [(6, .int 57), (5, .int 0), (4, .int 59), (3, .int 53), (2, .int 9), (0, .ref 0), (1, .ref 22)]) (stk' := []) (mem' := fm g tp bt a b) (fun _ _ _ => rfl) ?_
                  rw [show (fx_cb .eq 0 0) = true from by decide]
                  dsimp only [cond]
                  refine fe_s 4 (pc' := 129) (lc' := [(2, .int (9 + 1)), (6, .int 57), (5, .int 0), (4, .int 59), (3, .int 53), (0, .ref 0), (1, .ref 22)]) (stk' := [.int (59 + 1)]) (mem' := fm g tp bt a b) (fun _ _ _ => rfl) ?_
                  rw [show (9 + 1 : Int32) = 10 from rfl]
                  rw [show (59 + 1 : Int32) = 60 from rfl]
                  refine fe_s 1 (pc' := 130) (lc' := [(3, .int 60), (2, .int 10), (6, .int 57), (5, .int 0), (4, .int 59), (0, .ref 0), (1, .ref 22)]) (stk' := []) (mem' := fm g tp bt a b) (fun _ _ _ => rfl) ?_
                  refine fe_s 1 (pc' := fx_to 130 (-116)) (lc' := [(3, .int 60), (2, .int 10), (6, .int 57), (5, .int 0), (4, .int 59), (0, .ref 0), (1, .ref 22)]) (stk' := []) (mem' := fm g tp bt a b) (fun _ _ _ => rfl) ?_
                  rw [show fx_to 130 (-116) = 14 from by decide]
                  refine fe_w (lc' := [(3, .int 60), (2, .int 10), (0, .ref 0), (1, .ref 22)]) ⟨rfl, rfl, rfl, rfl, trivial⟩ (by show List.Nodup [3, 2, 0, 1]; decide) (by show List.Nodup [3, 2, 6, 5, 4, 0, 1]; decide) ?_
                  exact fw_10 hxp
                · rw [e15]
                  refine fe_s 1 (pc' := cond (fx_cb .ne 103 (nI n14)) 106 102) (lc' := [(6, .int 56), (5, .int 1), (4, .int 59), (3, .int 53), (2, .int 9), (0, .ref 0), (1, .ref 22)]) (stk' := []) (mem' := fm g tp bt a b) (fun _ _ _ => rfl) ?_
                  by_cases h17 : 103 = n14
                  · rw [show (fx_cb .ne 103 (nI n14)) = false from cb_neF (a := 103) (b := n14) (by omega) (by omega) (by omega)]
                    dsimp only [cond]
                    refine fe_s 4 (pc' := 112) (lc' := [(6, .int (56 + 1)), (5, .int 1), (4, .int 59), (3, .int 53), (2, .int 9), (0, .ref 0), (1, .ref 22)]) (stk' := []) (mem' := fm g tp bt a b) (fun _ _ _ => rfl) ?_
                    rw [show (56 + 1 : Int32) = 57 from rfl]
                    refine fe_s 3 (pc' := 72) (lc' := [(6, .int 57), (5, .int 1), (4, .int 59), (3, .int 53), (2, .int 9), (0, .ref 0), (1, .ref 22)]) (stk' := [.int 59, .int 57]) (mem' := fm g tp bt a b) (fun _ _ _ => rfl) ?_
                    refine fe_s 1 (pc' := cond (fx_cb .ge 57 59) 115 75) (lc' := [(6, .int 57), (5, .int 1), (4, .int 59), (3, .int 53), (2, .int 9), (0, .ref 0), (1, .ref 22)]) (stk' := []) (mem' := fm g tp bt a b) (fun _ _ _ => rfl) ?_
                    rw [show (fx_cb .ge 57 59) = false from by decide]
                    dsimp only [cond]
                    refine fe_s 1 (pc' := 77) (lc' := [(6, .int 57), (5, .int 1), (4, .int 59), (3, .int 53), (2, .int 9), (0, .ref 0), (1, .ref 22)]) (stk' := [.int 1]) (mem' := fm g tp bt a b) (fun _ _ _ => rfl) ?_
                    refine fe_s 1 (pc' := cond (fx_cb .eq 1 0) 115 80) (lc' := [(6, .int 57), (5, .int 1), (4, .int 59), (3, .int 53), (2, .int 9), (0, .ref 0), (1, .ref 22)]) (stk' := []) (mem' := fm g tp bt a b) (fun _ _ _ => rfl) ?_
                    rw [show (fx_cb .eq 1 0) = false from by decide]
                    dsimp only [cond]
                    refine fe_s 2 (pc' := 83) (lc' := [(6, .int 57), (5, .int 1), (4, .int 59), (3, .int 53), (2, .int 9), (0, .ref 0), (1, .ref 22)]) (stk' := [.int 57, .ref 22]) (mem' := fm g tp bt a b) (fun _ _ _ => rfl) ?_
                    refine fe_chr (i := 57) (by omega) (by rfl) (by rfl) ⟨by rfl, by rfl⟩ (by rfl) ?_
                    rw [show sk_b.getD 57 0 = 104 from rfl]
                    refine fe_s 4 (pc' := 93) (lc' := [(6, .int 57), (5, .int 1), (4, .int 59), (3, .int 53), (2, .int 9), (0, .ref 0), (1, .ref 22)]) (stk' := [.int 57, .int (g 13), .ref 0, .int 104]) (mem' := fm g tp bt a b) (fun _ _ _ => rfl) ?_
                    try rw [h13]
                    refine fe_s 3 (pc' := 96) (lc' := [(6, .int 57), (5, .int 1), (4, .int 59), (3, .int 53), (2, .int 9), (0, .ref 0), (1, .ref 22)]) (stk' := [.int (((nI F) + 57) - 53), .ref 0, .int 104]) (mem' := fm g tp bt a b) (fun _ _ _ => rfl) ?_
                    rw [show (((nI F) + 57) - 53 : Int32) = nI ((F + 57) - 53) from by simp only [show (57 : Int32) = nI 57 from rfl, show (53 : Int32) = nI 53 from rfl, tg_sub2 (x := F + 57) (y := 53) (by omega), nI_add, fm_mul]]
                    refine fe_ivV (fr_byteAt (S := S) (k := (F + 57) - 53) (g := g) (tp := tp) (bt := bt) (a := a) (b := b) h11 (by omega) (by omega)) (by omega) (by rfl) (by rfl) (by rfl) (by rfl) (by rfl) (by rfl) ?_
                    rcases fm_byte_or a S ((F + 57) - 53) with ⟨e19, q20⟩ | ⟨q20, n18, qn18, e19⟩
                    · rw [e19]
                      refine fe_s 1 (pc' := cond (fx_cb .ne 104 (-1)) 106 102) (lc' := [(6, .int 57), (5, .int 1), (4, .int 59), (3, .int 53), (2, .int 9), (0, .ref 0), (1, .ref 22)]) (stk' := []) (mem' := fm g tp bt a b) (fun _ _ _ => rfl) ?_
                      rw [show (fx_cb .ne 104 (-1)) = true from by decide]
                      dsimp only [cond]
                      refine fe_s 4 (pc' := 68) (lc' := [(6, .int (57 + 1)), (5, .int 0), (4, .int 59), (3, .int 53), (2, .int 9), (0, .ref 0), (1, .ref 22)]) (stk' := []) (mem' := fm g tp bt a b) (fun _ _ _ => rfl) ?_
                      rw [show (57 + 1 : Int32) = 58 from rfl]
                      refine fe_s 2 (pc' := 72) (lc' := [(6, .int 58), (5, .int 0), (4, .int 59), (3, .int 53), (2, .int 9), (0, .ref 0), (1, .ref 22)]) (stk' := [.int 59, .int 58]) (mem' := fm g tp bt a b) (fun _ _ _ => rfl) ?_
                      refine fe_s 1 (pc' := cond (fx_cb .ge 58 59) 115 75) (lc' := [(6, .int 58), (5, .int 0), (4, .int 59), (3, .int 53), (2, .int 9), (0, .ref 0), (1, .ref 22)]) (stk' := []) (mem' := fm g tp bt a b) (fun _ _ _ => rfl) ?_
                      rw [show (fx_cb .ge 58 59) = false from by decide]
                      dsimp only [cond]
                      refine fe_s 1 (pc' := 77) (lc' := [(6, .int 58), (5, .int 0), (4, .int 59), (3, .int 53), (2, .int 9), (0, .ref 0), (1, .ref 22)]) (stk' := [.int 0]) (mem' := fm g tp bt a b) (fun _ _ _ => rfl) ?_
                      refine fe_s 1 (pc' := cond (fx_cb .eq 0 0) 115 80) (lc' := [(6, .int 58), (5, .int 0), (4, .int 59), (3, .int 53), (2, .int 9), (0, .ref 0), (1, .ref 22)]) (stk' := []) (mem' := fm g tp bt a b) (fun _ _ _ => rfl) ?_
                      rw [show (fx_cb .eq 0 0) = true from by decide]
                      dsimp only [cond]
                      refine fe_s 1 (pc' := 117) (lc' := [(6, .int 58), (5, .int 0), (4, .int 59), (3, .int 53), (2, .int 9), (0, .ref 0), (1, .ref 22)]) (stk' := [.int 0]) (mem' := fm g tp bt a b) (fun _ _ _ => rfl) ?_
                      refine fe_s 1 (pc' := cond (fx_cb .eq 0 0) 122 120) (lc' := [(6, .int 58), (5, .int 0), (4, .int 59), (3, .int 53), (2, .int 9), (0, .ref 0), (1, .ref 22)]) (stk' := []) (mem' := fm g tp bt a b) (fun _ _ _ => rfl) ?_
                      rw [show (fx_cb .eq 0 0) = true from by decide]
                      dsimp only [cond]
                      refine fe_s 4 (pc' := 129) (lc' := [(2, .int (9 + 1)), (6, .int 58), (5, .int 0), (4, .int 59), (3, .int 53), (0, .ref 0), (1, .ref 22)]) (stk' := [.int (59 + 1)]) (mem' := fm g tp bt a b) (fun _ _ _ => rfl) ?_
                      rw [show (9 + 1 : Int32) = 10 from rfl]
                      rw [show (59 + 1 : Int32) = 60 from rfl]
                      refine fe_s 1 (pc' := 130) (lc' := [(3, .int 60), (2, .int 10), (6, .int 58), (5, .int 0), (4, .int 59), (0, .ref 0), (1, .ref 22)]) (stk' := []) (mem' := fm g tp bt a b) (fun _ _ _ => rfl) ?_
                      refine fe_s 1 (pc' := fx_to 130 (-116)) (lc' := [(3, .int 60), (2, .int 10), (6, .int 58), (5, .int 0), (4, .int 59), (0, .ref 0), (1, .ref 22)]) (stk' := []) (mem' := fm g tp bt a b) (fun _ _ _ => rfl) ?_
                      rw [show fx_to 130 (-116) = 14 from by decide]
                      refine fe_w (lc' := [(3, .int 60), (2, .int 10), (0, .ref 0), (1, .ref 22)]) ⟨rfl, rfl, rfl, rfl, trivial⟩ (by show List.Nodup [3, 2, 0, 1]; decide) (by show List.Nodup [3, 2, 6, 5, 4, 0, 1]; decide) ?_
                      exact fw_10 hxp
                    · rw [e19]
                      refine fe_s 1 (pc' := cond (fx_cb .ne 104 (nI n18)) 106 102) (lc' := [(6, .int 57), (5, .int 1), (4, .int 59), (3, .int 53), (2, .int 9), (0, .ref 0), (1, .ref 22)]) (stk' := []) (mem' := fm g tp bt a b) (fun _ _ _ => rfl) ?_
                      by_cases h21 : 104 = n18
                      · rw [show (fx_cb .ne 104 (nI n18)) = false from cb_neF (a := 104) (b := n18) (by omega) (by omega) (by omega)]
                        dsimp only [cond]
                        refine fe_s 4 (pc' := 112) (lc' := [(6, .int (57 + 1)), (5, .int 1), (4, .int 59), (3, .int 53), (2, .int 9), (0, .ref 0), (1, .ref 22)]) (stk' := []) (mem' := fm g tp bt a b) (fun _ _ _ => rfl) ?_
                        rw [show (57 + 1 : Int32) = 58 from rfl]
                        refine fe_s 3 (pc' := 72) (lc' := [(6, .int 58), (5, .int 1), (4, .int 59), (3, .int 53), (2, .int 9), (0, .ref 0), (1, .ref 22)]) (stk' := [.int 59, .int 58]) (mem' := fm g tp bt a b) (fun _ _ _ => rfl) ?_
                        refine fe_s 1 (pc' := cond (fx_cb .ge 58 59) 115 75) (lc' := [(6, .int 58), (5, .int 1), (4, .int 59), (3, .int 53), (2, .int 9), (0, .ref 0), (1, .ref 22)]) (stk' := []) (mem' := fm g tp bt a b) (fun _ _ _ => rfl) ?_
                        rw [show (fx_cb .ge 58 59) = false from by decide]
                        dsimp only [cond]
                        refine fe_s 1 (pc' := 77) (lc' := [(6, .int 58), (5, .int 1), (4, .int 59), (3, .int 53), (2, .int 9), (0, .ref 0), (1, .ref 22)]) (stk' := [.int 1]) (mem' := fm g tp bt a b) (fun _ _ _ => rfl) ?_
                        refine fe_s 1 (pc' := cond (fx_cb .eq 1 0) 115 80) (lc' := [(6, .int 58), (5, .int 1), (4, .int 59), (3, .int 53), (2, .int 9), (0, .ref 0), (1, .ref 22)]) (stk' := []) (mem' := fm g tp bt a b) (fun _ _ _ => rfl) ?_
                        rw [show (fx_cb .eq 1 0) = false from by decide]
                        dsimp only [cond]
                        refine fe_s 2 (pc' := 83) (lc' := [(6, .int 58), (5, .int 1), (4, .int 59), (3, .int 53), (2, .int 9), (0, .ref 0), (1, .ref 22)]) (stk' := [.int 58, .ref 22]) (mem' := fm g tp bt a b) (fun _ _ _ => rfl) ?_
                        refine fe_chr (i := 58) (by omega) (by rfl) (by rfl) ⟨by rfl, by rfl⟩ (by rfl) ?_
                        rw [show sk_b.getD 58 0 = 115 from rfl]
                        refine fe_s 4 (pc' := 93) (lc' := [(6, .int 58), (5, .int 1), (4, .int 59), (3, .int 53), (2, .int 9), (0, .ref 0), (1, .ref 22)]) (stk' := [.int 58, .int (g 13), .ref 0, .int 115]) (mem' := fm g tp bt a b) (fun _ _ _ => rfl) ?_
                        try rw [h13]
                        refine fe_s 3 (pc' := 96) (lc' := [(6, .int 58), (5, .int 1), (4, .int 59), (3, .int 53), (2, .int 9), (0, .ref 0), (1, .ref 22)]) (stk' := [.int (((nI F) + 58) - 53), .ref 0, .int 115]) (mem' := fm g tp bt a b) (fun _ _ _ => rfl) ?_
                        rw [show (((nI F) + 58) - 53 : Int32) = nI ((F + 58) - 53) from by simp only [show (58 : Int32) = nI 58 from rfl, show (53 : Int32) = nI 53 from rfl, tg_sub2 (x := F + 58) (y := 53) (by omega), nI_add, fm_mul]]
                        refine fe_ivV (fr_byteAt (S := S) (k := (F + 58) - 53) (g := g) (tp := tp) (bt := bt) (a := a) (b := b) h11 (by omega) (by omega)) (by omega) (by rfl) (by rfl) (by rfl) (by rfl) (by rfl) (by rfl) ?_
                        rcases fm_byte_or a S ((F + 58) - 53) with ⟨e23, q24⟩ | ⟨q24, n22, qn22, e23⟩
                        · rw [e23]
                          refine fe_s 1 (pc' := cond (fx_cb .ne 115 (-1)) 106 102) (lc' := [(6, .int 58), (5, .int 1), (4, .int 59), (3, .int 53), (2, .int 9), (0, .ref 0), (1, .ref 22)]) (stk' := []) (mem' := fm g tp bt a b) (fun _ _ _ => rfl) ?_
                          rw [show (fx_cb .ne 115 (-1)) = true from by decide]
                          dsimp only [cond]
                          refine fe_s 4 (pc' := 68) (lc' := [(6, .int (58 + 1)), (5, .int 0), (4, .int 59), (3, .int 53), (2, .int 9), (0, .ref 0), (1, .ref 22)]) (stk' := []) (mem' := fm g tp bt a b) (fun _ _ _ => rfl) ?_
                          rw [show (58 + 1 : Int32) = 59 from rfl]
                          refine fe_s 2 (pc' := 72) (lc' := [(6, .int 59), (5, .int 0), (4, .int 59), (3, .int 53), (2, .int 9), (0, .ref 0), (1, .ref 22)]) (stk' := [.int 59, .int 59]) (mem' := fm g tp bt a b) (fun _ _ _ => rfl) ?_
                          refine fe_s 1 (pc' := cond (fx_cb .ge 59 59) 115 75) (lc' := [(6, .int 59), (5, .int 0), (4, .int 59), (3, .int 53), (2, .int 9), (0, .ref 0), (1, .ref 22)]) (stk' := []) (mem' := fm g tp bt a b) (fun _ _ _ => rfl) ?_
                          rw [show (fx_cb .ge 59 59) = true from by decide]
                          dsimp only [cond]
                          refine fe_s 1 (pc' := 117) (lc' := [(6, .int 59), (5, .int 0), (4, .int 59), (3, .int 53), (2, .int 9), (0, .ref 0), (1, .ref 22)]) (stk' := [.int 0]) (mem' := fm g tp bt a b) (fun _ _ _ => rfl) ?_
                          refine fe_s 1 (pc' := cond (fx_cb .eq 0 0) 122 120) (lc' := [(6, .int 59), (5, .int 0), (4, .int 59), (3, .int 53), (2, .int 9), (0, .ref 0), (1, .ref 22)]) (stk' := []) (mem' := fm g tp bt a b) (fun _ _ _ => rfl) ?_
                          rw [show (fx_cb .eq 0 0) = true from by decide]
                          dsimp only [cond]
                          refine fe_s 4 (pc' := 129) (lc' := [(2, .int (9 + 1)), (6, .int 59), (5, .int 0), (4, .int 59), (3, .int 53), (0, .ref 0), (1, .ref 22)]) (stk' := [.int (59 + 1)]) (mem' := fm g tp bt a b) (fun _ _ _ => rfl) ?_
                          rw [show (9 + 1 : Int32) = 10 from rfl]
                          rw [show (59 + 1 : Int32) = 60 from rfl]
                          refine fe_s 1 (pc' := 130) (lc' := [(3, .int 60), (2, .int 10), (6, .int 59), (5, .int 0), (4, .int 59), (0, .ref 0), (1, .ref 22)]) (stk' := []) (mem' := fm g tp bt a b) (fun _ _ _ => rfl) ?_
                          refine fe_s 1 (pc' := fx_to 130 (-116)) (lc' := [(3, .int 60), (2, .int 10), (6, .int 59), (5, .int 0), (4, .int 59), (0, .ref 0), (1, .ref 22)]) (stk' := []) (mem' := fm g tp bt a b) (fun _ _ _ => rfl) ?_
                          rw [show fx_to 130 (-116) = 14 from by decide]
                          refine fe_w (lc' := [(3, .int 60), (2, .int 10), (0, .ref 0), (1, .ref 22)]) ⟨rfl, rfl, rfl, rfl, trivial⟩ (by show List.Nodup [3, 2, 0, 1]; decide) (by show List.Nodup [3, 2, 6, 5, 4, 0, 1]; decide) ?_
                          exact fw_10 hxp
                        · rw [e23]
                          refine fe_s 1 (pc' := cond (fx_cb .ne 115 (nI n22)) 106 102) (lc' := [(6, .int 58), (5, .int 1), (4, .int 59), (3, .int 53), (2, .int 9), (0, .ref 0), (1, .ref 22)]) (stk' := []) (mem' := fm g tp bt a b) (fun _ _ _ => rfl) ?_
                          by_cases h25 : 115 = n22
                          · rw [show (fx_cb .ne 115 (nI n22)) = false from cb_neF (a := 115) (b := n22) (by omega) (by omega) (by omega)]
                            dsimp only [cond]
                            refine fe_s 4 (pc' := 112) (lc' := [(6, .int (58 + 1)), (5, .int 1), (4, .int 59), (3, .int 53), (2, .int 9), (0, .ref 0), (1, .ref 22)]) (stk' := []) (mem' := fm g tp bt a b) (fun _ _ _ => rfl) ?_
                            rw [show (58 + 1 : Int32) = 59 from rfl]
                            refine fe_s 3 (pc' := 72) (lc' := [(6, .int 59), (5, .int 1), (4, .int 59), (3, .int 53), (2, .int 9), (0, .ref 0), (1, .ref 22)]) (stk' := [.int 59, .int 59]) (mem' := fm g tp bt a b) (fun _ _ _ => rfl) ?_
                            refine fe_s 1 (pc' := cond (fx_cb .ge 59 59) 115 75) (lc' := [(6, .int 59), (5, .int 1), (4, .int 59), (3, .int 53), (2, .int 9), (0, .ref 0), (1, .ref 22)]) (stk' := []) (mem' := fm g tp bt a b) (fun _ _ _ => rfl) ?_
                            rw [show (fx_cb .ge 59 59) = true from by decide]
                            dsimp only [cond]
                            refine fe_s 1 (pc' := 117) (lc' := [(6, .int 59), (5, .int 1), (4, .int 59), (3, .int 53), (2, .int 9), (0, .ref 0), (1, .ref 22)]) (stk' := [.int 1]) (mem' := fm g tp bt a b) (fun _ _ _ => rfl) ?_
                            refine fe_s 1 (pc' := cond (fx_cb .eq 1 0) 122 120) (lc' := [(6, .int 59), (5, .int 1), (4, .int 59), (3, .int 53), (2, .int 9), (0, .ref 0), (1, .ref 22)]) (stk' := []) (mem' := fm g tp bt a b) (fun _ _ _ => rfl) ?_
                            rw [show (fx_cb .eq 1 0) = false from by decide]
                            dsimp only [cond]
                            refine fe_s 1 (pc' := 121) (lc' := [(6, .int 59), (5, .int 1), (4, .int 59), (3, .int 53), (2, .int 9), (0, .ref 0), (1, .ref 22)]) (stk' := [.int 9]) (mem' := fm g tp bt a b) (fun _ _ _ => rfl) ?_
                            exact fe_ret ⟨_, Or.inr ⟨9, by omega, rfl⟩, rfl⟩ (by rfl) (by rfl) (by rfl)
                          · rw [show (fx_cb .ne 115 (nI n22)) = true from cb_neT (a := 115) (b := n22) (by omega) (by omega) (by omega)]
                            dsimp only [cond]
                            refine fe_s 4 (pc' := 68) (lc' := [(6, .int (58 + 1)), (5, .int 0), (4, .int 59), (3, .int 53), (2, .int 9), (0, .ref 0), (1, .ref 22)]) (stk' := []) (mem' := fm g tp bt a b) (fun _ _ _ => rfl) ?_
                            rw [show (58 + 1 : Int32) = 59 from rfl]
                            refine fe_s 2 (pc' := 72) (lc' := [(6, .int 59), (5, .int 0), (4, .int 59), (3, .int 53), (2, .int 9), (0, .ref 0), (1, .ref 22)]) (stk' := [.int 59, .int 59]) (mem' := fm g tp bt a b) (fun _ _ _ => rfl) ?_
                            refine fe_s 1 (pc' := cond (fx_cb .ge 59 59) 115 75) (lc' := [(6, .int 59), (5, .int 0), (4, .int 59), (3, .int 53), (2, .int 9), (0, .ref 0), (1, .ref 22)]) (stk' := []) (mem' := fm g tp bt a b) (fun _ _ _ => rfl) ?_
                            rw [show (fx_cb .ge 59 59) = true from by decide]
                            dsimp only [cond]
                            refine fe_s 1 (pc' := 117) (lc' := [(6, .int 59), (5, .int 0), (4, .int 59), (3, .int 53), (2, .int 9), (0, .ref 0), (1, .ref 22)]) (stk' := [.int 0]) (mem' := fm g tp bt a b) (fun _ _ _ => rfl) ?_
                            refine fe_s 1 (pc' := cond (fx_cb .eq 0 0) 122 120) (lc' := [(6, .int 59), (5, .int 0), (4, .int 59), (3, .int 53), (2, .int 9), (0, .ref 0), (1, .ref 22)]) (stk' := []) (mem' := fm g tp bt a b) (fun _ _ _ => rfl) ?_
                            rw [show (fx_cb .eq 0 0) = true from by decide]
                            dsimp only [cond]
                            refine fe_s 4 (pc' := 129) (lc' := [(2, .int (9 + 1)), (6, .int 59), (5, .int 0), (4, .int 59), (3, .int 53), (0, .ref 0), (1, .ref 22)]) (stk' := [.int (59 + 1)]) (mem' := fm g tp bt a b) (fun _ _ _ => rfl) ?_
                            rw [show (9 + 1 : Int32) = 10 from rfl]
                            rw [show (59 + 1 : Int32) = 60 from rfl]
                            refine fe_s 1 (pc' := 130) (lc' := [(3, .int 60), (2, .int 10), (6, .int 59), (5, .int 0), (4, .int 59), (0, .ref 0), (1, .ref 22)]) (stk' := []) (mem' := fm g tp bt a b) (fun _ _ _ => rfl) ?_
                            refine fe_s 1 (pc' := fx_to 130 (-116)) (lc' := [(3, .int 60), (2, .int 10), (6, .int 59), (5, .int 0), (4, .int 59), (0, .ref 0), (1, .ref 22)]) (stk' := []) (mem' := fm g tp bt a b) (fun _ _ _ => rfl) ?_
                            rw [show fx_to 130 (-116) = 14 from by decide]
                            refine fe_w (lc' := [(3, .int 60), (2, .int 10), (0, .ref 0), (1, .ref 22)]) ⟨rfl, rfl, rfl, rfl, trivial⟩ (by show List.Nodup [3, 2, 0, 1]; decide) (by show List.Nodup [3, 2, 6, 5, 4, 0, 1]; decide) ?_
                            exact fw_10 hxp
                      · rw [show (fx_cb .ne 104 (nI n18)) = true from cb_neT (a := 104) (b := n18) (by omega) (by omega) (by omega)]
                        dsimp only [cond]
                        refine fe_s 4 (pc' := 68) (lc' := [(6, .int (57 + 1)), (5, .int 0), (4, .int 59), (3, .int 53), (2, .int 9), (0, .ref 0), (1, .ref 22)]) (stk' := []) (mem' := fm g tp bt a b) (fun _ _ _ => rfl) ?_
                        rw [show (57 + 1 : Int32) = 58 from rfl]
                        refine fe_s 2 (pc' := 72) (lc' := [(6, .int 58), (5, .int 0), (4, .int 59), (3, .int 53), (2, .int 9), (0, .ref 0), (1, .ref 22)]) (stk' := [.int 59, .int 58]) (mem' := fm g tp bt a b) (fun _ _ _ => rfl) ?_
                        refine fe_s 1 (pc' := cond (fx_cb .ge 58 59) 115 75) (lc' := [(6, .int 58), (5, .int 0), (4, .int 59), (3, .int 53), (2, .int 9), (0, .ref 0), (1, .ref 22)]) (stk' := []) (mem' := fm g tp bt a b) (fun _ _ _ => rfl) ?_
                        rw [show (fx_cb .ge 58 59) = false from by decide]
                        dsimp only [cond]
                        refine fe_s 1 (pc' := 77) (lc' := [(6, .int 58), (5, .int 0), (4, .int 59), (3, .int 53), (2, .int 9), (0, .ref 0), (1, .ref 22)]) (stk' := [.int 0]) (mem' := fm g tp bt a b) (fun _ _ _ => rfl) ?_
                        refine fe_s 1 (pc' := cond (fx_cb .eq 0 0) 115 80) (lc' := [(6, .int 58), (5, .int 0), (4, .int 59), (3, .int 53), (2, .int 9), (0, .ref 0), (1, .ref 22)]) (stk' := []) (mem' := fm g tp bt a b) (fun _ _ _ => rfl) ?_
                        rw [show (fx_cb .eq 0 0) = true from by decide]
                        dsimp only [cond]
                        refine fe_s 1 (pc' := 117) (lc' := [(6, .int 58), (5, .int 0), (4, .int 59), (3, .int 53), (2, .int 9), (0, .ref 0), (1, .ref 22)]) (stk' := [.int 0]) (mem' := fm g tp bt a b) (fun _ _ _ => rfl) ?_
                        refine fe_s 1 (pc' := cond (fx_cb .eq 0 0) 122 120) (lc' := [(6, .int 58), (5, .int 0), (4, .int 59), (3, .int 53), (2, .int 9), (0, .ref 0), (1, .ref 22)]) (stk' := []) (mem' := fm g tp bt a b) (fun _ _ _ => rfl) ?_
                        rw [show (fx_cb .eq 0 0) = true from by decide]
                        dsimp only [cond]
                        refine fe_s 4 (pc' := 129) (lc' := [(2, .int (9 + 1)), (6, .int 58), (5, .int 0), (4, .int 59), (3, .int 53), (0, .ref 0), (1, .ref 22)]) (stk' := [.int (59 + 1)]) (mem' := fm g tp bt a b) (fun _ _ _ => rfl) ?_
                        rw [show (9 + 1 : Int32) = 10 from rfl]
                        rw [show (59 + 1 : Int32) = 60 from rfl]
                        refine fe_s 1 (pc' := 130) (lc' := [(3, .int 60), (2, .int 10), (6, .int 58), (5, .int 0), (4, .int 59), (0, .ref 0), (1, .ref 22)]) (stk' := []) (mem' := fm g tp bt a b) (fun _ _ _ => rfl) ?_
                        refine fe_s 1 (pc' := fx_to 130 (-116)) (lc' := [(3, .int 60), (2, .int 10), (6, .int 58), (5, .int 0), (4, .int 59), (0, .ref 0), (1, .ref 22)]) (stk' := []) (mem' := fm g tp bt a b) (fun _ _ _ => rfl) ?_
                        rw [show fx_to 130 (-116) = 14 from by decide]
                        refine fe_w (lc' := [(3, .int 60), (2, .int 10), (0, .ref 0), (1, .ref 22)]) ⟨rfl, rfl, rfl, rfl, trivial⟩ (by show List.Nodup [3, 2, 0, 1]; decide) (by show List.Nodup [3, 2, 6, 5, 4, 0, 1]; decide) ?_
                        exact fw_10 hxp
                  · rw [show (fx_cb .ne 103 (nI n14)) = true from cb_neT (a := 103) (b := n14) (by omega) (by omega) (by omega)]
                    dsimp only [cond]
                    refine fe_s 4 (pc' := 68) (lc' := [(6, .int (56 + 1)), (5, .int 0), (4, .int 59), (3, .int 53), (2, .int 9), (0, .ref 0), (1, .ref 22)]) (stk' := []) (mem' := fm g tp bt a b) (fun _ _ _ => rfl) ?_
                    rw [show (56 + 1 : Int32) = 57 from rfl]
                    refine fe_s 2 (pc' := 72) (lc' := [(6, .int 57), (5, .int 0), (4, .int 59), (3, .int 53), (2, .int 9), (0, .ref 0), (1, .ref 22)]) (stk' := [.int 59, .int 57]) (mem' := fm g tp bt a b) (fun _ _ _ => rfl) ?_
                    refine fe_s 1 (pc' := cond (fx_cb .ge 57 59) 115 75) (lc' := [(6, .int 57), (5, .int 0), (4, .int 59), (3, .int 53), (2, .int 9), (0, .ref 0), (1, .ref 22)]) (stk' := []) (mem' := fm g tp bt a b) (fun _ _ _ => rfl) ?_
                    rw [show (fx_cb .ge 57 59) = false from by decide]
                    dsimp only [cond]
                    refine fe_s 1 (pc' := 77) (lc' := [(6, .int 57), (5, .int 0), (4, .int 59), (3, .int 53), (2, .int 9), (0, .ref 0), (1, .ref 22)]) (stk' := [.int 0]) (mem' := fm g tp bt a b) (fun _ _ _ => rfl) ?_
                    refine fe_s 1 (pc' := cond (fx_cb .eq 0 0) 115 80) (lc' := [(6, .int 57), (5, .int 0), (4, .int 59), (3, .int 53), (2, .int 9), (0, .ref 0), (1, .ref 22)]) (stk' := []) (mem' := fm g tp bt a b) (fun _ _ _ => rfl) ?_
                    rw [show (fx_cb .eq 0 0) = true from by decide]
                    dsimp only [cond]
                    refine fe_s 1 (pc' := 117) (lc' := [(6, .int 57), (5, .int 0), (4, .int 59), (3, .int 53), (2, .int 9), (0, .ref 0), (1, .ref 22)]) (stk' := [.int 0]) (mem' := fm g tp bt a b) (fun _ _ _ => rfl) ?_
                    refine fe_s 1 (pc' := cond (fx_cb .eq 0 0) 122 120) (lc' := [(6, .int 57), (5, .int 0), (4, .int 59), (3, .int 53), (2, .int 9), (0, .ref 0), (1, .ref 22)]) (stk' := []) (mem' := fm g tp bt a b) (fun _ _ _ => rfl) ?_
                    rw [show (fx_cb .eq 0 0) = true from by decide]
                    dsimp only [cond]
                    refine fe_s 4 (pc' := 129) (lc' := [(2, .int (9 + 1)), (6, .int 57), (5, .int 0), (4, .int 59), (3, .int 53), (0, .ref 0), (1, .ref 22)]) (stk' := [.int (59 + 1)]) (mem' := fm g tp bt a b) (fun _ _ _ => rfl) ?_
                    rw [show (9 + 1 : Int32) = 10 from rfl]
                    rw [show (59 + 1 : Int32) = 60 from rfl]
                    refine fe_s 1 (pc' := 130) (lc' := [(3, .int 60), (2, .int 10), (6, .int 57), (5, .int 0), (4, .int 59), (0, .ref 0), (1, .ref 22)]) (stk' := []) (mem' := fm g tp bt a b) (fun _ _ _ => rfl) ?_
                    refine fe_s 1 (pc' := fx_to 130 (-116)) (lc' := [(3, .int 60), (2, .int 10), (6, .int 57), (5, .int 0), (4, .int 59), (0, .ref 0), (1, .ref 22)]) (stk' := []) (mem' := fm g tp bt a b) (fun _ _ _ => rfl) ?_
                    rw [show fx_to 130 (-116) = 14 from by decide]
                    refine fe_w (lc' := [(3, .int 60), (2, .int 10), (0, .ref 0), (1, .ref 22)]) ⟨rfl, rfl, rfl, rfl, trivial⟩ (by show List.Nodup [3, 2, 0, 1]; decide) (by show List.Nodup [3, 2, 6, 5, 4, 0, 1]; decide) ?_
                    exact fw_10 hxp
              · rw [show (fx_cb .ne 105 (nI n10)) = true from cb_neT (a := 105) (b := n10) (by omega) (by omega) (by omega)]
                dsimp only [cond]
                refine fe_s 4 (pc' := 68) (lc' := [(6, .int (55 + 1)), (5, .int 0), (4, .int 59), (3, .int 53), (2, .int 9), (0, .ref 0), (1, .ref 22)]) (stk' := []) (mem' := fm g tp bt a b) (fun _ _ _ => rfl) ?_
                rw [show (55 + 1 : Int32) = 56 from rfl]
                refine fe_s 2 (pc' := 72) (lc' := [(6, .int 56), (5, .int 0), (4, .int 59), (3, .int 53), (2, .int 9), (0, .ref 0), (1, .ref 22)]) (stk' := [.int 59, .int 56]) (mem' := fm g tp bt a b) (fun _ _ _ => rfl) ?_
                refine fe_s 1 (pc' := cond (fx_cb .ge 56 59) 115 75) (lc' := [(6, .int 56), (5, .int 0), (4, .int 59), (3, .int 53), (2, .int 9), (0, .ref 0), (1, .ref 22)]) (stk' := []) (mem' := fm g tp bt a b) (fun _ _ _ => rfl) ?_
                rw [show (fx_cb .ge 56 59) = false from by decide]
                dsimp only [cond]
                refine fe_s 1 (pc' := 77) (lc' := [(6, .int 56), (5, .int 0), (4, .int 59), (3, .int 53), (2, .int 9), (0, .ref 0), (1, .ref 22)]) (stk' := [.int 0]) (mem' := fm g tp bt a b) (fun _ _ _ => rfl) ?_
                refine fe_s 1 (pc' := cond (fx_cb .eq 0 0) 115 80) (lc' := [(6, .int 56), (5, .int 0), (4, .int 59), (3, .int 53), (2, .int 9), (0, .ref 0), (1, .ref 22)]) (stk' := []) (mem' := fm g tp bt a b) (fun _ _ _ => rfl) ?_
                rw [show (fx_cb .eq 0 0) = true from by decide]
                dsimp only [cond]
                refine fe_s 1 (pc' := 117) (lc' := [(6, .int 56), (5, .int 0), (4, .int 59), (3, .int 53), (2, .int 9), (0, .ref 0), (1, .ref 22)]) (stk' := [.int 0]) (mem' := fm g tp bt a b) (fun _ _ _ => rfl) ?_
                refine fe_s 1 (pc' := cond (fx_cb .eq 0 0) 122 120) (lc' := [(6, .int 56), (5, .int 0), (4, .int 59), (3, .int 53), (2, .int 9), (0, .ref 0), (1, .ref 22)]) (stk' := []) (mem' := fm g tp bt a b) (fun _ _ _ => rfl) ?_
                rw [show (fx_cb .eq 0 0) = true from by decide]
                dsimp only [cond]
                refine fe_s 4 (pc' := 129) (lc' := [(2, .int (9 + 1)), (6, .int 56), (5, .int 0), (4, .int 59), (3, .int 53), (0, .ref 0), (1, .ref 22)]) (stk' := [.int (59 + 1)]) (mem' := fm g tp bt a b) (fun _ _ _ => rfl) ?_
                rw [show (9 + 1 : Int32) = 10 from rfl]
                rw [show (59 + 1 : Int32) = 60 from rfl]
                refine fe_s 1 (pc' := 130) (lc' := [(3, .int 60), (2, .int 10), (6, .int 56), (5, .int 0), (4, .int 59), (0, .ref 0), (1, .ref 22)]) (stk' := []) (mem' := fm g tp bt a b) (fun _ _ _ => rfl) ?_
                refine fe_s 1 (pc' := fx_to 130 (-116)) (lc' := [(3, .int 60), (2, .int 10), (6, .int 56), (5, .int 0), (4, .int 59), (0, .ref 0), (1, .ref 22)]) (stk' := []) (mem' := fm g tp bt a b) (fun _ _ _ => rfl) ?_
                rw [show fx_to 130 (-116) = 14 from by decide]
                refine fe_w (lc' := [(3, .int 60), (2, .int 10), (0, .ref 0), (1, .ref 22)]) ⟨rfl, rfl, rfl, rfl, trivial⟩ (by show List.Nodup [3, 2, 0, 1]; decide) (by show List.Nodup [3, 2, 6, 5, 4, 0, 1]; decide) ?_
                exact fw_10 hxp
          · rw [show (fx_cb .ne 101 (nI n6)) = true from cb_neT (a := 101) (b := n6) (by omega) (by omega) (by omega)]
            dsimp only [cond]
            refine fe_s 4 (pc' := 68) (lc' := [(6, .int (54 + 1)), (5, .int 0), (4, .int 59), (3, .int 53), (2, .int 9), (0, .ref 0), (1, .ref 22)]) (stk' := []) (mem' := fm g tp bt a b) (fun _ _ _ => rfl) ?_
            rw [show (54 + 1 : Int32) = 55 from rfl]
            refine fe_s 2 (pc' := 72) (lc' := [(6, .int 55), (5, .int 0), (4, .int 59), (3, .int 53), (2, .int 9), (0, .ref 0), (1, .ref 22)]) (stk' := [.int 59, .int 55]) (mem' := fm g tp bt a b) (fun _ _ _ => rfl) ?_
            refine fe_s 1 (pc' := cond (fx_cb .ge 55 59) 115 75) (lc' := [(6, .int 55), (5, .int 0), (4, .int 59), (3, .int 53), (2, .int 9), (0, .ref 0), (1, .ref 22)]) (stk' := []) (mem' := fm g tp bt a b) (fun _ _ _ => rfl) ?_
            rw [show (fx_cb .ge 55 59) = false from by decide]
            dsimp only [cond]
            refine fe_s 1 (pc' := 77) (lc' := [(6, .int 55), (5, .int 0), (4, .int 59), (3, .int 53), (2, .int 9), (0, .ref 0), (1, .ref 22)]) (stk' := [.int 0]) (mem' := fm g tp bt a b) (fun _ _ _ => rfl) ?_
            refine fe_s 1 (pc' := cond (fx_cb .eq 0 0) 115 80) (lc' := [(6, .int 55), (5, .int 0), (4, .int 59), (3, .int 53), (2, .int 9), (0, .ref 0), (1, .ref 22)]) (stk' := []) (mem' := fm g tp bt a b) (fun _ _ _ => rfl) ?_
            rw [show (fx_cb .eq 0 0) = true from by decide]
            dsimp only [cond]
            refine fe_s 1 (pc' := 117) (lc' := [(6, .int 55), (5, .int 0), (4, .int 59), (3, .int 53), (2, .int 9), (0, .ref 0), (1, .ref 22)]) (stk' := [.int 0]) (mem' := fm g tp bt a b) (fun _ _ _ => rfl) ?_
            refine fe_s 1 (pc' := cond (fx_cb .eq 0 0) 122 120) (lc' := [(6, .int 55), (5, .int 0), (4, .int 59), (3, .int 53), (2, .int 9), (0, .ref 0), (1, .ref 22)]) (stk' := []) (mem' := fm g tp bt a b) (fun _ _ _ => rfl) ?_
            rw [show (fx_cb .eq 0 0) = true from by decide]
            dsimp only [cond]
            refine fe_s 4 (pc' := 129) (lc' := [(2, .int (9 + 1)), (6, .int 55), (5, .int 0), (4, .int 59), (3, .int 53), (0, .ref 0), (1, .ref 22)]) (stk' := [.int (59 + 1)]) (mem' := fm g tp bt a b) (fun _ _ _ => rfl) ?_
            rw [show (9 + 1 : Int32) = 10 from rfl]
            rw [show (59 + 1 : Int32) = 60 from rfl]
            refine fe_s 1 (pc' := 130) (lc' := [(3, .int 60), (2, .int 10), (6, .int 55), (5, .int 0), (4, .int 59), (0, .ref 0), (1, .ref 22)]) (stk' := []) (mem' := fm g tp bt a b) (fun _ _ _ => rfl) ?_
            refine fe_s 1 (pc' := fx_to 130 (-116)) (lc' := [(3, .int 60), (2, .int 10), (6, .int 55), (5, .int 0), (4, .int 59), (0, .ref 0), (1, .ref 22)]) (stk' := []) (mem' := fm g tp bt a b) (fun _ _ _ => rfl) ?_
            rw [show fx_to 130 (-116) = 14 from by decide]
            refine fe_w (lc' := [(3, .int 60), (2, .int 10), (0, .ref 0), (1, .ref 22)]) ⟨rfl, rfl, rfl, rfl, trivial⟩ (by show List.Nodup [3, 2, 0, 1]; decide) (by show List.Nodup [3, 2, 6, 5, 4, 0, 1]; decide) ?_
            exact fw_10 hxp
      · rw [show (fx_cb .ne 119 (nI n2)) = true from cb_neT (a := 119) (b := n2) (by omega) (by omega) (by omega)]
        dsimp only [cond]
        refine fe_s 4 (pc' := 68) (lc' := [(6, .int (53 + 1)), (5, .int 0), (4, .int 59), (3, .int 53), (2, .int 9), (0, .ref 0), (1, .ref 22)]) (stk' := []) (mem' := fm g tp bt a b) (fun _ _ _ => rfl) ?_
        rw [show (53 + 1 : Int32) = 54 from rfl]
        refine fe_s 2 (pc' := 72) (lc' := [(6, .int 54), (5, .int 0), (4, .int 59), (3, .int 53), (2, .int 9), (0, .ref 0), (1, .ref 22)]) (stk' := [.int 59, .int 54]) (mem' := fm g tp bt a b) (fun _ _ _ => rfl) ?_
        refine fe_s 1 (pc' := cond (fx_cb .ge 54 59) 115 75) (lc' := [(6, .int 54), (5, .int 0), (4, .int 59), (3, .int 53), (2, .int 9), (0, .ref 0), (1, .ref 22)]) (stk' := []) (mem' := fm g tp bt a b) (fun _ _ _ => rfl) ?_
        rw [show (fx_cb .ge 54 59) = false from by decide]
        dsimp only [cond]
        refine fe_s 1 (pc' := 77) (lc' := [(6, .int 54), (5, .int 0), (4, .int 59), (3, .int 53), (2, .int 9), (0, .ref 0), (1, .ref 22)]) (stk' := [.int 0]) (mem' := fm g tp bt a b) (fun _ _ _ => rfl) ?_
        refine fe_s 1 (pc' := cond (fx_cb .eq 0 0) 115 80) (lc' := [(6, .int 54), (5, .int 0), (4, .int 59), (3, .int 53), (2, .int 9), (0, .ref 0), (1, .ref 22)]) (stk' := []) (mem' := fm g tp bt a b) (fun _ _ _ => rfl) ?_
        rw [show (fx_cb .eq 0 0) = true from by decide]
        dsimp only [cond]
        refine fe_s 1 (pc' := 117) (lc' := [(6, .int 54), (5, .int 0), (4, .int 59), (3, .int 53), (2, .int 9), (0, .ref 0), (1, .ref 22)]) (stk' := [.int 0]) (mem' := fm g tp bt a b) (fun _ _ _ => rfl) ?_
        refine fe_s 1 (pc' := cond (fx_cb .eq 0 0) 122 120) (lc' := [(6, .int 54), (5, .int 0), (4, .int 59), (3, .int 53), (2, .int 9), (0, .ref 0), (1, .ref 22)]) (stk' := []) (mem' := fm g tp bt a b) (fun _ _ _ => rfl) ?_
        rw [show (fx_cb .eq 0 0) = true from by decide]
        dsimp only [cond]
        refine fe_s 4 (pc' := 129) (lc' := [(2, .int (9 + 1)), (6, .int 54), (5, .int 0), (4, .int 59), (3, .int 53), (0, .ref 0), (1, .ref 22)]) (stk' := [.int (59 + 1)]) (mem' := fm g tp bt a b) (fun _ _ _ => rfl) ?_
        rw [show (9 + 1 : Int32) = 10 from rfl]
        rw [show (59 + 1 : Int32) = 60 from rfl]
        refine fe_s 1 (pc' := 130) (lc' := [(3, .int 60), (2, .int 10), (6, .int 54), (5, .int 0), (4, .int 59), (0, .ref 0), (1, .ref 22)]) (stk' := []) (mem' := fm g tp bt a b) (fun _ _ _ => rfl) ?_
        refine fe_s 1 (pc' := fx_to 130 (-116)) (lc' := [(3, .int 60), (2, .int 10), (6, .int 54), (5, .int 0), (4, .int 59), (0, .ref 0), (1, .ref 22)]) (stk' := []) (mem' := fm g tp bt a b) (fun _ _ _ => rfl) ?_
        rw [show fx_to 130 (-116) = 14 from by decide]
        refine fe_w (lc' := [(3, .int 60), (2, .int 10), (0, .ref 0), (1, .ref 22)]) ⟨rfl, rfl, rfl, rfl, trivial⟩ (by show List.Nodup [3, 2, 0, 1]; decide) (by show List.Nodup [3, 2, 6, 5, 4, 0, 1]; decide) ?_
        exact fw_10 hxp
  · rw [show (fx_cb .ne 6 (nI (E - F))) = true from cb_neT (a := 6) (b := E - F) (by omega) (by omega) (by omega)]
    dsimp only [cond]
    refine fe_s 4 (pc' := 68) (lc' := [(6, .int 53), (5, .int 0), (4, .int 59), (3, .int 53), (2, .int 9), (0, .ref 0), (1, .ref 22)]) (stk' := []) (mem' := fm g tp bt a b) (fun _ _ _ => rfl) ?_
    refine fe_s 2 (pc' := 72) (lc' := [(6, .int 53), (5, .int 0), (4, .int 59), (3, .int 53), (2, .int 9), (0, .ref 0), (1, .ref 22)]) (stk' := [.int 59, .int 53]) (mem' := fm g tp bt a b) (fun _ _ _ => rfl) ?_
    refine fe_s 1 (pc' := cond (fx_cb .ge 53 59) 115 75) (lc' := [(6, .int 53), (5, .int 0), (4, .int 59), (3, .int 53), (2, .int 9), (0, .ref 0), (1, .ref 22)]) (stk' := []) (mem' := fm g tp bt a b) (fun _ _ _ => rfl) ?_
    rw [show (fx_cb .ge 53 59) = false from by decide]
    dsimp only [cond]
    refine fe_s 1 (pc' := 77) (lc' := [(6, .int 53), (5, .int 0), (4, .int 59), (3, .int 53), (2, .int 9), (0, .ref 0), (1, .ref 22)]) (stk' := [.int 0]) (mem' := fm g tp bt a b) (fun _ _ _ => rfl) ?_
    refine fe_s 1 (pc' := cond (fx_cb .eq 0 0) 115 80) (lc' := [(6, .int 53), (5, .int 0), (4, .int 59), (3, .int 53), (2, .int 9), (0, .ref 0), (1, .ref 22)]) (stk' := []) (mem' := fm g tp bt a b) (fun _ _ _ => rfl) ?_
    rw [show (fx_cb .eq 0 0) = true from by decide]
    dsimp only [cond]
    refine fe_s 1 (pc' := 117) (lc' := [(6, .int 53), (5, .int 0), (4, .int 59), (3, .int 53), (2, .int 9), (0, .ref 0), (1, .ref 22)]) (stk' := [.int 0]) (mem' := fm g tp bt a b) (fun _ _ _ => rfl) ?_
    refine fe_s 1 (pc' := cond (fx_cb .eq 0 0) 122 120) (lc' := [(6, .int 53), (5, .int 0), (4, .int 59), (3, .int 53), (2, .int 9), (0, .ref 0), (1, .ref 22)]) (stk' := []) (mem' := fm g tp bt a b) (fun _ _ _ => rfl) ?_
    rw [show (fx_cb .eq 0 0) = true from by decide]
    dsimp only [cond]
    refine fe_s 4 (pc' := 129) (lc' := [(2, .int (9 + 1)), (6, .int 53), (5, .int 0), (4, .int 59), (3, .int 53), (0, .ref 0), (1, .ref 22)]) (stk' := [.int (59 + 1)]) (mem' := fm g tp bt a b) (fun _ _ _ => rfl) ?_
    rw [show (9 + 1 : Int32) = 10 from rfl]
    rw [show (59 + 1 : Int32) = 60 from rfl]
    refine fe_s 1 (pc' := 130) (lc' := [(3, .int 60), (2, .int 10), (6, .int 53), (5, .int 0), (4, .int 59), (0, .ref 0), (1, .ref 22)]) (stk' := []) (mem' := fm g tp bt a b) (fun _ _ _ => rfl) ?_
    refine fe_s 1 (pc' := fx_to 130 (-116)) (lc' := [(3, .int 60), (2, .int 10), (6, .int 53), (5, .int 0), (4, .int 59), (0, .ref 0), (1, .ref 22)]) (stk' := []) (mem' := fm g tp bt a b) (fun _ _ _ => rfl) ?_
    rw [show fx_to 130 (-116) = 14 from by decide]
    refine fe_w (lc' := [(3, .int 60), (2, .int 10), (0, .ref 0), (1, .ref 22)]) ⟨rfl, rfl, rfl, rfl, trivial⟩ (by show List.Nodup [3, 2, 0, 1]; decide) (by show List.Nodup [3, 2, 6, 5, 4, 0, 1]; decide) ?_
    exact fw_10 hxp
end FIW4
