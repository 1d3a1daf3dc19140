/-! ===== fx: which word it is (6) ===== -/
section FIW6
variable {g : Nat → Int32} {tp bt : Int64} {a : Nat → Nat → Int32} {b : Nat → Nat → Int64}
theorem fw_6 {S E F : Nat} (hxp : fm_xp g S E F) : fe_R 1 gk_m226 14 [(3, .int 35), (2, .int 6), (0, .ref 0), (1, .ref 22)] [] (fm g tp bt a b) (fm_FI (fm g tp bt a b)) := by
  obtain ⟨h11, hS9, h14, hES, h13, hFE, -, -, -⟩ := id hxp
  refine fe_s 2 (pc' := 16) (lc' := [(3, .int 35), (2, .int 6), (0, .ref 0), (1, .ref 22)]) (stk' := [.ref 22, .int 35]) (mem' := fm g tp bt a b) (fun _ _ _ => rfl) ?_
  refine fe_s 1 (pc' := 19) (lc' := [(3, .int 35), (2, .int 6), (0, .ref 0), (1, .ref 22)]) (stk' := [.int 117, .int 35]) (mem' := fm g tp bt a b) (fun _ _ _ => rfl) ?_
  refine fe_s 1 (pc' := cond (fx_cb .ge 35 117) 133 22) (lc' := [(3, .int 35), (2, .int 6), (0, .ref 0), (1, .ref 22)]) (stk' := []) (mem' := fm g tp bt a b) (fun _ _ _ => rfl) ?_
  rw [show (fx_cb .ge 35 117) = false from by decide]
  dsimp only [cond]
  refine fe_s 4 (pc' := 28) (lc' := [(4, .int 35), (3, .int 35), (2, .int 6), (0, .ref 0), (1, .ref 22)]) (stk' := [.int 35, .ref 22]) (mem' := fm g tp bt a b) (fun _ _ _ => rfl) ?_
  refine fe_chr (i := 35) (by omega) (by rfl) (by rfl) ⟨by rfl, by rfl⟩ (by rfl) ?_
  rw [show sk_b.getD 35 0 = 104 from rfl]
  refine fe_s 1 (pc' := 33) (lc' := [(4, .int 35), (3, .int 35), (2, .int 6), (0, .ref 0), (1, .ref 22)]) (stk' := [.int 32, .int 104]) (mem' := fm g tp bt a b) (fun _ _ _ => rfl) ?_
  refine fe_s 1 (pc' := cond (fx_cb .eq 104 32) 42 36) (lc' := [(4, .int 35), (3, .int 35), (2, .int 6), (0, .ref 0), (1, .ref 22)]) (stk' := []) (mem' := fm g tp bt a b) (fun _ _ _ => rfl) ?_
  rw [show (fx_cb .eq 104 32) = false from by decide]
  dsimp only [cond]
  refine fe_s 4 (pc' := 28) (lc' := [(4, .int (35 + 1)), (3, .int 35), (2, .int 6), (0, .ref 0), (1, .ref 22)]) (stk' := [.int (35 + 1), .ref 22]) (mem' := fm g tp bt a b) (fun _ _ _ => rfl) ?_
  rw [show (35 + 1 : Int32) = 36 from rfl]
  refine fe_chr (i := 36) (by omega) (by rfl) (by rfl) ⟨by rfl, by rfl⟩ (by rfl) ?_
  rw [show sk_b.getD 36 0 = 111 from rfl]
  refine fe_s 1 (pc' := 33) (lc' := [(4, .int 36), (3, .int 35), (2, .int 6), (0, .ref 0), (1, .ref 22)]) (stk' := [.int 32, .int 111]) (mem' := fm g tp bt a b) (fun _ _ _ => rfl) ?_
  refine fe_s 1 (pc' := cond (fx_cb .eq 111 32) 42 36) (lc' := [(4, .int 36), (3, .int 35), (2, .int 6), (0, .ref 0), (1, .ref 22)]) (stk' := []) (mem' := fm g tp bt a b) (fun _ _ _ => rfl) ?_
  rw [show (fx_cb .eq 111 32) = false from by decide]
  dsimp only [cond]
  refine fe_s 4 (pc' := 28) (lc' := [(4, .int (36 + 1)), (3, .int 35), (2, .int 6), (0, .ref 0), (1, .ref 22)]) (stk' := [.int (36 + 1), .ref 22]) (mem' := fm g tp bt a b) (fun _ _ _ => rfl) ?_
  rw [show (36 + 1 : Int32) = 37 from rfl]
  refine fe_chr (i := 37) (by omega) (by rfl) (by rfl) ⟨by rfl, by rfl⟩ (by rfl) ?_
  rw [show sk_b.getD 37 0 = 117 from rfl]
  refine fe_s 1 (pc' := 33) (lc' := [(4, .int 37), (3, .int 35), (2, .int 6), (0, .ref 0), (1, .ref 22)]) (stk' := [.int 32, .int 117]) (mem' := fm g tp bt a b) (fun _ _ _ => rfl) ?_
  refine fe_s 1 (pc' := cond (fx_cb .eq 117 32) 42 36) (lc' := [(4, .int 37), (3, .int 35), (2, .int 6), (0, .ref 0), (1, .ref 22)]) (stk' := []) (mem' := fm g tp bt a b) (fun _ _ _ => rfl) ?_
  rw [show (fx_cb .eq 117 32) = false from by decide]
  dsimp only [cond]
  refine fe_s 4 (pc' := 28) (lc' := [(4, .int (37 + 1)), (3, .int 35), (2, .int 6), (0, .ref 0), (1, .ref 22)]) (stk' := [.int (37 + 1), .ref 22]) (mem' := fm g tp bt a b) (fun _ _ _ => rfl) ?_
  rw [show (37 + 1 : Int32) = 38 from rfl]
  refine fe_chr (i := 38) (by omega) (by rfl) (by rfl) ⟨by rfl, by rfl⟩ (by rfl) ?_
  rw [show sk_b.getD 38 0 = 114 from rfl]
  refine fe_s 1 (pc' := 33) (lc' := [(4, .int 38), (3, .int 35), (2, .int 6), (0, .ref 0), (1, .ref 22)]) (stk' := [.int 32, .int 114]) (mem' := fm g tp bt a b) (fun _ _ _ => rfl) ?_
  refine fe_s 1 (pc' := cond (fx_cb .eq 114 32) 42 36) (lc' := [(4, .int 38), (3, .int 35), (2, .int 6), (0, .ref 0), (1, .ref 22)]) (stk' := []) (mem' := fm g tp bt a b) (fun _ _ _ => rfl) ?_
  rw [show (fx_cb .eq 114 32) = false from by decide]
  dsimp only [cond]
  refine fe_s 4 (pc' := 28) (lc' := [(4, .int (38 + 1)), (3, .int 35), (2, .int 6), (0, .ref 0), (1, .ref 22)]) (stk' := [.int (38 + 1), .ref 22]) (mem' := fm g tp bt a b) (fun _ _ _ => rfl) ?_
  rw [show (38 + 1 : Int32) = 39 from rfl]
  refine fe_chr (i := 39) (by omega) (by rfl) (by rfl) ⟨by rfl, by rfl⟩ (by rfl) ?_
  rw [show sk_b.getD 39 0 = 32 from rfl]
  refine fe_s 1 (pc' := 33) (lc' := [(4, .int 39), (3, .int 35), (2, .int 6), (0, .ref 0), (1, .ref 22)]) (stk' := [.int 32, .int 32]) (mem' := fm g tp bt a b) (fun _ _ _ => rfl) ?_
  refine fe_s 1 (pc' := cond (fx_cb .eq 32 32) 42 36) (lc' := [(4, .int 39), (3, .int 35), (2, .int 6), (0, .ref 0), (1, .ref 22)]) (stk' := []) (mem' := fm g tp bt a b) (fun _ _ _ => rfl) ?_
  rw [show (fx_cb .eq 32 32) = true from by decide]
  dsimp only [cond]
  refine fe_s 4 (pc' := 47) (lc' := [(4, .int 39), (3, .int 35), (2, .int 6), (0, .ref 0), (1, .ref 22)]) (stk' := [.ref 0, .int (39 - 35)]) (mem' := fm g tp bt a b) (fun _ _ _ => rfl) ?_
  rw [show (39 - 35 : Int32) = 4 from rfl]
  refine fe_s 4 (pc' := 55) (lc' := [(4, .int 39), (3, .int 35), (2, .int 6), (0, .ref 0), (1, .ref 22)]) (stk' := [.int ((g 14) - (g 13)), .int 4]) (mem' := fm g tp bt a b) (fun _ _ _ => rfl) ?_
  try rw [h14]
  try rw [h13]
  rw [show ((nI E) - (nI F) : Int32) = nI (E - F) from by simp only [tg_sub2 (x := E) (y := F) (by omega), nI_add, fm_mul]]
  refine fe_s 1 (pc' := cond (fx_cb .ne 4 (nI (E - F))) 62 58) (lc' := [(4, .int 39), (3, .int 35), (2, .int 6), (0, .ref 0), (1, .ref 22)]) (stk' := []) (mem' := fm g tp bt a b) (fun _ _ _ => rfl) ?_
  by_cases h1 : 4 = (E - F)
  · rw [show (fx_cb .ne 4 (nI (E - F))) = false from cb_neF (a := 4) (b := E - F) (by omega) (by omega) (by omega)]
    dsimp only [cond]
    refine fe_s 4 (pc' := 66) (lc' := [(5, .int 1), (4, .int 39), (3, .int 35), (2, .int 6), (0, .ref 0), (1, .ref 22)]) (stk' := [.int 35]) (mem' := fm g tp bt a b) (fun _ _ _ => rfl) ?_
    refine fe_s 3 (pc' := 72) (lc' := [(6, .int 35), (5, .int 1), (4, .int 39), (3, .int 35), (2, .int 6), (0, .ref 0), (1, .ref 22)]) (stk' := [.int 39, .int 35]) (mem' := fm g tp bt a b) (fun _ _ _ => rfl) ?_
    refine fe_s 1 (pc' := cond (fx_cb .ge 35 39) 115 75) (lc' := [(6, .int 35), (5, .int 1), (4, .int 39), (3, .int 35), (2, .int 6), (0, .ref 0), (1, .ref 22)]) (stk' := []) (mem' := fm g tp bt a b) (fun _ _ _ => rfl) ?_
    rw [show (fx_cb .ge 35 39) = false from by decide]
    dsimp only [cond]
    refine fe_s 1 (pc' := 77) (lc' := [(6, .int 35), (5, .int 1), (4, .int 39), (3, .int 35), (2, .int 6), (0, .ref 0), (1, .ref 22)]) (stk' := [.int 1]) (mem' := fm g tp bt a b) (fun _ _ _ => rfl) ?_
    refine fe_s 1 (pc' := cond (fx_cb .eq 1 0) 115 80) (lc' := [(6, .int 35), (5, .int 1), (4, .int 39), (3, .int 35), (2, .int 6), (0, .ref 0), (1, .ref 22)]) (stk' := []) (mem' := fm g tp bt a b) (fun _ _ _ => rfl) ?_
    rw [show (fx_cb .eq 1 0) = false from by decide]
    dsimp only [cond]
    refine fe_s 2 (pc' := 83) (lc' := [(6, .int 35), (5, .int 1), (4, .int 39), (3, .int 35), (2, .int 6), (0, .ref 0), (1, .ref 22)]) (stk' := [.int 35, .ref 22]) (mem' := fm g tp bt a b) (fun _ _ _ => rfl) ?_
    refine fe_chr (i := 35) (by omega) (by rfl) (by rfl) ⟨by rfl, by rfl⟩ (by rfl) ?_
    rw [show sk_b.getD 35 0 = 104 from rfl]
    refine fe_s 4 (pc' := 93) (lc' := [(6, .int 35), (5, .int 1), (4, .int 39), (3, .int 35), (2, .int 6), (0, .ref 0), (1, .ref 22)]) (stk' := [.int 35, .int (g 13), .ref 0, .int 104]) (mem' := fm g tp bt a b) (fun _ _ _ => rfl) ?_
    try rw [h13]
    refine fe_s 3 (pc' := 96) (lc' := [(6, .int 35), (5, .int 1), (4, .int 39), (3, .int 35), (2, .int 6), (0, .ref 0), (1, .ref 22)]) (stk' := [.int (((nI F) + 35) - 35), .ref 0, .int 104]) (mem' := fm g tp bt a b) (fun _ _ _ => rfl) ?_
    rw [show (((nI F) + 35) - 35 : Int32) = nI ((F + 35) - 35) from by simp only [show (35 : Int32) = nI 35 from rfl, tg_sub2 (x := F + 35) (y := 35) (by omega), nI_add, fm_mul]]
    refine fe_ivV (fr_byteAt (S := S) (k := (F + 35) - 35) (g := g) (tp := tp) (bt := bt) (a := a) (b := b) h11 (by omega) (by omega)) (by omega) (by rfl) (by rfl) (by rfl) (by rfl) (by rfl) (by rfl) ?_
    rcases fm_byte_or a S ((F + 35) - 35) with ⟨e3, q4⟩ | ⟨q4, n2, qn2, e3⟩
    · rw [e3]
      refine fe_s 1 (pc' := cond (fx_cb .ne 104 (-1)) 106 102) (lc' := [(6, .int 35), (5, .int 1), (4, .int 39), (3, .int 35), (2, .int 6), (0, .ref 0), (1, .ref 22)]) (stk' := []) (mem' := fm g tp bt a b) (fun _ _ _ => rfl) ?_
      rw [show (fx_cb .ne 104 (-1)) = true from by decide]
      dsimp only [cond]
      refine fe_s 4 (pc' := 68) (lc' := [(6, .int (35 + 1)), (5, .int 0), (4, .int 39), (3, .int 35), (2, .int 6), (0, .ref 0), (1, .ref 22)]) (stk' := []) (mem' := fm g tp bt a b) (fun _ _ _ => rfl) ?_
      rw [show (35 + 1 : Int32) = 36 from rfl]
      refine fe_s 2 (pc' := 72) (lc' := [(6, .int 36), (5, .int 0), (4, .int 39), (3, .int 35), (2, .int 6), (0, .ref 0), (1, .ref 22)]) (stk' := [.int 39, .int 36]) (mem' := fm g tp bt a b) (fun _ _ _ => rfl) ?_
      refine fe_s 1 (pc' := cond (fx_cb .ge 36 39) 115 75) (lc' := [(6, .int 36), (5, .int 0), (4, .int 39), (3, .int 35), (2, .int 6), (0, .ref 0), (1, .ref 22)]) (stk' := []) (mem' := fm g tp bt a b) (fun _ _ _ => rfl) ?_
      rw [show (fx_cb .ge 36 39) = false from by decide]
      dsimp only [cond]
      refine fe_s 1 (pc' := 77) (lc' := [(6, .int 36), (5, .int 0), (4, .int 39), (3, .int 35), (2, .int 6), (0, .ref 0), (1, .ref 22)]) (stk' := [.int 0]) (mem' := fm g tp bt a b) (fun _ _ _ => rfl) ?_
      refine fe_s 1 (pc' := cond (fx_cb .eq 0 0) 115 80) (lc' := [(6, .int 36), (5, .int 0), (4, .int 39), (3, .int 35), (2, .int 6), (0, .ref 0), (1, .ref 22)]) (stk' := []) (mem' := fm g tp bt a b) (fun _ _ _ => rfl) ?_
      rw [show (fx_cb .eq 0 0) = true from by decide]
      dsimp only [cond]
      refine fe_s 1 (pc' := 117) (lc' := [(6, .int 36), (5, .int 0), (4, .int 39), (3, .int 35), (2, .int 6), (0, .ref 0), (1, .ref 22)]) (stk' := [.int 0]) (mem' := fm g tp bt a b) (fun _ _ _ => rfl) ?_
      refine fe_s 1 (pc' := cond (fx_cb .eq 0 0) 122 120) (lc' := [(6, .int 36), (5, .int 0), (4, .int 39), (3, .int 35), (2, .int 6), (0, .ref 0), (1, .ref 22)]) (stk' := []) (mem' := fm g tp bt a b) (fun _ _ _ => rfl) ?_
      rw [show (fx_cb .eq 0 0) = true from by decide]
      dsimp only [cond]
      refine fe_s 4 (pc' := 129) (lc' := [(2, .int (6 + 1)), (6, .int 36), (5, .int 0), (4, .int 39), (3, .int 35), (0, .ref 0), (1, .ref 22)]) (stk' := [.int (39 + 1)]) (mem' := fm g tp bt a b) (fun _ _ _ => rfl) ?_
      rw [show (6 + 1 : Int32) = 7 from rfl]
      rw [show (39 + 1 : Int32) = 40 from rfl]
      refine fe_s 1 (pc' := 130) (lc' := [(3, .int 40), (2, .int 7), (6, .int 36), (5, .int 0), (4, .int 39), (0, .ref 0), (1, .ref 22)]) (stk' := []) (mem' := fm g tp bt a b) (fun _ _ _ => rfl) ?_
      refine fe_s 1 (pc' := fx_to 130 (-116)) (lc' := [(3, .int 40), (2, .int 7), (6, .int 36), (5, .int 0), (4, .int 39), (0, .ref 0), (1, .ref 22)]) (stk' := []) (mem' := fm g tp bt a b) (fun _ _ _ => rfl) ?_
      rw [show fx_to 130 (-116) = 14 from by decide]
      refine fe_w (lc' := [(3, .int 40), (2, .int 7), (0, .ref 0), (1, .ref 22)]) ⟨rfl, rfl, rfl, rfl, trivial⟩ (by show List.Nodup [3, 2, 0, 1]; decide) (by show List.Nodup [3, 2, 6, 5, 4, 0, 1]; decide) ?_
      exact fw_7 hxp
    · rw [e3]
      refine fe_s 1 (pc' := cond (fx_cb .ne 104 (nI n2)) 106 102) (lc' := [(6, .int 35), (5, .int 1), (4, .int 39), (3, .int 35), (2, .int 6), (0, .ref 0), (1, .ref 22)]) (stk' := []) (mem' := fm g tp bt a b) (fun _ _ _ => rfl) ?_
      by_cases h5 : 104 = n2
      · rw [show (fx_cb .ne 104 (nI n2)) = false from cb_neF (a := 104) (b := n2) (by omega) (by omega) (by omega)]
        dsimp only [cond]
        refine fe_s 4 (pc' := 112) (lc' := [(6, .int (35 + 1)), (5, .int 1), (4, .int 39), (3, .int 35), (2, .int 6), (0, .ref 0), (1, .ref 22)]) (stk' := []) (mem' := fm g tp bt a b) (fun _ _ _ => rfl) ?_
        rw [show (35 + 1 : Int32) = 36 from rfl]
        refine fe_s 3 (pc' := 72) (lc' := [(6, .int 36), (5, .int 1), (4, .int 39), (3, .int 35), (2, .int 6), (0, .ref 0), (1, .ref 22)]) (stk' := [.int 39, .int 36]) (mem' := fm g tp bt a b) (fun _ _ _ => rfl) ?_
        refine fe_s 1 (pc' := cond (fx_cb .ge 36 39) 115 75) (lc' := [(6, .int 36), (5, .int 1), (4, .int 39), (3, .int 35), (2, .int 6), (0, .ref 0), (1, .ref 22)]) (stk' := []) (mem' := fm g tp bt a b) (fun _ _ _ => rfl) ?_
        rw [show (fx_cb .ge 36 39) = false from by decide]
        dsimp only [cond]
        refine fe_s 1 (pc' := 77) (lc' := [(6, .int 36), (5, .int 1), (4, .int 39), (3, .int 35), (2, .int 6), (0, .ref 0), (1, .ref 22)]) (stk' := [.int 1]) (mem' := fm g tp bt a b) (fun _ _ _ => rfl) ?_
        refine fe_s 1 (pc' := cond (fx_cb .eq 1 0) 115 80) (lc' := [(6, .int 36), (5, .int 1), (4, .int 39), (3, .int 35), (2, .int 6), (0, .ref 0), (1, .ref 22)]) (stk' := []) (mem' := fm g tp bt a b) (fun _ _ _ => rfl) ?_
        rw [show (fx_cb .eq 1 0) = false from by decide]
        dsimp only [cond]
        refine fe_s 2 (pc' := 83) (lc' := [(6, .int 36), (5, .int 1), (4, .int 39), (3, .int 35), (2, .int 6), (0, .ref 0), (1, .ref 22)]) (stk' := [.int 36, .ref 22]) (mem' := fm g tp bt a b) (fun _ _ _ => rfl) ?_
        refine fe_chr (i := 36) (by omega) (by rfl) (by rfl) ⟨by rfl, by rfl⟩ (by rfl) ?_
        rw [show sk_b.getD 36 0 = 111 from rfl]
        refine fe_s 4 (pc' := 93) (lc' := [(6, .int 36), (5, .int 1), (4, .int 39), (3, .int 35), (2, .int 6), (0, .ref 0), (1, .ref 22)]) (stk' := [.int 36, .int (g 13), .ref 0, .int 111]) (mem' := fm g tp bt a b) (fun _ _ _ => rfl) ?_
        try rw [h13]
        refine fe_s 3 (pc' := 96) (lc' := [(6, .int 36), (5, .int 1), (4, .int 39), (3, .int 35), (2, .int 6), (0, .ref 0), (1, .ref 22)]) (stk' := [.int (((nI F) + 36) - 35), .ref 0, .int 111]) (mem' := fm g tp bt a b) (fun _ _ _ => rfl) ?_
        rw [show (((nI F) + 36) - 35 : Int32) = nI ((F + 36) - 35) from by simp only [show (36 : Int32) = nI 36 from rfl, show (35 : Int32) = nI 35 from rfl, tg_sub2 (x := F + 36) (y := 35) (by omega), nI_add, fm_mul]]
        refine fe_ivV (fr_byteAt (S := S) (k := (F + 36) - 35) (g := g) (tp := tp) (bt := bt) (a := a) (b := b) h11 (by omega) (by omega)) (by omega) (by rfl) (by rfl) (by rfl) (by rfl) (by rfl) (by rfl) ?_
        rcases fm_byte_or a S ((F + 36) - 35) with ⟨e7, q8⟩ | ⟨q8, n6, qn6, e7⟩
        · rw [e7]
          refine fe_s 1 (pc' := cond (fx_cb .ne 111 (-1)) 106 102) (lc' := [(6, .int 36), (5, .int 1), (4, .int 39), (3, .int 35), (2, .int 6), (0, .ref 0), (1, .ref 22)]) (stk' := []) (mem' := fm g tp bt a b) (fun _ _ _ => rfl) ?_
          rw [show (fx_cb .ne 111 (-1)) = true from by decide]
          dsimp only [cond]
          refine fe_s 4 (pc' := 68) (lc' := [(6, .int (36 + 1)), (5, .int 0), (4, .int 39), (3, .int 35), (2, .int 6), (0, .ref 0), (1, .ref 22)]) (stk' := []) (mem' := fm g tp bt a b) (fun _ _ _ => rfl) ?_
          rw [show (36 + 1 : Int32) = 37 from rfl]
          refine fe_s 2 (pc' := 72) (lc' := [(6, .int 37), (5, .int 0), (4, .int 39), (3, .int 35), (2, .int 6), (0, .ref 0), (1, .ref 22)]) (stk' := [.int 39, .int 37]) (mem' := fm g tp bt a b) (fun _ _ _ => rfl) ?_
          refine fe_s 1 (pc' := cond (fx_cb .ge 37 39) 115 75) (lc' := [(6, .int 37), (5, .int 0), (4, .int 39), (3, .int 35), (2, .int 6), (0, .ref 0), (1, .ref 22)]) (stk' := []) (mem' := fm g tp bt a b) (fun _ _ _ => rfl) ?_
          rw [show (fx_cb .ge 37 39) = false from by decide]
          dsimp only [cond]
          refine fe_s 1 (pc' := 77) (lc' := [(6, .int 37), (5, .int 0), (4, .int 39), (3, .int 35), (2, .int 6), (0, .ref 0), (1, .ref 22)]) (stk' := [.int 0]) (mem' := fm g tp bt a b) (fun _ _ _ => rfl) ?_
          refine fe_s 1 (pc' := cond (fx_cb .eq 0 0) 115 80) (lc' := [(6, .int 37), (5, .int 0), (4, .int 39), (3, .int 35), (2, .int 6), (0, .ref 0), (1, .ref 22)]) (stk' := []) (mem' := fm g tp bt a b) (fun _ _ _ => rfl) ?_
          rw [show (fx_cb .eq 0 0) = true from by decide]
          dsimp only [cond]
          refine fe_s 1 (pc' := 117) (lc' := [(6, .int 37), (5, .int 0), (4, .int 39), (3, .int 35), (2, .int 6), (0, .ref 0), (1, .ref 22)]) (stk' := [.int 0]) (mem' := fm g tp bt a b) (fun _ _ _ => rfl) ?_
          refine fe_s 1 (pc' := cond (fx_cb .eq 0 0) 122 120) (lc' := [(6, .int 37), (5, .int 0), (4, .int 39), (3, .int 35), (2, .int 6), (0, .ref 0), (1, .ref 22)]) (stk' := []) (mem' := fm g tp bt a b) (fun _ _ _ => rfl) ?_
          rw [show (fx_cb .eq 0 0) = true from by decide]
          dsimp only [cond]
          refine fe_s 4 (pc' := 129) (lc' := [(2, .int (6 + 1)), (6, .int 37), (5, .int 0), (4, .int 39), (3, .int 35), (0, .ref 0), (1, .ref 22)]) (stk' := [.int (39 + 1)]) (mem' := fm g tp bt a b) (fun _ _ _ => rfl) ?_
          rw [show (6 + 1 : Int32) = 7 from rfl]
          rw [show (39 + 1 : Int32) = 40 from rfl]
          refine fe_s 1 (pc' := 130) (lc' := [(3, .int 40), (2, .int 7), (6, .int 37), (5, .int 0), (4, .int 39), (0, .ref 0), (1, .ref 22)]) (stk' := []) (mem' := fm g tp bt a b) (fun _ _ _ => rfl) ?_
          refine fe_s 1 (pc' := fx_to 130 (-116)) (lc' := [(3, .int 40), (2, .int 7), (6, .int 37), (5, .int 0), (4, .int 39), (0, .ref 0), (1, .ref 22)]) (stk' := []) (mem' := fm g tp bt a b) (fun _ _ _ => rfl) ?_
          rw [show fx_to 130 (-116) = 14 from by decide]
          refine fe_w (lc' := [(3, .int 40), (2, .int 7), (0, .ref 0), (1, .ref 22)]) ⟨rfl, rfl, rfl, rfl, trivial⟩ (by show List.Nodup [3, 2, 0, 1]; decide) (by show List.Nodup [3, 2, 6, 5, 4, 0, 1]; decide) ?_
          exact fw_7 hxp
        · rw [e7]
          refine fe_s 1 (pc' := cond (fx_cb .ne 111 (nI n6)) 106 102) (lc' := [(6, .int 36), (5, .int 1), (4, .int 39), (3, .int 35), (2, .int 6), (0, .ref 0), (1, .ref 22)]) (stk' := []) (mem' := fm g tp bt a b) (fun _ _ _ => rfl) ?_
          by_cases h9 : 111 = n6
          · rw [show (fx_cb .ne 111 (nI n6)) = false from cb_neF (a := 111) (b := n6) (by omega) (by omega) (by omega)]
            dsimp only [cond]
            refine fe_s 4 (pc' := 112) (lc' := [(6, .int (36 + 1)), (5, .int 1), (4, .int 39), (3, .int 35), (2, .int 6), (0, .ref 0), (1, .ref 22)]) (stk' := []) (mem' := fm g tp bt a b) (fun _ _ _ => rfl) ?_
            rw [show (36 + 1 : Int32) = 37 from rfl]
            refine fe_s 3 (pc' := 72) (lc' := [(6, .int 37), (5, .int 1), (4, .int 39), (3, .int 35), (2, .int 6), (0, .ref 0), (1, .ref 22)]) (stk' := [.int 39, .int 37]) (mem' := fm g tp bt a b) (fun _ _ _ => rfl) ?_
            refine fe_s 1 (pc' := cond (fx_cb .ge 37 39) 115 75) (lc' := [(6, .int 37), (5, .int 1), (4, .int 39), (3, .int 35), (2, .int 6), (0, .ref 0), (1, .ref 22)]) (stk' := []) (mem' := fm g tp bt a b) (fun _ _ _ => rfl) ?_
            rw [show (fx_cb .ge 37 39) = false from by decide]
            dsimp only [cond]
            refine fe_s 1 (pc' := 77) (lc' := [(6, .int 37), (5, .int 1), (4, .int 39), (3, .int 35), (2, .int 6), (0, .ref 0), (1, .ref 22)]) (stk' := [.int 1]) (mem' := fm g tp bt a b) (fun _ _ _ => rfl) ?_
            refine fe_s 1 (pc' := cond (fx_cb .eq 1 0) 115 80) (lc' := [(6, .int 37), (5, .int 1), (4, .int 39), (3, .int 35), (2, .int 6), (0, .ref 0), (1, .ref 22)]) (stk' := []) (mem' := fm g tp bt a b) (fun _ _ _ => rfl) ?_
            rw [show (fx_cb .eq 1 0) = false from by decide]
            dsimp only [cond]
            refine fe_s 2 (pc' := 83) (lc' := [(6, .int 37), (5, .int 1), (4, .int 39), (3, .int 35), (2, .int 6), (0, .ref 0), (1, .ref 22)]) (stk' := [.int 37, .ref 22]) (mem' := fm g tp bt a b) (fun _ _ _ => rfl) ?_
            refine fe_chr (i := 37) (by omega) (by rfl) (by rfl) ⟨by rfl, by rfl⟩ (by rfl) ?_
            rw [show sk_b.getD 37 0 = 117 from rfl]
            refine fe_s 4 (pc' := 93) (lc' := [(6, .int 37), (5, .int 1), (4, .int 39), (3, .int 35), (2, .int 6), (0, .ref 0), (1, .ref 22)]) (stk' := [.int 37, .int (g 13), .ref 0, .int 117]) (mem' := fm g tp bt a b) (fun _ _ _ => rfl) ?_
            try rw [h13]
            refine fe_s 3 (pc' := 96) (lc' := [(6, .int 37), (5, .int 1), (4, .int 39), (3, .int 35), (2, .int 6), (0, .ref 0), (1, .ref 22)]) (stk' := [.int (((nI F) + 37) - 35), .ref 0, .int 117]) (mem' := fm g tp bt a b) (fun _ _ _ => rfl) ?_
            rw [show (((nI F) + 37) - 35 : Int32) = nI ((F + 37) - 35) from by simp only [show (37 : Int32) = nI 37 from rfl, show (35 : Int32) = nI 35 from rfl, tg_sub2 (x := F + 37) (y := 35) (by omega), nI_add, fm_mul]]
            refine fe_ivV (fr_byteAt (S := S) (k := (F + 37) - 35) (g := g) (tp := tp) (bt := bt) (a := a) (b := b) h11 (by omega) (by omega)) (by omega) (by rfl) (by rfl) (by rfl) (by rfl) (by rfl) (by rfl) ?_
            rcases fm_byte_or a S ((F + 37) - 35) with ⟨e11, q12⟩ | ⟨q12, n10, qn10, e11⟩
            · rw [e11]
              refine fe_s 1 (pc' := cond (fx_cb .ne 117 (-1)) 106 102) (lc' := [(6, .int 37), (5, .int 1), (4, .int 39), (3, .int 35), (2, .int 6), (0, .ref 0), (1, .ref 22)]) (stk' := []) (mem' := fm g tp bt a b) (fun _ _ _ => rfl) ?_
              rw [show (fx_cb .ne 117 (-1)) = true from by decide]
              dsimp only [cond]
              refine fe_s 4 (pc' := 68) (lc' := [(6, .int (37 + 1)), (5, .int 0), (4, .int 39), (3, .int 35), (2, .int 6), (0, .ref 0), (1, .ref 22)]) (stk' := []) (mem' := fm g tp bt a b) (fun _ _ _ => rfl) ?_
              rw [show (37 + 1 : Int32) = 38 from rfl]
              refine fe_s 2 (pc' := 72) (lc' := [(6, .int 38), (5, .int 0), (4, .int 39), (3, .int 35), (2, .int 6), (0, .ref 0), (1, .ref 22)]) (stk' := [.int 39, .int 38]) (mem' := fm g tp bt a b) (fun _ _ _ => rfl) ?_
              refine fe_s 1 (pc' := cond (fx_cb .ge 38 39) 115 75) (lc' := [(6, .int 38), (5, .int 0), (4, .int 39), (3, .int 35), (2, .int 6), (0, .ref 0), (1, .ref 22)]) (stk' := []) (mem' := fm g tp bt a b) (fun _ _ _ => rfl) ?_
              rw [show (fx_cb .ge 38 39) = false from by decide]
              dsimp only [cond]
              refine fe_s 1 (pc' := 77) (lc' := [(6, .int 38), (5, .int 0), (4, .int 39), (3, .int 35), (2, .int 6), (0, .ref 0), (1, .ref 22)]) (stk' := [.int 0]) (mem' := fm g tp bt a b) (fun _ _ _ => rfl) ?_
              refine fe_s 1 (pc' := cond (fx_cb .eq 0 0) 115 80) (lc' := [(6, .int 38), (5, .int 0), (4, .int 39), (3, .int 35), (2, .int 6), (0, .ref 0), (1, .ref 22)]) (stk' := []) (mem' := fm g tp bt a b) (fun _ _ _ => rfl) ?_
              rw [show (fx_cb .eq 0 0) = true from by decide]
              dsimp only [cond]
              refine fe_s 1 (pc' := 117) (lc' := [(6, .int 38), (5, .int 0), (4, .int 39), (3, .int 35), (2, .int 6), (0, .ref 0), (1, .ref 22)]) (stk' := [.int 0]) (mem' := fm g tp bt a b) (fun _ _ _ => rfl) ?_
              refine fe_s 1 (pc' := cond (fx_cb .eq 0 0) 122 120) (lc' := [(6, .int 38), (5, .int 0), (4, .int 39), (3, .int 35), (2, .int 6), (0, .ref 0), (1, .ref 22)]) (stk' := []) (mem' := fm g tp bt a b) (fun _ _ _ => rfl) ?_
              rw [show (fx_cb .eq 0 0) = true from by decide]
              dsimp only [cond]
              refine fe_s 4 (pc' := 129) (lc' := [(2, .int (6 + 1)), (6, .int 38), (5, .int 0), (4, .int 39), (3, .int 35), (0, .ref 0), (1, .ref 22)]) (stk' := [.int (39 + 1)]) (mem' := fm g tp bt a b) (fun _ _ _ => rfl) ?_
              rw [show (6 + 1 : Int32) = 7 from rfl]
              rw [show (39 + 1 : Int32) = 40 from rfl]
              refine fe_s 1 (pc' := 130) (lc' := [(3, .int 40), (2, .int 7), (6, .int 38), (5, .int 0), (4, .int 39), (0, .ref 0), (1, .ref 22)]) (stk' := []) (mem' := fm g tp bt a b) (fun _ _ _ => rfl) ?_
              refine fe_s 1 (pc' := fx_to 130 (-116)) (lc' := [(3, .int 40), (2, .int 7), (6, .int 38), (5, .int 0), (4, .int 39), (0, .ref 0), (1, .ref 22)]) (stk' := []) (mem' := fm g tp bt a b) (fun _ _ _ => rfl) ?_
              rw [show fx_to 130 (-116) = 14 from by decide]
              refine fe_w (lc' := [(3, .int 40), (2, .int 7), (0, .ref 0), (1, .ref 22)]) ⟨rfl, rfl, rfl, rfl, trivial⟩ (by show List.Nodup [3, 2, 0, 1]; decide) (by show List.Nodup [3, 2, 6, 5, 4, 0, 1]; decide) ?_
              exact fw_7 hxp
            · rw [e11]
              refine fe_s 1 (pc' := cond (fx_cb .ne 117 (nI n10)) 106 102) (lc' := [(6, .int 37), (5, .int 1), (4, .int 39), (3, .int 35), (2, .int 6), (0, .ref 0), (1, .ref 22)]) (stk' := []) (mem' := fm g tp bt a b) (fun _ _ _ => rfl) ?_
              by_cases h13 : 117 = n10
              · rw [show (fx_cb .ne 117 (nI n10)) = false from cb_neF (a := 117) (b := n10) (by omega) (by omega) (by omega)]
                dsimp only [cond]
                refine fe_s 4 (pc' := 112) (lc' := [(6, .int (37 + 1)), (5, .int 1), (4, .int 39), (3, .int 35), (2, .int 6), (0, .ref 0), (1, .ref 22)]) (stk' := []) (mem' := fm g tp bt a b) (fun _ _ _ => rfl) ?_
                rw [show (37 + 1 : Int32) = 38 from rfl]
                refine fe_s 3 (pc' := 72) (lc' := [(6, .int 38), (5, .int 1), (4, .int 39), (3, .int 35), (2, .int 6), (0, .ref 0), (1, .ref 22)]) (stk' := [.int 39, .int 38]) (mem' := fm g tp bt a b) (fun _ _ _ => rfl) ?_
                refine fe_s 1 (pc' := cond (fx_cb .ge 38 39) 115 75) (lc' := [(6, .int 38), (5, .int 1), (4, .int 39), (3, .int 35), (2, .int 6), (0, .ref 0), (1, .ref 22)]) (stk' := []) (mem' := fm g tp bt a b) (fun _ _ _ => rfl) ?_
                rw [show (fx_cb .ge 38 39) = false from by decide]
                dsimp only [cond]
                refine fe_s 1 (pc' := 77) (lc' := [(6, .int 38), (5, .int 1), (4, .int 39), (3, .int 35), (2, .int 6), (0, .ref 0), (1, .ref 22)]) (stk' := [.int 1]) (mem' := fm g tp bt a b) (fun _ _ _ => rfl) ?_
                refine fe_s 1 (pc' := cond (fx_cb .eq 1 0) 115 80) (lc' := [(6, .int 38), (5, .int 1), (4, .int 39), (3, .int 35), (2, .int 6), (0, .ref 0), (1, .ref 22)]) (stk' := []) (mem' := fm g tp bt a b) (fun _ _ _ => rfl) ?_
                rw [show (fx_cb .eq 1 0) = false from by decide]
                dsimp only [cond]
                refine fe_s 2 (pc' := 83) (lc' := [(6, .int 38), (5, .int 1), (4, .int 39), (3, .int 35), (2, .int 6), (0, .ref 0), (1, .ref 22)]) (stk' := [.int 38, .ref 22]) (mem' := fm g tp bt a b) (fun _ _ _ => rfl) ?_
                refine fe_chr (i := 38) (by omega) (by rfl) (by rfl) ⟨by rfl, by rfl⟩ (by rfl) ?_
                rw [show sk_b.getD 38 0 = 114 from rfl]
                refine fe_s 4 (pc' := 93) (lc' := [(6, .int 38), (5, .int 1), (4, .int 39), (3, .int 35), (2, .int 6), (0, .ref 0), (1, .ref 22)]) (stk' := [.int 38, .int (g 13), .ref 0, .int 114]) (mem' := fm g tp bt a b) (fun _ _ _ => rfl) ?_
                try rw [h13]
                refine fe_s 3 (pc' := 96) (lc' := [(6, .int 38), (5, .int 1), (4, .int 39), (3, .int 35), (2, .int 6), (0, .ref 0), (1, .ref 22)]) (stk' := [.int (((nI F) + 38) - 35), .ref 0, .int 114]) (mem' := fm g tp bt a b) (fun _ _ _ => rfl) ?_
                rw [show (((nI F) + 38) - 35 : Int32) = nI ((F + 38) - 35) from by simp only [show (38 : Int32) = nI 38 from rfl, show (35 : Int32) = nI 35 from rfl, tg_sub2 (x := F + 38) (y := 35) (by omega), nI_add, fm_mul]]
                refine fe_ivV (fr_byteAt (S := S) (k := (F + 38) - 35) (g := g) (tp := tp) (bt := bt) (a := a) (b := b) h11 (by omega) (by omega)) (by omega) (by rfl) (by rfl) (by rfl) (by rfl) (by rfl) (by rfl) ?_
                rcases fm_byte_or a S ((F + 38) - 35) with ⟨e15, q16⟩ | ⟨q16, n14, qn14, e15⟩
                · rw [e15]
                  refine fe_s 1 (pc' := cond (fx_cb .ne 114 (-1)) 106 102) (lc' := [(6, .int 38), (5, .int 1), (4, .int 39), (3, .int 35), (2, .int 6), (0, .ref 0), (1, .ref 22)]) (stk' := []) (mem' := fm g tp bt a b) (fun _ _ _ => rfl) ?_
                  rw [show (fx_cb .ne 114 (-1)) = true from by decide]
                  dsimp only [cond]
                  refine fe_s 4 (pc' := 68) (lc' := [(6, .int (38 + 1)), (5, .int 0), (4, .int 39), (3, .int 35), (2, .int 6), (0, .ref 0), (1, .ref 22)]) (stk' := []) (mem' := fm g tp bt a b) (fun _ _ _ => rfl) ?_
                  rw [show (38 + 1 : Int32) = 39 from rfl]
                  refine fe_s 2 (pc' := 72) (lc' := [(6, .int 39), (5, .int 0), (4, .int 39), (3, .int 35), (2, .int 6), (0, .ref 0), (1, .ref 22)]) (stk' := [.int 39, .int 39]) (mem' := fm g tp bt a b) (fun _ _ _ => rfl) ?_
                  refine fe_s 1 (pc' := cond (fx_cb .ge 39 39) 115 75) (lc' := [(6, .int 39), (5, .int 0), (4, .int 39), (3, .int 35), (2, .int 6), (0, .ref 0), (1, .ref 22)]) (stk' := []) (mem' := fm g tp bt a b) (fun _ _ _ => rfl) ?_
                  rw [show (fx_cb .ge 39 39) = true from by decide]
                  dsimp only [cond]
                  refine fe_s 1 (pc' := 117) (lc' := [(6, .int 39), (5, .int 0), (4, .int 39), (3, .int 35), (2, .int 6), (0, .ref 0), (1, .ref 22)]) (stk' := [.int 0]) (mem' := fm g tp bt a b) (fun _ _ _ => rfl) ?_
                  refine fe_s 1 (pc' := cond (fx_cb .eq 0 0) 122 120) (lc' := [(6, .int 39), (5, .int 0), (4, .int 39), (3, .int 35), (2, .int 6), (0, .ref 0), (1, .ref 22)]) (stk' := []) (mem' := fm g tp bt a b) (fun _ _ _ => rfl) ?_
                  rw [show (fx_cb .eq 0 0) = true from by decide]
                  dsimp only [cond]
                  refine fe_s 4 (pc' := 129) (lc' := [(2, .int (6 + 1)), (6, .int 39), (5, .int 0), (4, .int 39), (3, .int 35), (0, .ref 0), (1, .ref 22)]) (stk' := [.int (39 + 1)]) (mem' := fm g tp bt a b) (fun _ _ _ => rfl) ?_
                  rw [show (6 + 1 : Int32) = 7 from rfl]
                  rw [show (39 + 1 : Int32) = 40 from rfl]
                  refine fe_s 1 (pc' := 130) (lc' := [(3, .int 40), (2, .int 7), (6, .int 39), (5, .int 0), (4, .int 39), (0, .ref 0), (1, .ref 22)]) (stk' := []) (mem' := fm g tp bt a b) (fun _ _ _ => rfl) ?_
                  refine fe_s 1 (pc' := fx_to 130 (-116)) (lc' := [(3, .int 40), (2, .int 7), (6, .int 39), (5, .int 0), (4, .int 39), (0, .ref 0), (1, .ref 22)]) (stk' := []) (mem' := fm g tp bt a b) (fun _ _ _ => rfl) ?_
                  rw [show fx_to 130 (-116) = 14 from by decide]
                  refine fe_w (lc' := [(3, .int 40), (2, .int 7), (0, .ref 0), (1, .ref 22)]) ⟨rfl, rfl, rfl, rfl, trivial⟩ (by show List.Nodup [3, 2, 0, 1]; decide) (by show List.Nodup [3, 2, 6, 5, 4, 0, 1]; decide) ?_
                  exact fw_7 hxp
                · rw [e15]
                  refine fe_s 1 (pc' := cond (fx_cb .ne 114 (nI n14)) 106 102) (lc' := [(6, .int 38), (5, .int 1), (4, .int 39), (3, .int 35), (2, .int 6), (0, .ref 0), (1, .ref 22)]) (stk' := []) (mem' := fm g tp bt a b) (fun _ _ _ => rfl) ?_
                  by_cases h17 : 114 = n14
                  · rw [show (fx_cb .ne 114 (nI n14)) = false from cb_neF (a := 114) (b := n14) (by omega) (by omega) (by omega)]
                    dsimp only [cond]
                    refine fe_s 4 (pc' := 112) (lc' := [(6, .int (38 + 1)), (5, .int 1), (4, .int 39), (3, .int 35), (2, .int 6), (0, .ref 0), (1, .ref 22)]) (stk' := []) (mem' := fm g tp bt a b) (fun _ _ _ => rfl) ?_
                    rw [show (38 + 1 : Int32) = 39 from rfl]
                    refine fe_s 3 (pc' := 72) (lc' := [(6, .int 39), (5, .int 1), (4, .int 39), (3, .int 35), (2, .int 6), (0, .ref 0), (1, .ref 22)]) (stk' := [.int 39, .int 39]) (mem' := fm g tp bt a b) (fun _ _ _ => rfl) ?_
                    refine fe_s 1 (pc' := cond (fx_cb .ge 39 39) 115 75) (lc' := [(6, .int 39), (5, .int 1), (4, .int 39), (3, .int 35), (2, .int 6), (0, .ref 0), (1, .ref 22)]) (stk' := []) (mem' := fm g tp bt a b) (fun _ _ _ => rfl) ?_
                    rw [show (fx_cb .ge 39 39) = true from by decide]
                    dsimp only [cond]
                    refine fe_s 1 (pc' := 117) (lc' := [(6, .int 39), (5, .int 1), (4, .int 39), (3, .int 35), (2, .int 6), (0, .ref 0), (1, .ref 22)]) (stk' := [.int 1]) (mem' := fm g tp bt a b) (fun _ _ _ => rfl) ?_
                    refine fe_s 1 (pc' := cond (fx_cb .eq 1 0) 122 120) (lc' := [(6, .int 39), (5, .int 1), (4, .int 39), (3, .int 35), (2, .int 6), (0, .ref 0), (1, .ref 22)]) (stk' := []) (mem' := fm g tp bt a b) (fun _ _ _ => rfl) ?_
                    rw [show (fx_cb .eq 1 0) = false from by decide]
                    dsimp only [cond]
                    refine fe_s 1 (pc' := 121) (lc' := [(6, .int 39), (5, .int 1), (4, .int 39), (3, .int 35), (2, .int 6), (0, .ref 0), (1, .ref 22)]) (stk' := [.int 6]) (mem' := fm g tp bt a b) (fun _ _ _ => rfl) ?_
                    exact fe_ret ⟨_, Or.inr ⟨6, by omega, rfl⟩, rfl⟩ (by rfl) (by rfl) (by rfl)
                  · rw [show (fx_cb .ne 114 (nI n14)) = true from cb_neT (a := 114) (b := n14) (by omega) (by omega) (by omega)]
                    dsimp only [cond]
                    refine fe_s 4 (pc' := 68) (lc' := [(6, .int (38 + 1)), (5, .int 0), (4, .int 39), (3, .int 35), (2, .int 6), (0, .ref 0), (1, .ref 22)]) (stk' := []) (mem' := fm g tp bt a b) (fun _ _ _ => rfl) ?_
                    rw [show (38 + 1 : Int32) = 39 from rfl]
                    refine fe_s 2 (pc' := 72) (lc' := [(6, .int 39), (5, .int 0), (4, .int 39), (3, .int 35), (2, .int 6), (0, .ref 0), (1, .ref 22)]) (stk' := [.int 39, .int 39]) (mem' := fm g tp bt a b) (fun _ _ _ => rfl) ?_
                    refine fe_s 1 (pc' := cond (fx_cb .ge 39 39) 115 75) (lc' := [(6, .int 39), (5, .int 0), (4, .int 39), (3, .int 35), (2, .int 6), (0, .ref 0), (1, .ref 22)]) (stk' := []) (mem' := fm g tp bt a b) (fun _ _ _ => rfl) ?_
                    rw [show (fx_cb .ge 39 39) = true from by decide]
                    dsimp only [cond]
                    refine fe_s 1 (pc' := 117) (lc' := [(6, .int 39), (5, .int 0), (4, .int 39), (3, .int 35), (2, .int 6), (0, .ref 0), (1, .ref 22)]) (stk' := [.int 0]) (mem' := fm g tp bt a b) (fun _ _ _ => rfl) ?_
                    refine fe_s 1 (pc' := cond (fx_cb .eq 0 0) 122 120) (lc' := [(6, .int 39), (5, .int 0), (4, .int 39), (3, .int 35), (2, .int 6), (0, .ref 0), (1, .ref 22)]) (stk' := []) (mem' := fm g tp bt a b) (fun _ _ _ => rfl) ?_
                    rw [show (fx_cb .eq 0 0) = true from by decide]
                    dsimp only [cond]
                    refine fe_s 4 (pc' := 129) (lc' := [(2, .int (6 + 1)), (6, .int 39), (5, .int 0), (4, .int 39), (3, .int 35), (0, .ref 0), (1, .ref 22)]) (stk' := [.int (39 + 1)]) (mem' := fm g tp bt a b) (fun _ _ _ => rfl) ?_
                    rw [show (6 + 1 : Int32) = 7 from rfl]
                    rw [show (39 + 1 : Int32) = 40 from rfl]
                    refine fe_s 1 (pc' := 130) (lc' := [(3, .int 40), (2, .int 7), (6, .int 39), (5, .int 0), (4, .int 39), (0, .ref 0), (1, .ref 22)]) (stk' := []) (mem' := fm g tp bt a b) (fun _ _ _ => rfl) ?_
                    refine fe_s 1 (pc' := fx_to 130 (-116)) (lc' := [(3, .int 40), (2, .int 7), (6, .int 39), (5, .int 0), (4, .int 39), (0, .ref 0), (1, .ref 22)]) (stk' := []) (mem' := fm g tp bt a b) (fun _ _ _ => rfl) ?_
                    rw [show fx_to 130 (-116) = 14 from by decide]
                    refine fe_w (lc' := [(3, .int 40), (2, .int 7), (0, .ref 0), (1, .ref 22)]) ⟨rfl, rfl, rfl, rfl, trivial⟩ (by show List.Nodup [3, 2, 0, 1]; decide) (by show List.Nodup [3, 2, 6, 5, 4, 0, 1]; decide) ?_
                    exact fw_7 hxp
              · rw [show (fx_cb .ne 117 (nI n10)) = true from cb_neT (a := 117) (b := n10) (by omega) (by omega) (by omega)]
                dsimp only [cond]
                refine fe_s 4 (pc' := 68) (lc' := [(6, .int (37 + 1)), (5, .int 0), (4, .int 39), (3, .int 35), (2, .int 6), (0, .ref 0), (1, .ref 22)]) (stk' := []) (mem' := fm g tp bt a b) (fun _ _ _ => rfl) ?_
                rw [show (37 + 1 : Int32) = 38 from rfl]
                refine fe_s 2 (pc' := 72) (lc' := [(6, .int 38), (5, .int 0), (4, .int 39), (3, .int 35), (2, .int 6), (0, .ref 0), (1, .ref 22)]) (stk' := [.int 39, .int 38]) (mem' := fm g tp bt a b) (fun _ _ _ => rfl) ?_
                refine fe_s 1 (pc' := cond (fx_cb .ge 38 39) 115 75) (lc' := [(6, .int 38), (5, .int 0), (4, .int 39), (3, .int 35), (2, .int 6), (0, .ref 0), (1, .ref 22)]) (stk' := []) (mem' := fm g tp bt a b) (fun _ _ _ => rfl) ?_
                rw [show (fx_cb .ge 38 39) = false from by decide]
                dsimp only [cond]
                refine fe_s 1 (pc' := 77) (lc' := [(6, .int 38), (5, .int 0), (4, .int 39), (3, .int 35), (2, .int 6), (0, .ref 0), (1, .ref 22)]) (stk' := [.int 0]) (mem' := fm g tp bt a b) (fun _ _ _ => rfl) ?_
                refine fe_s 1 (pc' := cond (fx_cb .eq 0 0) 115 80) (lc' := [(6, .int 38), (5, .int 0), (4, .int 39), (3, .int 35), (2, .int 6), (0, .ref 0), (1, .ref 22)]) (stk' := []) (mem' := fm g tp bt a b) (fun _ _ _ => rfl) ?_
                rw [show (fx_cb .eq 0 0) = true from by decide]
                dsimp only [cond]
                refine fe_s 1 (pc' := 117) (lc' := [(6, .int 38), (5, .int 0), (4, .int 39), (3, .int 35), (2, .int 6), (0, .ref 0), (1, .ref 22)]) (stk' := [.int 0]) (mem' := fm g tp bt a b) (fun _ _ _ => rfl) ?_
                refine fe_s 1 (pc' := cond (fx_cb .eq 0 0) 122 120) (lc' := [(6, .int 38), (5, .int 0), (4, .int 39), (3, .int 35), (2, .int 6), (0, .ref 0), (1, .ref 22)]) (stk' := []) (mem' := fm g tp bt a b) (fun _ _ _ => rfl) ?_
                rw [show (fx_cb .eq 0 0) = true from by decide]
                dsimp only [cond]
                refine fe_s 4 (pc' := 129) (lc' := [(2, .int (6 + 1)), (6, .int 38), (5, .int 0), (4, .int 39), (3, .int 35), (0, .ref 0), (1, .ref 22)]) (stk' := [.int (39 + 1)]) (mem' := fm g tp bt a b) (fun _ _ _ => rfl) ?_
                rw [show (6 + 1 : Int32) = 7 from rfl]
                rw [show (39 + 1 : Int32) = 40 from rfl]
                refine fe_s 1 (pc' := 130) (lc' := [(3, .int 40), (2, .int 7), (6, .int 38), (5, .int 0), (4, .int 39), (0, .ref 0), (1, .ref 22)]) (stk' := []) (mem' := fm g tp bt a b) (fun _ _ _ => rfl) ?_
                refine fe_s 1 (pc' := fx_to 130 (-116)) (lc' := [(3, .int 40), (2, .int 7), (6, .int 38), (5, .int 0), (4, .int 39), (0, .ref 0), (1, .ref 22)]) (stk' := []) (mem' := fm g tp bt a b) (fun _ _ _ => rfl) ?_
                rw [show fx_to 130 (-116) = 14 from by decide]
                refine fe_w (lc' := [(3, .int 40), (2, .int 7), (0, .ref 0), (1, .ref 22)]) ⟨rfl, rfl, rfl, rfl, trivial⟩ (by show List.Nodup [3, 2, 0, 1]; decide) (by show List.Nodup [3, 2, 6, 5, 4, 0, 1]; decide) ?_
                exact fw_7 hxp
          · rw [show (fx_cb .ne 111 (nI n6)) = true from cb_neT (a := 111) (b := n6) (by omega) (by omega) (by omega)]
            dsimp only [cond]
            refine fe_s 4 (pc' := 68) (lc' := [(6, .int (36 + 1)), (5, .int 0), (4, .int 39), (3, .int 35), (2, .int 6), (0, .ref 0), (1, .ref 22)]) (stk' := []) (mem' := fm g tp bt a b) (fun _ _ _ => rfl) ?_
            rw [show (36 + 1 : Int32) = 37 from rfl]
            refine fe_s 2 (pc' := 72) (lc' := [(6, .int 37), (5, .int 0), (4, .int 39), (3, .int 35), (2, .int 6), (0, .ref 0), (1, .ref 22)]) (stk' := [.int 39, .int 37]) (mem' := fm g tp bt a b) (fun _ _ _ => rfl) ?_
            refine fe_s 1 (pc' := cond (fx_cb .ge 37 39) 115 75) (lc' := [(6, .int 37), (5, .int 0), (4, .int 39), (3, .int 35), (2, .int 6), (0, .ref 0), (1, .ref 22)]) (stk' := []) (mem' := fm g tp bt a b) (fun _ _ _ => rfl) ?_
            rw [show (fx_cb .ge 37 39) = false from by decide]
            dsimp only [cond]
            refine fe_s 1 (pc' := 77) (lc' := [(6, .int 37), (5, .int 0), (4, .int 39), (3, .int 35), (2, .int 6), (0, .ref 0), (1, .ref 22)]) (stk' := [.int 0]) (mem' := fm g tp bt a b) (fun _ _ _ => rfl) ?_
            refine fe_s 1 (pc' := cond (fx_cb .eq 0 0) 115 80) (lc' := [(6, .int 37), (5, .int 0), (4, .int 39), (3, .int 35), (2, .int 6), (0, .ref 0), (1, .ref 22)]) (stk' := []) (mem' := fm g tp bt a b) (fun _ _ _ => rfl) ?_
            rw [show (fx_cb .eq 0 0) = true from by decide]
            dsimp only [cond]
            refine fe_s 1 (pc' := 117) (lc' := [(6, .int 37), (5, .int 0), (4, .int 39), (3, .int 35), (2, .int 6), (0, .ref 0), (1, .ref 22)]) (stk' := [.int 0]) (mem' := fm g tp bt a b) (fun _ _ _ => rfl) ?_
            refine fe_s 1 (pc' := cond (fx_cb .eq 0 0) 122 120) (lc' := [(6, .int 37), (5, .int 0), (4, .int 39), (3, .int 35), (2, .int 6), (0, .ref 0), (1, .ref 22)]) (stk' := []) (mem' := fm g tp bt a b) (fun _ _ _ => rfl) ?_
            rw [show (fx_cb .eq 0 0) = true from by decide]
            dsimp only [cond]
            refine fe_s 4 (pc' := 129) (lc' := [(2, .int (6 + 1)), (6, .int 37), (5, .int 0), (4, .int 39), (3, .int 35), (0, .ref 0), (1, .ref 22)]) (stk' := [.int (39 + 1)]) (mem' := fm g tp bt a b) (fun _ _ _ => rfl) ?_
            rw [show (6 + 1 : Int32) = 7 from rfl]
            rw [show (39 + 1 : Int32) = 40 from rfl]
            refine fe_s 1 (pc' := 130) (lc' := [(3, .int 40), (2, .int 7), (6, .int 37), (5, .int 0), (4, .int 39), (0, .ref 0), (1, .ref 22)]) (stk' := []) (mem' := fm g tp bt a b) (fun _ _ _ => rfl) ?_
            refine fe_s 1 (pc' := fx_to 130 (-116)) (lc' := [(3, .int 40), (2, .int 7), (6, .int 37), (5, .int 0), (4, .int 39), (0, .ref 0), (1, .ref 22)]) (stk' := []) (mem' := fm g tp bt a b) (fun _ _ _ => rfl) ?_
            rw [show fx_to 130 (-116) = 14 from by decide]
            refine fe_w (lc' := [(3, .int 40), (2, .int 7), (0, .ref 0), (1, .ref 22)]) ⟨rfl, rfl, rfl, rfl, trivial⟩ (by show List.Nodup [3, 2, 0, 1]; decide) (by show List.Nodup [3, 2, 6, 5, 4, 0, 1]; decide) ?_
            exact fw_7 hxp
      · rw [show (fx_cb .ne 104 (nI n2)) = true from cb_neT (a := 104) (b := n2) (by omega) (by omega) (by omega)]
        dsimp only [cond]
        refine fe_s 4 (pc' := 68) (lc' := [(6, .int (35 + 1)), (5, .int 0), (4, .int 39), (3, .int 35), (2, .int 6), (0, .ref 0), (1, .ref 22)]) (stk' := []) (mem' := fm g tp bt a b) (fun _ _ _ => rfl) ?_
        rw [show (35 + 1 : Int32) = 36 from rfl]
        refine fe_s 2 (pc' := 72) (lc' := [(6, .int 36), (5, .int 0), (4, .int 39), (3, .int 35), (2, .int 6), (0, .ref 0), (1, .ref 22)]) (stk' := [.int 39, .int 36]) (mem' := fm g tp bt a b) (fun _ _ _ => rfl) ?_
        refine fe_s 1 (pc' := cond (fx_cb .ge 36 39) 115 75) (lc' := [(6, .int 36), (5, .int 0), (4, .int 39), (3, .int 35), (2, .int 6), (0, .ref 0), (1, .ref 22)]) (stk' := []) (mem' := fm g tp bt a b) (fun _ _ _ => rfl) ?_
        rw [show (fx_cb .ge 36 39) = false from by decide]
        dsimp only [cond]
        refine fe_s 1 (pc' := 77) (lc' := [(6, .int 36), (5, .int 0), (4, .int 39), (3, .int 35), (2, .int 6), (0, .ref 0), (1, .ref 22)]) (stk' := [.int 0]) (mem' := fm g tp bt a b) (fun _ _ _ => rfl) ?_
        refine fe_s 1 (pc' := cond (fx_cb .eq 0 0) 115 80) (lc' := [(6, .int 36), (5, .int 0), (4, .int 39), (3, .int 35), (2, .int 6), (0, .ref 0), (1, .ref 22)]) (stk' := []) (mem' := fm g tp bt a b) (fun _ _ _ => rfl) ?_
        rw [show (fx_cb .eq 0 0) = true from by decide]
        dsimp only [cond]
        refine fe_s 1 (pc' := 117) (lc' := [(6, .int 36), (5, .int 0), (4, .int 39), (3, .int 35), (2, .int 6), (0, .ref 0), (1, .ref 22)]) (stk' := [.int 0]) (mem' := fm g tp bt a b) (fun _ _ _ => rfl) ?_
        refine fe_s 1 (pc' := cond (fx_cb .eq 0 0) 122 120) (lc' := [(6, .int 36), (5, .int 0), (4, .int 39), (3, .int 35), (2, .int 6), (0, .ref 0), (1, .ref 22)]) (stk' := []) (mem' := fm g tp bt a b) (fun _ _ _ => rfl) ?_
        rw [show (fx_cb .eq 0 0) = true from by decide]
        dsimp only [cond]
        refine fe_s 4 (pc' := 129) (lc' := [(2, .int (6 + 1)), (6, .int 36), (5, .int 0), (4, .int 39), (3, .int 35), (0, .ref 0), (1, .ref 22)]) (stk' := [.int (39 + 1)]) (mem' := fm g tp bt a b) (fun _ _ _ => rfl) ?_
        rw [show (6 + 1 : Int32) = 7 from rfl]
        rw [show (39 + 1 : Int32) = 40 from rfl]
        refine fe_s 1 (pc' := 130) (lc' := [(3, .int 40), (2, .int 7), (6, .int 36), (5, .int 0), (4, .int 39), (0, .ref 0), (1, .ref 22)]) (stk' := []) (mem' := fm g tp bt a b) (fun _ _ _ => rfl) ?_
        refine fe_s 1 (pc' := fx_to 130 (-116)) (lc' := [(3, .int 40), (2, .int 7), (6, .int 36), (5, .int 0), (4, .int 39), (0, .ref 0), (1, .ref 22)]) (stk' := []) (mem' := fm g tp bt a b) (fun _ _ _ => rfl) ?_
        rw [show fx_to 130 (-116) = 14 from by decide]
        refine fe_w (lc' := [(3, .int 40), (2, .int 7), (0, .ref 0), (1, .ref 22)]) ⟨rfl, rfl, rfl, rfl, trivial⟩ (by show List.Nodup [3, 2, 0, 1]; decide) (by show List.Nodup [3, 2, 6, 5, 4, 0, 1]; decide) ?_
        exact fw_7 hxp
  · rw [show (fx_cb .ne 4 (nI (E - F))) = true from cb_neT (a := 4) (b := E - F) (by omega) (by omega) (by omega)]
    dsimp only [cond]
    refine fe_s 4 (pc' := 68) (lc' := [(6, .int 35), (5, .int 0), (4, .int 39), (3, .int 35), (2, .int 6), (0, .ref 0), (1, .ref 22)]) (stk' := []) (mem' := fm g tp bt a b) (fun _ _ _ => rfl) ?_
    refine fe_s 2 (pc' := 72) (lc' := [(6, .int 35), (5, .int 0), (4, .int 39), (3, .int 35), (2, .int 6), (0, .ref 0), (1, .ref 22)]) (stk' := [.int 39, .int 35]) (mem' := fm g tp bt a b) (fun _ _ _ => rfl) ?_
    refine fe_s 1 (pc' := cond (fx_cb .ge 35 39) 115 75) (lc' := [(6, .int 35), (5, .int 0), (4, .int 39), (3, .int 35), (2, .int 6), (0, .ref 0), (1, .ref 22)]) (stk' := []) (mem' := fm g tp bt a b) (fun _ _ _ => rfl) ?_
    rw [show (fx_cb .ge 35 39) = false from by decide]
    dsimp only [cond]
    refine fe_s 1 (pc' := 77) (lc' := [(6, .int 35), (5, .int 0), (4, .int 39), (3, .int 35), (2, .int 6), (0, .ref 0), (1, .ref 22)]) (stk' := [.int 0]) (mem' := fm g tp bt a b) (fun _ _ _ => rfl) ?_
    refine fe_s 1 (pc' := cond (fx_cb .eq 0 0) 115 80) (lc' := [(6, .int 35), (5, .int 0), (4, .int 39), (3, .int 35), (2, .int 6), (0, .ref 0), (1, .ref 22)]) (stk' := []) (mem' := fm g tp bt a b) (fun _ _ _ => rfl) ?_
    rw [show (fx_cb .eq 0 0) = true from by decide]
    dsimp only [cond]
    refine fe_s 1 (pc' := 117) (lc' := [(6, .int 35), (5, .int 0), (4, .int 39), (3, .int 35), (2, .int 6), (0, .ref 0), (1, .ref 22)]) (stk' := [.int 0]) (mem' := fm g tp bt a b) (fun _ _ _ => rfl) ?_
    refine fe_s 1 (pc' := cond (fx_cb .eq 0 0) 122 120) (lc' := [(6, .int 35), (5, .int 0), (4, .int 39), (3, .int 35), (2, .int 6), (0, .ref 0), (1, .ref 22)]) (stk' := []) (mem' := fm g tp bt a b) (fun _ _ _ => rfl) ?_
    rw [show (fx_cb .eq 0 0) = true from by decide]
    dsimp only [cond]
    refine fe_s 4 (pc' := 129) (lc' := [(2, .int (6 + 1)), (6, .int 35), (5, .int 0), (4, .int 39), (3, .int 35), (0, .ref 0), (1, .ref 22)]) (stk' := [.int (39 + 1)]) (mem' := fm g tp bt a b) (fun _ _ _ => rfl) ?_
    rw [show (6 + 1 : Int32) = 7 from rfl]
    rw [show (39 + 1 : Int32) = 40 from rfl]
    refine fe_s 1 (pc' := 130) (lc' := [(3, .int 40), (2, .int 7), (6, .int 35), (5, .int 0), (4, .int 39), (0, .ref 0), (1, .ref 22)]) (stk' := []) (mem' := fm g tp bt a b) (fun _ _ _ => rfl) ?_
    refine fe_s 1 (pc' := fx_to 130 (-116)) (lc' := [(3, .int 40), (2, .int 7), (6, .int 35), (5, .int 0), (4, .int 39), (0, .ref 0), (1, .ref 22)]) (stk' := []) (mem' := fm g tp bt a b) (fun _ _ _ => rfl) ?_
    rw [show fx_to 130 (-116) = 14 from by decide]
    refine fe_w (lc' := [(3, .int 40), (2, .int 7), (0, .ref 0), (1, .ref 22)]) ⟨rfl, rfl, rfl, rfl, trivial⟩ (by show List.Nodup [3, 2, 0, 1]; decide) (by show List.Nodup [3, 2, 6, 5, 4, 0, 1]; decide) ?_
    exact fw_7 hxp
theorem fw_5 {S E F : Nat} (hxp : fm_xp g S E F) : fe_R 1 gk_m226 14 [(3, .int 29), (2, .int 5), (0, .ref 0), (1, .ref 22)] [] (fm g tp bt a b) (fm_FI (fm g tp bt a b)) := by
  obtain ⟨h11, hS9, h14, hES, h13, hFE, -, -, -⟩ := id hxp
  refine fe_s 2 (pc' := 16) (lc' := [(3, .int 29), (2, .int 5), (0, .ref 0), (1, .ref 22)]) (stk' := [.ref 22, .int 29]) (mem' := fm g tp bt a b) (fun _ _ _ => rfl) ?_
  refine fe_s 1 (pc' := 19) (lc' := [(3, .int 29), (2, .int 5), (0, .ref 0), (1, .ref 22)]) (stk' := [.int 117, .int 29]) (mem' := fm g tp bt a b) (fun _ _ _ => rfl) ?_
  refine fe_s 1 (pc' := cond (fx_cb .ge 29 117) 133 22) (lc' := [(3, .int 29), (2, .int 5), (0, .ref 0), (1, .ref 22)]) (stk' := []) (mem' := fm g tp bt a b) (fun _ _ _ => rfl) ?_
  rw [show (fx_cb .ge 29 117) = false from by decide]
  dsimp only [cond]
  refine fe_s 4 (pc' := 28) (lc' := [(4, .int 29), (3, .int 29), (2, .int 5), (0, .ref 0), (1, .ref 22)]) (stk' := [.int 29, .ref 22]) (mem' := fm g tp bt a b) (fun _ _ _ => rfl) ?_
  refine fe_chr (i := 29) (by omega) (by rfl) (by rfl) ⟨by rfl, by rfl⟩ (by rfl) ?_
  rw [show sk_b.getD 29 0 = 119 from rfl]
  refine fe_s 1 (pc' := 33) (lc' := [(4, .int 29), (3, .int 29), (2, .int 5), (0, .ref 0), (1, .ref 22)]) (stk' := [.int 32, .int 119]) (mem' := fm g tp bt a b) (fun _ _ _ => rfl) ?_
  refine fe_s 1 (pc' := cond (fx_cb .eq 119 32) 42 36) (lc' := [(4, .int 29), (3, .int 29), (2, .int 5), (0, .ref 0), (1, .ref 22)]) (stk' := []) (mem' := fm g tp bt a b) (fun _ _ _ => rfl) ?_
  rw [show (fx_cb .eq 119 32) = false from by decide]
  dsimp only [cond]
  refine fe_s 4 (pc' := 28) (lc' := [(4, .int (29 + 1)), (3, .int 29), (2, .int 5), (0, .ref 0), (1, .ref 22)]) (stk' := [.int (29 + 1), .ref 22]) (mem' := fm g tp bt a b) (fun _ _ _ => rfl) ?_
  rw [show (29 + 1 : Int32) = 30 from rfl]
  refine fe_chr (i := 30) (by omega) (by rfl) (by rfl) ⟨by rfl, by rfl⟩ (by rfl) ?_
  rw [show sk_b.getD 30 0 = 111 from rfl]
  refine fe_s 1 (pc' := 33) (lc' := [(4, .int 30), (3, .int 29), (2, .int 5), (0, .ref 0), (1, .ref 22)]) (stk' := [.int 32, .int 111]) (mem' := fm g tp bt a b) (fun _ _ _ => rfl) ?_
  refine fe_s 1 (pc' := cond (fx_cb .eq 111 32) 42 36) (lc' := [(4, .int 30), (3, .int 29), (2, .int 5), (0, .ref 0), (1, .ref 22)]) (stk' := []) (mem' := fm g tp bt a b) (fun _ _ _ => rfl) ?_
  rw [show (fx_cb .eq 111 32) = false from by decide]
  dsimp only [cond]
  refine fe_s 4 (pc' := 28) (lc' := [(4, .int (30 + 1)), (3, .int 29), (2, .int 5), (0, .ref 0), (1, .ref 22)]) (stk' := [.int (30 + 1), .ref 22]) (mem' := fm g tp bt a b) (fun _ _ _ => rfl) ?_
  rw [show (30 + 1 : Int32) = 31 from rfl]
  refine fe_chr (i := 31) (by omega) (by rfl) (by rfl) ⟨by rfl, by rfl⟩ (by rfl) ?_
  rw [show sk_b.getD 31 0 = 114 from rfl]
  refine fe_s 1 (pc' := 33) (lc' := [(4, .int 31), (3, .int 29), (2, .int 5), (0, .ref 0), (1, .ref 22)]) (stk' := [.int 32, .int 114]) (mem' := fm g tp bt a b) (fun _ _ _ => rfl) ?_
  refine fe_s 1 (pc' := cond (fx_cb .eq 114 32) 42 36) (lc' := [(4, .int 31), (3, .int 29), (2, .int 5), (0, .ref 0), (1, .ref 22)]) (stk' := []) (mem' := fm g tp bt a b) (fun _ _ _ => rfl) ?_
  rw [show (fx_cb .eq 114 32) = false from by decide]
  dsimp only [cond]
  refine fe_s 4 (pc' := 28) (lc' := [(4, .int (31 + 1)), (3, .int 29), (2, .int 5), (0, .ref 0), (1, .ref 22)]) (stk' := [.int (31 + 1), .ref 22]) (mem' := fm g tp bt a b) (fun _ _ _ => rfl) ?_
  rw [show (31 + 1 : Int32) = 32 from rfl]
  refine fe_chr (i := 32) (by omega) (by rfl) (by rfl) ⟨by rfl, by rfl⟩ (by rfl) ?_
  rw [show sk_b.getD 32 0 = 115 from rfl]
  refine fe_s 1 (pc' := 33) (lc' := [(4, .int 32), (3, .int 29), (2, .int 5), (0, .ref 0), (1, .ref 22)]) (stk' := [.int 32, .int 115]) (mem' := fm g tp bt a b) (fun _ _ _ => rfl) ?_
  refine fe_s 1 (pc' := cond (fx_cb .eq 115 32) 42 36) (lc' := [(4, .int 32), (3, .int 29), (2, .int 5), (0, .ref 0), (1, .ref 22)]) (stk' := []) (mem' := fm g tp bt a b) (fun _ _ _ => rfl) ?_
  rw [show (fx_cb .eq 115 32) = false from by decide]
  dsimp only [cond]
  refine fe_s 4 (pc' := 28) (lc' := [(4, .int (32 + 1)), (3, .int 29), (2, .int 5), (0, .ref 0), (1, .ref 22)]) (stk' := [.int (32 + 1), .ref 22]) (mem' := fm g tp bt a b) (fun _ _ _ => rfl) ?_
  rw [show (32 + 1 : Int32) = 33 from rfl]
  refine fe_chr (i := 33) (by omega) (by rfl) (by rfl) ⟨by rfl, by rfl⟩ (by rfl) ?_
  rw [show sk_b.getD 33 0 = 101 from rfl]
  refine fe_s 1 (pc' := 33) (lc' := [(4, .int 33), (3, .int 29), (2, .int 5), (0, .ref 0), (1, .ref 22)]) (stk' := [.int 32, .int 101]) (mem' := fm g tp bt a b) (fun _ _ _ => rfl) ?_
  refine fe_s 1 (pc' := cond (fx_cb .eq 101 32) 42 36) (lc' := [(4, .int 33), (3, .int 29), (2, .int 5), (0, .ref 0), (1, .ref 22)]) (stk' := []) (mem' := fm g tp bt a b) (fun _ _ _ => rfl) ?_
  rw [show (fx_cb .eq 101 32) = false from by decide]
  dsimp only [cond]
  refine fe_s 4 (pc' := 28) (lc' := [(4, .int (33 + 1)), (3, .int 29), (2, .int 5), (0, .ref 0), (1, .ref 22)]) (stk' := [.int (33 + 1), .ref 22]) (mem' := fm g tp bt a b) (fun _ _ _ => rfl) ?_
  rw [show (33 + 1 : Int32) = 34 from rfl]
  refine fe_chr (i := 34) (by omega) (by rfl) (by rfl) ⟨by rfl, by rfl⟩ (by rfl) ?_
  rw [show sk_b.getD 34 0 = 32 from rfl]
  refine fe_s 1 (pc' := 33) (lc' := [(4, .int 34), (3, .int 29), (2, .int 5), (0, .ref 0), (1, .ref 22)]) (stk' := [.int 32, .int 32]) (mem' := fm g tp bt a b) (fun _ _ _ => rfl) ?_
  refine fe_s 1 (pc' := cond (fx_cb .eq 32 32) 42 36) (lc' := [(4, .int 34), (3, .int 29), (2, .int 5), (0, .ref 0), (1, .ref 22)]) (stk' := []) (mem' := fm g tp bt a b) (fun _ _ _ => rfl) ?_
  rw [show (fx_cb .eq 32 32) = true from by decide]
  dsimp only [cond]
  refine fe_s 4 (pc' := 47) (lc' := [(4, .int 34), (3, .int 29), (2, .int 5), (0, .ref 0), (1, .ref 22)]) (stk' := [.ref 0, .int (34 - 29)]) (mem' := fm g tp bt a b) (fun _ _ _ => rfl) ?_
  rw [show (34 - 29 : Int32) = 5 from rfl]
  refine fe_s 4 (pc' := 55) (lc' := [(4, .int 34), (3, .int 29), (2, .int 5), (0, .ref 0), (1, .ref 22)]) (stk' := [.int ((g 14) - (g 13)), .int 5]) (mem' := fm g tp bt a b) (fun _ _ _ => rfl) ?_
  try rw [h14]
  try rw [h13]
  rw [show ((nI E) - (nI F) : Int32) = nI (E - F) from by simp only [tg_sub2 (x := E) (y := F) (by omega), nI_add, fm_mul]]
  refine fe_s 1 (pc' := cond (fx_cb .ne 5 (nI (E - F))) 62 58) (lc' := [(4, .int 34), (3, .int 29), (2, .int 5), (0, .ref 0), (1, .ref 22)]) (stk' := []) (mem' := fm g tp bt a b) (fun _ _ _ => rfl) ?_
  by_cases h1 : 5 = (E - F)
  · rw [show (fx_cb .ne 5 (nI (E - F))) = false from cb_neF (a := 5) (b := E - F) (by omega) (by omega) (by omega)]
    dsimp only [cond]
    refine fe_s 4 (pc' := 66) (lc' := [(5, .int 1), (4, .int 34), (3, .int 29), (2, .int 5), (0, .ref 0), (1, .ref 22)]) (stk' := [.int 29]) (mem' := fm g tp bt a b) (fun _ _ _ => rfl) ?_
    refine fe_s 3 (pc' := 72) (lc' := [(6, .int 29), (5, .int 1), (4, .int 34), (3, .int 29), (2, .int 5), (0, .ref 0), (1, .ref 22)]) (stk' := [.int 34, .int 29]) (mem' := fm g tp bt a b) (fun _ _ _ => rfl) ?_
    refine fe_s 1 (pc' := cond (fx_cb .ge 29 34) 115 75) (lc' := [(6, .int 29), (5, .int 1), (4, .int 34), (3, .int 29), (2, .int 5), (0, .ref 0), (1, .ref 22)]) (stk' := []) (mem' := fm g tp bt a b) (fun _ _ _ => rfl) ?_
    rw [show (fx_cb .ge 29 34) = false from by decide]
    dsimp only [cond]
    refine fe_s 1 (pc' := 77) (lc' := [(6, .int 29), (5, .int 1), (4, .int 34), (3, .int 29), (2, .int 5), (0, .ref 0), (1, .ref 22)]) (stk' := [.int 1]) (mem' := fm g tp bt a b) (fun _ _ _ => rfl) ?_
    refine fe_s 1 (pc' := cond (fx_cb .eq 1 0) 115 80) (lc' := [(6, .int 29), (5, .int 1), (4, .int 34), (3, .int 29), (2, .int 5), (0, .ref 0), (1, .ref 22)]) (stk' := []) (mem' := fm g tp bt a b) (fun _ _ _ => rfl) ?_
    rw [show (fx_cb .eq 1 0) = false from by decide]
    dsimp only [cond]
    refine fe_s 2 (pc' := 83) (lc' := [(6, .int 29), (5, .int 1), (4, .int 34), (3, .int 29), (2, .int 5), (0, .ref 0), (1, .ref 22)]) (stk' := [.int 29, .ref 22]) (mem' := fm g tp bt a b) (fun _ _ _ => rfl) ?_
    refine fe_chr (i := 29) (by omega) (by rfl) (by rfl) ⟨by rfl, by rfl⟩ (by rfl) ?_
    rw [show sk_b.getD 29 0 = 119 from rfl]
    refine fe_s 4 (pc' := 93) (lc' := [(6, .int 29), (5, .int 1), (4, .int 34), (3, .int 29), (2, .int 5), (0, .ref 0), (1, .ref 22)]) (stk' := [.int 29, .int (g 13), .ref 0, .int 119]) (mem' := fm g tp bt a b) (fun _ _ _ => rfl) ?_
    try rw [h13]
    refine fe_s 3 (pc' := 96) (lc' := [(6, .int 29), (5, .int 1), (4, .int 34), (3, .int 29), (2, .int 5), (0, .ref 0), (1, .ref 22)]) (stk' := [.int (((nI F) + 29) - 29), .ref 0, .int 119]) (mem' := fm g tp bt a b) (fun _ _ _ => rfl) ?_
    rw [show (((nI F) + 29) - 29 : Int32) = nI ((F + 29) - 29) from by simp only [show (29 : Int32) = nI 29 from rfl, tg_sub2 (x := F + 29) (y := 29) (by omega), nI_add, fm_mul]]
    refine fe_ivV (fr_byteAt (S := S) (k := (F + 29) - 29) (g := g) (tp := tp) (bt := bt) (a := a) (b := b) h11 (by omega) (by omega)) (by omega) (by rfl) (by rfl) (by rfl) (by rfl) (by rfl) (by rfl) ?_
    rcases fm_byte_or a S ((F + 29) - 29) with ⟨e3, q4⟩ | ⟨q4, n2, qn2, e3⟩
    · rw [e3]
      refine fe_s 1 (pc' := cond (fx_cb .ne 119 (-1)) 106 102) (lc' := [(6, .int 29), (5, .int 1), (4, .int 34), (3, .int 29), (2, .int 5), (0, .ref 0), (1, .ref 22)]) (stk' := []) (mem' := fm g tp bt a b) (fun _ _ _ => rfl) ?_
      rw [show (fx_cb .ne 119 (-1)) = true from by decide]
      dsimp only [cond]
      refine fe_s 4 (pc' := 68) (lc' := [(6, .int (29 + 1)), (5, .int 0), (4, .int 34), (3, .int 29), (2, .int 5), (0, .ref 0), (1, .ref 22)]) (stk' := []) (mem' := fm g tp bt a b) (fun _ _ _ => rfl) ?_
      rw [show (29 + 1 : Int32) = 30 from rfl]
      refine fe_s 2 (pc' := 72) (lc' := [(6, .int 30), (5, .int 0), (4, .int 34), (3, .int 29), (2, .int 5), (0, .ref 0), (1, .ref 22)]) (stk' := [.int 34, .int 30]) (mem' := fm g tp bt a b) (fun _ _ _ => rfl) ?_
      refine fe_s 1 (pc' := cond (fx_cb .ge 30 34) 115 75) (lc' := [(6, .int 30), (5, .int 0), (4, .int 34), (3, .int 29), (2, .int 5), (0, .ref 0), (1, .ref 22)]) (stk' := []) (mem' := fm g tp bt a b) (fun _ _ _ => rfl) ?_
      rw [show (fx_cb .ge 30 34) = false from by decide]
      dsimp only [cond]
      refine fe_s 1 (pc' := 77) (lc' := [(6, .int 30), (5, .int 0), (4, .int 34), (3, .int 29), (2, .int 5), (0, .ref 0), (1, .ref 22)]) (stk' := [.int 0]) (mem' := fm g tp bt a b) (fun _ _ _ => rfl) ?_
      refine fe_s 1 (pc' := cond (fx_cb .eq 0 0) 115 80) (lc' := [(6, .int 30), (5, .int 0), (4, .int 34), (3, .int 29), (2, .int 5), (0, .ref 0), (1, .ref 22)]) (stk' := []) (mem' := fm g tp bt a b) (fun _ _ _ => rfl) ?_
      rw [show (fx_cb .eq 0 0) = true from by decide]
      dsimp only [cond]
      refine fe_s 1 (pc' := 117) (lc' := [(6, .int 30), (5, .int 0), (4, .int 34), (3, .int 29), (2, .int 5), (0, .ref 0), (1, .ref 22)]) (stk' := [.int 0]) (mem' := fm g tp bt a b) (fun _ _ _ => rfl) ?_
      refine fe_s 1 (pc' := cond (fx_cb .eq 0 0) 122 120) (lc' := [(6, .int 30), (5, .int 0), (4, .int 34), (3, .int 29), (2, .int 5), (0, .ref 0), (1, .ref 22)]) (stk' := []) (mem' := fm g tp bt a b) (fun _ _ _ => rfl) ?_
      rw [show (fx_cb .eq 0 0) = true from by decide]
      dsimp only [cond]
      refine fe_s 4 (pc' := 129) (lc' := [(2, .int (5 + 1)), (6, .int 30), (5, .int 0), (4, .int 34), (3, .int 29), (0, .ref 0), (1, .ref 22)]) (stk' := [.int (34 + 1)]) (mem' := fm g tp bt a b) (fun _ _ _ => rfl) ?_
      rw [show (5 + 1 : Int32) = 6 from rfl]
      rw [show (34 + 1 : Int32) = 35 from rfl]
      refine fe_s 1 (pc' := 130) (lc' := [(3, .int 35), (2, .int 6), (6, .int 30), (5, .int 0), (4, .int 34), (0, .ref 0), (1, .ref 22)]) (stk' := []) (mem' := fm g tp bt a b) (fun _ _ _ => rfl) ?_
      refine fe_s 1 (pc' := fx_to 130 (-116)) (lc' := [(3, .int 35), (2, .int 6), (6, .int 30), (5, .int 0), (4, .int 34), (0, .ref 0), (1, .ref 22)]) (stk' := []) (mem' := fm g tp bt a b) (fun _ _ _ => rfl) ?_
      rw [show fx_to 130 (-116) = 14 from by decide]
      refine fe_w (lc' := [(3, .int 35), (2, .int 6), (0, .ref 0), (1, .ref 22)]) ⟨rfl, rfl, rfl, rfl, trivial⟩ (by show List.Nodup [3, 2, 0, 1]; decide) (by show List.Nodup [3, 2, 6, 5, 4, 0, 1]; decide) ?_
      exact fw_6 hxp
    · rw [e3]
      refine fe_s 1 (pc' := cond (fx_cb .ne 119 (nI n2)) 106 102) (lc' := [(6, .int 29), (5, .int 1), (4, .int 34), (3, .int 29), (2, .int 5), (0, .ref 0), (1, .ref 22)]) (stk' := []) (mem' := fm g tp bt a b) (fun _ _ _ => rfl) ?_
      by_cases h5 : 119 = n2
      · rw [show (fx_cb .ne 119 (nI n2)) = false from cb_neF (a := 119) (b := n2) (by omega) (by omega) (by omega)]
        dsimp only [cond]
        refine fe_s 4 (pc' := 112) (lc' := [(6, .int (29 + 1)), (5, .int 1), (4, .int 34), (3, .int 29), (2, .int 5), (0, .ref 0), (1, .ref 22)]) (stk' := []) (mem' := fm g tp bt a b) (fun _ _ _ => rfl) ?_
        rw [show (29 + 1 : Int32) = 30 from rfl]
        refine fe_s 3 (pc' := 72) (lc' := [(6, .int 30), (5, .int 1), (4, .int 34), (3, .int 29), (2, .int 5), (0, .ref 0), (1, .ref 22)]) (stk' := [.int 34, .int 30]) (mem' := fm g tp bt a b) (fun _ _ _ => rfl) ?_
        refine fe_s 1 (pc' := cond (fx_cb .ge 30 34) 115 75) (lc' := [(6, .int 30), (5, .int 1), (4, .int 34), (3, .int 29), (2, .int 5), (0, .ref 0), (1, .ref 22)]) (stk' := []) (mem' := fm g tp bt a b) (fun _ _ _ => rfl) ?_
        rw [show (fx_cb .ge 30 34) = false from by decide]
        dsimp only [cond]
        refine fe_s 1 (pc' := 77) (lc' := [(6, .int 30), (5, .int 1), (4, .int 34), (3, .int 29), (2, .int 5), (0, .ref 0), (1, .ref 22)]) (stk' := [.int 1]) (mem' := fm g tp bt a b) (fun _ _ _ => rfl) ?_
        refine fe_s 1 (pc' := cond (fx_cb .eq 1 0) 115 80) (lc' := [(6, .int 30), (5, .int 1), (4, .int 34), (3, .int 29), (2, .int 5), (0, .ref 0), (1, .ref 22)]) (stk' := []) (mem' := fm g tp bt a b) (fun _ _ _ => rfl) ?_
        rw [show (fx_cb .eq 1 0) = false from by decide]
        dsimp only [cond]
        refine fe_s 2 (pc' := 83) (lc' := [(6, .int 30), (5, .int 1), (4, .int 34), (3, .int 29), (2, .int 5), (0, .ref 0), (1, .ref 22)]) (stk' := [.int 30, .ref 22]) (mem' := fm g tp bt a b) (fun _ _ _ => rfl) ?_
        refine fe_chr (i := 30) (by omega) (by rfl) (by rfl) ⟨by rfl, by rfl⟩ (by rfl) ?_
        rw [show sk_b.getD 30 0 = 111 from rfl]
        refine fe_s 4 (pc' := 93) (lc' := [(6, .int 30), (5, .int 1), (4, .int 34), (3, .int 29), (2, .int 5), (0, .ref 0), (1, .ref 22)]) (stk' := [.int 30, .int (g 13), .ref 0, .int 111]) (mem' := fm g tp bt a b) (fun _ _ _ => rfl) ?_
        try rw [h13]
        refine fe_s 3 (pc' := 96) (lc' := [(6, .int 30), (5, .int 1), (4, .int 34), (3, .int 29), (2, .int 5), (0, .ref 0), (1, .ref 22)]) (stk' := [.int (((nI F) + 30) - 29), .ref 0, .int 111]) (mem' := fm g tp bt a b) (fun _ _ _ => rfl) ?_
        rw [show (((nI F) + 30) - 29 : Int32) = nI ((F + 30) - 29) from by simp only [show (30 : Int32) = nI 30 from rfl, show (29 : Int32) = nI 29 from rfl, tg_sub2 (x := F + 30) (y := 29) (by omega), nI_add, fm_mul]]
        refine fe_ivV (fr_byteAt (S := S) (k := (F + 30) - 29) (g := g) (tp := tp) (bt := bt) (a := a) (b := b) h11 (by omega) (by omega)) (by omega) (by rfl) (by rfl) (by rfl) (by rfl) (by rfl) (by rfl) ?_
        rcases fm_byte_or a S ((F + 30) - 29) with ⟨e7, q8⟩ | ⟨q8, n6, qn6, e7⟩
        · rw [e7]
          refine fe_s 1 (pc' := cond (fx_cb .ne 111 (-1)) 106 102) (lc' := [(6, .int 30), (5, .int 1), (4, .int 34), (3, .int 29), (2, .int 5), (0, .ref 0), (1, .ref 22)]) (stk' := []) (mem' := fm g tp bt a b) (fun _ _ _ => rfl) ?_
          rw [show (fx_cb .ne 111 (-1)) = true from by decide]
          dsimp only [cond]
          refine fe_s 4 (pc' := 68) (lc' := [(6, .int (30 + 1)), (5, .int 0), (4, .int 34), (3, .int 29), (2, .int 5), (0, .ref 0), (1, .ref 22)]) (stk' := []) (mem' := fm g tp bt a b) (fun _ _ _ => rfl) ?_
          rw [show (30 + 1 : Int32) = 31 from rfl]
          refine fe_s 2 (pc' := 72) (lc' := [(6, .int 31), (5, .int 0), (4, .int 34), (3, .int 29), (2, .int 5), (0, .ref 0), (1, .ref 22)]) (stk' := [.int 34, .int 31]) (mem' := fm g tp bt a b) (fun _ _ _ => rfl) ?_
          refine fe_s 1 (pc' := cond (fx_cb .ge 31 34) 115 75) (lc' := [(6, .int 31), (5, .int 0), (4, .int 34), (3, .int 29), (2, .int 5), (0, .ref 0), (1, .ref 22)]) (stk' := []) (mem' := fm g tp bt a b) (fun _ _ _ => rfl) ?_
          rw [show (fx_cb .ge 31 34) = false from by decide]
          dsimp only [cond]
          refine fe_s 1 (pc' := 77) (lc' := [(6, .int 31), (5, .int 0), (4, .int 34), (3, .int 29), (2, .int 5), (0, .ref 0), (1, .ref 22)]) (stk' := [.int 0]) (mem' := fm g tp bt a b) (fun _ _ _ => rfl) ?_
          refine fe_s 1 (pc' := cond (fx_cb .eq 0 0) 115 80) (lc' := [(6, .int 31), (5, .int 0), (4, .int 34), (3, .int 29), (2, .int 5), (0, .ref 0), (1, .ref 22)]) (stk' := []) (mem' := fm g tp bt a b) (fun _ _ _ => rfl) ?_
          rw [show (fx_cb .eq 0 0) = true from by decide]
          dsimp only [cond]
          refine fe_s 1 (pc' := 117) (lc' := [(6, .int 31), (5, .int 0), (4, .int 34), (3, .int 29), (2, .int 5), (0, .ref 0), (1, .ref 22)]) (stk' := [.int 0]) (mem' := fm g tp bt a b) (fun _ _ _ => rfl) ?_
          refine fe_s 1 (pc' := cond (fx_cb .eq 0 0) 122 120) (lc' := [(6, .int 31), (5, .int 0), (4, .int 34), (3, .int 29), (2, .int 5), (0, .ref 0), (1, .ref 22)]) (stk' := []) (mem' := fm g tp bt a b) (fun _ _ _ => rfl) ?_
          rw [show (fx_cb .eq 0 0) = true from by decide]
          dsimp only [cond]
          refine fe_s 4 (pc' := 129) (lc' := [(2, .int (5 + 1)), (6, .int 31), (5, .int 0), (4, .int 34), (3, .int 29), (0, .ref 0), (1, .ref 22)]) (stk' := [.int (34 + 1)]) (mem' := fm g tp bt a b) (fun _ _ _ => rfl) ?_
          rw [show (5 + 1 : Int32) = 6 from rfl]
          rw [show (34 + 1 : Int32) = 35 from rfl]
          refine fe_s 1 (pc' := 130) (lc' := [(3, .int 35), (2, .int 6), (6, .int 31), (5, .int 0), (4, .int 34), (0, .ref 0), (1, .ref 22)]) (stk' := []) (mem' := fm g tp bt a b) (fun _ _ _ => rfl) ?_
          refine fe_s 1 (pc' := fx_to 130 (-116)) (lc' := [(3, .int 35), (2, .int 6), (6, .int 31), (5, .int 0), (4, .int 34), (0, .ref 0), (1, .ref 22)]) (stk' := []) (mem' := fm g tp bt a b) (fun _ _ _ => rfl) ?_
          rw [show fx_to 130 (-116) = 14 from by decide]
          refine fe_w (lc' := [(3, .int 35), (2, .int 6), (0, .ref 0), (1, .ref 22)]) ⟨rfl, rfl, rfl, rfl, trivial⟩ (by show List.Nodup [3, 2, 0, 1]; decide) (by show List.Nodup [3, 2, 6, 5, 4, 0, 1]; decide) ?_
          exact fw_6 hxp
        · rw [e7]
          refine fe_s 1 (pc' := cond (fx_cb .ne 111 (nI n6)) 106 102) (lc' := [(6, .int 30), (5, .int 1), (4, .int 34), (3, .int 29), (2, .int 5), (0, .ref 0), (1, .ref 22)]) (stk' := []) (mem' := fm g tp bt a b) (fun _ _ _ => rfl) ?_
          by_cases h9 : 111 = n6
          · rw [show (fx_cb .ne 111 (nI n6)) = false from cb_neF (a := 111) (b := n6) (by omega) (by omega) (by omega)]
            dsimp only [cond]
            refine fe_s 4 (pc' := 112) (lc' := [(6, .int (30 + 1)), (5, .int 1), (4, .int 34), (3, .int 29), (2, .int 5), (0, .ref 0), (1, .ref 22)]) (stk' := []) (mem' := fm g tp bt a b) (fun _ _ _ => rfl) ?_
            rw [show (30 + 1 : Int32) = 31 from rfl]
            refine fe_s 3 (pc' := 72) (lc' := [(6, .int 31), (5, .int 1), (4, .int 34), (3, .int 29), (2, .int 5), (0, .ref 0), (1, .ref 22)]) (stk' := [.int 34, .int 31]) (mem' := fm g tp bt a b) (fun _ _ _ => rfl) ?_
            refine fe_s 1 (pc' := cond (fx_cb .ge 31 34) 115 75) (lc' := [(6, .int 31), (5, .int 1), (4, .int 34), (3, .int 29), (2, .int 5), (0, .ref 0), (1, .ref 22)]) (stk' := []) (mem' := fm g tp bt a b) (fun _ _ _ => rfl) ?_
            rw [show (fx_cb .ge 31 34) = false from by decide]
            dsimp only [cond]
            refine fe_s 1 (pc' := 77) (lc' := [(6, .int 31), (5, .int 1), (4, .int 34), (3, .int 29), (2, .int 5), (0, .ref 0), (1, .ref 22)]) (stk' := [.int 1]) (mem' := fm g tp bt a b) (fun _ _ _ => rfl) ?_
            refine fe_s 1 (pc' := cond (fx_cb .eq 1 0) 115 80) (lc' := [(6, .int 31), (5, .int 1), (4, .int 34), (3, .int 29), (2, .int 5), (0, .ref 0), (1, .ref 22)]) (stk' := []) (mem' := fm g tp bt a b) (fun _ _ _ => rfl) ?_
            rw [show (fx_cb .eq 1 0) = false from by decide]
            dsimp only [cond]
            refine fe_s 2 (pc' := 83) (lc' := [(6, .int 31), (5, .int 1), (4, .int 34), (3, .int 29), (2, .int 5), (0, .ref 0), (1, .ref 22)]) (stk' := [.int 31, .ref 22]) (mem' := fm g tp bt a b) (fun _ _ _ => rfl) ?_
            refine fe_chr (i := 31) (by omega) (by rfl) (by rfl) ⟨by rfl, by rfl⟩ (by rfl) ?_
            rw [show sk_b.getD 31 0 = 114 from rfl]
            refine fe_s 4 (pc' := 93) (lc' := [(6, .int 31), (5, .int 1), (4, .int 34), (3, .int 29), (2, .int 5), (0, .ref 0), (1, .ref 22)]) (stk' := [.int 31, .int (g 13), .ref 0, .int 114]) (mem' := fm g tp bt a b) (fun _ _ _ => rfl) ?_
            try rw [h13]
            refine fe_s 3 (pc' := 96) (lc' := [(6, .int 31), (5, .int 1), (4, .int 34), (3, .int 29), (2, .int 5), (0, .ref 0), (1, .ref 22)]) (stk' := [.int (((nI F) + 31) - 29), .ref 0, .int 114]) (mem' := fm g tp bt a b) (fun _ _ _ => rfl) ?_
            rw [show (((nI F) + 31) - 29 : Int32) = nI ((F + 31) - 29) from by simp only [show (31 : Int32) = nI 31 from rfl, show (29 : Int32) = nI 29 from rfl, tg_sub2 (x := F + 31) (y := 29) (by omega), nI_add, fm_mul]]
            refine fe_ivV (fr_byteAt (S := S) (k := (F + 31) - 29) (g := g) (tp := tp) (bt := bt) (a := a) (b := b) h11 (by omega) (by omega)) (by omega) (by rfl) (by rfl) (by rfl) (by rfl) (by rfl) (by rfl) ?_
            rcases fm_byte_or a S ((F + 31) - 29) with ⟨e11, q12⟩ | ⟨q12, n10, qn10, e11⟩
            · rw [e11]
              refine fe_s 1 (pc' := cond (fx_cb .ne 114 (-1)) 106 102) (lc' := [(6, .int 31), (5, .int 1), (4, .int 34), (3, .int 29), (2, .int 5), (0, .ref 0), (1, .ref 22)]) (stk' := []) (mem' := fm g tp bt a b) (fun _ _ _ => rfl) ?_
              rw [show (fx_cb .ne 114 (-1)) = true from by decide]
              dsimp only [cond]
              refine fe_s 4 (pc' := 68) (lc' := [(6, .int (31 + 1)), (5, .int 0), (4, .int 34), (3, .int 29), (2, .int 5), (0, .ref 0), (1, .ref 22)]) (stk' := []) (mem' := fm g tp bt a b) (fun _ _ _ => rfl) ?_
              rw [show (31 + 1 : Int32) = 32 from rfl]
              refine fe_s 2 (pc' := 72) (lc' := [(6, .int 32), (5, .int 0), (4, .int 34), (3, .int 29), (2, .int 5), (0, .ref 0), (1, .ref 22)]) (stk' := [.int 34, .int 32]) (mem' := fm g tp bt a b) (fun _ _ _ => rfl) ?_
              refine fe_s 1 (pc' := cond (fx_cb .ge 32 34) 115 75) (lc' := [(6, .int 32), (5, .int 0), (4, .int 34), (3, .int 29), (2, .int 5), (0, .ref 0), (1, .ref 22)]) (stk' := []) (mem' := fm g tp bt a b) (fun _ _ _ => rfl) ?_
              rw [show (fx_cb .ge 32 34) = false from by decide]
              dsimp only [cond]
              refine fe_s 1 (pc' := 77) (lc' := [(6, .int 32), (5, .int 0), (4, .int 34), (3, .int 29), (2, .int 5), (0, .ref 0), (1, .ref 22)]) (stk' := [.int 0]) (mem' := fm g tp bt a b) (fun _ _ _ => rfl) ?_
              refine fe_s 1 (pc' := cond (fx_cb .eq 0 0) 115 80) (lc' := [(6, .int 32), (5, .int 0), (4, .int 34), (3, .int 29), (2, .int 5), (0, .ref 0), (1, .ref 22)]) (stk' := []) (mem' := fm g tp bt a b) (fun _ _ _ => rfl) ?_
              rw [show (fx_cb .eq 0 0) = true from by decide]
              dsimp only [cond]
              refine fe_s 1 (pc' := 117) (lc' := [(6, .int 32), (5, .int 0), (4, .int 34), (3, .int 29), (2, .int 5), (0, .ref 0), (1, .ref 22)]) (stk' := [.int 0]) (mem' := fm g tp bt a b) (fun _ _ _ => rfl) ?_
              refine fe_s 1 (pc' := cond (fx_cb .eq 0 0) 122 120) (lc' := [(6, .int 32), (5, .int 0), (4, .int 34), (3, .int 29), (2, .int 5), (0, .ref 0), (1, .ref 22)]) (stk' := []) (mem' := fm g tp bt a b) (fun _ _ _ => rfl) ?_
              rw [show (fx_cb .eq 0 0) = true from by decide]
              dsimp only [cond]
              refine fe_s 4 (pc' := 129) (lc' := [(2, .int (5 + 1)), (6, .int 32), (5, .int 0), (4, .int 34), (3, .int 29), (0, .ref 0), (1, .ref 22)]) (stk' := [.int (34 + 1)]) (mem' := fm g tp bt a b) (fun _ _ _ => rfl) ?_
              rw [show (5 + 1 : Int32) = 6 from rfl]
              rw [show (34 + 1 : Int32) = 35 from rfl]
              refine fe_s 1 (pc' := 130) (lc' := [(3, .int 35), (2, .int 6), (6, .int 32), (5, .int 0), (4, .int 34), (0, .ref 0), (1, .ref 22)]) (stk' := []) (mem' := fm g tp bt a b) (fun _ _ _ => rfl) ?_
              refine fe_s 1 (pc' := fx_to 130 (-116)) (lc' := [(3, .int 35), (2, .int 6), (6, .int 32), (5, .int 0), (4, .int 34), (0, .ref 0), (1, .ref 22)]) (stk' := []) (mem' := fm g tp bt a b) (fun _ _ _ => rfl) ?_
              rw [show fx_to 130 (-116) = 14 from by decide]
              refine fe_w (lc' := [(3, .int 35), (2, .int 6), (0, .ref 0), (1, .ref 22)]) ⟨rfl, rfl, rfl, rfl, trivial⟩ (by show List.Nodup [3, 2, 0, 1]; decide) (by show List.Nodup [3, 2, 6, 5, 4, 0, 1]; decide) ?_
              exact fw_6 hxp
            · rw [e11]
              refine fe_s 1 (pc' := cond (fx_cb .ne 114 (nI n10)) 106 102) (lc' := [(6, .int 31), (5, .int 1), (4, .int 34), (3, .int 29), (2, .int 5), (0, .ref 0), (1, .ref 22)]) (stk' := []) (mem' := fm g tp bt a b) (fun _ _ _ => rfl) ?_
              by_cases h13 : 114 = n10
              · rw [show (fx_cb .ne 114 (nI n10)) = false from cb_neF (a := 114) (b := n10) (by omega) (by omega) (by omega)]
                dsimp only [cond]
                refine fe_s 4 (pc' := 112) (lc' := [(6, .int (31 + 1)), (5, .int 1), (4, .int 34), (3, .int 29), (2, .int 5), (0, .ref 0), (1, .ref 22)]) (stk' := []) (mem' := fm g tp bt a b) (fun _ _ _ => rfl) ?_
                rw [show (31 + 1 : Int32) = 32 from rfl]
                refine fe_s 3 (pc' := 72) (lc' := [(6, .int 32), (5, .int 1), (4, .int 34), (3, .int 29), (2, .int 5), (0, .ref 0), (1, .ref 22)]) (stk' := [.int 34, .int 32]) (mem' := fm g tp bt a b) (fun _ _ _ => rfl) ?_
                refine fe_s 1 (pc' := cond (fx_cb .ge 32 34) 115 75) (lc' := [(6, .int 32), (5, .int 1), (4, .int 34), (3, .int 29), (2, .int 5), (0, .ref 0), (1, .ref 22)]) (stk' := []) (mem' := fm g tp bt a b) (fun _ _ _ => rfl) ?_
                rw [show (fx_cb .ge 32 34) = false from by decide]
                dsimp only [cond]
                refine fe_s 1 (pc' := 77) (lc' := [(6, .int 32), (5, .int 1), (4, .int 34), (3, .int 29), (2, .int 5), (0, .ref 0), (1, .ref 22)]) (stk' := [.int 1]) (mem' := fm g tp bt a b) (fun _ _ _ => rfl) ?_
                refine fe_s 1 (pc' := cond (fx_cb .eq 1 0) 115 80) (lc' := [(6, .int 32), (5, .int 1), (4, .int 34), (3, .int 29), (2, .int 5), (0, .ref 0), (1, .ref 22)]) (stk' := []) (mem' := fm g tp bt a b) (fun _ _ _ => rfl) ?_
                rw [show (fx_cb .eq 1 0) = false from by decide]
                dsimp only [cond]
                refine fe_s 2 (pc' := 83) (lc' := [(6, .int 32), (5, .int 1), (4, .int 34), (3, .int 29), (2, .int 5), (0, .ref 0), (1, .ref 22)]) (stk' := [.int 32, .ref 22]) (mem' := fm g tp bt a b) (fun _ _ _ => rfl) ?_
                refine fe_chr (i := 32) (by omega) (by rfl) (by rfl) ⟨by rfl, by rfl⟩ (by rfl) ?_
                rw [show sk_b.getD 32 0 = 115 from rfl]
                refine fe_s 4 (pc' := 93) (lc' := [(6, .int 32), (5, .int 1), (4, .int 34), (3, .int 29), (2, .int 5), (0, .ref 0), (1, .ref 22)]) (stk' := [.int 32, .int (g 13), .ref 0, .int 115]) (mem' := fm g tp bt a b) (fun _ _ _ => rfl) ?_
                try rw [h13]
                refine fe_s 3 (pc' := 96) (lc' := [(6, .int 32), (5, .int 1), (4, .int 34), (3, .int 29), (2, .int 5), (0, .ref 0), (1, .ref 22)]) (stk' := [.int (((nI F) + 32) - 29), .ref 0, .int 115]) (mem' := fm g tp bt a b) (fun _ _ _ => rfl) ?_
                rw [show (((nI F) + 32) - 29 : Int32) = nI ((F + 32) - 29) from by simp only [show (32 : Int32) = nI 32 from rfl, show (29 : Int32) = nI 29 from rfl, tg_sub2 (x := F + 32) (y := 29) (by omega), nI_add, fm_mul]]
                refine fe_ivV (fr_byteAt (S := S) (k := (F + 32) - 29) (g := g) (tp := tp) (bt := bt) (a := a) (b := b) h11 (by omega) (by omega)) (by omega) (by rfl) (by rfl) (by rfl) (by rfl) (by rfl) (by rfl) ?_
                rcases fm_byte_or a S ((F + 32) - 29) with ⟨e15, q16⟩ | ⟨q16, n14, qn14, e15⟩
                · rw [e15]
                  refine fe_s 1 (pc' := cond (fx_cb .ne 115 (-1)) 106 102) (lc' := [(6, .int 32), (5, .int 1), (4, .int 34), (3, .int 29), (2, .int 5), (0, .ref 0), (1, .ref 22)]) (stk' := []) (mem' := fm g tp bt a b) (fun _ _ _ => rfl) ?_
                  rw [show (fx_cb .ne 115 (-1)) = true from by decide]
                  dsimp only [cond]
                  refine fe_s 4 (pc' := 68) (lc' := [(6, .int (32 + 1)), (5, .int 0), (4, .int 34), (3, .int 29), (2, .int 5), (0, .ref 0), (1, .ref 22)]) (stk' := []) (mem' := fm g tp bt a b) (fun _ _ _ => rfl) ?_
                  rw [show (32 + 1 : Int32) = 33 from rfl]
                  refine fe_s 2 (pc' := 72) (lc' := [(6, .int 33), (5, .int 0), (4, .int 34), (3, .int 29), (2, .int 5), (0, .ref 0), (1, .ref 22)]) (stk' := [.int 34, .int 33]) (mem' := fm g tp bt a b) (fun _ _ _ => rfl) ?_
                  refine fe_s 1 (pc' := cond (fx_cb .ge 33 34) 115 75) (lc' := [(6, .int 33), (5, .int 0), (4, .int 34), (3, .int 29), (2, .int 5), (0, .ref 0), (1, .ref 22)]) (stk' := []) (mem' := fm g tp bt a b) (fun _ _ _ => rfl) ?_
                  rw [show (fx_cb .ge 33 34) = false from by decide]
                  dsimp only [cond]
                  refine fe_s 1 (pc' := 77) (lc' := [(6, .int 33), (5, .int 0), (4, .int 34), (3, .int 29), (2, .int 5), (0, .ref 0), (1, .ref 22)]) (stk' := [.int 0]) (mem' := fm g tp bt a b) (fun _ _ _ => rfl) ?_
                  refine fe_s 1 (pc' := cond (fx_cb .eq 0 0) 115 80) (lc' := [(6, .int 33), (5, .int 0), (4, .int 34), (3, .int 29), (2, .int 5), (0, .ref 0), (1, .ref 22)]) (stk' := []) (mem' := fm g tp bt a b) (fun _ _ _ => rfl) ?_
                  rw [show (fx_cb .eq 0 0) = true from by decide]
                  dsimp only [cond]
                  refine fe_s 1 (pc' := 117) (lc' := [(6, .int 33), (5, .int 0), (4, .int 34), (3, .int 29), (2, .int 5), (0, .ref 0), (1, .ref 22)]) (stk' := [.int 0]) (mem' := fm g tp bt a b) (fun _ _ _ => rfl) ?_
                  refine fe_s 1 (pc' := cond (fx_cb .eq 0 0) 122 120) (lc' := [(6, .int 33), (5, .int 0), (4, .int 34), (3, .int 29), (2, .int 5), (0, .ref 0), (1, .ref 22)]) (stk' := []) (mem' := fm g tp bt a b) (fun _ _ _ => rfl) ?_
                  rw [show (fx_cb .eq 0 0) = true from by decide]
                  dsimp only [cond]
                  refine fe_s 4 (pc' := 129) (lc' := [(2, .int (5 + 1)), (6, .int 33), (5, .int 0), (4, .int 34), (3, .int 29), (0, .ref 0), (1, .ref 22)]) (stk' := [.int (34 + 1)]) (mem' := fm g tp bt a b) (fun _ _ _ => rfl) ?_
                  rw [show (5 + 1 : Int32) = 6 from rfl]
                  rw [show (34 + 1 : Int32) = 35 from rfl]
                  refine fe_s 1 (pc' := 130) (lc' := [(3, .int 35), (2, .int 6), (6, .int 33), (5, .int 0), (4, .int 34), (0, .ref 0), (1, .ref 22)]) (stk' := []) (mem' := fm g tp bt a b) (fun _ _ _ => rfl) ?_
                  refine fe_s 1 (pc' := fx_to 130 (-116)) (lc' := [(3, .int 35), (2, .int 6), (6, .int 33), (5, .int 0), (4, .int 34), (0, .ref 0), (1, .ref 22)]) (stk' := []) (mem' := fm g tp bt a b) (fun _ _ _ => rfl) ?_
                  rw [show fx_to 130 (-116) = 14 from by decide]
                  refine fe_w (lc' := [(3, .int 35), (2, .int 6), (0, .ref 0), (1, .ref 22)]) ⟨rfl, rfl, rfl, rfl, trivial⟩ (by show List.Nodup [3, 2, 0, 1]; decide) (by show List.Nodup [3, 2, 6, 5, 4, 0, 1]; decide) ?_
                  exact fw_6 hxp
                · rw [e15]
                  refine fe_s 1 (pc' := cond (fx_cb .ne 115 (nI n14)) 106 102) (lc' := [(6, .int 32), (5, .int 1), (4, .int 34), (3, .int 29), (2, .int 5), (0, .ref 0), (1, .ref 22)]) (stk' := []) (mem' := fm g tp bt a b) (fun _ _ _ => rfl) ?_
                  by_cases h17 : 115 = n14
                  · rw [show (fx_cb .ne 115 (nI n14)) = false from cb_neF (a := 115) (b := n14) (by omega) (by omega) (by omega)]
                    dsimp only [cond]
                    refine fe_s 4 (pc' := 112) (lc' := [(6, .int (32 + 1)), (5, .int 1), (4, .int 34), (3, .int 29), (2, .int 5), (0, .ref 0), (1, .ref 22)]) (stk' := []) (mem' := fm g tp bt a b) (fun _ _ _ => rfl) ?_
                    rw [show (32 + 1 : Int32) = 33 from rfl]
                    refine fe_s 3 (pc' := 72) (lc' := [(6, .int 33), (5, .int 1), (4, .int 34), (3, .int 29), (2, .int 5), (0, .ref 0), (1, .ref 22)]) (stk' := [.int 34, .int 33]) (mem' := fm g tp bt a b) (fun _ _ _ => rfl) ?_
                    refine fe_s 1 (pc' := cond (fx_cb .ge 33 34) 115 75) (lc' := [(6, .int 33), (5, .int 1), (4, .int 34), (3, .int 29), (2, .int 5), (0, .ref 0), (1, .ref 22)]) (stk' := []) (mem' := fm g tp bt a b) (fun _ _ _ => rfl) ?_
                    rw [show (fx_cb .ge 33 34) = false from by decide]
                    dsimp only [cond]
                    refine fe_s 1 (pc' := 77) (lc' := [(6, .int 33), (5, .int 1), (4, .int 34), (3, .int 29), (2, .int 5), (0, .ref 0), (1, .ref 22)]) (stk' := [.int 1]) (mem' := fm g tp bt a b) (fun _ _ _ => rfl) ?_
                    refine fe_s 1 (pc' := cond (fx_cb .eq 1 0) 115 80) (lc' := [(6, .int 33), (5, .int 1), (4, .int 34), (3, .int 29), (2, .int 5), (0, .ref 0), (1, .ref 22)]) (stk' := []) (mem' := fm g tp bt a b) (fun _ _ _ => rfl) ?_
                    rw [show (fx_cb .eq 1 0) = false from by decide]
                    dsimp only [cond]
                    refine fe_s 2 (pc' := 83) (lc' := [(6, .int 33), (5, .int 1), (4, .int 34), (3, .int 29), (2, .int 5), (0, .ref 0), (1, .ref 22)]) (stk' := [.int 33, .ref 22]) (mem' := fm g tp bt a b) (fun _ _ _ => rfl) ?_
                    refine fe_chr (i := 33) (by omega) (by rfl) (by rfl) ⟨by rfl, by rfl⟩ (by rfl) ?_
                    rw [show sk_b.getD 33 0 = 101 from rfl]
                    refine fe_s 4 (pc' := 93) (lc' := [(6, .int 33), (5, .int 1), (4, .int 34), (3, .int 29), (2, .int 5), (0, .ref 0), (1, .ref 22)]) (stk' := [.int 33, .int (g 13), .ref 0, .int 101]) (mem' := fm g tp bt a b) (fun _ _ _ => rfl) ?_
                    try rw [h13]
                    refine fe_s 3 (pc' := 96) (lc' := [(6, .int 33), (5, .int 1), (4, .int 34), (3, .int 29), (2, .int 5), (0, .ref 0), (1, .ref 22)]) (stk' := [.int (((nI F) + 33) - 29), .ref 0, .int 101]) (mem' := fm g tp bt a b) (fun _ _ _ => rfl) ?_
                    rw [show (((nI F) + 33) - 29 : Int32) = nI ((F + 33) - 29) from by simp only [show (33 : Int32) = nI 33 from rfl, show (29 : Int32) = nI 29 from rfl, tg_sub2 (x := F + 33) (y := 29) (by omega), nI_add, fm_mul]]
                    refine fe_ivV (fr_byteAt (S := S) (k := (F + 33) - 29) (g := g) (tp := tp) (bt := bt) (a := a) (b := b) h11 (by omega) (by omega)) (by omega) (by rfl) (by rfl) (by rfl) (by rfl) (by rfl) (by rfl) ?_
                    rcases fm_byte_or a S ((F + 33) - 29) with ⟨e19, q20⟩ | ⟨q20, n18, qn18, e19⟩
                    · rw [e19]
                      refine fe_s 1 (pc' := cond (fx_cb .ne 101 (-1)) 106 102) (lc' := [(6, .int 33), (5, .int 1), (4, .int 34), (3, .int 29), (2, .int 5), (0, .ref 0), (1, .ref 22)]) (stk' := []) (mem' := fm g tp bt a b) (fun _ _ _ => rfl) ?_
                      rw [show (fx_cb .ne 101 (-1)) = true from by decide]
                      dsimp only [cond]
                      refine fe_s 4 (pc' := 68) (lc' := [(6, .int (33 + 1)), (5, .int 0), (4, .int 34), (3, .int 29), (2, .int 5), (0, .ref 0), (1, .ref 22)]) (stk' := []) (mem' := fm g tp bt a b) (fun _ _ _ => rfl) ?_
                      rw [show (33 + 1 : Int32) = 34 from rfl]
                      refine fe_s 2 (pc' := 72) (lc' := [(6, .int 34), (5, .int 0), (4, .int 34), (3, .int 29), (2, .int 5), (0, .ref 0), (1, .ref 22)]) (stk' := [.int 34, .int 34]) (mem' := fm g tp bt a b) (fun _ _ _ => rfl) ?_
                      refine fe_s 1 (pc' := cond (fx_cb .ge 34 34) 115 75) (lc' := [(6, .int 34), (5, .int 0), (4, .int 34), (3, .int 29), (2, .int 5), (0, .ref 0), (1, .ref 22)]) (stk' := []) (mem' := fm g tp bt a b) (fun _ _ _ => rfl) ?_
                      rw [show (fx_cb .ge 34 34) = true from by decide]
                      dsimp only [cond]
                      refine fe_s 1 (pc' := 117) (lc' := [(6, .int 34), (5, .int 0), (4, .int 34), (3, .int 29), (2, .int 5), (0, .ref 0), (1, .ref 22)]) (stk' := [.int 0]) (mem' := fm g tp bt a b) (fun _ _ _ => rfl) ?_
                      refine fe_s 1 (pc' := cond (fx_cb .eq 0 0) 122 120) (lc' := [(6, .int 34), (5, .int 0), (4, .int 34), (3, .int 29), (2, .int 5), (0, .ref 0), (1, .ref 22)]) (stk' := []) (mem' := fm g tp bt a b) (fun _ _ _ => rfl) ?_
                      rw [show (fx_cb .eq 0 0) = true from by decide]
                      dsimp only [cond]
                      refine fe_s 4 (pc' := 129) (lc' := [(2, .int (5 + 1)), (6, .int 34), (5, .int 0), (4, .int 34), (3, .int 29), (0, .ref 0), (1, .ref 22)]) (stk' := [.int (34 + 1)]) (mem' := fm g tp bt a b) (fun _ _ _ => rfl) ?_
                      rw [show (5 + 1 : Int32) = 6 from rfl]
                      rw [show (34 + 1 : Int32) = 35 from rfl]
                      refine fe_s 1 (pc' := 130) (lc' := [(3, .int 35), (2, .int 6), (6, .int 34), (5, .int 0), (4, .int 34), (0, .ref 0), (1, .ref 22)]) (stk' := []) (mem' := fm g tp bt a b) (fun _ _ _ => rfl) ?_
                      refine fe_s 1 (pc' := fx_to 130 (-116)) (lc' := [(3, .int 35), (2, .int 6), (6, .int 34), (5, .int 0), (4, .int 34), (0, .ref 0), (1, .ref 22)]) (stk' := []) (mem' := fm g tp bt a b) (fun _ _ _ => rfl) ?_
                      rw [show fx_to 130 (-116) = 14 from by decide]
                      refine fe_w (lc' := [(3, .int 35), (2, .int 6), (0, .ref 0), (1, .ref 22)]) ⟨rfl, rfl, rfl, rfl, trivial⟩ (by show List.Nodup [3, 2, 0, 1]; decide) (by show List.Nodup [3, 2, 6, 5, 4, 0, 1]; decide) ?_
                      exact fw_6 hxp
                    · rw [e19]
                      refine fe_s 1 (pc' := cond (fx_cb .ne 101 (nI n18)) 106 102) (lc' := [(6, .int 33), (5, .int 1), (4, .int 34), (3, .int 29), (2, .int 5), (0, .ref 0), (1, .ref 22)]) (stk' := []) (mem' := fm g tp bt a b) (fun _ _ _ => rfl) ?_
                      by_cases h21 : 101 = n18
                      · rw [show (fx_cb .ne 101 (nI n18)) = false from cb_neF (a := 101) (b := n18) (by omega) (by omega) (by omega)]
                        dsimp only [cond]
                        refine fe_s 4 (pc' := 112) (lc' := [(6, .int (33 + 1)), (5, .int 1), (4, .int 34), (3, .int 29), (2, .int 5), (0, .ref 0), (1, .ref 22)]) (stk' := []) (mem' := fm g tp bt a b) (fun _ _ _ => rfl) ?_
                        rw [show (33 + 1 : Int32) = 34 from rfl]
                        refine fe_s 3 (pc' := 72) (lc' := [(6, .int 34), (5, .int 1), (4, .int 34), (3, .int 29), (2, .int 5), (0, .ref 0), (1, .ref 22)]) (stk' := [.int 34, .int 34]) (mem' := fm g tp bt a b) (fun _ _ _ => rfl) ?_
                        refine fe_s 1 (pc' := cond (fx_cb .ge 34 34) 115 75) (lc' := [(6, .int 34), (5, .int 1), (4, .int 34), (3, .int 29), (2, .int 5), (0, .ref 0), (1, .ref 22)]) (stk' := []) (mem' := fm g tp bt a b) (fun _ _ _ => rfl) ?_
                        rw [show (fx_cb .ge 34 34) = true from by decide]
                        dsimp only [cond]
                        refine fe_s 1 (pc' := 117) (lc' := [(6, .int 34), (5, .int 1), (4, .int 34), (3, .int 29), (2, .int 5), (0, .ref 0), (1, .ref 22)]) (stk' := [.int 1]) (mem' := fm g tp bt a b) (fun _ _ _ => rfl) ?_
                        refine fe_s 1 (pc' := cond (fx_cb .eq 1 0) 122 120) (lc' := [(6, .int 34), (5, .int 1), (4, .int 34), (3, .int 29), (2, .int 5), (0, .ref 0), (1, .ref 22)]) (stk' := []) (mem' := fm g tp bt a b) (fun _ _ _ => rfl) ?_
                        rw [show (fx_cb .eq 1 0) = false from by decide]
                        dsimp only [cond]
                        refine fe_s 1 (pc' := 121) (lc' := [(6, .int 34), (5, .int 1), (4, .int 34), (3, .int 29), (2, .int 5), (0, .ref 0), (1, .ref 22)]) (stk' := [.int 5]) (mem' := fm g tp bt a b) (fun _ _ _ => rfl) ?_
                        exact fe_ret ⟨_, Or.inr ⟨5, by omega, rfl⟩, rfl⟩ (by rfl) (by rfl) (by rfl)
                      · rw [show (fx_cb .ne 101 (nI n18)) = true from cb_neT (a := 101) (b := n18) (by omega) (by omega) (by omega)]
                        dsimp only [cond]
                        refine fe_s 4 (pc' := 68) (lc' := [(6, .int (33 + 1)), (5, .int 0), (4, .int 34), (3, .int 29), (2, .int 5), (0, .ref 0), (1, .ref 22)]) (stk' := []) (mem' := fm g tp bt a b) (fun _ _ _ => rfl) ?_
                        rw [show (33 + 1 : Int32) = 34 from rfl]
                        refine fe_s 2 (pc' := 72) (lc' := [(6, .int 34), (5, .int 0), (4, .int 34), (3, .int 29), (2, .int 5), (0, .ref 0), (1, .ref 22)]) (stk' := [.int 34, .int 34]) (mem' := fm g tp bt a b) (fun _ _ _ => rfl) ?_
                        refine fe_s 1 (pc' := cond (fx_cb .ge 34 34) 115 75) (lc' := [(6, .int 34), (5, .int 0), (4, .int 34), (3, .int 29), (2, .int 5), (0, .ref 0), (1, .ref 22)]) (stk' := []) (mem' := fm g tp bt a b) (fun _ _ _ => rfl) ?_
                        rw [show (fx_cb .ge 34 34) = true from by decide]
                        dsimp only [cond]
                        refine fe_s 1 (pc' := 117) (lc' := [(6, .int 34), (5, .int 0), (4, .int 34), (3, .int 29), (2, .int 5), (0, .ref 0), (1, .ref 22)]) (stk' := [.int 0]) (mem' := fm g tp bt a b) (fun _ _ _ => rfl) ?_
                        refine fe_s 1 (pc' := cond (fx_cb .eq 0 0) 122 120) (lc' := [(6, .int 34), (5, .int 0), (4, .int 34), (3, .int 29), (2, .int 5), (0, .ref 0), (1, .ref 22)]) (stk' := []) (mem' := fm g tp bt a b) (fun _ _ _ => rfl) ?_
                        rw [show (fx_cb .eq 0 0) = true from by decide]
                        dsimp only [cond]
                        refine fe_s 4 (pc' := 129) (lc' := [(2, .int (5 + 1)), (6, .int 34), (5, .int 0), (4, .int 34), (3, .int 29), (0, .ref 0), (1, .ref 22)]) (stk' := [.int (34 + 1)]) (mem' := fm g tp bt a b) (fun _ _ _ => rfl) ?_
                        rw [show (5 + 1 : Int32) = 6 from rfl]
                        rw [show (34 + 1 : Int32) = 35 from rfl]
                        refine fe_s 1 (pc' := 130) (lc' := [(3, .int 35), (2, .int 6), (6, .int 34), (5, .int 0), (4, .int 34), (0, .ref 0), (1, .ref 22)]) (stk' := []) (mem' := fm g tp bt a b) (fun _ _ _ => rfl) ?_
                        refine fe_s 1 (pc' := fx_to 130 (-116)) (lc' := [(3, .int 35), (2, .int 6), (6, .int 34), (5, .int 0), (4, .int 34), (0, .ref 0), (1, .ref 22)]) (stk' := []) (mem' := fm g tp bt a b) (fun _ _ _ => rfl) ?_
                        rw [show fx_to 130 (-116) = 14 from by decide]
                        refine fe_w (lc' := [(3, .int 35), (2, .int 6), (0, .ref 0), (1, .ref 22)]) ⟨rfl, rfl, rfl, rfl, trivial⟩ (by show List.Nodup [3, 2, 0, 1]; decide) (by show List.Nodup [3, 2, 6, 5, 4, 0, 1]; decide) ?_
                        exact fw_6 hxp
                  · rw [show (fx_cb .ne 115 (nI n14)) = true from cb_neT (a := 115) (b := n14) (by omega) (by omega) (by omega)]
                    dsimp only [cond]
                    refine fe_s 4 (pc' := 68) (lc' := [(6, .int (32 + 1)), (5, .int 0), (4, .int 34), (3, .int 29), (2, .int 5), (0, .ref 0), (1, .ref 22)]) (stk' := []) (mem' := fm g tp bt a b) (fun _ _ _ => rfl) ?_
                    rw [show (32 + 1 : Int32) = 33 from rfl]
                    refine fe_s 2 (pc' := 72) (lc' := [(6, .int 33), (5, .int 0), (4, .int 34), (3, .int 29), (2, .int 5), (0, .ref 0), (1, .ref 22)]) (stk' := [.int 34, .int 33]) (mem' := fm g tp bt a b) (fun _ _ _ => rfl) ?_
                    refine fe_s 1 (pc' := cond (fx_cb .ge 33 34) 115 75) (lc' := [(6, .int 33), (5, .int 0), (4, .int 34), (3, .int 29), (2, .int 5), (0, .ref 0), (1, .ref 22)]) (stk' := []) (mem' := fm g tp bt a b) (fun _ _ _ => rfl) ?_
                    rw [show (fx_cb .ge 33 34) = false from by decide]
                    dsimp only [cond]
                    refine fe_s 1 (pc' := 77) (lc' := [(6, .int 33), (5, .int 0), (4, .int 34), (3, .int 29), (2, .int 5), (0, .ref 0), (1, .ref 22)]) (stk' := [.int 0]) (mem' := fm g tp bt a b) (fun _ _ _ => rfl) ?_
                    refine fe_s 1 (pc' := cond (fx_cb .eq 0 0) 115 80) (lc' := [(6, .int 33), (5, .int 0), (4, .int 34), (3, .int 29), (2, .int 5), (0, .ref 0), (1, .ref 22)]) (stk' := []) (mem' := fm g tp bt a b) (fun _ _ _ => rfl) ?_
                    rw [show (fx_cb .eq 0 0) = true from by decide]
                    dsimp only [cond]
                    refine fe_s 1 (pc' := 117) (lc' := [(6, .int 33), (5, .int 0), (4, .int 34), (3, .int 29), (2, .int 5), (0, .ref 0), (1, .ref 22)]) (stk' := [.int 0]) (mem' := fm g tp bt a b) (fun _ _ _ => rfl) ?_
                    refine fe_s 1 (pc' := cond (fx_cb .eq 0 0) 122 120) (lc' := [(6, .int 33), (5, .int 0), (4, .int 34), (3, .int 29), (2, .int 5), (0, .ref 0), (1, .ref 22)]) (stk' := []) (mem' := fm g tp bt a b) (fun _ _ _ => rfl) ?_
                    rw [show (fx_cb .eq 0 0) = true from by decide]
                    dsimp only [cond]
                    refine fe_s 4 (pc' := 129) (lc' := [(2, .int (5 + 1)), (6, .int 33), (5, .int 0), (4, .int 34), (3, .int 29), (0, .ref 0), (1, .ref 22)]) (stk' := [.int (34 + 1)]) (mem' := fm g tp bt a b) (fun _ _ _ => rfl) ?_
                    rw [show (5 + 1 : Int32) = 6 from rfl]
                    rw [show (34 + 1 : Int32) = 35 from rfl]
                    refine fe_s 1 (pc' := 130) (lc' := [(3, .int 35), (2, .int 6), (6, .int 33), (5, .int 0), (4, .int 34), (0, .ref 0), (1, .ref 22)]) (stk' := []) (mem' := fm g tp bt a b) (fun _ _ _ => rfl) ?_
                    refine fe_s 1 (pc' := fx_to 130 (-116)) (lc' := [(3, .int 35), (2, .int 6), (6, .int 33), (5, .int 0), (4, .int 34), (0, .ref 0), (1, .ref 22)]) (stk' := []) (mem' := fm g tp bt a b) (fun _ _ _ => rfl) ?_
                    rw [show fx_to 130 (-116) = 14 from by decide]
                    refine fe_w (lc' := [(3, .int 35), (2, .int 6), (0, .ref 0), (1, .ref 22)]) ⟨rfl, rfl, rfl, rfl, trivial⟩ (by show List.Nodup [3, 2, 0, 1]; decide) (by show List.Nodup [3, 2, 6, 5, 4, 0, 1]; decide) ?_
                    exact fw_6 hxp
              · rw [show (fx_cb .ne 114 (nI n10)) = true from cb_neT (a := 114) (b := n10) (by omega) (by omega) (by omega)]
                dsimp only [cond]
                refine fe_s 4 (pc' := 68) (lc' := [(6, .int (31 + 1)), (5, .int 0), (4, .int 34), (3, .int 29), (2, .int 5), (0, .ref 0), (1, .ref 22)]) (stk' := []) (mem' := fm g tp bt a b) (fun _ _ _ => rfl) ?_
                rw [show (31 + 1 : Int32) = 32 from rfl]
                refine fe_s 2 (pc' := 72) (lc' := [(6, .int 32), (5, .int 0), (4, .int 34), (3, .int 29), (2, .int 5), (0, .ref 0), (1, .ref 22)]) (stk' := [.int 34, .int 32]) (mem' := fm g tp bt a b) (fun _ _ _ => rfl) ?_
                refine fe_s 1 (pc' := cond (fx_cb .ge 32 34) 115 75) (lc' := [(6, .int 32), (5, .int 0), (4, .int 34), (3, .int 29), (2, .int 5), (0, .ref 0), (1, .ref 22)]) (stk' := []) (mem' := fm g tp bt a b) (fun _ _ _ => rfl) ?_
                rw [show (fx_cb .ge 32 34) = false from by decide]
                dsimp only [cond]
                refine fe_s 1 (pc' := 77) (lc' := [(6, .int 32), (5, .int 0), (4, .int 34), (3, .int 29), (2, .int 5), (0, .ref 0), (1, .ref 22)]) (stk' := [.int 0]) (mem' := fm g tp bt a b) (fun _ _ _ => rfl) ?_
                refine fe_s 1 (pc' := cond (fx_cb .eq 0 0) 115 80) (lc' := [(6, .int 32), (5, .int 0), (4, .int 34), (3, .int 29), (2, .int 5), (0, .ref 0), (1, .ref 22)]) (stk' := []) (mem' := fm g tp bt a b) (fun _ _ _ => rfl) ?_
                rw [show (fx_cb .eq 0 0) = true from by decide]
                dsimp only [cond]
                refine fe_s 1 (pc' := 117) (lc' := [(6, .int 32), (5, .int 0), (4, .int 34), (3, .int 29), (2, .int 5), (0, .ref 0), (1, .ref 22)]) (stk' := [.int 0]) (mem' := fm g tp bt a b) (fun _ _ _ => rfl) ?_
                refine fe_s 1 (pc' := cond (fx_cb .eq 0 0) 122 120) (lc' := [(6, .int 32), (5, .int 0), (4, .int 34), (3, .int 29), (2, .int 5), (0, .ref 0), (1, .ref 22)]) (stk' := []) (mem' := fm g tp bt a b) (fun _ _ _ => rfl) ?_
                rw [show (fx_cb .eq 0 0) = true from by decide]
                dsimp only [cond]
                refine fe_s 4 (pc' := 129) (lc' := [(2, .int (5 + 1)), (6, .int 32), (5, .int 0), (4, .int 34), (3, .int 29), (0, .ref 0), (1, .ref 22)]) (stk' := [.int (34 + 1)]) (mem' := fm g tp bt a b) (fun _ _ _ => rfl) ?_
                rw [show (5 + 1 : Int32) = 6 from rfl]
                rw [show (34 + 1 : Int32) = 35 from rfl]
                refine fe_s 1 (pc' := 130) (lc' := [(3, .int 35), (2, .int 6), (6, .int 32), (5, .int 0), (4, .int 34), (0, .ref 0), (1, .ref 22)]) (stk' := []) (mem' := fm g tp bt a b) (fun _ _ _ => rfl) ?_
                refine fe_s 1 (pc' := fx_to 130 (-116)) (lc' := [(3, .int 35), (2, .int 6), (6, .int 32), (5, .int 0), (4, .int 34), (0, .ref 0), (1, .ref 22)]) (stk' := []) (mem' := fm g tp bt a b) (fun _ _ _ => rfl) ?_
                rw [show fx_to 130 (-116) = 14 from by decide]
                refine fe_w (lc' := [(3, .int 35), (2, .int 6), (0, .ref 0), (1, .ref 22)]) ⟨rfl, rfl, rfl, rfl, trivial⟩ (by show List.Nodup [3, 2, 0, 1]; decide) (by show List.Nodup [3, 2, 6, 5, 4, 0, 1]; decide) ?_
                exact fw_6 hxp
          · rw [show (fx_cb .ne 111 (nI n6)) = true from cb_neT (a := 111) (b := n6) (by omega) (by omega) (by omega)]
            dsimp only [cond]
            refine fe_s 4 (pc' := 68) (lc' := [(6, .int (30 + 1)), (5, .int 0), (4, .int 34), (3, .int 29), (2, .int 5), (0, .ref 0), (1, .ref 22)]) (stk' := []) (mem' := fm g tp bt a b) (fun _ _ _ => rfl) ?_
            rw [show (30 + 1 : Int32) = 31 from rfl]
            refine fe_s 2 (pc' := 72) (lc' := [(6, .int 31), (5, .int 0), (4, .int 34), (3, .int 29), (2, .int 5), (0, .ref 0), (1, .ref 22)]) (stk' := [.int 34, .int 31]) (mem' := fm g tp bt a b) (fun _ _ _ => rfl) ?_
            refine fe_s 1 (pc' := cond (fx_cb .ge 31 34) 115 75) (lc' := [(6, .int 31), (5, .int 0), (4, .int 34), (3, .int 29), (2, .int 5), (0, .ref 0), (1, .ref 22)]) (stk' := []) (mem' := fm g tp bt a b) (fun _ _ _ => rfl) ?_
            rw [show (fx_cb .ge 31 34) = false from by decide]
            dsimp only [cond]
            refine fe_s 1 (pc' := 77) (lc' := [(6, .int 31), (5, .int 0), (4, .int 34), (3, .int 29), (2, .int 5), (0, .ref 0), (1, .ref 22)]) (stk' := [.int 0]) (mem' := fm g tp bt a b) (fun _ _ _ => rfl) ?_
            refine fe_s 1 (pc' := cond (fx_cb .eq 0 0) 115 80) (lc' := [(6, .int 31), (5, .int 0), (4, .int 34), (3, .int 29), (2, .int 5), (0, .ref 0), (1, .ref 22)]) (stk' := []) (mem' := fm g tp bt a b) (fun _ _ _ => rfl) ?_
            rw [show (fx_cb .eq 0 0) = true from by decide]
            dsimp only [cond]
            refine fe_s 1 (pc' := 117) (lc' := [(6, .int 31), (5, .int 0), (4, .int 34), (3, .int 29), (2, .int 5), (0, .ref 0), (1, .ref 22)]) (stk' := [.int 0]) (mem' := fm g tp bt a b) (fun _ _ _ => rfl) ?_
            refine fe_s 1 (pc' := cond (fx_cb .eq 0 0) 122 120) (lc' := [(6, .int 31), (5, .int 0), (4, .int 34), (3, .int 29), (2, .int 5), (0, .ref 0), (1, .ref 22)]) (stk' := []) (mem' := fm g tp bt a b) (fun _ _ _ => rfl) ?_
            rw [show (fx_cb .eq 0 0) = true from by decide]
            dsimp only [cond]
            refine fe_s 4 (pc' := 129) (lc' := [(2, .int (5 + 1)), (6, .int 31), (5, .int 0), (4, .int 34), (3, .int 29), (0, .ref 0), (1, .ref 22)]) (stk' := [.int (34 + 1)]) (mem' := fm g tp bt a b) (fun _ _ _ => rfl) ?_
            rw [show (5 + 1 : Int32) = 6 from rfl]
            rw [show (34 + 1 : Int32) = 35 from rfl]
            refine fe_s 1 (pc' := 130) (lc' := [(3, .int 35), (2, .int 6), (6, .int 31), (5, .int 0), (4, .int 34), (0, .ref 0), (1, .ref 22)]) (stk' := []) (mem' := fm g tp bt a b) (fun _ _ _ => rfl) ?_
            refine fe_s 1 (pc' := fx_to 130 (-116)) (lc' := [(3, .int 35), (2, .int 6), (6, .int 31), (5, .int 0), (4, .int 34), (0, .ref 0), (1, .ref 22)]) (stk' := []) (mem' := fm g tp bt a b) (fun _ _ _ => rfl) ?_
            rw [show fx_to 130 (-116) = 14 from by decide]
            refine fe_w (lc' := [(3, .int 35), (2, .int 6), (0, .ref 0), (1, .ref 22)]) ⟨rfl, rfl, rfl, rfl, trivial⟩ (by show List.Nodup [3, 2, 0, 1]; decide) (by show List.Nodup [3, 2, 6, 5, 4, 0, 1]; decide) ?_
            exact fw_6 hxp
      · rw [show (fx_cb .ne 119 (nI n2)) = true from cb_neT (a := 119) (b := n2) (by omega) (by omega) (by omega)]
        dsimp only [cond]
        refine fe_s 4 (pc' := 68) (lc' := [(6, .int (29 + 1)), (5, .int 0), (4, .int 34), (3, .int 29), (2, .int 5), (0, .ref 0), (1, .ref 22)]) (stk' := []) (mem' := fm g tp bt a b) (fun _ _ _ => rfl) ?_
        rw [show (29 + 1 : Int32) = 30 from rfl]
        refine fe_s 2 (pc' := 72) (lc' := [(6, .int 30), (5, .int 0), (4, .int 34), (3, .int 29), (2, .int 5), (0, .ref 0), (1, .ref 22)]) (stk' := [.int 34, .int 30]) (mem' := fm g tp bt a b) (fun _ _ _ => rfl) ?_
        refine fe_s 1 (pc' := cond (fx_cb .ge 30 34) 115 75) (lc' := [(6, .int 30), (5, .int 0), (4, .int 34), (3, .int 29), (2, .int 5), (0, .ref 0), (1, .ref 22)]) (stk' := []) (mem' := fm g tp bt a b) (fun _ _ _ => rfl) ?_
        rw [show (fx_cb .ge 30 34) = false from by decide]
        dsimp only [cond]
        refine fe_s 1 (pc' := 77) (lc' := [(6, .int 30), (5, .int 0), (4, .int 34), (3, .int 29), (2, .int 5), (0, .ref 0), (1, .ref 22)]) (stk' := [.int 0]) (mem' := fm g tp bt a b) (fun _ _ _ => rfl) ?_
        refine fe_s 1 (pc' := cond (fx_cb .eq 0 0) 115 80) (lc' := [(6, .int 30), (5, .int 0), (4, .int 34), (3, .int 29), (2, .int 5), (0, .ref 0), (1, .ref 22)]) (stk' := []) (mem' := fm g tp bt a b) (fun _ _ _ => rfl) ?_
        rw [show (fx_cb .eq 0 0) = true from by decide]
        dsimp only [cond]
        refine fe_s 1 (pc' := 117) (lc' := [(6, .int 30), (5, .int 0), (4, .int 34), (3, .int 29), (2, .int 5), (0, .ref 0), (1, .ref 22)]) (stk' := [.int 0]) (mem' := fm g tp bt a b) (fun _ _ _ => rfl) ?_
        refine fe_s 1 (pc' := cond (fx_cb .eq 0 0) 122 120) (lc' := [(6, .int 30), (5, .int 0), (4, .int 34), (3, .int 29), (2, .int 5), (0, .ref 0), (1, .ref 22)]) (stk' := []) (mem' := fm g tp bt a b) (fun _ _ _ => rfl) ?_
        rw [show (fx_cb .eq 0 0) = true from by decide]
        dsimp only [cond]
        refine fe_s 4 (pc' := 129) (lc' := [(2, .int (5 + 1)), (6, .int 30), (5, .int 0), (4, .int 34), (3, .int 29), (0, .ref 0), (1, .ref 22)]) (stk' := [.int (34 + 1)]) (mem' := fm g tp bt a b) (fun _ _ _ => rfl) ?_
        rw [show (5 + 1 : Int32) = 6 from rfl]
        rw [show (34 + 1 : Int32) = 35 from rfl]
        refine fe_s 1 (pc' := 130) (lc' := [(3, .int 35), (2, .int 6), (6, .int 30), (5, .int 0), (4, .int 34), (0, .ref 0), (1, .ref 22)]) (stk' := []) (mem' := fm g tp bt a b) (fun _ _ _ => rfl) ?_
        refine fe_s 1 (pc' := fx_to 130 (-116)) (lc' := [(3, .int 35), (2, .int 6), (6, .int 30), (5, .int 0), (4, .int 34), (0, .ref 0), (1, .ref 22)]) (stk' := []) (mem' := fm g tp bt a b) (fun _ _ _ => rfl) ?_
        rw [show fx_to 130 (-116) = 14 from by decide]
        refine fe_w (lc' := [(3, .int 35), (2, .int 6), (0, .ref 0), (1, .ref 22)]) ⟨rfl, rfl, rfl, rfl, trivial⟩ (by show List.Nodup [3, 2, 0, 1]; decide) (by show List.Nodup [3, 2, 6, 5, 4, 0, 1]; decide) ?_
        exact fw_6 hxp
  · rw [show (fx_cb .ne 5 (nI (E - F))) = true from cb_neT (a := 5) (b := E - F) (by omega) (by omega) (by omega)]
    dsimp only [cond]
    refine fe_s 4 (pc' := 68) (lc' := [(6, .int 29), (5, .int 0), (4, .int 34), (3, .int 29), (2, .int 5), (0, .ref 0), (1, .ref 22)]) (stk' := []) (mem' := fm g tp bt a b) (fun _ _ _ => rfl) ?_
    refine fe_s 2 (pc' := 72) (lc' := [(6, .int 29), (5, .int 0), (4, .int 34), (3, .int 29), (2, .int 5), (0, .ref 0), (1, .ref 22)]) (stk' := [.int 34, .int 29]) (mem' := fm g tp bt a b) (fun _ _ _ => rfl) ?_
    refine fe_s 1 (pc' := cond (fx_cb .ge 29 34) 115 75) (lc' := [(6, .int 29), (5, .int 0), (4, .int 34), (3, .int 29), (2, .int 5), (0, .ref 0), (1, .ref 22)]) (stk' := []) (mem' := fm g tp bt a b) (fun _ _ _ => rfl) ?_
    rw [show (fx_cb .ge 29 34) = false from by decide]
    dsimp only [cond]
    refine fe_s 1 (pc' := 77) (lc' := [(6, .int 29), (5, .int 0), (4, .int 34), (3, .int 29), (2, .int 5), (0, .ref 0), (1, .ref 22)]) (stk' := [.int 0]) (mem' := fm g tp bt a b) (fun _ _ _ => rfl) ?_
    refine fe_s 1 (pc' := cond (fx_cb .eq 0 0) 115 80) (lc' := [(6, .int 29), (5, .int 0), (4, .int 34), (3, .int 29), (2, .int 5), (0, .ref 0), (1, .ref 22)]) (stk' := []) (mem' := fm g tp bt a b) (fun _ _ _ => rfl) ?_
    rw [show (fx_cb .eq 0 0) = true from by decide]
    dsimp only [cond]
    refine fe_s 1 (pc' := 117) (lc' := [(6, .int 29), (5, .int 0), (4, .int 34), (3, .int 29), (2, .int 5), (0, .ref 0), (1, .ref 22)]) (stk' := [.int 0]) (mem' := fm g tp bt a b) (fun _ _ _ => rfl) ?_
    refine fe_s 1 (pc' := cond (fx_cb .eq 0 0) 122 120) (lc' := [(6, .int 29), (5, .int 0), (4, .int 34), (3, .int 29), (2, .int 5), (0, .ref 0), (1, .ref 22)]) (stk' := []) (mem' := fm g tp bt a b) (fun _ _ _ => rfl) ?_
    rw [show (fx_cb .eq 0 0) = true from by decide]
    dsimp only [cond]
    refine fe_s 4 (pc' := 129) (lc' := [(2, .int (5 + 1)), (6, .int 29), (5, .int 0), (4, .int 34), (3, .int 29), (0, .ref 0), (1, .ref 22)]) (stk' := [.int (34 + 1)]) (mem' := fm g tp bt a b) (fun _ _ _ => rfl) ?_
    rw [show (5 + 1 : Int32) = 6 from rfl]
    rw [show (34 + 1 : Int32) = 35 from rfl]
    refine fe_s 1 (pc' := 130) (lc' := [(3, .int 35), (2, .int 6), (6, .int 29), (5, .int 0), (4, .int 34), (0, .ref 0), (1, .ref 22)]) (stk' := []) (mem' := fm g tp bt a b) (fun _ _ _ => rfl) ?_
    refine fe_s 1 (pc' := fx_to 130 (-116)) (lc' := [(3, .int 35), (2, .int 6), (6, .int 29), (5, .int 0), (4, .int 34), (0, .ref 0), (1, .ref 22)]) (stk' := []) (mem' := fm g tp bt a b) (fun _ _ _ => rfl) ?_
    rw [show fx_to 130 (-116) = 14 from by decide]
    refine fe_w (lc' := [(3, .int 35), (2, .int 6), (0, .ref 0), (1, .ref 22)]) ⟨rfl, rfl, rfl, rfl, trivial⟩ (by show List.Nodup [3, 2, 0, 1]; decide) (by show List.Nodup [3, 2, 6, 5, 4, 0, 1]; decide) ?_
    exact fw_6 hxp
end FIW6
