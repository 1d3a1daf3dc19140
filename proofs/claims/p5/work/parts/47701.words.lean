/-! ===== fx: which word it is (1) ===== -/
section FIW1
variable {g : Nat → Int32} {tp bt : Int64} {a : Nat → Nat → Int32} {b : Nat → Nat → Int64}
theorem fw_19 {S E F : Nat} (hxp : fm_xp g S E F) : fe_R 1 gk_m226 14 [(3, .int 99), (2, .int 19), (0, .ref 0), (1, .ref 22)] [] (fm g tp bt a b) (fm_FI (fm g tp bt a b)) := by
  obtain ⟨h11, hS9, h14, hES, h13, hFE, -, -, -⟩ := id hxp
  refine fe_s 2 (pc' := 16) (lc' := [(3, .int 99), (2, .int 19), (0, .ref 0), (1, .ref 22)]) (stk' := [.ref 22, .int 99]) (mem' := fm g tp bt a b) (fun _ _ _ => rfl) ?_
  refine fe_s 1 (pc' := 19) (lc' := [(3, .int 99), (2, .int 19), (0, .ref 0), (1, .ref 22)]) (stk' := [.int 117, .int 99]) (mem' := fm g tp bt a b) (fun _ _ _ => rfl) ?_
  refine fe_s 1 (pc' := cond (fx_cb .ge 99 117) 133 22) (lc' := [(3, .int 99), (2, .int 19), (0, .ref 0), (1, .ref 22)]) (stk' := []) (mem' := fm g tp bt a b) (fun _ _ _ => rfl) ?_
  rw [show (fx_cb .ge 99 117) = false from by decide]
  dsimp only [cond]
  refine fe_s 4 (pc' := 28) (lc' := [(4, .int 99), (3, .int 99), (2, .int 19), (0, .ref 0), (1, .ref 22)]) (stk' := [.int 99, .ref 22]) (mem' := fm g tp bt a b) (fun _ _ _ => rfl) ?_
  refine fe_chr (i := 99) (by omega) (by rfl) (by rfl) ⟨by rfl, by rfl⟩ (by rfl) ?_
  rw [show sk_b.getD 99 0 = 108 from rfl]
  refine fe_s 1 (pc' := 33) (lc' := [(4, .int 99), (3, .int 99), (2, .int 19), (0, .ref 0), (1, .ref 22)]) (stk' := [.int 32, .int 108]) (mem' := fm g tp bt a b) (fun _ _ _ => rfl) ?_
  refine fe_s 1 (pc' := cond (fx_cb .eq 108 32) 42 36) (lc' := [(4, .int 99), (3, .int 99), (2, .int 19), (0, .ref 0), (1, .ref 22)]) (stk' := []) (mem' := fm g tp bt a b) (fun _ _ _ => rfl) ?_
  rw [show (fx_cb .eq 108 32) = false from by decide]
  dsimp only [cond]
  refine fe_s 4 (pc' := 28) (lc' := [(4, .int (99 + 1)), (3, .int 99), (2, .int 19), (0, .ref 0), (1, .ref 22)]) (stk' := [.int (99 + 1), .ref 22]) (mem' := fm g tp bt a b) (fun _ _ _ => rfl) ?_
  rw [show (99 + 1 : Int32) = 100 from rfl]
  refine fe_chr (i := 100) (by omega) (by rfl) (by rfl) ⟨by rfl, by rfl⟩ (by rfl) ?_
  rw [show sk_b.getD 100 0 = 111 from rfl]
  refine fe_s 1 (pc' := 33) (lc' := [(4, .int 100), (3, .int 99), (2, .int 19), (0, .ref 0), (1, .ref 22)]) (stk' := [.int 32, .int 111]) (mem' := fm g tp bt a b) (fun _ _ _ => rfl) ?_
  refine fe_s 1 (pc' := cond (fx_cb .eq 111 32) 42 36) (lc' := [(4, .int 100), (3, .int 99), (2, .int 19), (0, .ref 0), (1, .ref 22)]) (stk' := []) (mem' := fm g tp bt a b) (fun _ _ _ => rfl) ?_
  rw [show (fx_cb .eq 111 32) = false from by decide]
  dsimp only [cond]
  refine fe_s 4 (pc' := 28) (lc' := [(4, .int (100 + 1)), (3, .int 99), (2, .int 19), (0, .ref 0), (1, .ref 22)]) (stk' := [.int (100 + 1), .ref 22]) (mem' := fm g tp bt a b) (fun _ _ _ => rfl) ?_
  rw [show (100 + 1 : Int32) = 101 from rfl]
  refine fe_chr (i := 101) (by omega) (by rfl) (by rfl) ⟨by rfl, by rfl⟩ (by rfl) ?_
  rw [show sk_b.getD 101 0 = 111 from rfl]
  refine fe_s 1 (pc' := 33) (lc' := [(4, .int 101), (3, .int 99), (2, .int 19), (0, .ref 0), (1, .ref 22)]) (stk' := [.int 32, .int 111]) (mem' := fm g tp bt a b) (fun _ _ _ => rfl) ?_
  refine fe_s 1 (pc' := cond (fx_cb .eq 111 32) 42 36) (lc' := [(4, .int 101), (3, .int 99), (2, .int 19), (0, .ref 0), (1, .ref 22)]) (stk' := []) (mem' := fm g tp bt a b) (fun _ _ _ => rfl) ?_
  rw [show (fx_cb .eq 111 32) = false from by decide]
  dsimp only [cond]
  refine fe_s 4 (pc' := 28) (lc' := [(4, .int (101 + 1)), (3, .int 99), (2, .int 19), (0, .ref 0), (1, .ref 22)]) (stk' := [.int (101 + 1), .ref 22]) (mem' := fm g tp bt a b) (fun _ _ _ => rfl) ?_
  rw [show (101 + 1 : Int32) = 102 from rfl]
  refine fe_chr (i := 102) (by omega) (by rfl) (by rfl) ⟨by rfl, by rfl⟩ (by rfl) ?_
  rw [show sk_b.getD 102 0 = 112 from rfl]
  refine fe_s 1 (pc' := 33) (lc' := [(4, .int 102), (3, .int 99), (2, .int 19), (0, .ref 0), (1, .ref 22)]) (stk' := [.int 32, .int 112]) (mem' := fm g tp bt a b) (fun _ _ _ => rfl) ?_
  refine fe_s 1 (pc' := cond (fx_cb .eq 112 32) 42 36) (lc' := [(4, .int 102), (3, .int 99), (2, .int 19), (0, .ref 0), (1, .ref 22)]) (stk' := []) (mem' := fm g tp bt a b) (fun _ _ _ => rfl) ?_
  rw [show (fx_cb .eq 112 32) = false from by decide]
  dsimp only [cond]
  refine fe_s 4 (pc' := 28) (lc' := [(4, .int (102 + 1)), (3, .int 99), (2, .int 19), (0, .ref 0), (1, .ref 22)]) (stk' := [.int (102 + 1), .ref 22]) (mem' := fm g tp bt a b) (fun _ _ _ => rfl) ?_
  rw [show (102 + 1 : Int32) = 103 from rfl]
  refine fe_chr (i := 103) (by omega) (by rfl) (by rfl) ⟨by rfl, by rfl⟩ (by rfl) ?_
  rw [show sk_b.getD 103 0 = 32 from rfl]
  refine fe_s 1 (pc' := 33) (lc' := [(4, .int 103), (3, .int 99), (2, .int 19), (0, .ref 0), (1, .ref 22)]) (stk' := [.int 32, .int 32]) (mem' := fm g tp bt a b) (fun _ _ _ => rfl) ?_
  refine fe_s 1 (pc' := cond (fx_cb .eq 32 32) 42 36) (lc' := [(4, .int 103), (3, .int 99), (2, .int 19), (0, .ref 0), (1, .ref 22)]) (stk' := []) (mem' := fm g tp bt a b) (fun _ _ _ => rfl) ?_
  rw [show (fx_cb .eq 32 32) = true from by decide]
  dsimp only [cond]
  refine fe_s 4 (pc' := 47) (lc' := [(4, .int 103), (3, .int 99), (2, .int 19), (0, .ref 0), (1, .ref 22)]) (stk' := [.ref 0, .int (103 - 99)]) (mem' := fm g tp bt a b) (fun _ _ _ => rfl) ?_
  rw [show (103 - 99 : Int32) = 4 from rfl]
  refine fe_s 4 (pc' := 55) (lc' := [(4, .int 103), (3, .int 99), (2, .int 19), (0, .ref 0), (1, .ref 22)]) (stk' := [.int ((g 14) - (g 13)), .int 4]) (mem' := fm g tp bt a b) (fun _ _ _ => rfl) ?_
  try rw [h14]
  try rw [h13]
  rw [show ((nI E) - (nI F) : Int32) = nI (E - F) from by simp only [tg_sub2 (x := E) (y := F) (by omega), nI_add, fm_mul]]
  refine fe_s 1 (pc' := cond (fx_cb .ne 4 (nI (E - F))) 62 58) (lc' := [(4, .int 103), (3, .int 99), (2, .int 19), (0, .ref 0), (1, .ref 22)]) (stk' := []) (mem' := fm g tp bt a b) (fun _ _ _ => rfl) ?_
  by_cases h1 : 4 = (E - F)
  · rw [show (fx_cb .ne 4 (nI (E - F))) = false from cb_neF (a := 4) (b := E - F) (by omega) (by omega) (by omega)]
    dsimp only [cond]
    refine fe_s 4 (pc' := 66) (lc' := [(5, .int 1), (4, .int 103), (3, .int 99), (2, .int 19), (0, .ref 0), (1, .ref 22)]) (stk' := [.int 99]) (mem' := fm g tp bt a b) (fun _ _ _ => rfl) ?_
    refine fe_s 3 (pc' := 72) (lc' := [(6, .int 99), (5, .int 1), (4, .int 103), (3, .int 99), (2, .int 19), (0, .ref 0), (1, .ref 22)]) (stk' := [.int 103, .int 99]) (mem' := fm g tp bt a b) (fun _ _ _ => rfl) ?_
    refine fe_s 1 (pc' := cond (fx_cb .ge 99 103) 115 75) (lc' := [(6, .int 99), (5, .int 1), (4, .int 103), (3, .int 99), (2, .int 19), (0, .ref 0), (1, .ref 22)]) (stk' := []) (mem' := fm g tp bt a b) (fun _ _ _ => rfl) ?_
    rw [show (fx_cb .ge 99 103) = false from by decide]
    dsimp only [cond]
    refine fe_s 1 (pc' := 77) (lc' := [(6, .int 99), (5, .int 1), (4, .int 103), (3, .int 99), (2, .int 19), (0, .ref 0), (1, .ref 22)]) (stk' := [.int 1]) (mem' := fm g tp bt a b) (fun _ _ _ => rfl) ?_
    refine fe_s 1 (pc' := cond (fx_cb .eq 1 0) 115 80) (lc' := [(6, .int 99), (5, .int 1), (4, .int 103), (3, .int 99), (2, .int 19), (0, .ref 0), (1, .ref 22)]) (stk' := []) (mem' := fm g tp bt a b) (fun _ _ _ => rfl) ?_
    rw [show (fx_cb .eq 1 0) = false from by decide]
    dsimp only [cond]
    refine fe_s 2 (pc' := 83) (lc' := [(6, .int 99), (5, .int 1), (4, .int 103), (3, .int 99), (2, .int 19), (0, .ref 0), (1, .ref 22)]) (stk' := [.int 99, .ref 22]) (mem' := fm g tp bt a b) (fun _ _ _ => rfl) ?_
    refine fe_chr (i := 99) (by omega) (by rfl) (by rfl) ⟨by rfl, by rfl⟩ (by rfl) ?_
    rw [show sk_b.getD 99 0 = 108 from rfl]
    refine fe_s 4 (pc' := 93) (lc' := [(6, .int 99), (5, .int 1), (4, .int 103), (3, .int 99), (2, .int 19), (0, .ref 0), (1, .ref 22)]) (stk' := [.int 99, .int (g 13), .ref 0, .int 108]) (mem' := fm g tp bt a b) (fun _ _ _ => rfl) ?_
    try rw [h13]
    refine fe_s 3 (pc' := 96) (lc' := [(6, .int 99), (5, .int 1), (4, .int 103), (3, .int 99), (2, .int 19), (0, .ref 0), (1, .ref 22)]) (stk' := [.int (((nI F) + 99) - 99), .ref 0, .int 108]) (mem' := fm g tp bt a b) (fun _ _ _ => rfl) ?_
    rw [show (((nI F) + 99) - 99 : Int32) = nI ((F + 99) - 99) from by simp only [show (99 : Int32) = nI 99 from rfl, tg_sub2 (x := F + 99) (y := 99) (by omega), nI_add, fm_mul]]
    refine fe_ivV (fr_byteAt (S := S) (k := (F + 99) - 99) (g := g) (tp := tp) (bt := bt) (a := a) (b := b) h11 (by omega) (by omega)) (by omega) (by rfl) (by rfl) (by rfl) (by rfl) (by rfl) (by rfl) ?_
    rcases fm_byte_or a S ((F + 99) - 99) with ⟨e3, q4⟩ | ⟨q4, n2, qn2, e3⟩
    · rw [e3]
      refine fe_s 1 (pc' := cond (fx_cb .ne 108 (-1)) 106 102) (lc' := [(6, .int 99), (5, .int 1), (4, .int 103), (3, .int 99), (2, .int 19), (0, .ref 0), (1, .ref 22)]) (stk' := []) (mem' := fm g tp bt a b) (fun _ _ _ => rfl) ?_
      rw [show (fx_cb .ne 108 (-1)) = true from by decide]
      dsimp only [cond]
      refine fe_s 4 (pc' := 68) (lc' := [(6, .int (99 + 1)), (5, .int 0), (4, .int 103), (3, .int 99), (2, .int 19), (0, .ref 0), (1, .ref 22)]) (stk' := []) (mem' := fm g tp bt a b) (fun _ _ _ => rfl) ?_
      rw [show (99 + 1 : Int32) = 100 from rfl]
      refine fe_s 2 (pc' := 72) (lc' := [(6, .int 100), (5, .int 0), (4, .int 103), (3, .int 99), (2, .int 19), (0, .ref 0), (1, .ref 22)]) (stk' := [.int 103, .int 100]) (mem' := fm g tp bt a b) (fun _ _ _ => rfl) ?_
      refine fe_s 1 (pc' := cond (fx_cb .ge 100 103) 115 75) (lc' := [(6, .int 100), (5, .int 0), (4, .int 103), (3, .int 99), (2, .int 19), (0, .ref 0), (1, .ref 22)]) (stk' := []) (mem' := fm g tp bt a b) (fun _ _ _ => rfl) ?_
      rw [show (fx_cb .ge 100 103) = false from by decide]
      dsimp only [cond]
      refine fe_s 1 (pc' := 77) (lc' := [(6, .int 100), (5, .int 0), (4, .int 103), (3, .int 99), (2, .int 19), (0, .ref 0), (1, .ref 22)]) (stk' := [.int 0]) (mem' := fm g tp bt a b) (fun _ _ _ => rfl) ?_
      refine fe_s 1 (pc' := cond (fx_cb .eq 0 0) 115 80) (lc' := [(6, .int 100), (5, .int 0), (4, .int 103), (3, .int 99), (2, .int 19), (0, .ref 0), (1, .ref 22)]) (stk' := []) (mem' := fm g tp bt a b) (fun _ _ _ => rfl) ?_
      rw [show (fx_cb .eq 0 0) = true from by decide]
      dsimp only [cond]
      refine fe_s 1 (pc' := 117) (lc' := [(6, .int 100), (5, .int 0), (4, .int 103), (3, .int 99), (2, .int 19), (0, .ref 0), (1, .ref 22)]) (stk' := [.int 0]) (mem' := fm g tp bt a b) (fun _ _ _ => rfl) ?_
      refine fe_s 1 (pc' := cond (fx_cb .eq 0 0) 122 120) (lc' := [(6, .int 100), (5, .int 0), (4, .int 103), (3, .int 99), (2, .int 19), (0, .ref 0), (1, .ref 22)]) (stk' := []) (mem' := fm g tp bt a b) (fun _ _ _ => rfl) ?_
      rw [show (fx_cb .eq 0 0) = true from by decide]
      dsimp only [cond]
      refine fe_s 4 (pc' := 129) (lc' := [(2, .int (19 + 1)), (6, .int 100), (5, .int 0), (4, .int 103), (3, .int 99), (0, .ref 0), (1, .ref 22)]) (stk' := [.int (103 + 1)]) (mem' := fm g tp bt a b) (fun _ _ _ => rfl) ?_
      rw [show (19 + 1 : Int32) = 20 from rfl]
      rw [show (103 + 1 : Int32) = 104 from rfl]
      refine fe_s 1 (pc' := 130) (lc' := [(3, .int 104), (2, .int 20), (6, .int 100), (5, .int 0), (4, .int 103), (0, .ref 0), (1, .ref 22)]) (stk' := []) (mem' := fm g tp bt a b) (fun _ _ _ => rfl) ?_
      refine fe_s 1 (pc' := fx_to 130 (-116)) (lc' := [(3, .int 104), (2, .int 20), (6, .int 100), (5, .int 0), (4, .int 103), (0, .ref 0), (1, .ref 22)]) (stk' := []) (mem' := fm g tp bt a b) (fun _ _ _ => rfl) ?_
      rw [show fx_to 130 (-116) = 14 from by decide]
      refine fe_w (lc' := [(3, .int 104), (2, .int 20), (0, .ref 0), (1, .ref 22)]) ⟨rfl, rfl, rfl, rfl, trivial⟩ (by show List.Nodup [3, 2, 0, 1]; decide) (by show List.Nodup [3, 2, 6, 5, 4, 0, 1]; decide) ?_
      exact fw_20 hxp
    · rw [e3]
      refine fe_s 1 (pc' := cond (fx_cb .ne 108 (nI n2)) 106 102) (lc' := [(6, .int 99), (5, .int 1), (4, .int 103), (3, .int 99), (2, .int 19), (0, .ref 0), (1, .ref 22)]) (stk' := []) (mem' := fm g tp bt a b) (fun _ _ _ => rfl) ?_
      by_cases h5 : 108 = n2
      · rw [show (fx_cb .ne 108 (nI n2)) = false from cb_neF (a := 108) (b := n2) (by omega) (by omega) (by omega)]
        dsimp only [cond]
        refine fe_s 4 (pc' := 112) (lc' := [(6, .int (99 + 1)), (5, .int 1), (4, .int 103), (3, .int 99), (2, .int 19), (0, .ref 0), (1, .ref 22)]) (stk' := []) (mem' := fm g tp bt a b) (fun _ _ _ => rfl) ?_
        rw [show (99 + 1 : Int32) = 100 from rfl]
        refine fe_s 3 (pc' := 72) (lc' := [(6, .int 100), (5, .int 1), (4, .int 103), (3, .int 99), (2, .int 19), (0, .ref 0), (1, .ref 22)]) (stk' := [.int 103, .int 100]) (mem' := fm g tp bt a b) (fun _ _ _ => rfl) ?_
        refine fe_s 1 (pc' := cond (fx_cb .ge 100 103) 115 75) (lc' := [(6, .int 100), (5, .int 1), (4, .int 103), (3, .int 99), (2, .int 19), (0, .ref 0), (1, .ref 22)]) (stk' := []) (mem' := fm g tp bt a b) (fun _ _ _ => rfl) ?_
        rw [show (fx_cb .ge 100 103) = false from by decide]
        dsimp only [cond]
        refine fe_s 1 (pc' := 77) (lc' := [(6, .int 100), (5, .int 1), (4, .int 103), (3, .int 99), (2, .int 19), (0, .ref 0), (1, .ref 22)]) (stk' := [.int 1]) (mem' := fm g tp bt a b) (fun _ _ _ => rfl) ?_
        refine fe_s 1 (pc' := cond (fx_cb .eq 1 0) 115 80) (lc' := [(6, .int 100), (5, .int 1), (4, .int 103), (3, .int 99), (2, .int 19), (0, .ref 0), (1, .ref 22)]) (stk' := []) (mem' := fm g tp bt a b) (fun _ _ _ => rfl) ?_
        rw [show (fx_cb .eq 1 0) = false from by decide]
        dsimp only [cond]
        refine fe_s 2 (pc' := 83) (lc' := [(6, .int 100), (5, .int 1), (4, .int 103), (3, .int 99), (2, .int 19), (0, .ref 0), (1, .ref 22)]) (stk' := [.int 100, .ref 22]) (mem' := fm g tp bt a b) (fun _ _ _ => rfl) ?_
        refine fe_chr (i := 100) (by omega) (by rfl) (by rfl) ⟨by rfl, by rfl⟩ (by rfl) ?_
        rw [show sk_b.getD 100 0 = 111 from rfl]
        refine fe_s 4 (pc' := 93) (lc' := [(6, .int 100), (5, .int 1), (4, .int 103), (3, .int 99), (2, .int 19), (0, .ref 0), (1, .ref 22)]) (stk' := [.int 100, .int (g 13), .ref 0, .int 111]) (mem' := fm g tp bt a b) (fun _ _ _ => rfl) ?_
        try rw [h13]
        refine fe_s 3 (pc' := 96) (lc' := [(6, .int 100), (5, .int 1), (4, .int 103), (3, .int 99), (2, .int 19), (0, .ref 0), (1, .ref 22)]) (stk' := [.int (((nI F) + 100) - 99), .ref 0, .int 111]) (mem' := fm g tp bt a b) (fun _ _ _ => rfl) ?_
        rw [show (((nI F) + 100) - 99 : Int32) = nI ((F + 100) - 99) from by simp only [show (100 : Int32) = nI 100 from rfl, show (99 : Int32) = nI 99 from rfl, tg_sub2 (x := F + 100) (y := 99) (by omega), nI_add, fm_mul]]
        refine fe_ivV (fr_byteAt (S := S) (k := (F + 100) - 99) (g := g) (tp := tp) (bt := bt) (a := a) (b := b) h11 (by omega) (by omega)) (by omega) (by rfl) (by rfl) (by rfl) (by rfl) (by rfl) (by rfl) ?_
        rcases fm_byte_or a S ((F + 100) - 99) with ⟨e7, q8⟩ | ⟨q8, n6, qn6, e7⟩
        · rw [e7]
          refine fe_s 1 (pc' := cond (fx_cb .ne 111 (-1)) 106 102) (lc' := [(6, .int 100), (5, .int 1), (4, .int 103), (3, .int 99), (2, .int 19), (0, .ref 0), (1, .ref 22)]) (stk' := []) (mem' := fm g tp bt a b) (fun _ _ _ => rfl) ?_
          rw [show (fx_cb .ne 111 (-1)) = true from by decide]
          dsimp only [cond]
          refine fe_s 4 (pc' := 68) (lc' := [(6, .int (100 + 1)), (5, .int 0), (4, .int 103), (3, .int 99), (2, .int 19), (0, .ref 0), (1, .ref 22)]) (stk' := []) (mem' := fm g tp bt a b) (fun _ _ _ => rfl) ?_
          rw [show (100 + 1 : Int32) = 101 from rfl]
          refine fe_s 2 (pc' := 72) (lc' := [(6, .int 101), (5, .int 0), (4, .int 103), (3, .int 99), (2, .int 19), (0, .ref 0), (1, .ref 22)]) (stk' := [.int 103, .int 101]) (mem' := fm g tp bt a b) (fun _ _ _ => rfl) ?_
          refine fe_s 1 (pc' := cond (fx_cb .ge 101 103) 115 75) (lc' := [(6, .int 101), (5, .int 0), (4, .int 103), (3, .int 99), (2, .int 19), (0, .ref 0), (1, .ref 22)]) (stk' := []) (mem' := fm g tp bt a b) (fun _ _ _ => rfl) ?_
          rw [show (fx_cb .ge 101 103) = false from by decide]
          dsimp only [cond]
          refine fe_s 1 (pc' := 77) (lc' := [(6, .int 101), (5, .int 0), (4, .int 103), (3, .int 99), (2, .int 19), (0, .ref 0), (1, .ref 22)]) (stk' := [.int 0]) (mem' := fm g tp bt a b) (fun _ _ _ => rfl) ?_
          refine fe_s 1 (pc' := cond (fx_cb .eq 0 0) 115 80) (lc' := [(6, .int 101), (5, .int 0), (4, .int 103), (3, .int 99), (2, .int 19), (0, .ref 0), (1, .ref 22)]) (stk' := []) (mem' := fm g tp bt a b) (fun _ _ _ => rfl) ?_
          rw [show (fx_cb .eq 0 0) = true from by decide]
          dsimp only [cond]
          refine fe_s 1 (pc' := 117) (lc' := [(6, .int 101), (5, .int 0), (4, .int 103), (3, .int 99), (2, .int 19), (0, .ref 0), (1, .ref 22)]) (stk' := [.int 0]) (mem' := fm g tp bt a b) (fun _ _ _ => rfl) ?_
          refine fe_s 1 (pc' := cond (fx_cb .eq 0 0) 122 120) (lc' := [(6, .int 101), (5, .int 0), (4, .int 103), (3, .int 99), (2, .int 19), (0, .ref 0), (1, .ref 22)]) (stk' := []) (mem' := fm g tp bt a b) (fun _ _ _ => rfl) ?_
          rw [show (fx_cb .eq 0 0) = true from by decide]
          dsimp only [cond]
          refine fe_s 4 (pc' := 129) (lc' := [(2, .int (19 + 1)), (6, .int 101), (5, .int 0), (4, .int 103), (3, .int 99), (0, .ref 0), (1, .ref 22)]) (stk' := [.int (103 + 1)]) (mem' := fm g tp bt a b) (fun _ _ _ => rfl) ?_
          rw [show (19 + 1 : Int32) = 20 from rfl]
          rw [show (103 + 1 : Int32) = 104 from rfl]
          refine fe_s 1 (pc' := 130) (lc' := [(3, .int 104), (2, .int 20), (6, .int 101), (5, .int 0), (4, .int 103), (0, .ref 0), (1, .ref 22)]) (stk' := []) (mem' := fm g tp bt a b) (fun _ _ _ => rfl) ?_
          refine fe_s 1 (pc' := fx_to 130 (-116)) (lc' := [(3, .int 104), (2, .int 20), (6, .int 101), (5, .int 0), (4, .int 103), (0, .ref 0), (1, .ref 22)]) (stk' := []) (mem' := fm g tp bt a b) (fun _ _ _ => rfl) ?_
          rw [show fx_to 130 (-116) = 14 from by decide]
          refine fe_w (lc' := [(3, .int 104), (2, .int 20), (0, .ref 0), (1, .ref 22)]) ⟨rfl, rfl, rfl, rfl, trivial⟩ (by show List.Nodup [3, 2, 0, 1]; decide) (by show List.Nodup [3, 2, 6, 5, 4, 0, 1]; decide) ?_
          exact fw_20 hxp
        · rw [e7]
          refine fe_s 1 (pc' := cond (fx_cb .ne 111 (nI n6)) 106 102) (lc' := [(6, .int 100), (5, .int 1), (4, .int 103), (3, .int 99), (2, .int 19), (0, .ref 0), (1, .ref 22)]) (stk' := []) (mem' := fm g tp bt a b) (fun _ _ _ => rfl) ?_
          by_cases h9 : 111 = n6
          · rw [show (fx_cb .ne 111 (nI n6)) = false from cb_neF (a := 111) (b := n6) (by omega) (by omega) (by omega)]
            dsimp only [cond]
            refine fe_s 4 (pc' := 112) (lc' := [(6, .int (100 + 1)), (5, .int 1), (4, .int 103), (3, .int 99), (2, .int 19), (0, .ref 0), (1, .ref 22)]) (stk' := []) (mem' := fm g tp bt a b) (fun _ _ _ => rfl) ?_
            rw [show (100 + 1 : Int32) = 101 from rfl]
            refine fe_s 3 (pc' := 72) (lc' := [(6, .int 101), (5, .int 1), (4, .int 103), (3, .int 99), (2, .int 19), (0, .ref 0), (1, .ref 22)]) (stk' := [.int 103, .int 101]) (mem' := fm g tp bt a b) (fun _ _ _ => rfl) ?_
            refine fe_s 1 (pc' := cond (fx_cb .ge 101 103) 115 75) (lc' := [(6, .int 101), (5, .int 1), (4, .int 103), (3, .int 99), (2, .int 19), (0, .ref 0), (1, .ref 22)]) (stk' := []) (mem' := fm g tp bt a b) (fun _ _ _ => rfl) ?_
            rw [show (fx_cb .ge 101 103) = false from by decide]
            dsimp only [cond]
            refine fe_s 1 (pc' := 77) (lc' := [(6, .int 101), (5, .int 1), (4, .int 103), (3, .int 99), (2, .int 19), (0, .ref 0), (1, .ref 22)]) (stk' := [.int 1]) (mem' := fm g tp bt a b) (fun _ _ _ => rfl) ?_
            refine fe_s 1 (pc' := cond (fx_cb .eq 1 0) 115 80) (lc' := [(6, .int 101), (5, .int 1), (4, .int 103), (3, .int 99), (2, .int 19), (0, .ref 0), (1, .ref 22)]) (stk' := []) (mem' := fm g tp bt a b) (fun _ _ _ => rfl) ?_
            rw [show (fx_cb .eq 1 0) = false from by decide]
            dsimp only [cond]
            refine fe_s 2 (pc' := 83) (lc' := [(6, .int 101), (5, .int 1), (4, .int 103), (3, .int 99), (2, .int 19), (0, .ref 0), (1, .ref 22)]) (stk' := [.int 101, .ref 22]) (mem' := fm g tp bt a b) (fun _ _ _ => rfl) ?_
            refine fe_chr (i := 101) (by omega) (by rfl) (by rfl) ⟨by rfl, by rfl⟩ (by rfl) ?_
            rw [show sk_b.getD 101 0 = 111 from rfl]
            refine fe_s 4 (pc' := 93) (lc' := [(6, .int 101), (5, .int 1), (4, .int 103), (3, .int 99), (2, .int 19), (0, .ref 0), (1, .ref 22)]) (stk' := [.int 101, .int (g 13), .ref 0, .int 111]) (mem' := fm g tp bt a b) (fun _ _ _ => rfl) ?_
            try rw [h13]
            refine fe_s 3 (pc' := 96) (lc' := [(6, .int 101), (5, .int 1), (4, .int 103), (3, .int 99), (2, .int 19), (0, .ref 0), (1, .ref 22)]) (stk' := [.int (((nI F) + 101) - 99), .ref 0, .int 111]) (mem' := fm g tp bt a b) (fun _ _ _ => rfl) ?_
            rw [show (((nI F) + 101) - 99 : Int32) = nI ((F + 101) - 99) from by simp only [show (101 : Int32) = nI 101 from rfl, show (99 : Int32) = nI 99 from rfl, tg_sub2 (x := F + 101) (y := 99) (by omega), nI_add, fm_mul]]
            refine fe_ivV (fr_byteAt (S := S) (k := (F + 101) - 99) (g := g) (tp := tp) (bt := bt) (a := a) (b := b) h11 (by omega) (by omega)) (by omega) (by rfl) (by rfl) (by rfl) (by rfl) (by rfl) (by rfl) ?_
            rcases fm_byte_or a S ((F + 101) - 99) with ⟨e11, q12⟩ | ⟨q12, n10, qn10, e11⟩
            · rw [e11]
              refine fe_s 1 (pc' := cond (fx_cb .ne 111 (-1)) 106 102) (lc' := [(6, .int 101), (5, .int 1), (4, .int 103), (3, .int 99), (2, .int 19), (0, .ref 0), (1, .ref 22)]) (stk' := []) (mem' := fm g tp bt a b) (fun _ _ _ => rfl) ?_
              rw [show (fx_cb .ne 111 (-1)) = true from by decide]
              dsimp only [cond]
              refine fe_s 4 (pc' := 68) (lc' := [(6, .int (101 + 1)), (5, .int 0), (4, .int 103), (3, .int 99), (2, .int 19), (0, .ref 0), (1, .ref 22)]) (stk' := []) (mem' := fm g tp bt a b) (fun _ _ _ => rfl) ?_
              rw [show (101 + 1 : Int32) = 102 from rfl]
              refine fe_s 2 (pc' := 72) (lc' := [(6, .int 102), (5, .int 0), (4, .int 103), (3, .int 99), (2, .int 19), (0, .ref 0), (1, .ref 22)]) (stk' := [.int 103, .int 102]) (mem' := fm g tp bt a b) (fun _ _ _ => rfl) ?_
              refine fe_s 1 (pc' := cond (fx_cb .ge 102 103) 115 75) (lc' := [(6, .int 102), (5, .int 0), (4, .int 103), (3, .int 99), (2, .int 19), (0, .ref 0), (1, .ref 22)]) (stk' := []) (mem' := fm g tp bt a b) (fun _ _ _ => rfl) ?_
              rw [show (fx_cb .ge 102 103) = false from by decide]
              dsimp only [cond]
              refine fe_s 1 (pc' := 77) (lc' := [(6, .int 102), (5, .int 0), (4, .int 103), (3, .int 99), (2, .int 19), (0, .ref 0), (1, .ref 22)]) (stk' := [.int 0]) (mem' := fm g tp bt a b) (fun _ _ _ => rfl) ?_
              refine fe_s 1 (pc' := cond (fx_cb .eq 0 0) 115 80) (lc' := [(6, .int 102), (5, .int 0), (4, .int 103), (3, .int 99), (2, .int 19), (0, .ref 0), (1, .ref 22)]) (stk' := []) (mem' := fm g tp bt a b) (fun _ _ _ => rfl) ?_
              rw [show (fx_cb .eq 0 0) = true from by decide]
              dsimp only [cond]
              refine fe_s 1 (pc' := 117) (lc' := [(6, .int 102), (5, .int 0), (4, .int 103), (3, .int 99), (2, .int 19), (0, .ref 0), (1, .ref 22)]) (stk' := [.int 0]) (mem' := fm g tp bt a b) (fun _ _ _ => rfl) ?_
              refine fe_s 1 (pc' := cond (fx_cb .eq 0 0) 122 120) (lc' := [(6, .int 102), (5, .int 0), (4, .int 103), (3, .int 99), (2, .int 19), (0, .ref 0), (1, .ref 22)]) (stk' := []) (mem' := fm g tp bt a b) (fun _ _ _ => rfl) ?_
              rw [show (fx_cb .eq 0 0) = true from by decide]
              dsimp only [cond]
              refine fe_s 4 (pc' := 129) (lc' := [(2, .int (19 + 1)), (6, .int 102), (5, .int 0), (4, .int 103), (3, .int 99), (0, .ref 0), (1, .ref 22)]) (stk' := [.int (103 + 1)]) (mem' := fm g tp bt a b) (fun _ _ _ => rfl) ?_
              rw [show (19 + 1 : Int32) = 20 from rfl]
              rw [show (103 + 1 : Int32) = 104 from rfl]
              refine fe_s 1 (pc' := 130) (lc' := [(3, .int 104), (2, .int 20), (6, .int 102), (5, .int 0), (4, .int 103), (0, .ref 0), (1, .ref 22)]) (stk' := []) (mem' := fm g tp bt a b) (fun _ _ _ => rfl) ?_
              refine fe_s 1 (pc' := fx_to 130 (-116)) (lc' := [(3, .int 104), (2, .int 20), (6, .int 102), (5, .int 0), (4, .int 103), (0, .ref 0), (1, .ref 22)]) (stk' := []) (mem' := fm g tp bt a b) (fun _ _ _ => rfl) ?_
              rw [show fx_to 130 (-116) = 14 from by decide]
              refine fe_w (lc' := [(3, .int 104), (2, .int 20), (0, .ref 0), (1, .ref 22)]) ⟨rfl, rfl, rfl, rfl, trivial⟩ (by show List.Nodup [3, 2, 0, 1]; decide) (by show List.Nodup [3, 2, 6, 5, 4, 0, 1]; decide) ?_
              exact fw_20 hxp
            · rw [e11]
              refine fe_s 1 (pc' := cond (fx_cb .ne 111 (nI n10)) 106 102) (lc' := [(6, .int 101), (5, .int 1), (4, .int 103), (3, .int 99), (2, .int 19), (0, .ref 0), (1, .ref 22)]) (stk' := []) (mem' := fm g tp bt a b) (fun _ _ _ => rfl) ?_
              by_cases h13 : 111 = n10
              · rw [show (fx_cb .ne 111 (nI n10)) = false from cb_neF (a := 111) (b := n10) (by omega) (by omega) (by omega)]
                dsimp only [cond]
                refine fe_s 4 (pc' := 112) (lc' := [(6, .int (101 + 1)), (5, .int 1), (4, .int 103), (3, .int 99), (2, .int 19), (0, .ref 0), (1, .ref 22)]) (stk' := []) (mem' := fm g tp bt a b) (fun _ _ _ => rfl) ?_
                rw [show (101 + 1 : Int32) = 102 from rfl]
                refine fe_s 3 (pc' := 72) (lc' := [(6, .int 102), (5, .int 1), (4, .int 103), (3, .int 99), (2, .int 19), (0, .ref 0), (1, .ref 22)]) (stk' := [.int 103, .int 102]) (mem' := fm g tp bt a b) (fun _ _ _ => rfl) ?_
                refine fe_s 1 (pc' := cond (fx_cb .ge 102 103) 115 75) (lc' := [(6, .int 102), (5, .int 1), (4, .int 103), (3, .int 99), (2, .int 19), (0, .ref 0), (1, .ref 22)]) (stk' := []) (mem' := fm g tp bt a b) (fun _ _ _ => rfl) ?_
                rw [show (fx_cb .ge 102 103) = false from by decide]
                dsimp only [cond]
                refine fe_s 1 (pc' := 77) (lc' := [(6, .int 102), (5, .int 1), (4, .int 103), (3, .int 99), (2, .int 19), (0, .ref 0), (1, .ref 22)]) (stk' := [.int 1]) (mem' := fm g tp bt a b) (fun _ _ _ => rfl) ?_
                refine fe_s 1 (pc' := cond (fx_cb .eq 1 0) 115 80) (lc' := [(6, .int 102), (5, .int 1), (4, .int 103), (3, .int 99), (2, .int 19), (0, .ref 0), (1, .ref 22)]) (stk' := []) (mem' := fm g tp bt a b) (fun _ _ _ => rfl) ?_
                rw [show (fx_cb .eq 1 0) = false from by decide]
                dsimp only [cond]
                refine fe_s 2 (pc' := 83) (lc' := [(6, .int 102), (5, .int 1), (4, .int 103), (3, .int 99), (2, .int 19), (0, .ref 0), (1, .ref 22)]) (stk' := [.int 102, .ref 22]) (mem' := fm g tp bt a b) (fun _ _ _ => rfl) ?_
                refine fe_chr (i := 102) (by omega) (by rfl) (by rfl) ⟨by rfl, by rfl⟩ (by rfl) ?_
                rw [show sk_b.getD 102 0 = 112 from rfl]
                refine fe_s 4 (pc' := 93) (lc' := [(6, .int 102), (5, .int 1), (4, .int 103), (3, .int 99), (2, .int 19), (0, .ref 0), (1, .ref 22)]) (stk' := [.int 102, .int (g 13), .ref 0, .int 112]) (mem' := fm g tp bt a b) (fun _ _ _ => rfl) ?_
                try rw [h13]
                refine fe_s 3 (pc' := 96) (lc' := [(6, .int 102), (5, .int 1), (4, .int 103), (3, .int 99), (2, .int 19), (0, .ref 0), (1, .ref 22)]) (stk' := [.int (((nI F) + 102) - 99), .ref 0, .int 112]) (mem' := fm g tp bt a b) (fun _ _ _ => rfl) ?_
                rw [show (((nI F) + 102) - 99 : Int32) = nI ((F + 102) - 99) from by simp only [show (102 : Int32) = nI 102 from rfl, show (99 : Int32) = nI 99 from rfl, tg_sub2 (x := F + 102) (y := 99) (by omega), nI_add, fm_mul]]
                refine fe_ivV (fr_byteAt (S := S) (k := (F + 102) - 99) (g := g) (tp := tp) (bt := bt) (a := a) (b := b) h11 (by omega) (by omega)) (by omega) (by rfl) (by rfl) (by rfl) (by rfl) (by rfl) (by rfl) ?_
                rcases fm_byte_or a S ((F + 102) - 99) with ⟨e15, q16⟩ | ⟨q16, n14, qn14, e15⟩
                · rw [e15]
                  refine fe_s 1 (pc' := cond (fx_cb .ne 112 (-1)) 106 102) (lc' := [(6, .int 102), (5, .int 1), (4, .int 103), (3, .int 99), (2, .int 19), (0, .ref 0), (1, .ref 22)]) (stk' := []) (mem' := fm g tp bt a b) (fun _ _ _ => rfl) ?_
                  rw [show (fx_cb .ne 112 (-1)) = true from by decide]
                  dsimp only [cond]
                  refine fe_s 4 (pc' := 68) (lc' := [(6, .int (102 + 1)), (5, .int 0), (4, .int 103), (3, .int 99), (2, .int 19), (0, .ref 0), (1, .ref 22)]) (stk' := []) (mem' := fm g tp bt a b) (fun _ _ _ => rfl) ?_
                  rw [show (102 + 1 : Int32) = 103 from rfl]
                  refine fe_s 2 (pc' := 72) (lc' := [(6, .int 103), (5, .int 0), (4, .int 103), (3, .int 99), (2, .int 19), (0, .ref 0), (1, .ref 22)]) (stk' := [.int 103, .int 103]) (mem' := fm g tp bt a b) (fun _ _ _ => rfl) ?_
                  refine fe_s 1 (pc' := cond (fx_cb .ge 103 103) 115 75) (lc' := [(6, .int 103), (5, .int 0), (4, .int 103), (3, .int 99), (2, .int 19), (0, .ref 0), (1, .ref 22)]) (stk' := []) (mem' := fm g tp bt a b) (fun _ _ _ => rfl) ?_
                  rw [show (fx_cb .ge 103 103) = true from by decide]
                  dsimp only [cond]
                  refine fe_s 1 (pc' := 117) (lc' := [(6, .int 103), (5, .int 0), (4, .int 103), (3, .int 99), (2, .int 19), (0, .ref 0), (1, .ref 22)]) (stk' := [.int 0]) (mem' := fm g tp bt a b) (fun _ _ _ => rfl) ?_
                  refine fe_s 1 (pc' := cond (fx_cb .eq 0 0) 122 120) (lc' := [(6, .int 103), (5, .int 0), (4, .int 103), (3, .int 99), (2, .int 19), (0, .ref 0), (1, .ref 22)]) (stk' := []) (mem' := fm g tp bt a b) (fun _ _ _ => rfl) ?_
                  rw [show (fx_cb .eq 0 0) = true from by decide]
                  dsimp only [cond]
                  refine fe_s 4 (pc' := 129) (lc' := [(2, .int (19 + 1)), (6, .int 103), (5, .int 0), (4, .int 103), (3, .int 99), (0, .ref 0), (1, .ref 22)]) (stk' := [.int (103 + 1)]) (mem' := fm g tp bt a b) (fun _ _ _ => rfl) ?_
                  rw [show (19 + 1 : Int32) = 20 from rfl]
                  rw [show (103 + 1 : Int32) = 104 from rfl]
                  refine fe_s 1 (pc' := 130) (lc' := [(3, .int 104), (2, .int 20), (6, .int 103), (5, .int 0), (4, .int 103), (0, .ref 0), (1, .ref 22)]) (stk' := []) (mem' := fm g tp bt a b) (fun _ _ _ => rfl) ?_
                  refine fe_s 1 (pc' := fx_to 130 (-116)) (lc' := [(3, .int 104), (2, .int 20), (6, .int 103), (5, .int 0), (4, .int 103), (0, .ref 0), (1, .ref 22)]) (stk' := []) (mem' := fm g tp bt a b) (fun _ _ _ => rfl) ?_
                  rw [show fx_to 130 (-116) = 14 from by decide]
                  refine fe_w (lc' := [(3, .int 104), (2, .int 20), (0, .ref 0), (1, .ref 22)]) ⟨rfl, rfl, rfl, rfl, trivial⟩ (by show List.Nodup [3, 2, 0, 1]; decide) (by show List.Nodup [3, 2, 6, 5, 4, 0, 1]; decide) ?_
                  exact fw_20 hxp
                · rw [e15]
                  refine fe_s 1 (pc' := cond (fx_cb .ne 112 (nI n14)) 106 102) (lc' := [(6, .int 102), (5, .int 1), (4, .int 103), (3, .int 99), (2, .int 19), (0, .ref 0), (1, .ref 22)]) (stk' := []) (mem' := fm g tp bt a b) (fun _ _ _ => rfl) ?_
                  by_cases h17 : 112 = n14
                  · rw [show (fx_cb .ne 112 (nI n14)) = false from cb_neF (a := 112) (b := n14) (by omega) (by omega) (by omega)]
                    dsimp only [cond]
                    refine fe_s 4 (pc' := 112) (lc' := [(6, .int (102 + 1)), (5, .int 1), (4, .int 103), (3, .int 99), (2, .int 19), (0, .ref 0), (1, .ref 22)]) (stk' := []) (mem' := fm g tp bt a b) (fun _ _ _ => rfl) ?_
                    rw [show (102 + 1 : Int32) = 103 from rfl]
                    refine fe_s 3 (pc' := 72) (lc' := [(6, .int 103), (5, .int 1), (4, .int 103), (3, .int 99), (2, .int 19), (0, .ref 0), (1, .ref 22)]) (stk' := [.int 103, .int 103]) (mem' := fm g tp bt a b) (fun _ _ _ => rfl) ?_
                    refine fe_s 1 (pc' := cond (fx_cb .ge 103 103) 115 75) (lc' := [(6, .int 103), (5, .int 1), (4, .int 103), (3, .int 99), (2, .int 19), (0, .ref 0), (1, .ref 22)]) (stk' := []) (mem' := fm g tp bt a b) (fun _ _ _ => rfl) ?_
                    rw [show (fx_cb .ge 103 103) = true from by decide]
                    dsimp only [cond]
                    refine fe_s 1 (pc' := 117) (lc' := [(6, .int 103), (5, .int 1), (4, .int 103), (3, .int 99), (2, .int 19), (0, .ref 0), (1, .ref 22)]) (stk' := [.int 1]) (mem' := fm g tp bt a b) (fun _ _ _ => rfl) ?_
                    refine fe_s 1 (pc' := cond (fx_cb .eq 1 0) 122 120) (lc' := [(6, .int 103), (5, .int 1), (4, .int 103), (3, .int 99), (2, .int 19), (0, .ref 0), (1, .ref 22)]) (stk' := []) (mem' := fm g tp bt a b) (fun _ _ _ => rfl) ?_
                    rw [show (fx_cb .eq 1 0) = false from by decide]
                    dsimp only [cond]
                    refine fe_s 1 (pc' := 121) (lc' := [(6, .int 103), (5, .int 1), (4, .int 103), (3, .int 99), (2, .int 19), (0, .ref 0), (1, .ref 22)]) (stk' := [.int 19]) (mem' := fm g tp bt a b) (fun _ _ _ => rfl) ?_
                    exact fe_ret ⟨_, Or.inr ⟨19, by omega, rfl⟩, rfl⟩ (by rfl) (by rfl) (by rfl)
                  · rw [show (fx_cb .ne 112 (nI n14)) = true from cb_neT (a := 112) (b := n14) (by omega) (by omega) (by omega)]
                    dsimp only [cond]
                    refine fe_s 4 (pc' := 68) (lc' := [(6, .int (102 + 1)), (5, .int 0), (4, .int 103), (3, .int 99), (2, .int 19), (0, .ref 0), (1, .ref 22)]) (stk' := []) (mem' := fm g tp bt a b) (fun _ _ _ => rfl) ?_
                    rw [show (102 + 1 : Int32) = 103 from rfl]
                    refine fe_s 2 (pc' := 72) (lc' := [(6, .int 103), (5, .int 0), (4, .int 103), (3, .int 99), (2, .int 19), (0, .ref 0), (1, .ref 22)]) (stk' := [.int 103, .int 103]) (mem' := fm g tp bt a b) (fun _ _ _ => rfl) ?_
                    refine fe_s 1 (pc' := cond (fx_cb .ge 103 103) 115 75) (lc' := [(6, .int 103), (5, .int 0), (4, .int 103), (3, .int 99), (2, .int 19), (0, .ref 0), (1, .ref 22)]) (stk' := []) (mem' := fm g tp bt a b) (fun _ _ _ => rfl) ?_
                    rw [show (fx_cb .ge 103 103) = true from by decide]
                    dsimp only [cond]
                    refine fe_s 1 (pc' := 117) (lc' := [(6, .int 103), (5, .int 0), (4, .int 103), (3, .int 99), (2, .int 19), (0, .ref 0), (1, .ref 22)]) (stk' := [.int 0]) (mem' := fm g tp bt a b) (fun _ _ _ => rfl) ?_
                    refine fe_s 1 (pc' := cond (fx_cb .eq 0 0) 122 120) (lc' := [(6, .int 103), (5, .int 0), (4, .int 103), (3, .int 99), (2, .int 19), (0, .ref 0), (1, .ref 22)]) (stk' := []) (mem' := fm g tp bt a b) (fun _ _ _ => rfl) ?_
                    rw [show (fx_cb .eq 0 0) = true from by decide]
                    dsimp only [cond]
                    refine fe_s 4 (pc' := 129) (lc' := [(2, .int (19 + 1)), (6, .int 103), (5, .int 0), (4, .int 103), (3, .int 99), (0, .ref 0), (1, .ref 22)]) (stk' := [.int (103 + 1)]) (mem' := fm g tp bt a b) (fun _ _ _ => rfl) ?_
                    rw [show (19 + 1 : Int32) = 20 from rfl]
                    rw [show (103 + 1 : Int32) = 104 from rfl]
                    refine fe_s 1 (pc' := 130) (lc' := [(3, .int 104), (2, .int 20), (6, .int 103), (5, .int 0), (4, .int 103), (0, .ref 0), (1, .ref 22)]) (stk' := []) (mem' := fm g tp bt a b) (fun _ _ _ => rfl) ?_
                    refine fe_s 1 (pc' := fx_to 130 (-116)) (lc' := [(3, .int 104), (2, .int 20), (6, .int 103), (5, .int 0), (4, .int 103), (0, .ref 0), (1, .ref 22)]) (stk' := []) (mem' := fm g tp bt a b) (fun _ _ _ => rfl) ?_
                    rw [show fx_to 130 (-116) = 14 from by decide]
                    refine fe_w (lc' := [(3, .int 104), (2, .int 20), (0, .ref 0), (1, .ref 22)]) ⟨rfl, rfl, rfl, rfl, trivial⟩ (by show List.Nodup [3, 2, 0, 1]; decide) (by show List.Nodup [3, 2, 6, 5, 4, 0, 1]; decide) ?_
                    exact fw_20 hxp
              · rw [show (fx_cb .ne 111 (nI n10)) = true from cb_neT (a := 111) (b := n10) (by omega) (by omega) (by omega)]
                dsimp only [cond]
                refine fe_s 4 (pc' := 68) (lc' := [(6, .int (101 + 1)), (5, .int 0), (4, .int 103), (3, .int 99), (2, .int 19), (0, .ref 0), (1, .ref 22)]) (stk' := []) (mem' := fm g tp bt a b) (fun _ _ _ => rfl) ?_
                rw [show (101 + 1 : Int32) = 102 from rfl]
                refine fe_s 2 (pc' := 72) (lc' := [(6, .int 102), (5, .int 0), (4, .int 103), (3, .int 99), (2, .int 19), (0, .ref 0), (1, .ref 22)]) (stk' := [.int 103, .int 102]) (mem' := fm g tp bt a b) (fun _ _ _ => rfl) ?_
                refine fe_s 1 (pc' := cond (fx_cb .ge 102 103) 115 75) (lc' := [(6, .int 102), (5, .int 0), (4, .int 103), (3, .int 99), (2, .int 19), (0, .ref 0), (1, .ref 22)]) (stk' := []) (mem' := fm g tp bt a b) (fun _ _ _ => rfl) ?_
                rw [show (fx_cb .ge 102 103) = false from by decide]
                dsimp only [cond]
                refine fe_s 1 (pc' := 77) (lc' := [(6, .int 102), (5, .int 0), (4, .int 103), (3, .int 99), (2, .int 19), (0, .ref 0), (1, .ref 22)]) (stk' := [.int 0]) (mem' := fm g tp bt a b) (fun _ _ _ => rfl) ?_
                refine fe_s 1 (pc' := cond (fx_cb .eq 0 0) 115 80) (lc' := [(6, .int 102), (5, .int 0), (4, .int 103), (3, .int 99), (2, .int 19), (0, .ref 0), (1, .ref 22)]) (stk' := []) (mem' := fm g tp bt a b) (fun _ _ _ => rfl) ?_
                rw [show (fx_cb .eq 0 0) = true from by decide]
                dsimp only [cond]
                refine fe_s 1 (pc' := 117) (lc' := [(6, .int 102), (5, .int 0), (4, .int 103), (3, .int 99), (2, .int 19), (0, .ref 0), (1, .ref 22)]) (stk' := [.int 0]) (mem' := fm g tp bt a b) (fun _ _ _ => rfl) ?_
                refine fe_s 1 (pc' := cond (fx_cb .eq 0 0) 122 120) (lc' := [(6, .int 102), (5, .int 0), (4, .int 103), (3, .int 99), (2, .int 19), (0, .ref 0), (1, .ref 22)]) (stk' := []) (mem' := fm g tp bt a b) (fun _ _ _ => rfl) ?_
                rw [show (fx_cb .eq 0 0) = true from by decide]
                dsimp only [cond]
                refine fe_s 4 (pc' := 129) (lc' := [(2, .int (19 + 1)), (6, .int 102), (5, .int 0), (4, .int 103), (3, .int 99), (0, .ref 0), (1, .ref 22)]) (stk' := [.int (103 + 1)]) (mem' := fm g tp bt a b) (fun _ _ _ => rfl) ?_
                rw [show (19 + 1 : Int32) = 20 from rfl]
                rw [show (103 + 1 : Int32) = 104 from rfl]
                refine fe_s 1 (pc' := 130) (lc' := [(3, .int 104), (2, .int 20), (6, .int 102), (5, .int 0), (4, .int 103), (0, .ref 0), (1, .ref 22)]) (stk' := []) (mem' := fm g tp bt a b) (fun _ _ _ => rfl) ?_
                refine fe_s 1 (pc' := fx_to 130 (-116)) (lc' := [(3, .int 104), (2, .int 20), (6, .int 102), (5, .int 0), (4, .int 103), (0, .ref 0), (1, .ref 22)]) (stk' := []) (mem' := fm g tp bt a b) (fun _ _ _ => rfl) ?_
                rw [show fx_to 130 (-116) = 14 from by decide]
                refine fe_w (lc' := [(3, .int 104), (2, .int 20), (0, .ref 0), (1, .ref 22)]) ⟨rfl, rfl, rfl, rfl, trivial⟩ (by show List.Nodup [3, 2, 0, 1]; decide) (by show List.Nodup [3, 2, 6, 5, 4, 0, 1]; decide) ?_
                exact fw_20 hxp
          · rw [show (fx_cb .ne 111 (nI n6)) = true from cb_neT (a := 111) (b := n6) (by omega) (by omega) (by omega)]
            dsimp only [cond]
            refine fe_s 4 (pc' := 68) (lc' := [(6, .int (100 + 1)), (5, .int 0), (4, .int 103), (3, .int 99), (2, .int 19), (0, .ref 0), (1, .ref 22)]) (stk' := []) (mem' := fm g tp bt a b) (fun _ _ _ => rfl) ?_
            rw [show (100 + 1 : Int32) = 101 from rfl]
            refine fe_s 2 (pc' := 72) (lc' := [(6, .int 101), (5, .int 0), (4, .int 103), (3, .int 99), (2, .int 19), (0, .ref 0), (1, .ref 22)]) (stk' := [.int 103, .int 101]) (mem' := fm g tp bt a b) (fun _ _ _ => rfl) ?_
            refine fe_s 1 (pc' := cond (fx_cb .ge 101 103) 115 75) (lc' := [(6, .int 101), (5, .int 0), (4, .int 103), (3, .int 99), (2, .int 19), (0, .ref 0), (1, .ref 22)]) (stk' := []) (mem' := fm g tp bt a b) (fun _ _ _ => rfl) ?_
            rw [show (fx_cb .ge 101 103) = false from by decide]
            dsimp only [cond]
            refine fe_s 1 (pc' := 77) (lc' := [(6, .int 101), (5, .int 0), (4, .int 103), (3, .int 99), (2, .int 19), (0, .ref 0), (1, .ref 22)]) (stk' := [.int 0]) (mem' := fm g tp bt a b) (fun _ _ _ => rfl) ?_
            refine fe_s 1 (pc' := cond (fx_cb .eq 0 0) 115 80) (lc' := [(6, .int 101), (5, .int 0), (4, .int 103), (3, .int 99), (2, .int 19), (0, .ref 0), (1, .ref 22)]) (stk' := []) (mem' := fm g tp bt a b) (fun _ _ _ => rfl) ?_
            rw [show (fx_cb .eq 0 0) = true from by decide]
            dsimp only [cond]
            refine fe_s 1 (pc' := 117) (lc' := [(6, .int 101), (5, .int 0), (4, .int 103), (3, .int 99), (2, .int 19), (0, .ref 0), (1, .ref 22)]) (stk' := [.int 0]) (mem' := fm g tp bt a b) (fun _ _ _ => rfl) ?_
            refine fe_s 1 (pc' := cond (fx_cb .eq 0 0) 122 120) (lc' := [(6, .int 101), (5, .int 0), (4, .int 103), (3, .int 99), (2, .int 19), (0, .ref 0), (1, .ref 22)]) (stk' := []) (mem' := fm g tp bt a b) (fun _ _ _ => rfl) ?_
            rw [show (fx_cb .eq 0 0) = true from by decide]
            dsimp only [cond]
            refine fe_s 4 (pc' := 129) (lc' := [(2, .int (19 + 1)), (6, .int 101), (5, .int 0), (4, .int 103), (3, .int 99), (0, .ref 0), (1, .ref 22)]) (stk' := [.int (103 + 1)]) (mem' := fm g tp bt a b) (fun _ _ _ => rfl) ?_
            rw [show (19 + 1 : Int32) = 20 from rfl]
            rw [show (103 + 1 : Int32) = 104 from rfl]
            refine fe_s 1 (pc' := 130) (lc' := [(3, .int 104), (2, .int 20), (6, .int 101), (5, .int 0), (4, .int 103), (0, .ref 0), (1, .ref 22)]) (stk' := []) (mem' := fm g tp bt a b) (fun _ _ _ => rfl) ?_
            refine fe_s 1 (pc' := fx_to 130 (-116)) (lc' := [(3, .int 104), (2, .int 20), (6, .int 101), (5, .int 0), (4, .int 103), (0, .ref 0), (1, .ref 22)]) (stk' := []) (mem' := fm g tp bt a b) (fun _ _ _ => rfl) ?_
            rw [show fx_to 130 (-116) = 14 from by decide]
            refine fe_w (lc' := [(3, .int 104), (2, .int 20), (0, .ref 0), (1, .ref 22)]) ⟨rfl, rfl, rfl, rfl, trivial⟩ (by show List.Nodup [3, 2, 0, 1]; decide) (by show List.Nodup [3, 2, 6, 5, 4, 0, 1]; decide) ?_
            exact fw_20 hxp
      · rw [show (fx_cb .ne 108 (nI n2)) = true from cb_neT (a := 108) (b := n2) (by omega) (by omega) (by omega)]
        dsimp only [cond]
        refine fe_s 4 (pc' := 68) (lc' := [(6, .int (99 + 1)), (5, .int 0), (4, .int 103), (3, .int 99), (2, .int 19), (0, .ref 0), (1, .ref 22)]) (stk' := []) (mem' := fm g tp bt a b) (fun _ _ _ => rfl) ?_
        rw [show (99 + 1 : Int32) = 100 from rfl]
        refine fe_s 2 (pc' := 72) (lc' := [(6, .int 100), (5, .int 0), (4, .int 103), (3, .int 99), (2, .int 19), (0, .ref 0), (1, .ref 22)]) (stk' := [.int 103, .int 100]) (mem' := fm g tp bt a b) (fun _ _ _ => rfl) ?_
        refine fe_s 1 (pc' := cond (fx_cb .ge 100 103) 115 75) (lc' := [(6, .int 100), (5, .int 0), (4, .int 103), (3, .int 99), (2, .int 19), (0, .ref 0), (1, .ref 22)]) (stk' := []) (mem' := fm g tp bt a b) (fun _ _ _ => rfl) ?_
        rw [show (fx_cb .ge 100 103) = false from by decide]
        dsimp only [cond]
        refine fe_s 1 (pc' := 77) (lc' := [(6, .int 100), (5, .int 0), (4, .int 103), (3, .int 99), (2, .int 19), (0, .ref 0), (1, .ref 22)]) (stk' := [.int 0]) (mem' := fm g tp bt a b) (fun _ _ _ => rfl) ?_
        refine fe_s 1 (pc' := cond (fx_cb .eq 0 0) 115 80) (lc' := [(6, .int 100), (5, .int 0), (4, .int 103), (3, .int 99), (2, .int 19), (0, .ref 0), (1, .ref 22)]) (stk' := []) (mem' := fm g tp bt a b) (fun _ _ _ => rfl) ?_
        rw [show (fx_cb .eq 0 0) = true from by decide]
        dsimp only [cond]
        refine fe_s 1 (pc' := 117) (lc' := [(6, .int 100), (5, .int 0), (4, .int 103), (3, .int 99), (2, .int 19), (0, .ref 0), (1, .ref 22)]) (stk' := [.int 0]) (mem' := fm g tp bt a b) (fun _ _ _ => rfl) ?_
        refine fe_s 1 (pc' := cond (fx_cb .eq 0 0) 122 120) (lc' := [(6, .int 100), (5, .int 0), (4, .int 103), (3, .int 99), (2, .int 19), (0, .ref 0), (1, .ref 22)]) (stk' := []) (mem' := fm g tp bt a b) (fun _ _ _ => rfl) ?_
        rw [show (fx_cb .eq 0 0) = true from by decide]
        dsimp only [cond]
        refine fe_s 4 (pc' := 129) (lc' := [(2, .int (19 + 1)), (6, .int 100), (5, .int 0), (4, .int 103), (3, .int 99), (0, .ref 0), (1, .ref 22)]) (stk' := [.int (103 + 1)]) (mem' := fm g tp bt a b) (fun _ _ _ => rfl) ?_
        rw [show (19 + 1 : Int32) = 20 from rfl]
        rw [show (103 + 1 : Int32) = 104 from rfl]
        refine fe_s 1 (pc' := 130) (lc' := [(3, .int 104), (2, .int 20), (6, .int 100), (5, .int 0), (4, .int 103), (0, .ref 0), (1, .ref 22)]) (stk' := []) (mem' := fm g tp bt a b) (fun _ _ _ => rfl) ?_
        refine fe_s 1 (pc' := fx_to 130 (-116)) (lc' := [(3, .int 104), (2, .int 20), (6, .int 100), (5, .int 0), (4, .int 103), (0, .ref 0), (1, .ref 22)]) (stk' := []) (mem' := fm g tp bt a b) (fun _ _ _ => rfl) ?_
        rw [show fx_to 130 (-116) = 14 from by decide]
        refine fe_w (lc' := [(3, .int 104), (2, .int 20), (0, .ref 0), (1, .ref 22)]) ⟨rfl, rfl, rfl, rfl, trivial⟩ (by show List.Nodup [3, 2, 0, 1]; decide) (by show List.Nodup [3, 2, 6, 5, 4, 0, 1]; decide) ?_
        exact fw_20 hxp
  · rw [show (fx_cb .ne 4 (nI (E - F))) = true from cb_neT (a := 4) (b := E - F) (by omega) (by omega) (by omega)]
    dsimp only [cond]
    refine fe_s 4 (pc' := 68) (lc' := [(6, .int 99), (5, .int 0), (4, .int 103), (3, .int 99), (2, .int 19), (0, .ref 0), (1, .ref 22)]) (stk' := []) (mem' := fm g tp bt a b) (fun _ _ _ => rfl) ?_
    refine fe_s 2 (pc' := 72) (lc' := [(6, .int 99), (5, .int 0), (4, .int 103), (3, .int 99), (2, .int 19), (0, .ref 0), (1, .ref 22)]) (stk' := [.int 103, .int 99]) (mem' := fm g tp bt a b) (fun _ _ _ => rfl) ?_
    refine fe_s 1 (pc' := cond (fx_cb .ge 99 103) 115 75) (lc' := [(6, .int 99), (5, .int 0), (4, .int 103), (3, .int 99), (2, .int 19), (0, .ref 0), (1, .ref 22)]) (stk' := []) (mem' := fm g tp bt a b) (fun _ _ _ => rfl) ?_
    rw [show (fx_cb .ge 99 103) = false from by decide]
    dsimp only [cond]
    refine fe_s 1 (pc' := 77) (lc' := [(6, .int 99), (5, .int 0), (4, .int 103), (3, .int 99), (2, .int 19), (0, .ref 0), (1, .ref 22)]) (stk' := [.int 0]) (mem' := fm g tp bt a b) (fun _ _ _ => rfl) ?_
    refine fe_s 1 (pc' := cond (fx_cb .eq 0 0) 115 80) (lc' := [(6, .int 99), (5, .int 0), (4, .int 103), (3, .int 99), (2, .int 19), (0, .ref 0), (1, .ref 22)]) (stk' := []) (mem' := fm g tp bt a b) (fun _ _ _ => rfl) ?_
    rw [show (fx_cb .eq 0 0) = true from by decide]
    dsimp only [cond]
    refine fe_s 1 (pc' := 117) (lc' := [(6, .int 99), (5, .int 0), (4, .int 103), (3, .int 99), (2, .int 19), (0, .ref 0), (1, .ref 22)]) (stk' := [.int 0]) (mem' := fm g tp bt a b) (fun _ _ _ => rfl) ?_
    refine fe_s 1 (pc' := cond (fx_cb .eq 0 0) 122 120) (lc' := [(6, .int 99), (5, .int 0), (4, .int 103), (3, .int 99), (2, .int 19), (0, .ref 0), (1, .ref 22)]) (stk' := []) (mem' := fm g tp bt a b) (fun _ _ _ => rfl) ?_
    rw [show (fx_cb .eq 0 0) = true from by decide]
    dsimp only [cond]
    refine fe_s 4 (pc' := 129) (lc' := [(2, .int (19 + 1)), (6, .int 99), (5, .int 0), (4, .int 103), (3, .int 99), (0, .ref 0), (1, .ref 22)]) (stk' := [.int (103 + 1)]) (mem' := fm g tp bt a b) (fun _ _ _ => rfl) ?_
    rw [show (19 + 1 : Int32) = 20 from rfl]
    rw [show (103 + 1 : Int32) = 104 from rfl]
    refine fe_s 1 (pc' := 130) (lc' := [(3, .int 104), (2, .int 20), (6, .int 99), (5, .int 0), (4, .int 103), (0, .ref 0), (1, .ref 22)]) (stk' := []) (mem' := fm g tp bt a b) (fun _ _ _ => rfl) ?_
    refine fe_s 1 (pc' := fx_to 130 (-116)) (lc' := [(3, .int 104), (2, .int 20), (6, .int 99), (5, .int 0), (4, .int 103), (0, .ref 0), (1, .ref 22)]) (stk' := []) (mem' := fm g tp bt a b) (fun _ _ _ => rfl) ?_
    rw [show fx_to 130 (-116) = 14 from by decide]
    refine fe_w (lc' := [(3, .int 104), (2, .int 20), (0, .ref 0), (1, .ref 22)]) ⟨rfl, rfl, rfl, rfl, trivial⟩ (by show List.Nodup [3, 2, 0, 1]; decide) (by show List.Nodup [3, 2, 6, 5, 4, 0, 1]; decide) ?_
    exact fw_20 hxp
theorem fw_18 {S E F : Nat} (hxp : fm_xp g S E F) : fe_R 1 gk_m226 14 [(3, .int 94), (2, .int 18), (0, .ref 0), (1, .ref 22)] [] (fm g tp bt a b) (fm_FI (fm g tp bt a b)) := by
  obtain ⟨h11, hS9, h14, hES, h13, hFE, -, -, -⟩ := id hxp
  refine fe_s 2 (pc' := 16) (lc' := [(3, .int 94), (2, .int 18), (0, .ref 0), (1, .ref 22)]) (stk' := [.ref 22, .int 94]) (mem' := fm g tp bt a b) (fun _ _ _ => rfl) ?_
  refine fe_s 1 (pc' := 19) (lc' := [(3, .int 94), (2, .int 18), (0, .ref 0), (1, .ref 22)]) (stk' := [.int 117, .int 94]) (mem' := fm g tp bt a b) (fun _ _ _ => rfl) ?_
  refine fe_s 1 (pc' := cond (fx_cb .ge 94 117) 133 22) (lc' := [(3, .int 94), (2, .int 18), (0, .ref 0), (1, .ref 22)]) (stk' := []) (mem' := fm g tp bt a b) (fun _ _ _ => rfl) ?_
  rw [show (fx_cb .ge 94 117) = false from by decide]
  dsimp only [cond]
  refine fe_s 4 (pc' := 28) (lc' := [(4, .int 94), (3, .int 94), (2, .int 18), (0, .ref 0), (1, .ref 22)]) (stk' := [.int 94, .ref 22]) (mem' := fm g tp bt a b) (fun _ _ _ => rfl) ?_
  refine fe_chr (i := 94) (by omega) (by rfl) (by rfl) ⟨by rfl, by rfl⟩ (by rfl) ?_
  rw [show sk_b.getD 94 0 = 119 from rfl]
  refine fe_s 1 (pc' := 33) (lc' := [(4, .int 94), (3, .int 94), (2, .int 18), (0, .ref 0), (1, .ref 22)]) (stk' := [.int 32, .int 119]) (mem' := fm g tp bt a b) (fun _ _ _ => rfl) ?_
  refine fe_s 1 (pc' := cond (fx_cb .eq 119 32) 42 36) (lc' := [(4, .int 94), (3, .int 94), (2, .int 18), (0, .ref 0), (1, .ref 22)]) (stk' := []) (mem' := fm g tp bt a b) (fun _ _ _ => rfl) ?_
  rw [show (fx_cb .eq 119 32) = false from by decide]
  dsimp only [cond]
  refine fe_s 4 (pc' := 28) (lc' := [(4, .int (94 + 1)), (3, .int 94), (2, .int 18), (0, .ref 0), (1, .ref 22)]) (stk' := [.int (94 + 1), .ref 22]) (mem' := fm g tp bt a b) (fun _ _ _ => rfl) ?_
  rw [show (94 + 1 : Int32) = 95 from rfl]
  refine fe_chr (i := 95) (by omega) (by rfl) (by rfl) ⟨by rfl, by rfl⟩ (by rfl) ?_
  rw [show sk_b.getD 95 0 = 104 from rfl]
  refine fe_s 1 (pc' := 33) (lc' := [(4, .int 95), (3, .int 94), (2, .int 18), (0, .ref 0), (1, .ref 22)]) (stk' := [.int 32, .int 104]) (mem' := fm g tp bt a b) (fun _ _ _ => rfl) ?_
  refine fe_s 1 (pc' := cond (fx_cb .eq 104 32) 42 36) (lc' := [(4, .int 95), (3, .int 94), (2, .int 18), (0, .ref 0), (1, .ref 22)]) (stk' := []) (mem' := fm g tp bt a b) (fun _ _ _ => rfl) ?_
  rw [show (fx_cb .eq 104 32) = false from by decide]
  dsimp only [cond]
  refine fe_s 4 (pc' := 28) (lc' := [(4, .int (95 + 1)), (3, .int 94), (2, .int 18), (0, .ref 0), (1, .ref 22)]) (stk' := [.int (95 + 1), .ref 22]) (mem' := fm g tp bt a b) (fun _ _ _ => rfl) ?_
  rw [show (95 + 1 : Int32) = 96 from rfl]
  refine fe_chr (i := 96) (by omega) (by rfl) (by rfl) ⟨by rfl, by rfl⟩ (by rfl) ?_
  rw [show sk_b.getD 96 0 = 101 from rfl]
  refine fe_s 1 (pc' := 33) (lc' := [(4, .int 96), (3, .int 94), (2, .int 18), (0, .ref 0), (1, .ref 22)]) (stk' := [.int 32, .int 101]) (mem' := fm g tp bt a b) (fun _ _ _ => rfl) ?_
  refine fe_s 1 (pc' := cond (fx_cb .eq 101 32) 42 36) (lc' := [(4, .int 96), (3, .int 94), (2, .int 18), (0, .ref 0), (1, .ref 22)]) (stk' := []) (mem' := fm g tp bt a b) (fun _ _ _ => rfl) ?_
  rw [show (fx_cb .eq 101 32) = false from by decide]
  dsimp only [cond]
  refine fe_s 4 (pc' := 28) (lc' := [(4, .int (96 + 1)), (3, .int 94), (2, .int 18), (0, .ref 0), (1, .ref 22)]) (stk' := [.int (96 + 1), .ref 22]) (mem' := fm g tp bt a b) (fun _ _ _ => rfl) ?_
  rw [show (96 + 1 : Int32) = 97 from rfl]
  refine fe_chr (i := 97) (by omega) (by rfl) (by rfl) ⟨by rfl, by rfl⟩ (by rfl) ?_
  rw [show sk_b.getD 97 0 = 110 from rfl]
  refine fe_s 1 (pc' := 33) (lc' := [(4, .int 97), (3, .int 94), (2, .int 18), (0, .ref 0), (1, .ref 22)]) (stk' := [.int 32, .int 110]) (mem' := fm g tp bt a b) (fun _ _ _ => rfl) ?_
  refine fe_s 1 (pc' := cond (fx_cb .eq 110 32) 42 36) (lc' := [(4, .int 97), (3, .int 94), (2, .int 18), (0, .ref 0), (1, .ref 22)]) (stk' := []) (mem' := fm g tp bt a b) (fun _ _ _ => rfl) ?_
  rw [show (fx_cb .eq 110 32) = false from by decide]
  dsimp only [cond]
  refine fe_s 4 (pc' := 28) (lc' := [(4, .int (97 + 1)), (3, .int 94), (2, .int 18), (0, .ref 0), (1, .ref 22)]) (stk' := [.int (97 + 1), .ref 22]) (mem' := fm g tp bt a b) (fun _ _ _ => rfl) ?_
  rw [show (97 + 1 : Int32) = 98 from rfl]
  refine fe_chr (i := 98) (by omega) (by rfl) (by rfl) ⟨by rfl, by rfl⟩ (by rfl) ?_
  rw [show sk_b.getD 98 0 = 32 from rfl]
  refine fe_s 1 (pc' := 33) (lc' := [(4, .int 98), (3, .int 94), (2, .int 18), (0, .ref 0), (1, .ref 22)]) (stk' := [.int 32, .int 32]) (mem' := fm g tp bt a b) (fun _ _ _ => rfl) ?_
  refine fe_s 1 (pc' := cond (fx_cb .eq 32 32) 42 36) (lc' := [(4, .int 98), (3, .int 94), (2, .int 18), (0, .ref 0), (1, .ref 22)]) (stk' := []) (mem' := fm g tp bt a b) (fun _ _ _ => rfl) ?_
  rw [show (fx_cb .eq 32 32) = true from by decide]
  dsimp only [cond]
  refine fe_s 4 (pc' := 47) (lc' := [(4, .int 98), (3, .int 94), (2, .int 18), (0, .ref 0), (1, .ref 22)]) (stk' := [.ref 0, .int (98 - 94)]) (mem' := fm g tp bt a b) (fun _ _ _ => rfl) ?_
  rw [show (98 - 94 : Int32) = 4 from rfl]
  refine fe_s 4 (pc' := 55) (lc' := [(4, .int 98), (3, .int 94), (2, .int 18), (0, .ref 0), (1, .ref 22)]) (stk' := [.int ((g 14) - (g 13)), .int 4]) (mem' := fm g tp bt a b) (fun _ _ _ => rfl) ?_
  try rw [h14]
  try rw [h13]
  rw [show ((nI E) - (nI F) : Int32) = nI (E - F) from by simp only [tg_sub2 (x := E) (y := F) (by omega), nI_add, fm_mul]]
  refine fe_s 1 (pc' := cond (fx_cb .ne 4 (nI (E - F))) 62 58) (lc' := [(4, .int 98), (3, .int 94), (2, .int 18), (0, .ref 0), (1, .ref 22)]) (stk' := []) (mem' := fm g tp bt a b) (fun _ _ _ => rfl) ?_
  by_cases h1 : 4 = (E - F)
  · rw [show (fx_cb .ne 4 (nI (E - F))) = false from cb_neF (a := 4) (b := E - F) (by omega) (by omega) (by omega)]
    dsimp only [cond]
    refine fe_s 4 (pc' := 66) (lc' := [(5, .int 1), (4, .int 98), (3, .int 94), (2, .int 18), (0, .ref 0), (1, .ref 22)]) (stk' := [.int 94]) (mem' := fm g tp bt a b) (fun _ _ _ => rfl) ?_
    refine fe_s 3 (pc' := 72) (lc' := [(6, .int 94), (5, .int 1), (4, .int 98), (3, .int 94), (2, .int 18), (0, .ref 0), (1, .ref 22)]) (stk' := [.int 98, .int 94]) (mem' := fm g tp bt a b) (fun _ _ _ => rfl) ?_
    refine fe_s 1 (pc' := cond (fx_cb .ge 94 98) 115 75) (lc' := [(6, .int 94), (5, .int 1), (4, .int 98), (3, .int 94), (2, .int 18), (0, .ref 0), (1, .ref 22)]) (stk' := []) (mem' := fm g tp bt a b) (fun _ _ _ => rfl) ?_
    rw [show (fx_cb .ge 94 98) = false from by decide]
    dsimp only [cond]
    refine fe_s 1 (pc' := 77) (lc' := [(6, .int 94), (5, .int 1), (4, .int 98), (3, .int 94), (2, .int 18), (0, .ref 0), (1, .ref 22)]) (stk' := [.int 1]) (mem' := fm g tp bt a b) (fun _ _ _ => rfl) ?_
    refine fe_s 1 (pc' := cond (fx_cb .eq 1 0) 115 80) (lc' := [(6, .int 94), (5, .int 1), (4, .int 98), (3, .int 94), (2, .int 18), (0, .ref 0), (1, .ref 22)]) (stk' := []) (mem' := fm g tp bt a b) (fun _ _ _ => rfl) ?_
    rw [show (fx_cb .eq 1 0) = false from by decide]
    dsimp only [cond]
    refine fe_s 2 (pc' := 83) (lc' := [(6, .int 94), (5, .int 1), (4, .int 98), (3, .int 94), (2, .int 18), (0, .ref 0), (1, .ref 22)]) (stk' := [.int 94, .ref 22]) (mem' := fm g tp bt a b) (fun _ _ _ => rfl) ?_
    refine fe_chr (i := 94) (by omega) (by rfl) (by rfl) ⟨by rfl, by rfl⟩ (by rfl) ?_
    rw [show sk_b.getD 94 0 = 119 from rfl]
    refine fe_s 4 (pc' := 93) (lc' := [(6, .int 94), (5, .int 1), (4, .int 98), (3, .int 94), (2, .int 18), (0, .ref 0), (1, .ref 22)]) (stk' := [.int 94, .int (g 13), .ref 0, .int 119]) (mem' := fm g tp bt a b) (fun _ _ _ => rfl) ?_
    try rw [h13]
    refine fe_s 3 (pc' := 96) (lc' := [(6, .int 94), (5, .int 1), (4, .int 98), (3, .int 94), (2, .int 18), (0, .ref 0), (1, .ref 22)]) (stk' := [.int (((nI F) + 94) - 94), .ref 0, .int 119]) (mem' := fm g tp bt a b) (fun _ _ _ => rfl) ?_
    rw [show (((nI F) + 94) - 94 : Int32) = nI ((F + 94) - 94) from by simp only [show (94 : Int32) = nI 94 from rfl, tg_sub2 (x := F + 94) (y := 94) (by omega), nI_add, fm_mul]]
    refine fe_ivV (fr_byteAt (S := S) (k := (F + 94) - 94) (g := g) (tp := tp) (bt := bt) (a := a) (b := b) h11 (by omega) (by omega)) (by omega) (by rfl) (by rfl) (by rfl) (by rfl) (by rfl) (by rfl) ?_
    rcases fm_byte_or a S ((F + 94) - 94) with ⟨e3, q4⟩ | ⟨q4, n2, qn2, e3⟩
    · rw [e3]
      refine fe_s 1 (pc' := cond (fx_cb .ne 119 (-1)) 106 102) (lc' := [(6, .int 94), (5, .int 1), (4, .int 98), (3, .int 94), (2, .int 18), (0, .ref 0), (1, .ref 22)]) (stk' := []) (mem' := fm g tp bt a b) (fun _ _ _ => rfl) ?_
      rw [show (fx_cb .ne 119 (-1)) = true from by decide]
      dsimp only [cond]
      refine fe_s 4 (pc' := 68) (lc' := [(6, .int (94 + 1)), (5, .int 0), (4, .int 98), (3, .int 94), (2, .int 18), (0, .ref 0), (1, .ref 22)]) (stk' := []) (mem' := fm g tp bt a b) (fun _ _ _ => rfl) ?_
      rw [show (94 + 1 : Int32) = 95 from rfl]
      refine fe_s 2 (pc' := 72) (lc' := [(6, .int 95), (5, .int 0), (4, .int 98), (3, .int 94), (2, .int 18), (0, .ref 0), (1, .ref 22)]) (stk' := [.int 98, .int 95]) (mem' := fm g tp bt a b) (fun _ _ _ => rfl) ?_
      refine fe_s 1 (pc' := cond (fx_cb .ge 95 98) 115 75) (lc' := [(6, .int 95), (5, .int 0), (4, .int 98), (3, .int 94), (2, .int 18), (0, .ref 0), (1, .ref 22)]) (stk' := []) (mem' := fm g tp bt a b) (fun _ _ _ => rfl) ?_
      rw [show (fx_cb .ge 95 98) = false from by decide]
      dsimp only [cond]
      refine fe_s 1 (pc' := 77) (lc' := [(6, .int 95), (5, .int 0), (4, .int 98), (3, .int 94), (2, .int 18), (0, .ref 0), (1, .ref 22)]) (stk' := [.int 0]) (mem' := fm g tp bt a b) (fun _ _ _ => rfl) ?_
      refine fe_s 1 (pc' := cond (fx_cb .eq 0 0) 115 80) (lc' := [(6, .int 95), (5, .int 0), (4, .int 98), (3, .int 94), (2, .int 18), (0, .ref 0), (1, .ref 22)]) (stk' := []) (mem' := fm g tp bt a b) (fun _ _ _ => rfl) ?_
      rw [show (fx_cb .eq 0 0) = true from by decide]
      dsimp only [cond]
      refine fe_s 1 (pc' := 117) (lc' := [(6, .int 95), (5, .int 0), (4, .int 98), (3, .int 94), (2, .int 18), (0, .ref 0), (1, .ref 22)]) (stk' := [.int 0]) (mem' := fm g tp bt a b) (fun _ _ _ => rfl) ?_
      refine fe_s 1 (pc' := cond (fx_cb .eq 0 0) 122 120) (lc' := [(6, .int 95), (5, .int 0), (4, .int 98), (3, .int 94), (2, .int 18), (0, .ref 0), (1, .ref 22)]) (stk' := []) (mem' := fm g tp bt a b) (fun _ _ _ => rfl) ?_
      rw [show (fx_cb .eq 0 0) = true from by decide]
      dsimp only [cond]
      refine fe_s 4 (pc' := 129) (lc' := [(2, .int (18 + 1)), (6, .int 95), (5, .int 0), (4, .int 98), (3, .int 94), (0, .ref 0), (1, .ref 22)]) (stk' := [.int (98 + 1)]) (mem' := fm g tp bt a b) (fun _ _ _ => rfl) ?_
      rw [show (98 + 1 : Int32) = 99 from rfl]
      rw [show (18 + 1 : Int32) = 19 from rfl]
      refine fe_s 1 (pc' := 130) (lc' := [(3, .int 99), (2, .int 19), (6, .int 95), (5, .int 0), (4, .int 98), (0, .ref 0), (1, .ref 22)]) (stk' := []) (mem' := fm g tp bt a b) (fun _ _ _ => rfl) ?_
      refine fe_s 1 (pc' := fx_to 130 (-116)) (lc' := [(3, .int 99), (2, .int 19), (6, .int 95), (5, .int 0), (4, .int 98), (0, .ref 0), (1, .ref 22)]) (stk' := []) (mem' := fm g tp bt a b) (fun _ _ _ => rfl) ?_
      rw [show fx_to 130 (-116) = 14 from by decide]
      refine fe_w (lc' := [(3, .int 99), (2, .int 19), (0, .ref 0), (1, .ref 22)]) ⟨rfl, rfl, rfl, rfl, trivial⟩ (by show List.Nodup [3, 2, 0, 1]; decide) (by show List.Nodup [3, 2, 6, 5, 4, 0, 1]; decide) ?_
      exact fw_19 hxp
    · rw [e3]
      refine fe_s 1 (pc' := cond (fx_cb .ne 119 (nI n2)) 106 102) (lc' := [(6, .int 94), (5, .int 1), (4, .int 98), (3, .int 94), (2, .int 18), (0, .ref 0), (1, .ref 22)]) (stk' := []) (mem' := fm g tp bt a b) (fun _ _ _ => rfl) ?_
      by_cases h5 : 119 = n2
      · rw [show (fx_cb .ne 119 (nI n2)) = false from cb_neF (a := 119) (b := n2) (by omega) (by omega) (by omega)]
        dsimp only [cond]
        refine fe_s 4 (pc' := 112) (lc' := [(6, .int (94 + 1)), (5, .int 1), (4, .int 98), (3, .int 94), (2, .int 18), (0, .ref 0), (1, .ref 22)]) (stk' := []) (mem' := fm g tp bt a b) (fun _ _ _ => rfl) ?_
        rw [show (94 + 1 : Int32) = 95 from rfl]
        refine fe_s 3 (pc' := 72) (lc' := [(6, .int 95), (5, .int 1), (4, .int 98), (3, .int 94), (2, .int 18), (0, .ref 0), (1, .ref 22)]) (stk' := [.int 98, .int 95]) (mem' := fm g tp bt a b) (fun _ _ _ => rfl) ?_
        refine fe_s 1 (pc' := cond (fx_cb .ge 95 98) 115 75) (lc' := [(6, .int 95), (5, .int 1), (4, .int 98), (3, .int 94), (2, .int 18), (0, .ref 0), (1, .ref 22)]) (stk' := []) (mem' := fm g tp bt a b) (fun _ _ _ => rfl) ?_
        rw [show (fx_cb .ge 95 98) = false from by decide]
        dsimp only [cond]
        refine fe_s 1 (pc' := 77) (lc' := [(6, .int 95), (5, .int 1), (4, .int 98), (3, .int 94), (2, .int 18), (0, .ref 0), (1, .ref 22)]) (stk' := [.int 1]) (mem' := fm g tp bt a b) (fun _ _ _ => rfl) ?_
        refine fe_s 1 (pc' := cond (fx_cb .eq 1 0) 115 80) (lc' := [(6, .int 95), (5, .int 1), (4, .int 98), (3, .int 94), (2, .int 18), (0, .ref 0), (1, .ref 22)]) (stk' := []) (mem' := fm g tp bt a b) (fun _ _ _ => rfl) ?_
        rw [show (fx_cb .eq 1 0) = false from by decide]
        dsimp only [cond]
        refine fe_s 2 (pc' := 83) (lc' := [(6, .int 95), (5, .int 1), (4, .int 98), (3, .int 94), (2, .int 18), (0, .ref 0), (1, .ref 22)]) (stk' := [.int 95, .ref 22]) (mem' := fm g tp bt a b) (fun _ _ _ => rfl) ?_
        refine fe_chr (i := 95) (by omega) (by rfl) (by rfl) ⟨by rfl, by rfl⟩ (by rfl) ?_
        rw [show sk_b.getD 95 0 = 104 from rfl]
        refine fe_s 4 (pc' := 93) (lc' := [(6, .int 95), (5, .int 1), (4, .int 98), (3, .int 94), (2, .int 18), (0, .ref 0), (1, .ref 22)]) (stk' := [.int 95, .int (g 13), .ref 0, .int 104]) (mem' := fm g tp bt a b) (fun _ _ _ => rfl) ?_
        try rw [h13]
        refine fe_s 3 (pc' := 96) (lc' := [(6, .int 95), (5, .int 1), (4, .int 98), (3, .int 94), (2, .int 18), (0, .ref 0), (1, .ref 22)]) (stk' := [.int (((nI F) + 95) - 94), .ref 0, .int 104]) (mem' := fm g tp bt a b) (fun _ _ _ => rfl) ?_
        rw [show (((nI F) + 95) - 94 : Int32) = nI ((F + 95) - 94) from by simp only [show (95 : Int32) = nI 95 from rfl, show (94 : Int32) = nI 94 from rfl, tg_sub2 (x := F + 95) (y := 94) (by omega), nI_add, fm_mul]]
        refine fe_ivV (fr_byteAt (S := S) (k := (F + 95) - 94) (g := g) (tp := tp) (bt := bt) (a := a) (b := b) h11 (by omega) (by omega)) (by omega) (by rfl) (by rfl) (by rfl) (by rfl) (by rfl) (by rfl) ?_
        rcases fm_byte_or a S ((F + 95) - 94) with ⟨e7, q8⟩ | ⟨q8, n6, qn6, e7⟩
        · rw [e7]
          refine fe_s 1 (pc' := cond (fx_cb .ne 104 (-1)) 106 102) (lc' := [(6, .int 95), (5, .int 1), (4, .int 98), (3, .int 94), (2, .int 18), (0, .ref 0), (1, .ref 22)]) (stk' := []) (mem' := fm g tp bt a b) (fun _ _ _ => rfl) ?_
          rw [show (fx_cb .ne 104 (-1)) = true from by decide]
          dsimp only [cond]
          refine fe_s 4 (pc' := 68) (lc' := [(6, .int (95 + 1)), (5, .int 0), (4, .int 98), (3, .int 94), (2, .int 18), (0, .ref 0), (1, .ref 22)]) (stk' := []) (mem' := fm g tp bt a b) (fun _ _ _ => rfl) ?_
          rw [show (95 + 1 : Int32) = 96 from rfl]
          refine fe_s 2 (pc' := 72) (lc' := [(6, .int 96), (5, .int 0), (4, .int 98), (3, .int 94), (2, .int 18), (0, .ref 0), (1, .ref 22)]) (stk' := [.int 98, .int 96]) (mem' := fm g tp bt a b) (fun _ _ _ => rfl) ?_
          refine fe_s 1 (pc' := cond (fx_cb .ge 96 98) 115 75) (lc' := [(6, .int 96), (5, .int 0), (4, .int 98), (3, .int 94), (2, .int 18), (0, .ref 0), (1, .ref 22)]) (stk' := []) (mem' := fm g tp bt a b) (fun _ _ _ => rfl) ?_
          rw [show (fx_cb .ge 96 98) = false from by decide]
          dsimp only [cond]
          refine fe_s 1 (pc' := 77) (lc' := [(6, .int 96), (5, .int 0), (4, .int 98), (3, .int 94), (2, .int 18), (0, .ref 0), (1, .ref 22)]) (stk' := [.int 0]) (mem' := fm g tp bt a b) (fun _ _ _ => rfl) ?_
          refine fe_s 1 (pc' := cond (fx_cb .eq 0 0) 115 80) (lc' := [(6, .int 96), (5, .int 0), (4, .int 98), (3, .int 94), (2, .int 18), (0, .ref 0), (1, .ref 22)]) (stk' := []) (mem' := fm g tp bt a b) (fun _ _ _ => rfl) ?_
          rw [show (fx_cb .eq 0 0) = true from by decide]
          dsimp only [cond]
          refine fe_s 1 (pc' := 117) (lc' := [(6, .int 96), (5, .int 0), (4, .int 98), (3, .int 94), (2, .int 18), (0, .ref 0), (1, .ref 22)]) (stk' := [.int 0]) (mem' := fm g tp bt a b) (fun _ _ _ => rfl) ?_
          refine fe_s 1 (pc' := cond (fx_cb .eq 0 0) 122 120) (lc' := [(6, .int 96), (5, .int 0), (4, .int 98), (3, .int 94), (2, .int 18), (0, .ref 0), (1, .ref 22)]) (stk' := []) (mem' := fm g tp bt a b) (fun _ _ _ => rfl) ?_
          rw [show (fx_cb .eq 0 0) = true from by decide]
          dsimp only [cond]
          refine fe_s 4 (pc' := 129) (lc' := [(2, .int (18 + 1)), (6, .int 96), (5, .int 0), (4, .int 98), (3, .int 94), (0, .ref 0), (1, .ref 22)]) (stk' := [.int (98 + 1)]) (mem' := fm g tp bt a b) (fun _ _ _ => rfl) ?_
          rw [show (98 + 1 : Int32) = 99 from rfl]
          rw [show (18 + 1 : Int32) = 19 from rfl]
          refine fe_s 1 (pc' := 130) (lc' := [(3, .int 99), (2, .int 19), (6, .int 96), (5, .int 0), (4, .int 98), (0, .ref 0), (1, .ref 22)]) (stk' := []) (mem' := fm g tp bt a b) (fun _ _ _ => rfl) ?_
          refine fe_s 1 (pc' := fx_to 130 (-116)) (lc' := [(3, .int 99), (2, .int 19), (6, .int 96), (5, .int 0), (4, .int 98), (0, .ref 0), (1, .ref 22)]) (stk' := []) (mem' := fm g tp bt a b) (fun _ _ _ => rfl) ?_
          rw [show fx_to 130 (-116) = 14 from by decide]
          refine fe_w (lc' := [(3, .int 99), (2, .int 19), (0, .ref 0), (1, .ref 22)]) ⟨rfl, rfl, rfl, rfl, trivial⟩ (by show List.Nodup [3, 2, 0, 1]; decide) (by show List.Nodup [3, 2, 6, 5, 4, 0, 1]; decide) ?_
          exact fw_19 hxp
        · rw [e7]
          refine fe_s 1 (pc' := cond (fx_cb .ne 104 (nI n6)) 106 102) (lc' := [(6, .int 95), (5, .int 1), (4, .int 98), (3, .int 94), (2, .int 18), (0, .ref 0), (1, .ref 22)]) (stk' := []) (mem' := fm g tp bt a b) (fun _ _ _ => rfl) ?_
          by_cases h9 : 104 = n6
          · rw [show (fx_cb .ne 104 (nI n6)) = false from cb_neF (a := 104) (b := n6) (by omega) (by omega) (by omega)]
            dsimp only [cond]
            refine fe_s 4 (pc' := 112) (lc' := [(6, .int (95 + 1)), (5, .int 1), (4, .int 98), (3, .int 94), (2, .int 18), (0, .ref 0), (1, .ref 22)]) (stk' := []) (mem' := fm g tp bt a b) (fun _ _ _ => rfl) ?_
            rw [show (95 + 1 : Int32) = 96 from rfl]
            refine fe_s 3 (pc' := 72) (lc' := [(6, .int 96), (5, .int 1), (4, .int 98), (3, .int 94), (2, .int 18), (0, .ref 0), (1, .ref 22)]) (stk' := [.int 98, .int 96]) (mem' := fm g tp bt a b) (fun _ _ _ => rfl) ?_
            refine fe_s 1 (pc' := cond (fx_cb .ge 96 98) 115 75) (lc' := [(6, .int 96), (5, .int 1), (4, .int 98), (3, .int 94), (2, .int 18), (0, .ref 0), (1, .ref 22)]) (stk' := []) (mem' := fm g tp bt a b) (fun _ _ _ => rfl) ?_
            rw [show (fx_cb .ge 96 98) = false from by decide]
            dsimp only [cond]
            refine fe_s 1 (pc' := 77) (lc' := [(6, .int 96), (5, .int 1), (4, .int 98), (3, .int 94), (2, .int 18), (0, .ref 0), (1, .ref 22)]) (stk' := [.int 1]) (mem' := fm g tp bt a b) (fun _ _ _ => rfl) ?_
            refine fe_s 1 (pc' := cond (fx_cb .eq 1 0) 115 80) (lc' := [(6, .int 96), (5, .int 1), (4, .int 98), (3, .int 94), (2, .int 18), (0, .ref 0), (1, .ref 22)]) (stk' := []) (mem' := fm g tp bt a b) (fun _ _ _ => rfl) ?_
            rw [show (fx_cb .eq 1 0) = false from by decide]
            dsimp only [cond]
            refine fe_s 2 (pc' := 83) (lc' := [(6, .int 96), (5, .int 1), (4, .int 98), (3, .int 94), (2, .int 18), (0, .ref 0), (1, .ref 22)]) (stk' := [.int 96, .ref 22]) (mem' := fm g tp bt a b) (fun _ _ _ => rfl) ?_
            refine fe_chr (i := 96) (by omega) (by rfl) (by rfl) ⟨by rfl, by rfl⟩ (by rfl) ?_
            rw [show sk_b.getD 96 0 = 101 from rfl]
            refine fe_s 4 (pc' := 93) (lc' := [(6, .int 96), (5, .int 1), (4, .int 98), (3, .int 94), (2, .int 18), (0, .ref 0), (1, .ref 22)]) (stk' := [.int 96, .int (g 13), .ref 0, .int 101]) (mem' := fm g tp bt a b) (fun _ _ _ => rfl) ?_
            try rw [h13]
            refine fe_s 3 (pc' := 96) (lc' := [(6, .int 96), (5, .int 1), (4, .int 98), (3, .int 94), (2, .int 18), (0, .ref 0), (1, .ref 22)]) (stk' := [.int (((nI F) + 96) - 94), .ref 0, .int 101]) (mem' := fm g tp bt a b) (fun _ _ _ => rfl) ?_
            rw [show (((nI F) + 96) - 94 : Int32) = nI ((F + 96) - 94) from by simp only [show (96 : Int32) = nI 96 from rfl, show (94 : Int32) = nI 94 from rfl, tg_sub2 (x := F + 96) (y := 94) (by omega), nI_add, fm_mul]]
            refine fe_ivV (fr_byteAt (S := S) (k := (F + 96) - 94) (g := g) (tp := tp) (bt := bt) (a := a) (b := b) h11 (by omega) (by omega)) (by omega) (by rfl) (by rfl) (by rfl) (by rfl) (by rfl) (by rfl) ?_
            rcases fm_byte_or a S ((F + 96) - 94) with ⟨e11, q12⟩ | ⟨q12, n10, qn10, e11⟩
            · rw [e11]
              refine fe_s 1 (pc' := cond (fx_cb .ne 101 (-1)) 106 102) (lc' := [(6, .int 96), (5, .int 1), (4, .int 98), (3, .int 94), (2, .int 18), (0, .ref 0), (1, .ref 22)]) (stk' := []) (mem' := fm g tp bt a b) (fun _ _ _ => rfl) ?_
              rw [show (fx_cb .ne 101 (-1)) = true from by decide]
              dsimp only [cond]
              refine fe_s 4 (pc' := 68) (lc' := [(6, .int (96 + 1)), (5, .int 0), (4, .int 98), (3, .int 94), (2, .int 18), (0, .ref 0), (1, .ref 22)]) (stk' := []) (mem' := fm g tp bt a b) (fun _ _ _ => rfl) ?_
              rw [show (96 + 1 : Int32) = 97 from rfl]
              refine fe_s 2 (pc' := 72) (lc' := [(6, .int 97), (5, .int 0), (4, .int 98), (3, .int 94), (2, .int 18), (0, .ref 0), (1, .ref 22)]) (stk' := [.int 98, .int 97]) (mem' := fm g tp bt a b) (fun _ _ _ => rfl) ?_
              refine fe_s 1 (pc' := cond (fx_cb .ge 97 98) 115 75) (lc' := [(6, .int 97), (5, .int 0), (4, .int 98), (3, .int 94), (2, .int 18), (0, .ref 0), (1, .ref 22)]) (stk' := []) (mem' := fm g tp bt a b) (fun _ _ _ => rfl) ?_
              rw [show (fx_cb .ge 97 98) = false from by decide]
              dsimp only [cond]
              refine fe_s 1 (pc' := 77) (lc' := [(6, .int 97), (5, .int 0), (4, .int 98), (3, .int 94), (2, .int 18), (0, .ref 0), (1, .ref 22)]) (stk' := [.int 0]) (mem' := fm g tp bt a b) (fun _ _ _ => rfl) ?_
              refine fe_s 1 (pc' := cond (fx_cb .eq 0 0) 115 80) (lc' := [(6, .int 97), (5, .int 0), (4, .int 98), (3, .int 94), (2, .int 18), (0, .ref 0), (1, .ref 22)]) (stk' := []) (mem' := fm g tp bt a b) (fun _ _ _ => rfl) ?_
              rw [show (fx_cb .eq 0 0) = true from by decide]
              dsimp only [cond]
              refine fe_s 1 (pc' := 117) (lc' := [(6, .int 97), (5, .int 0), (4, .int 98), (3, .int 94), (2, .int 18), (0, .ref 0), (1, .ref 22)]) (stk' := [.int 0]) (mem' := fm g tp bt a b) (fun _ _ _ => rfl) ?_
              refine fe_s 1 (pc' := cond (fx_cb .eq 0 0) 122 120) (lc' := [(6, .int 97), (5, .int 0), (4, .int 98), (3, .int 94), (2, .int 18), (0, .ref 0), (1, .ref 22)]) (stk' := []) (mem' := fm g tp bt a b) (fun _ _ _ => rfl) ?_
              rw [show (fx_cb .eq 0 0) = true from by decide]
              dsimp only [cond]
              refine fe_s 4 (pc' := 129) (lc' := [(2, .int (18 + 1)), (6, .int 97), (5, .int 0), (4, .int 98), (3, .int 94), (0, .ref 0), (1, .ref 22)]) (stk' := [.int (98 + 1)]) (mem' := fm g tp bt a b) (fun _ _ _ => rfl) ?_
              rw [show (98 + 1 : Int32) = 99 from rfl]
              rw [show (18 + 1 : Int32) = 19 from rfl]
              refine fe_s 1 (pc' := 130) (lc' := [(3, .int 99), (2, .int 19), (6, .int 97), (5, .int 0), (4, .int 98), (0, .ref 0), (1, .ref 22)]) (stk' := []) (mem' := fm g tp bt a b) (fun _ _ _ => rfl) ?_
              refine fe_s 1 (pc' := fx_to 130 (-116)) (lc' := [(3, .int 99), (2, .int 19), (6, .int 97), (5, .int 0), (4, .int 98), (0, .ref 0), (1, .ref 22)]) (stk' := []) (mem' := fm g tp bt a b) (fun _ _ _ => rfl) ?_
              rw [show fx_to 130 (-116) = 14 from by decide]
              refine fe_w (lc' := [(3, .int 99), (2, .int 19), (0, .ref 0), (1, .ref 22)]) ⟨rfl, rfl, rfl, rfl, trivial⟩ (by show List.Nodup [3, 2, 0, 1]; decide) (by show List.Nodup [3, 2, 6, 5, 4, 0, 1]; decide) ?_
              exact fw_19 hxp
            · rw [e11]
              refine fe_s 1 (pc' := cond (fx_cb .ne 101 (nI n10)) 106 102) (lc' := [(6, .int 96), (5, .int 1), (4, .int 98), (3, .int 94), (2, .int 18), (0, .ref 0), (1, .ref 22)]) (stk' := []) (mem' := fm g tp bt a b) (fun _ _ _ => rfl) ?_
              by_cases h13 : 101 = n10
              · rw [show (fx_cb .ne 101 (nI n10)) = false from cb_neF (a := 101) (b := n10) (by omega) (by omega) (by omega)]
                dsimp only [cond]
                refine fe_s 4 (pc' := 112) (lc' := [(6, .int (96 + 1)), (5, .int 1), (4, .int 98), (3, .int 94), (2, .int 18), (0, .ref 0), (1, .ref 22)]) (stk' := []) (mem' := fm g tp bt a b) (fun _ _ _ => rfl) ?_
                rw [show (96 + 1 : Int32) = 97 from rfl]
                refine fe_s 3 (pc' := 72) (lc' := [(6, .int 97), (5, .int 1), (4, .int 98), (3, .int 94), (2, .int 18), (0, .ref 0), (1, .ref 22)]) (stk' := [.int 98, .int 97]) (mem' := fm g tp bt a b) (fun _ _ _ => rfl) ?_
                refine fe_s 1 (pc' := cond (fx_cb .ge 97 98) 115 75) (lc' := [(6, .int 97), (5, .int 1), (4, .int 98), (3, .int 94), (2, .int 18), (0, .ref 0), (1, .ref 22)]) (stk' := []) (mem' := fm g tp bt a b) (fun _ _ _ => rfl) ?_
                rw [show (fx_cb .ge 97 98) = false from by decide]
                dsimp only [cond]
                refine fe_s 1 (pc' := 77) (lc' := [(6, .int 97), (5, .int 1), (4, .int 98), (3, .int 94), (2, .int 18), (0, .ref 0), (1, .ref 22)]) (stk' := [.int 1]) (mem' := fm g tp bt a b) (fun _ _ _ => rfl) ?_
                refine fe_s 1 (pc' := cond (fx_cb .eq 1 0) 115 80) (lc' := [(6, .int 97), (5, .int 1), (4, .int 98), (3, .int 94), (2, .int 18), (0, .ref 0), (1, .ref 22)]) (stk' := []) (mem' := fm g tp bt a b) (fun _ _ _ => rfl) ?_
                rw [show (fx_cb .eq 1 0) = false from by decide]
                dsimp only [cond]
                refine fe_s 2 (pc' := 83) (lc' := [(6, .int 97), (5, .int 1), (4, .int 98), (3, .int 94), (2, .int 18), (0, .ref 0), (1, .ref 22)]) (stk' := [.int 97, .ref 22]) (mem' := fm g tp bt a b) (fun _ _ _ => rfl) ?_
                refine fe_chr (i := 97) (by omega) (by rfl) (by rfl) ⟨by rfl, by rfl⟩ (by rfl) ?_
                rw [show sk_b.getD 97 0 = 110 from rfl]
                refine fe_s 4 (pc' := 93) (lc' := [(6, .int 97), (5, .int 1), (4, .int 98), (3, .int 94), (2, .int 18), (0, .ref 0), (1, .ref 22)]) (stk' := [.int 97, .int (g 13), .ref 0, .int 110]) (mem' := fm g tp bt a b) (fun _ _ _ => rfl) ?_
                try rw [h13]
                refine fe_s 3 (pc' := 96) (lc' := [(6, .int 97), (5, .int 1), (4, .int 98), (3, .int 94), (2, .int 18), (0, .ref 0), (1, .ref 22)]) (stk' := [.int (((nI F) + 97) - 94), .ref 0, .int 110]) (mem' := fm g tp bt a b) (fun _ _ _ => rfl) ?_
                rw [show (((nI F) + 97) - 94 : Int32) = nI ((F + 97) - 94) from by simp only [show (97 : Int32) = nI 97 from rfl, show (94 : Int32) = nI 94 from rfl, tg_sub2 (x := F + 97) (y := 94) (by omega), nI_add, fm_mul]]
                refine fe_ivV (fr_byteAt (S := S) (k := (F + 97) - 94) (g := g) (tp := tp) (bt := bt) (a := a) (b := b) h11 (by omega) (by omega)) (by omega) (by rfl) (by rfl) (by rfl) (by rfl) (by rfl) (by rfl) ?_
                rcases fm_byte_or a S ((F + 97) - 94) with ⟨e15, q16⟩ | ⟨q16, n14, qn14, e15⟩
                · rw [e15]
                  refine fe_s 1 (pc' := cond (fx_cb .ne 110 (-1)) 106 102) (lc' := [(6, .int 97), (5, .int 1), (4, .int 98), (3, .int 94), (2, .int 18), (0, .ref 0), (1, .ref 22)]) (stk' := []) (mem' := fm g tp bt a b) (fun _ _ _ => rfl) ?_
                  rw [show (fx_cb .ne 110 (-1)) = true from by decide]
                  dsimp only [cond]
                  refine fe_s 4 (pc' := 68) (lc' := [(6, .int (97 + 1)), (5, .int 0), (4, .int 98), (3, .int 94), (2, .int 18), (0, .ref 0), (1, .ref 22)]) (stk' := []) (mem' := fm g tp bt a b) (fun _ _ _ => rfl) ?_
                  rw [show (97 + 1 : Int32) = 98 from rfl]
                  refine fe_s 2 (pc' := 72) (lc' := [(6, .int 98), (5, .int 0), (4, .int 98), (3, .int 94), (2, .int 18), (0, .ref 0), (1, .ref 22)]) (stk' := [.int 98, .int 98]) (mem' := fm g tp bt a b) (fun _ _ _ => rfl) ?_
                  refine fe_s 1 (pc' := cond (fx_cb .ge 98 98) 115 75) (lc' := [(6, .int 98), (5, .int 0), (4, .int 98), (3, .int 94), (2, .int 18), (0, .ref 0), (1, .ref 22)]) (stk' := []) (mem' := fm g tp bt a b) (fun _ _ _ => rfl) ?_
                  rw [show (fx_cb .ge 98 98) = true from by decide]
                  dsimp only [cond]
                  refine fe_s 1 (pc' := 117) (lc' := [(6, .int 98), (5, .int 0), (4, .int 98), (3, .int 94), (2, .int 18), (0, .ref 0), (1, .ref 22)]) (stk' := [.int 0]) (mem' := fm g tp bt a b) (fun _ _ _ => rfl) ?_
                  refine fe_s 1 (pc' := cond (fx_cb .eq 0 0) 122 120) (lc' := [(6, .int 98), (5, .int 0), (4, .int 98), (3, .int 94), (2, .int 18), (0, .ref 0), (1, .ref 22)]) (stk' := []) (mem' := fm g tp bt a b) (fun _ _ _ => rfl) ?_
                  rw [show (fx_cb .eq 0 0) = true from by decide]
                  dsimp only [cond]
                  refine fe_s 4 (pc' := 129) (lc' := [(2, .int (18 + 1)), (6, .int 98), (5, .int 0), (4, .int 98), (3, .int 94), (0, .ref 0), (1, .ref 22)]) (stk' := [.int (98 + 1)]) (mem' := fm g tp bt a b) (fun _ _ _ => rfl) ?_
                  rw [show (98 + 1 : Int32) = 99 from rfl]
                  rw [show (18 + 1 : Int32) = 19 from rfl]
                  refine fe_s 1 (pc' := 130) (lc' := [(3, .int 99), (2, .int 19), (6, .int 98), (5, .int 0), (4, .int 98), (0, .ref 0), (1, .ref 22)]) (stk' := []) (mem' := fm g tp bt a b) (fun _ _ _ => rfl) ?_
                  refine fe_s 1 (pc' := fx_to 130 (-116)) (lc' := [(3, .int 99), (2, .int 19), (6, .int 98), (5, .int 0), (4, .int 98), (0, .ref 0), (1, .ref 22)]) (stk' := []) (mem' := fm g tp bt a b) (fun _ _ _ => rfl) ?_
                  rw [show fx_to 130 (-116) = 14 from by decide]
                  refine fe_w (lc' := [(3, .int 99), (2, .int 19), (0, .ref 0), (1, .ref 22)]) ⟨rfl, rfl, rfl, rfl, trivial⟩ (by show List.Nodup [3, 2, 0, 1]; decide) (by show List.Nodup [3, 2, 6, 5, 4, 0, 1]; decide) ?_
                  exact fw_19 hxp
                · rw [e15]
                  refine fe_s 1 (pc' := cond (fx_cb .ne 110 (nI n14)) 106 102) (lc' := [(6, .int 97), (5, .int 1), (4, .int 98), (3, .int 94), (2, .int 18), (0, .ref 0), (1, .ref 22)]) (stk' := []) (mem' := fm g tp bt a b) (fun _ _ _ => rfl) ?_
                  by_cases h17 : 110 = n14
                  · rw [show (fx_cb .ne 110 (nI n14)) = false from cb_neF (a := 110) (b := n14) (by omega) (by omega) (by omega)]
                    dsimp only [cond]
                    refine fe_s 4 (pc' := 112) (lc' := [(6, .int (97 + 1)), (5, .int 1), (4, .int 98), (3, .int 94), (2, .int 18), (0, .ref 0), (1, .ref 22)]) (stk' := []) (mem' := fm g tp bt a b) (fun _ _ _ => rfl) ?_
                    rw [show (97 + 1 : Int32) = 98 from rfl]
                    refine fe_s 3 (pc' := 72) (lc' := [(6, .int 98), (5, .int 1), (4, .int 98), (3, .int 94), (2, .int 18), (0, .ref 0), (1, .ref 22)]) (stk' := [.int 98, .int 98]) (mem' := fm g tp bt a b) (fun _ _ _ => rfl) ?_
                    refine fe_s 1 (pc' := cond (fx_cb .ge 98 98) 115 75) (lc' := [(6, .int 98), (5, .int 1), (4, .int 98), (3, .int 94), (2, .int 18), (0, .ref 0), (1, .ref 22)]) (stk' := []) (mem' := fm g tp bt a b) (fun _ _ _ => rfl) ?_
                    rw [show (fx_cb .ge 98 98) = true from by decide]
                    dsimp only [cond]
                    refine fe_s 1 (pc' := 117) (lc' := [(6, .int 98), (5, .int 1), (4, .int 98), (3, .int 94), (2, .int 18), (0, .ref 0), (1, .ref 22)]) (stk' := [.int 1]) (mem' := fm g tp bt a b) (fun _ _ _ => rfl) ?_
                    refine fe_s 1 (pc' := cond (fx_cb .eq 1 0) 122 120) (lc' := [(6, .int 98), (5, .int 1), (4, .int 98), (3, .int 94), (2, .int 18), (0, .ref 0), (1, .ref 22)]) (stk' := []) (mem' := fm g tp bt a b) (fun _ _ _ => rfl) ?_
                    rw [show (fx_cb .eq 1 0) = false from by decide]
                    dsimp only [cond]
                    refine fe_s 1 (pc' := 121) (lc' := [(6, .int 98), (5, .int 1), (4, .int 98), (3, .int 94), (2, .int 18), (0, .ref 0), (1, .ref 22)]) (stk' := [.int 18]) (mem' := fm g tp bt a b) (fun _ _ _ => rfl) ?_
                    exact fe_ret ⟨_, Or.inr ⟨18, by omega, rfl⟩, rfl⟩ (by rfl) (by rfl) (by rfl)
                  · rw [show (fx_cb .ne 110 (nI n14)) = true from cb_neT (a := 110) (b := n14) (by omega) (by omega) (by omega)]
                    dsimp only [cond]
                    refine fe_s 4 (pc' := 68) (lc' := [(6, .int (97 + 1)), (5, .int 0), (4, .int 98), (3, .int 94), (2, .int 18), (0, .ref 0), (1, .ref 22)]) (stk' := []) (mem' := fm g tp bt a b) (fun _ _ _ => rfl) ?_
                    rw [show (97 + 1 : Int32) = 98 from rfl]
                    refine fe_s 2 (pc' := 72) (lc' := [(6, .int 98), (5, .int 0), (4, .int 98), (3, .int 94), (2, .int 18), (0, .ref 0), (1, .ref 22)]) (stk' := [.int 98, .int 98]) (mem' := fm g tp bt a b) (fun _ _ _ => rfl) ?_
                    refine fe_s 1 (pc' := cond (fx_cb .ge 98 98) 115 75) (lc' := [(6, .int 98), (5, .int 0), (4, .int 98), (3, .int 94), (2, .int 18), (0, .ref 0), (1, .ref 22)]) (stk' := []) (mem' := fm g tp bt a b) (fun _ _ _ => rfl) ?_
                    rw [show (fx_cb .ge 98 98) = true from by decide]
                    dsimp only [cond]
                    refine fe_s 1 (pc' := 117) (lc' := [(6, .int 98), (5, .int 0), (4, .int 98), (3, .int 94), (2, .int 18), (0, .ref 0), (1, .ref 22)]) (stk' := [.int 0]) (mem' := fm g tp bt a b) (fun _ _ _ => rfl) ?_
                    refine fe_s 1 (pc' := cond (fx_cb .eq 0 0) 122 120) (lc' := [(6, .int 98), (5, .int 0), (4, .int 98), (3, .int 94), (2, .int 18), (0, .ref 0), (1, .ref 22)]) (stk' := []) (mem' := fm g tp bt a b) (fun _ _ _ => rfl) ?_
                    rw [show (fx_cb .eq 0 0) = true from by decide]
                    dsimp only [cond]
                    refine fe_s 4 (pc' := 129) (lc' := [(2, .int (18 + 1)), (6, .int 98), (5, .int 0), (4, .int 98), (3, .int 94), (0, .ref 0), (1, .ref 22)]) (stk' := [.int (98 + 1)]) (mem' := fm g tp bt a b) (fun _ _ _ => rfl) ?_
                    rw [show (98 + 1 : Int32) = 99 from rfl]
                    rw [show (18 + 1 : Int32) = 19 from rfl]
                    refine fe_s 1 (pc' := 130) (lc' := [(3, .int 99), (2, .int 19), (6, .int 98), (5, .int 0), (4, .int 98), (0, .ref 0), (1, .ref 22)]) (stk' := []) (mem' := fm g tp bt a b) (fun _ _ _ => rfl) ?_
                    refine fe_s 1 (pc' := fx_to 130 (-116)) (lc' := [(3, .int 99), (2, .int 19), (6, .int 98), (5, .int 0), (4, .int 98), (0, .ref 0), (1, .ref 22)]) (stk' := []) (mem' := fm g tp bt a b) (fun _ _ _ => rfl) ?_
                    rw [show fx_to 130 (-116) = 14 from by decide]
                    refine fe_w (lc' := [(3, .int 99), (2, .int 19), (0, .ref 0), (1, .ref 22)]) ⟨rfl, rfl, rfl, rfl, trivial⟩ (by show List.Nodup [3, 2, 0, 1]; decide) (by show List.Nodup [3, 2, 6, 5, 4, 0, 1]; decide) ?_
                    exact fw_19 hxp
              · rw [show (fx_cb .ne 101 (nI n10)) = true from cb_neT (a := 101) (b := n10) (by omega) (by omega) (by omega)]
                dsimp only [cond]
                refine fe_s 4 (pc' := 68) (lc' := [(6, .int (96 + 1)), (5, .int 0), (4, .int 98), (3, .int 94), (2, .int 18), (0, .ref 0), (1, .ref 22)]) (stk' := []) (mem' := fm g tp bt a b) (fun _ _ _ => rfl) ?_
                rw [show (96 + 1 : Int32) = 97 from rfl]
                refine fe_s 2 (pc' := 72) (lc' := [(6, .int 97), (5, .int 0), (4, .int 98), (3, .int 94), (2, .int 18), (0, .ref 0), (1, .ref 22)]) (stk' := [.int 98, .int 97]) (mem' := fm g tp bt a b) (fun _ _ _ => rfl) ?_
                refine fe_s 1 (pc' := cond (fx_cb .ge 97 98) 115 75) (lc' := [(6, .int 97), (5, .int 0), (4, .int 98), (3, .int 94), (2, .int 18), (0, .ref 0), (1, .ref 22)]) (stk' := []) (mem' := fm g tp bt a b) (fun _ _ _ => rfl) ?_
                rw [show (fx_cb .ge 97 98) = false from by decide]
                dsimp only [cond]
                refine fe_s 1 (pc' := 77) (lc' := [(6, .int 97), (5, .int 0), (4, .int 98), (3, .int 94), (2, .int 18), (0, .ref 0), (1, .ref 22)]) (stk' := [.int 0]) (mem' := fm g tp bt a b) (fun _ _ _ => rfl) ?_
                refine fe_s 1 (pc' := cond (fx_cb .eq 0 0) 115 80) (lc' := [(6, .int 97), (5, .int 0), (4, .int 98), (3, .int 94), (2, .int 18), (0, .ref 0), (1, .ref 22)]) (stk' := []) (mem' := fm g tp bt a b) (fun _ _ _ => rfl) ?_
                rw [show (fx_cb .eq 0 0) = true from by decide]
                dsimp only [cond]
                refine fe_s 1 (pc' := 117) (lc' := [(6, .int 97), (5, .int 0), (4, .int 98), (3, .int 94), (2, .int 18), (0, .ref 0), (1, .ref 22)]) (stk' := [.int 0]) (mem' := fm g tp bt a b) (fun _ _ _ => rfl) ?_
                refine fe_s 1 (pc' := cond (fx_cb .eq 0 0) 122 120) (lc' := [(6, .int 97), (5, .int 0), (4, .int 98), (3, .int 94), (2, .int 18), (0, .ref 0), (1, .ref 22)]) (stk' := []) (mem' := fm g tp bt a b) (fun _ _ _ => rfl) ?_
                rw [show (fx_cb .eq 0 0) = true from by decide]
                dsimp only [cond]
                refine fe_s 4 (pc' := 129) (lc' := [(2, .int (18 + 1)), (6, .int 97), (5, .int 0), (4, .int 98), (3, .int 94), (0, .ref 0), (1, .ref 22)]) (stk' := [.int (98 + 1)]) (mem' := fm g tp bt a b) (fun _ _ _ => rfl) ?_
                rw [show (98 + 1 : Int32) = 99 from rfl]
                rw [show (18 + 1 : Int32) = 19 from rfl]
                refine fe_s 1 (pc' := 130) (lc' := [(3, .int 99), (2, .int 19), (6, .int 97), (5, .int 0), (4, .int 98), (0, .ref 0), (1, .ref 22)]) (stk' := []) (mem' := fm g tp bt a b) (fun _ _ _ => rfl) ?_
                refine fe_s 1 (pc' := fx_to 130 (-116)) (lc' := [(3, .int 99), (2, .int 19), (6, .int 97), (5, .int 0), (4, .int 98), (0, .ref 0), (1, .ref 22)]) (stk' := []) (mem' := fm g tp bt a b) (fun _ _ _ => rfl) ?_
                rw [show fx_to 130 (-116) = 14 from by decide]
                refine fe_w (lc' := [(3, .int 99), (2, .int 19), (0, .ref 0), (1, .ref 22)]) ⟨rfl, rfl, rfl, rfl, trivial⟩ (by show List.Nodup [3, 2, 0, 1]; decide) (by show List.Nodup [3, 2, 6, 5, 4, 0, 1]; decide) ?_
                exact fw_19 hxp
          · rw [show (fx_cb .ne 104 (nI n6)) = true from cb_neT (a := 104) (b := n6) (by omega) (by omega) (by omega)]
            dsimp only [cond]
            refine fe_s 4 (pc' := 68) (lc' := [(6, .int (95 + 1)), (5, .int 0), (4, .int 98), (3, .int 94), (2, .int 18), (0, .ref 0), (1, .ref 22)]) (stk' := []) (mem' := fm g tp bt a b) (fun _ _ _ => rfl) ?_
            rw [show (95 + 1 : Int32) = 96 from rfl]
            refine fe_s 2 (pc' := 72) (lc' := [(6, .int 96), (5, .int 0), (4, .int 98), (3, .int 94), (2, .int 18), (0, .ref 0), (1, .ref 22)]) (stk' := [.int 98, .int 96]) (mem' := fm g tp bt a b) (fun _ _ _ => rfl) ?_
            refine fe_s 1 (pc' := cond (fx_cb .ge 96 98) 115 75) (lc' := [(6, .int 96), (5, .int 0), (4, .int 98), (3, .int 94), (2, .int 18), (0, .ref 0), (1, .ref 22)]) (stk' := []) (mem' := fm g tp bt a b) (fun _ _ _ => rfl) ?_
            rw [show (fx_cb .ge 96 98) = false from by decide]
            dsimp only [cond]
            refine fe_s 1 (pc' := 77) (lc' := [(6, .int 96), (5, .int 0), (4, .int 98), (3, .int 94), (2, .int 18), (0, .ref 0), (1, .ref 22)]) (stk' := [.int 0]) (mem' := fm g tp bt a b) (fun _ _ _ => rfl) ?_
            refine fe_s 1 (pc' := cond (fx_cb .eq 0 0) 115 80) (lc' := [(6, .int 96), (5, .int 0), (4, .int 98), (3, .int 94), (2, .int 18), (0, .ref 0), (1, .ref 22)]) (stk' := []) (mem' := fm g tp bt a b) (fun _ _ _ => rfl) ?_
            rw [show (fx_cb .eq 0 0) = true from by decide]
            dsimp only [cond]
            refine fe_s 1 (pc' := 117) (lc' := [(6, .int 96), (5, .int 0), (4, .int 98), (3, .int 94), (2, .int 18), (0, .ref 0), (1, .ref 22)]) (stk' := [.int 0]) (mem' := fm g tp bt a b) (fun _ _ _ => rfl) ?_
            refine fe_s 1 (pc' := cond (fx_cb .eq 0 0) 122 120) (lc' := [(6, .int 96), (5, .int 0), (4, .int 98), (3, .int 94), (2, .int 18), (0, .ref 0), (1, .ref 22)]) (stk' := []) (mem' := fm g tp bt a b) (fun _ _ _ => rfl) ?_
            rw [show (fx_cb .eq 0 0) = true from by decide]
            dsimp only [cond]
            refine fe_s 4 (pc' := 129) (lc' := [(2, .int (18 + 1)), (6, .int 96), (5, .int 0), (4, .int 98), (3, .int 94), (0, .ref 0), (1, .ref 22)]) (stk' := [.int (98 + 1)]) (mem' := fm g tp bt a b) (fun _ _ _ => rfl) ?_
            rw [show (98 + 1 : Int32) = 99 from rfl]
            rw [show (18 + 1 : Int32) = 19 from rfl]
            refine fe_s 1 (pc' := 130) (lc' := [(3, .int 99), (2, .int 19), (6, .int 96), (5, .int 0), (4, .int 98), (0, .ref 0), (1, .ref 22)]) (stk' := []) (mem' := fm g tp bt a b) (fun _ _ _ => rfl) ?_
            refine fe_s 1 (pc' := fx_to 130 (-116)) (lc' := [(3, .int 99), (2, .int 19), (6, .int 96), (5, .int 0), (4, .int 98), (0, .ref 0), (1, .ref 22)]) (stk' := []) (mem' := fm g tp bt a b) (fun _ _ _ => rfl) ?_
            rw [show fx_to 130 (-116) = 14 from by decide]
            refine fe_w (lc' := [(3, .int 99), (2, .int 19), (0, .ref 0), (1, .ref 22)]) ⟨rfl, rfl, rfl, rfl, trivial⟩ (by show List.Nodup [3, 2, 0, 1]; decide) (by show List.Nodup [3, 2, 6, 5, 4, 0, 1]; decide) ?_
            exact fw_19 hxp
      · rw [show (fx_cb .ne 119 (nI n2)) = true from cb_neT (a := 119) (b := n2) (by omega) (by omega) (by omega)]
        dsimp only [cond]
        refine fe_s 4 (pc' := 68) (lc' := [(6, .int (94 + 1)), (5, .int 0), (4, .int 98), (3, .int 94), (2, .int 18), (0, .ref 0), (1, .ref 22)]) (stk' := []) (mem' := fm g tp bt a b) (fun _ _ _ => rfl) ?_
        rw [show (94 + 1 : Int32) = 95 from rfl]
        refine fe_s 2 (pc' := 72) (lc' := [(6, .int 95), (5, .int 0), (4, .int 98), (3, .int 94), (2, .int 18), (0, .ref 0), (1, .ref 22)]) (stk' := [.int 98, .int 95]) (mem' := fm g tp bt a b) (fun _ _ _ => rfl) ?_
        refine fe_s 1 (pc' := cond (fx_cb .ge 95 98) 115 75) (lc' := [(6, .int 95), (5, .int 0), (4, .int 98), (3, .int 94), (2, .int 18), (0, .ref 0), (1, .ref 22)]) (stk' := []) (mem' := fm g tp bt a b) (fun _ _ _ => rfl) ?_
        rw [show (fx_cb .ge 95 98) = false from by decide]
        dsimp only [cond]
        refine fe_s 1 (pc' := 77) (lc' := [(6, .int 95), (5, .int 0), (4, .int 98), (3, .int 94), (2, .int 18), (0, .ref 0), (1, .ref 22)]) (stk' := [.int 0]) (mem' := fm g tp bt a b) (fun _ _ _ => rfl) ?_
        refine fe_s 1 (pc' := cond (fx_cb .eq 0 0) 115 80) (lc' := [(6, .int 95), (5, .int 0), (4, .int 98), (3, .int 94), (2, .int 18), (0, .ref 0), (1, .ref 22)]) (stk' := []) (mem' := fm g tp bt a b) (fun _ _ _ => rfl) ?_
        rw [show (fx_cb .eq 0 0) = true from by decide]
        dsimp only [cond]
        refine fe_s 1 (pc' := 117) (lc' := [(6, .int 95), (5, .int 0), (4, .int 98), (3, .int 94), (2, .int 18), (0, .ref 0), (1, .ref 22)]) (stk' := [.int 0]) (mem' := fm g tp bt a b) (fun _ _ _ => rfl) ?_
        refine fe_s 1 (pc' := cond (fx_cb .eq 0 0) 122 120) (lc' := [(6, .int 95), (5, .int 0), (4, .int 98), (3, .int 94), (2, .int 18), (0, .ref 0), (1, .ref 22)]) (stk' := []) (mem' := fm g tp bt a b) (fun _ _ _ => rfl) ?_
        rw [show (fx_cb .eq 0 0) = true from by decide]
        dsimp only [cond]
        refine fe_s 4 (pc' := 129) (lc' := [(2, .int (18 + 1)), (6, .int 95), (5, .int 0), (4, .int 98), (3, .int 94), (0, .ref 0), (1, .ref 22)]) (stk' := [.int (98 + 1)]) (mem' := fm g tp bt a b) (fun _ _ _ => rfl) ?_
        rw [show (98 + 1 : Int32) = 99 from rfl]
        rw [show (18 + 1 : Int32) = 19 from rfl]
        refine fe_s 1 (pc' := 130) (lc' := [(3, .int 99), (2, .int 19), (6, .int 95), (5, .int 0), (4, .int 98), (0, .ref 0), (1, .ref 22)]) (stk' := []) (mem' := fm g tp bt a b) (fun _ _ _ => rfl) ?_
        refine fe_s 1 (pc' := fx_to 130 (-116)) (lc' := [(3, .int 99), (2, .int 19), (6, .int 95), (5, .int 0), (4, .int 98), (0, .ref 0), (1, .ref 22)]) (stk' := []) (mem' := fm g tp bt a b) (fun _ _ _ => rfl) ?_
        rw [show fx_to 130 (-116) = 14 from by decide]
        refine fe_w (lc' := [(3, .int 99), (2, .int 19), (0, .ref 0), (1, .ref 22)]) ⟨rfl, rfl, rfl, rfl, trivial⟩ (by show List.Nodup [3, 2, 0, 1]; decide) (by show List.Nodup [3, 2, 6, 5, 4, 0, 1]; decide) ?_
        exact fw_19 hxp
  · rw [show (fx_cb .ne 4 (nI (E - F))) = true from cb_neT (a := 4) (b := E - F) (by omega) (by omega) (by omega)]
    dsimp only [cond]
    refine fe_s 4 (pc' := 68) (lc' := [(6, .int 94), (5, .int 0), (4, .int 98), (3, .int 94), (2, .int 18), (0, .ref 0), (1, .ref 22)]) (stk' := []) (mem' := fm g tp bt a b) (fun _ _ _ => rfl) ?_
    refine fe_s 2 (pc' := 72) (lc' := [(6, .int 94), (5, .int 0), (4, .int 98), (3, .int 94), (2, .int 18), (0, .ref 0), (1, .ref 22)]) (stk' := [.int 98, .int 94]) (mem' := fm g tp bt a b) (fun _ _ _ => rfl) ?_
    refine fe_s 1 (pc' := cond (fx_cb .ge 94 98) 115 75) (lc' := [(6, .int 94), (5, .int 0), (4, .int 98), (3, .int 94), (2, .int 18), (0, .ref 0), (1, .ref 22)]) (stk' := []) (mem' := fm g tp bt a b) (fun _ _ _ => rfl) ?_
    rw [show (fx_cb .ge 94 98) = false from by decide]
    dsimp only [cond]
    refine fe_s 1 (pc' := 77) (lc' := [(6, .int 94), (5, .int 0), (4, .int 98), (3, .int 94), (2, .int 18), (0, .ref 0), (1, .ref 22)]) (stk' := [.int 0]) (mem' := fm g tp bt a b) (fun _ _ _ => rfl) ?_
    refine fe_s 1 (pc' := cond (fx_cb .eq 0 0) 115 80) (lc' := [(6, .int 94), (5, .int 0), (4, .int 98), (3, .int 94), (2, .int 18), (0, .ref 0), (1, .ref 22)]) (stk' := []) (mem' := fm g tp bt a b) (fun _ _ _ => rfl) ?_
    rw [show (fx_cb .eq 0 0) = true from by decide]
    dsimp only [cond]
    refine fe_s 1 (pc' := 117) (lc' := [(6, .int 94), (5, .int 0), (4, .int 98), (3, .int 94), (2, .int 18), (0, .ref 0), (1, .ref 22)]) (stk' := [.int 0]) (mem' := fm g tp bt a b) (fun _ _ _ => rfl) ?_
    refine fe_s 1 (pc' := cond (fx_cb .eq 0 0) 122 120) (lc' := [(6, .int 94), (5, .int 0), (4, .int 98), (3, .int 94), (2, .int 18), (0, .ref 0), (1, .ref 22)]) (stk' := []) (mem' := fm g tp bt a b) (fun _ _ _ => rfl) ?_
    rw [show (fx_cb .eq 0 0) = true from by decide]
    dsimp only [cond]
    refine fe_s 4 (pc' := 129) (lc' := [(2, .int (18 + 1)), (6, .int 94), (5, .int 0), (4, .int 98), (3, .int 94), (0, .ref 0), (1, .ref 22)]) (stk' := [.int (98 + 1)]) (mem' := fm g tp bt a b) (fun _ _ _ => rfl) ?_
    rw [show (98 + 1 : Int32) = 99 from rfl]
    rw [show (18 + 1 : Int32) = 19 from rfl]
    refine fe_s 1 (pc' := 130) (lc' := [(3, .int 99), (2, .int 19), (6, .int 94), (5, .int 0), (4, .int 98), (0, .ref 0), (1, .ref 22)]) (stk' := []) (mem' := fm g tp bt a b) (fun _ _ _ => rfl) ?_
    refine fe_s 1 (pc' := fx_to 130 (-116)) (lc' := [(3, .int 99), (2, .int 19), (6, .int 94), (5, .int 0), (4, .int 98), (0, .ref 0), (1, .ref 22)]) (stk' := []) (mem' := fm g tp bt a b) (fun _ _ _ => rfl) ?_
    rw [show fx_to 130 (-116) = 14 from by decide]
    refine fe_w (lc' := [(3, .int 99), (2, .int 19), (0, .ref 0), (1, .ref 22)]) ⟨rfl, rfl, rfl, rfl, trivial⟩ (by show List.Nodup [3, 2, 0, 1]; decide) (by show List.Nodup [3, 2, 6, 5, 4, 0, 1]; decide) ?_
    exact fw_19 hxp
end FIW1
