/-! ===== fx: which word it is (1) ===== -/
section FIW1
variable {g : Nat → Int32} {tp bt : Int64} {a : Nat → Nat → Int32} {b : Nat → Nat → Int64}
set_option maxHeartbeats 8000000 in
theorem fw_20 {S E F : Nat} (hxp : fm_xp g S E F) : fe_R 1 gk_m226 14 [(3, .int 104), (2, .int 20), (0, .ref 0), (1, .ref 22)] [] (fm g tp bt a b) (fm_FI (fm g tp bt a b)) := by
  obtain ⟨h11, hS9, h14, hES, h13, hFE, -, -, -⟩ := id hxp
  have fail : ∀ (x z : Int32), fe_R 1 gk_m226 107 [(6, .int x), (5, .int z), (4, .int 107), (3, .int 104), (2, .int 20), (0, .ref 0), (1, .ref 22)] [.int 0] (fm g tp bt a b) (fm_FI (fm g tp bt a b)) := by
    intro x z
    refine fe_s 4 (pc' := 70) (lc' := [(6, .int (x + 1)), (5, .int 0), (4, .int 107), (3, .int 104), (2, .int 20), (0, .ref 0), (1, .ref 22)]) (stk' := [.int (x + 1)]) (mem' := fm g tp bt a b) (fun _ _ _ => rfl) ?_
    refine fe_s 1 (pc' := 72) (lc' := [(6, .int (x + 1)), (5, .int 0), (4, .int 107), (3, .int 104), (2, .int 20), (0, .ref 0), (1, .ref 22)]) (stk' := [.int 107, .int (x + 1)]) (mem' := fm g tp bt a b) (fun _ _ _ => rfl) ?_
    refine fe_s 1 (pc' := cond (fx_cb .ge (x + 1) 107) 115 75) (lc' := [(6, .int (x + 1)), (5, .int 0), (4, .int 107), (3, .int 104), (2, .int 20), (0, .ref 0), (1, .ref 22)]) (stk' := []) (mem' := fm g tp bt a b) (fun _ _ _ => rfl) ?_
    cases h1 : fx_cb .ge (x + 1) 107
    · refine fe_s 1 (pc' := 77) (lc' := [(6, .int (x + 1)), (5, .int 0), (4, .int 107), (3, .int 104), (2, .int 20), (0, .ref 0), (1, .ref 22)]) (stk' := [.int 0]) (mem' := fm g tp bt a b) (fun _ _ _ => rfl) ?_
      refine fe_s 1 (pc' := cond (fx_cb .eq 0 0) 115 80) (lc' := [(6, .int (x + 1)), (5, .int 0), (4, .int 107), (3, .int 104), (2, .int 20), (0, .ref 0), (1, .ref 22)]) (stk' := []) (mem' := fm g tp bt a b) (fun _ _ _ => rfl) ?_
      rw [show (fx_cb .eq 0 0) = true from by decide]
      dsimp only [cond]
      refine fe_s 1 (pc' := 117) (lc' := [(6, .int (x + 1)), (5, .int 0), (4, .int 107), (3, .int 104), (2, .int 20), (0, .ref 0), (1, .ref 22)]) (stk' := [.int 0]) (mem' := fm g tp bt a b) (fun _ _ _ => rfl) ?_
      refine fe_s 1 (pc' := cond (fx_cb .eq 0 0) 122 120) (lc' := [(6, .int (x + 1)), (5, .int 0), (4, .int 107), (3, .int 104), (2, .int 20), (0, .ref 0), (1, .ref 22)]) (stk' := []) (mem' := fm g tp bt a b) (fun _ _ _ => rfl) ?_
      rw [show (fx_cb .eq 0 0) = true from by decide]
      dsimp only [cond]
      refine fe_s 4 (pc' := 129) (lc' := [(2, .int (20 + 1)), (6, .int (x + 1)), (5, .int 0), (4, .int 107), (3, .int 104), (0, .ref 0), (1, .ref 22)]) (stk' := [.int (107 + 1)]) (mem' := fm g tp bt a b) (fun _ _ _ => rfl) ?_
      rw [show (20 + 1 : Int32) = 21 from rfl]
      rw [show (107 + 1 : Int32) = 108 from rfl]
      refine fe_s 1 (pc' := 130) (lc' := [(3, .int 108), (2, .int 21), (6, .int (x + 1)), (5, .int 0), (4, .int 107), (0, .ref 0), (1, .ref 22)]) (stk' := []) (mem' := fm g tp bt a b) (fun _ _ _ => rfl) ?_
      refine fe_s 1 (pc' := fx_to 130 (-116)) (lc' := [(3, .int 108), (2, .int 21), (6, .int (x + 1)), (5, .int 0), (4, .int 107), (0, .ref 0), (1, .ref 22)]) (stk' := []) (mem' := fm g tp bt a b) (fun _ _ _ => rfl) ?_
      rw [show fx_to 130 (-116) = 14 from by decide]
      refine fe_w (lc' := [(3, .int 108), (2, .int 21), (0, .ref 0), (1, .ref 22)]) ⟨rfl, rfl, rfl, rfl, trivial⟩ (by show List.Nodup [3, 2, 0, 1]; decide) (by show List.Nodup [3, 2, 6, 5, 4, 0, 1]; decide) ?_
      exact fw_21 hxp
    · refine fe_s 1 (pc' := 117) (lc' := [(6, .int (x + 1)), (5, .int 0), (4, .int 107), (3, .int 104), (2, .int 20), (0, .ref 0), (1, .ref 22)]) (stk' := [.int 0]) (mem' := fm g tp bt a b) (fun _ _ _ => rfl) ?_
      refine fe_s 1 (pc' := cond (fx_cb .eq 0 0) 122 120) (lc' := [(6, .int (x + 1)), (5, .int 0), (4, .int 107), (3, .int 104), (2, .int 20), (0, .ref 0), (1, .ref 22)]) (stk' := []) (mem' := fm g tp bt a b) (fun _ _ _ => rfl) ?_
      rw [show (fx_cb .eq 0 0) = true from by decide]
      dsimp only [cond]
      refine fe_s 4 (pc' := 129) (lc' := [(2, .int (20 + 1)), (6, .int (x + 1)), (5, .int 0), (4, .int 107), (3, .int 104), (0, .ref 0), (1, .ref 22)]) (stk' := [.int (107 + 1)]) (mem' := fm g tp bt a b) (fun _ _ _ => rfl) ?_
      rw [show (20 + 1 : Int32) = 21 from rfl]
      rw [show (107 + 1 : Int32) = 108 from rfl]
      refine fe_s 1 (pc' := 130) (lc' := [(3, .int 108), (2, .int 21), (6, .int (x + 1)), (5, .int 0), (4, .int 107), (0, .ref 0), (1, .ref 22)]) (stk' := []) (mem' := fm g tp bt a b) (fun _ _ _ => rfl) ?_
      refine fe_s 1 (pc' := fx_to 130 (-116)) (lc' := [(3, .int 108), (2, .int 21), (6, .int (x + 1)), (5, .int 0), (4, .int 107), (0, .ref 0), (1, .ref 22)]) (stk' := []) (mem' := fm g tp bt a b) (fun _ _ _ => rfl) ?_
      rw [show fx_to 130 (-116) = 14 from by decide]
      refine fe_w (lc' := [(3, .int 108), (2, .int 21), (0, .ref 0), (1, .ref 22)]) ⟨rfl, rfl, rfl, rfl, trivial⟩ (by show List.Nodup [3, 2, 0, 1]; decide) (by show List.Nodup [3, 2, 6, 5, 4, 0, 1]; decide) ?_
      exact fw_21 hxp
  refine fe_s 2 (pc' := 16) (lc' := [(3, .int 104), (2, .int 20), (0, .ref 0), (1, .ref 22)]) (stk' := [.ref 22, .int 104]) (mem' := fm g tp bt a b) (fun _ _ _ => rfl) ?_
  refine fe_s 1 (pc' := 19) (lc' := [(3, .int 104), (2, .int 20), (0, .ref 0), (1, .ref 22)]) (stk' := [.int 117, .int 104]) (mem' := fm g tp bt a b) (fun _ _ _ => rfl) ?_
  refine fe_s 1 (pc' := cond (fx_cb .ge 104 117) 133 22) (lc' := [(3, .int 104), (2, .int 20), (0, .ref 0), (1, .ref 22)]) (stk' := []) (mem' := fm g tp bt a b) (fun _ _ _ => rfl) ?_
  rw [show (fx_cb .ge 104 117) = false from by decide]
  dsimp only [cond]
  refine fe_s 4 (pc' := 28) (lc' := [(4, .int 104), (3, .int 104), (2, .int 20), (0, .ref 0), (1, .ref 22)]) (stk' := [.int 104, .ref 22]) (mem' := fm g tp bt a b) (fun _ _ _ => rfl) ?_
  refine fe_chr (i := 104) (by omega) (by rfl) (by rfl) ⟨by rfl, by rfl⟩ (by rfl) ?_
  rw [show sk_b.getD 104 0 = 101 from rfl]
  refine fe_s 1 (pc' := 33) (lc' := [(4, .int 104), (3, .int 104), (2, .int 20), (0, .ref 0), (1, .ref 22)]) (stk' := [.int 32, .int 101]) (mem' := fm g tp bt a b) (fun _ _ _ => rfl) ?_
  refine fe_s 1 (pc' := cond (fx_cb .eq 101 32) 42 36) (lc' := [(4, .int 104), (3, .int 104), (2, .int 20), (0, .ref 0), (1, .ref 22)]) (stk' := []) (mem' := fm g tp bt a b) (fun _ _ _ => rfl) ?_
  rw [show (fx_cb .eq 101 32) = false from by decide]
  dsimp only [cond]
  refine fe_s 4 (pc' := 28) (lc' := [(4, .int (104 + 1)), (3, .int 104), (2, .int 20), (0, .ref 0), (1, .ref 22)]) (stk' := [.int (104 + 1), .ref 22]) (mem' := fm g tp bt a b) (fun _ _ _ => rfl) ?_
  rw [show (104 + 1 : Int32) = 105 from rfl]
  refine fe_chr (i := 105) (by omega) (by rfl) (by rfl) ⟨by rfl, by rfl⟩ (by rfl) ?_
  rw [show sk_b.getD 105 0 = 110 from rfl]
  refine fe_s 1 (pc' := 33) (lc' := [(4, .int 105), (3, .int 104), (2, .int 20), (0, .ref 0), (1, .ref 22)]) (stk' := [.int 32, .int 110]) (mem' := fm g tp bt a b) (fun _ _ _ => rfl) ?_
  refine fe_s 1 (pc' := cond (fx_cb .eq 110 32) 42 36) (lc' := [(4, .int 105), (3, .int 104), (2, .int 20), (0, .ref 0), (1, .ref 22)]) (stk' := []) (mem' := fm g tp bt a b) (fun _ _ _ => rfl) ?_
  rw [show (fx_cb .eq 110 32) = false from by decide]
  dsimp only [cond]
  refine fe_s 4 (pc' := 28) (lc' := [(4, .int (105 + 1)), (3, .int 104), (2, .int 20), (0, .ref 0), (1, .ref 22)]) (stk' := [.int (105 + 1), .ref 22]) (mem' := fm g tp bt a b) (fun _ _ _ => rfl) ?_
  rw [show (105 + 1 : Int32) = 106 from rfl]
  refine fe_chr (i := 106) (by omega) (by rfl) (by rfl) ⟨by rfl, by rfl⟩ (by rfl) ?_
  rw [show sk_b.getD 106 0 = 100 from rfl]
  refine fe_s 1 (pc' := 33) (lc' := [(4, .int 106), (3, .int 104), (2, .int 20), (0, .ref 0), (1, .ref 22)]) (stk' := [.int 32, .int 100]) (mem' := fm g tp bt a b) (fun _ _ _ => rfl) ?_
  refine fe_s 1 (pc' := cond (fx_cb .eq 100 32) 42 36) (lc' := [(4, .int 106), (3, .int 104), (2, .int 20), (0, .ref 0), (1, .ref 22)]) (stk' := []) (mem' := fm g tp bt a b) (fun _ _ _ => rfl) ?_
  rw [show (fx_cb .eq 100 32) = false from by decide]
  dsimp only [cond]
  refine fe_s 4 (pc' := 28) (lc' := [(4, .int (106 + 1)), (3, .int 104), (2, .int 20), (0, .ref 0), (1, .ref 22)]) (stk' := [.int (106 + 1), .ref 22]) (mem' := fm g tp bt a b) (fun _ _ _ => rfl) ?_
  rw [show (106 + 1 : Int32) = 107 from rfl]
  refine fe_chr (i := 107) (by omega) (by rfl) (by rfl) ⟨by rfl, by rfl⟩ (by rfl) ?_
  rw [show sk_b.getD 107 0 = 32 from rfl]
  refine fe_s 1 (pc' := 33) (lc' := [(4, .int 107), (3, .int 104), (2, .int 20), (0, .ref 0), (1, .ref 22)]) (stk' := [.int 32, .int 32]) (mem' := fm g tp bt a b) (fun _ _ _ => rfl) ?_
  refine fe_s 1 (pc' := cond (fx_cb .eq 32 32) 42 36) (lc' := [(4, .int 107), (3, .int 104), (2, .int 20), (0, .ref 0), (1, .ref 22)]) (stk' := []) (mem' := fm g tp bt a b) (fun _ _ _ => rfl) ?_
  rw [show (fx_cb .eq 32 32) = true from by decide]
  dsimp only [cond]
  refine fe_s 4 (pc' := 47) (lc' := [(4, .int 107), (3, .int 104), (2, .int 20), (0, .ref 0), (1, .ref 22)]) (stk' := [.ref 0, .int (107 - 104)]) (mem' := fm g tp bt a b) (fun _ _ _ => rfl) ?_
  rw [show (107 - 104 : Int32) = 3 from rfl]
  refine fe_s 4 (pc' := 55) (lc' := [(4, .int 107), (3, .int 104), (2, .int 20), (0, .ref 0), (1, .ref 22)]) (stk' := [.int ((g 14) - (g 13)), .int 3]) (mem' := fm g tp bt a b) (fun _ _ _ => rfl) ?_
  try rw [h14]
  try rw [h13]
  rw [show ((nI E) - (nI F) : Int32) = nI (E - F) from by simp only [tg_sub2 (x := E) (y := F) (by omega), nI_add, fm_mul]]
  refine fe_s 1 (pc' := cond (fx_cb .ne 3 (nI (E - F))) 62 58) (lc' := [(4, .int 107), (3, .int 104), (2, .int 20), (0, .ref 0), (1, .ref 22)]) (stk' := []) (mem' := fm g tp bt a b) (fun _ _ _ => rfl) ?_
  by_cases h2 : 3 = (E - F)
  · rw [show (fx_cb .ne 3 (nI (E - F))) = false from cb_neF (a := 3) (b := E - F) (by omega) (by omega) (by omega)]
    dsimp only [cond]
    refine fe_s 4 (pc' := 66) (lc' := [(5, .int 1), (4, .int 107), (3, .int 104), (2, .int 20), (0, .ref 0), (1, .ref 22)]) (stk' := [.int 104]) (mem' := fm g tp bt a b) (fun _ _ _ => rfl) ?_
    refine fe_s 3 (pc' := 72) (lc' := [(6, .int 104), (5, .int 1), (4, .int 107), (3, .int 104), (2, .int 20), (0, .ref 0), (1, .ref 22)]) (stk' := [.int 107, .int 104]) (mem' := fm g tp bt a b) (fun _ _ _ => rfl) ?_
    refine fe_s 1 (pc' := cond (fx_cb .ge 104 107) 115 75) (lc' := [(6, .int 104), (5, .int 1), (4, .int 107), (3, .int 104), (2, .int 20), (0, .ref 0), (1, .ref 22)]) (stk' := []) (mem' := fm g tp bt a b) (fun _ _ _ => rfl) ?_
    rw [show (fx_cb .ge 104 107) = false from by decide]
    dsimp only [cond]
    refine fe_s 1 (pc' := 77) (lc' := [(6, .int 104), (5, .int 1), (4, .int 107), (3, .int 104), (2, .int 20), (0, .ref 0), (1, .ref 22)]) (stk' := [.int 1]) (mem' := fm g tp bt a b) (fun _ _ _ => rfl) ?_
    refine fe_s 1 (pc' := cond (fx_cb .eq 1 0) 115 80) (lc' := [(6, .int 104), (5, .int 1), (4, .int 107), (3, .int 104), (2, .int 20), (0, .ref 0), (1, .ref 22)]) (stk' := []) (mem' := fm g tp bt a b) (fun _ _ _ => rfl) ?_
    rw [show (fx_cb .eq 1 0) = false from by decide]
    dsimp only [cond]
    refine fe_s 2 (pc' := 83) (lc' := [(6, .int 104), (5, .int 1), (4, .int 107), (3, .int 104), (2, .int 20), (0, .ref 0), (1, .ref 22)]) (stk' := [.int 104, .ref 22]) (mem' := fm g tp bt a b) (fun _ _ _ => rfl) ?_
    refine fe_chr (i := 104) (by omega) (by rfl) (by rfl) ⟨by rfl, by rfl⟩ (by rfl) ?_
    rw [show sk_b.getD 104 0 = 101 from rfl]
    refine fe_s 4 (pc' := 93) (lc' := [(6, .int 104), (5, .int 1), (4, .int 107), (3, .int 104), (2, .int 20), (0, .ref 0), (1, .ref 22)]) (stk' := [.int 104, .int (g 13), .ref 0, .int 101]) (mem' := fm g tp bt a b) (fun _ _ _ => rfl) ?_
    try rw [h13]
    refine fe_s 3 (pc' := 96) (lc' := [(6, .int 104), (5, .int 1), (4, .int 107), (3, .int 104), (2, .int 20), (0, .ref 0), (1, .ref 22)]) (stk' := [.int (((nI F) + 104) - 104), .ref 0, .int 101]) (mem' := fm g tp bt a b) (fun _ _ _ => rfl) ?_
    rw [show (((nI F) + 104) - 104 : Int32) = nI ((F + 104) - 104) from by simp only [show (104 : Int32) = nI 104 from rfl, tg_sub2 (x := F + 104) (y := 104) (by omega), nI_add, fm_mul]]
    refine fe_ivV (fr_byteAt (S := S) (k := (F + 104) - 104) (g := g) (tp := tp) (bt := bt) (a := a) (b := b) h11 (by omega) (by omega)) (by omega) (by rfl) (by rfl) (by rfl) (by rfl) (by rfl) (by rfl) ?_
    rcases fm_byte_or a S ((F + 104) - 104) with ⟨e4, q5⟩ | ⟨q5, n3, qn3, e4⟩
    · rw [e4]
      refine fe_s 1 (pc' := cond (fx_cb .ne 101 (-1)) 106 102) (lc' := [(6, .int 104), (5, .int 1), (4, .int 107), (3, .int 104), (2, .int 20), (0, .ref 0), (1, .ref 22)]) (stk' := []) (mem' := fm g tp bt a b) (fun _ _ _ => rfl) ?_
      rw [show (fx_cb .ne 101 (-1)) = true from by decide]
      dsimp only [cond]
      refine fe_s 1 (pc' := 107) (lc' := [(6, .int 104), (5, .int 1), (4, .int 107), (3, .int 104), (2, .int 20), (0, .ref 0), (1, .ref 22)]) (stk' := [.int 0]) (mem' := fm g tp bt a b) (fun _ _ _ => rfl) ?_
      refine fe_w (lc' := [(6, .int 104), (5, .int 1), (4, .int 107), (3, .int 104), (2, .int 20), (0, .ref 0), (1, .ref 22)]) ⟨rfl, rfl, rfl, rfl, rfl, rfl, rfl, trivial⟩ (by show List.Nodup [6, 5, 4, 3, 2, 0, 1]; decide) (by show List.Nodup [6, 5, 4, 3, 2, 0, 1]; decide) ?_
      exact fail _ _
    · rw [e4]
      refine fe_s 1 (pc' := cond (fx_cb .ne 101 (nI n3)) 106 102) (lc' := [(6, .int 104), (5, .int 1), (4, .int 107), (3, .int 104), (2, .int 20), (0, .ref 0), (1, .ref 22)]) (stk' := []) (mem' := fm g tp bt a b) (fun _ _ _ => rfl) ?_
      by_cases h6 : 101 = n3
      · rw [show (fx_cb .ne 101 (nI n3)) = false from cb_neF (a := 101) (b := n3) (by omega) (by omega) (by omega)]
        dsimp only [cond]
        refine fe_s 2 (pc' := 107) (lc' := [(6, .int 104), (5, .int 1), (4, .int 107), (3, .int 104), (2, .int 20), (0, .ref 0), (1, .ref 22)]) (stk' := [.int 1]) (mem' := fm g tp bt a b) (fun _ _ _ => rfl) ?_
        refine fe_s 4 (pc' := 70) (lc' := [(6, .int (104 + 1)), (5, .int 1), (4, .int 107), (3, .int 104), (2, .int 20), (0, .ref 0), (1, .ref 22)]) (stk' := [.int (104 + 1)]) (mem' := fm g tp bt a b) (fun _ _ _ => rfl) ?_
        rw [show (104 + 1 : Int32) = 105 from rfl]
        refine fe_s 1 (pc' := 72) (lc' := [(6, .int 105), (5, .int 1), (4, .int 107), (3, .int 104), (2, .int 20), (0, .ref 0), (1, .ref 22)]) (stk' := [.int 107, .int 105]) (mem' := fm g tp bt a b) (fun _ _ _ => rfl) ?_
        refine fe_s 1 (pc' := cond (fx_cb .ge 105 107) 115 75) (lc' := [(6, .int 105), (5, .int 1), (4, .int 107), (3, .int 104), (2, .int 20), (0, .ref 0), (1, .ref 22)]) (stk' := []) (mem' := fm g tp bt a b) (fun _ _ _ => rfl) ?_
        rw [show (fx_cb .ge 105 107) = false from by decide]
        dsimp only [cond]
        refine fe_s 1 (pc' := 77) (lc' := [(6, .int 105), (5, .int 1), (4, .int 107), (3, .int 104), (2, .int 20), (0, .ref 0), (1, .ref 22)]) (stk' := [.int 1]) (mem' := fm g tp bt a b) (fun _ _ _ => rfl) ?_
        refine fe_s 1 (pc' := cond (fx_cb .eq 1 0) 115 80) (lc' := [(6, .int 105), (5, .int 1), (4, .int 107), (3, .int 104), (2, .int 20), (0, .ref 0), (1, .ref 22)]) (stk' := []) (mem' := fm g tp bt a b) (fun _ _ _ => rfl) ?_
        rw [show (fx_cb .eq 1 0) = false from by decide]
        dsimp only [cond]
        refine fe_s 2 (pc' := 83) (lc' := [(6, .int 105), (5, .int 1), (4, .int 107), (3, .int 104), (2, .int 20), (0, .ref 0), (1, .ref 22)]) (stk' := [.int 105, .ref 22]) (mem' := fm g tp bt a b) (fun _ _ _ => rfl) ?_
        refine fe_chr (i := 105) (by omega) (by rfl) (by rfl) ⟨by rfl, by rfl⟩ (by rfl) ?_
        rw [show sk_b.getD 105 0 = 110 from rfl]
        refine fe_s 4 (pc' := 93) (lc' := [(6, .int 105), (5, .int 1), (4, .int 107), (3, .int 104), (2, .int 20), (0, .ref 0), (1, .ref 22)]) (stk' := [.int 105, .int (g 13), .ref 0, .int 110]) (mem' := fm g tp bt a b) (fun _ _ _ => rfl) ?_
        try rw [h13]
        refine fe_s 3 (pc' := 96) (lc' := [(6, .int 105), (5, .int 1), (4, .int 107), (3, .int 104), (2, .int 20), (0, .ref 0), (1, .ref 22)]) (stk' := [.int (((nI F) + 105) - 104), .ref 0, .int 110]) (mem' := fm g tp bt a b) (fun _ _ _ => rfl) ?_
        rw [show (((nI F) + 105) - 104 : Int32) = nI ((F + 105) - 104) from by simp only [show (105 : Int32) = nI 105 from rfl, show (104 : Int32) = nI 104 from rfl, tg_sub2 (x := F + 105) (y := 104) (by omega), nI_add, fm_mul]]
        refine fe_ivV (fr_byteAt (S := S) (k := (F + 105) - 104) (g := g) (tp := tp) (bt := bt) (a := a) (b := b) h11 (by omega) (by omega)) (by omega) (by rfl) (by rfl) (by rfl) (by rfl) (by rfl) (by rfl) ?_
        rcases fm_byte_or a S ((F + 105) - 104) with ⟨e8, q9⟩ | ⟨q9, n7, qn7, e8⟩
        · rw [e8]
          refine fe_s 1 (pc' := cond (fx_cb .ne 110 (-1)) 106 102) (lc' := [(6, .int 105), (5, .int 1), (4, .int 107), (3, .int 104), (2, .int 20), (0, .ref 0), (1, .ref 22)]) (stk' := []) (mem' := fm g tp bt a b) (fun _ _ _ => rfl) ?_
          rw [show (fx_cb .ne 110 (-1)) = true from by decide]
          dsimp only [cond]
          refine fe_s 1 (pc' := 107) (lc' := [(6, .int 105), (5, .int 1), (4, .int 107), (3, .int 104), (2, .int 20), (0, .ref 0), (1, .ref 22)]) (stk' := [.int 0]) (mem' := fm g tp bt a b) (fun _ _ _ => rfl) ?_
          refine fe_w (lc' := [(6, .int 105), (5, .int 1), (4, .int 107), (3, .int 104), (2, .int 20), (0, .ref 0), (1, .ref 22)]) ⟨rfl, rfl, rfl, rfl, rfl, rfl, rfl, trivial⟩ (by show List.Nodup [6, 5, 4, 3, 2, 0, 1]; decide) (by show List.Nodup [6, 5, 4, 3, 2, 0, 1]; decide) ?_
          exact fail _ _
        · rw [e8]
          refine fe_s 1 (pc' := cond (fx_cb .ne 110 (nI n7)) 106 102) (lc' := [(6, .int 105), (5, .int 1), (4, .int 107), (3, .int 104), (2, .int 20), (0, .ref 0), (1, .ref 22)]) (stk' := []) (mem' := fm g tp bt a b) (fun _ _ _ => rfl) ?_
          by_cases h10 : 110 = n7
          · rw [show (fx_cb .ne 110 (nI n7)) = false from cb_neF (a := 110) (b := n7) (by omega) (by omega) (by omega)]
            dsimp only [cond]
            refine fe_s 2 (pc' := 107) (lc' := [(6, .int 105), (5, .int 1), (4, .int 107), (3, .int 104), (2, .int 20), (0, .ref 0), (1, .ref 22)]) (stk' := [.int 1]) (mem' := fm g tp bt a b) (fun _ _ _ => rfl) ?_
            refine fe_s 4 (pc' := 70) (lc' := [(6, .int (105 + 1)), (5, .int 1), (4, .int 107), (3, .int 104), (2, .int 20), (0, .ref 0), (1, .ref 22)]) (stk' := [.int (105 + 1)]) (mem' := fm g tp bt a b) (fun _ _ _ => rfl) ?_
            rw [show (105 + 1 : Int32) = 106 from rfl]
            refine fe_s 1 (pc' := 72) (lc' := [(6, .int 106), (5, .int 1), (4, .int 107), (3, .int 104), (2, .int 20), (0, .ref 0), (1, .ref 22)]) (stk' := [.int 107, .int 106]) (mem' := fm g tp bt a b) (fun _ _ _ => rfl) ?_
            refine fe_s 1 (pc' := cond (fx_cb .ge 106 107) 115 75) (lc' := [(6, .int 106), (5, .int 1), (4, .int 107), (3, .int 104), (2, .int 20), (0, .ref 0), (1, .ref 22)]) (stk' := []) (mem' := fm g tp bt a b) (fun _ _ _ => rfl) ?_
            rw [show (fx_cb .ge 106 107) = false from by decide]
            dsimp only [cond]
            refine fe_s 1 (pc' := 77) (lc' := [(6, .int 106), (5, .int 1), (4, .int 107), (3, .int 104), (2, .int 20), (0, .ref 0), (1, .ref 22)]) (stk' := [.int 1]) (mem' := fm g tp bt a b) (fun _ _ _ => rfl) ?_
            refine fe_s 1 (pc' := cond (fx_cb .eq 1 0) 115 80) (lc' := [(6, .int 106), (5, .int 1), (4, .int 107), (3, .int 104), (2, .int 20), (0, .ref 0), (1, .ref 22)]) (stk' := []) (mem' := fm g tp bt a b) (fun _ _ _ => rfl) ?_
            rw [show (fx_cb .eq 1 0) = false from by decide]
            dsimp only [cond]
            refine fe_s 2 (pc' := 83) (lc' := [(6, .int 106), (5, .int 1), (4, .int 107), (3, .int 104), (2, .int 20), (0, .ref 0), (1, .ref 22)]) (stk' := [.int 106, .ref 22]) (mem' := fm g tp bt a b) (fun _ _ _ => rfl) ?_
            refine fe_chr (i := 106) (by omega) (by rfl) (by rfl) ⟨by rfl, by rfl⟩ (by rfl) ?_
            rw [show sk_b.getD 106 0 = 100 from rfl]
            refine fe_s 4 (pc' := 93) (lc' := [(6, .int 106), (5, .int 1), (4, .int 107), (3, .int 104), (2, .int 20), (0, .ref 0), (1, .ref 22)]) (stk' := [.int 106, .int (g 13), .ref 0, .int 100]) (mem' := fm g tp bt a b) (fun _ _ _ => rfl) ?_
            try rw [h13]
            refine fe_s 3 (pc' := 96) (lc' := [(6, .int 106), (5, .int 1), (4, .int 107), (3, .int 104), (2, .int 20), (0, .ref 0), (1, .ref 22)]) (stk' := [.int (((nI F) + 106) - 104), .ref 0, .int 100]) (mem' := fm g tp bt a b) (fun _ _ _ => rfl) ?_
            rw [show (((nI F) + 106) - 104 : Int32) = nI ((F + 106) - 104) from by simp only [show (106 : Int32) = nI 106 from rfl, show (104 : Int32) = nI 104 from rfl, tg_sub2 (x := F + 106) (y := 104) (by omega), nI_add, fm_mul]]
            refine fe_ivV (fr_byteAt (S := S) (k := (F + 106) - 104) (g := g) (tp := tp) (bt := bt) (a := a) (b := b) h11 (by omega) (by omega)) (by omega) (by rfl) (by rfl) (by rfl) (by rfl) (by rfl) (by rfl) ?_
            rcases fm_byte_or a S ((F + 106) - 104) with ⟨e12, q13⟩ | ⟨q13, n11, qn11, e12⟩
            · rw [e12]
              refine fe_s 1 (pc' := cond (fx_cb .ne 100 (-1)) 106 102) (lc' := [(6, .int 106), (5, .int 1), (4, .int 107), (3, .int 104), (2, .int 20), (0, .ref 0), (1, .ref 22)]) (stk' := []) (mem' := fm g tp bt a b) (fun _ _ _ => rfl) ?_
              rw [show (fx_cb .ne 100 (-1)) = true from by decide]
              dsimp only [cond]
              refine fe_s 1 (pc' := 107) (lc' := [(6, .int 106), (5, .int 1), (4, .int 107), (3, .int 104), (2, .int 20), (0, .ref 0), (1, .ref 22)]) (stk' := [.int 0]) (mem' := fm g tp bt a b) (fun _ _ _ => rfl) ?_
              refine fe_w (lc' := [(6, .int 106), (5, .int 1), (4, .int 107), (3, .int 104), (2, .int 20), (0, .ref 0), (1, .ref 22)]) ⟨rfl, rfl, rfl, rfl, rfl, rfl, rfl, trivial⟩ (by show List.Nodup [6, 5, 4, 3, 2, 0, 1]; decide) (by show List.Nodup [6, 5, 4, 3, 2, 0, 1]; decide) ?_
              exact fail _ _
            · rw [e12]
              refine fe_s 1 (pc' := cond (fx_cb .ne 100 (nI n11)) 106 102) (lc' := [(6, .int 106), (5, .int 1), (4, .int 107), (3, .int 104), (2, .int 20), (0, .ref 0), (1, .ref 22)]) (stk' := []) (mem' := fm g tp bt a b) (fun _ _ _ => rfl) ?_
              by_cases h14 : 100 = n11
              · rw [show (fx_cb .ne 100 (nI n11)) = false from cb_neF (a := 100) (b := n11) (by omega) (by omega) (by omega)]
                dsimp only [cond]
                refine fe_s 2 (pc' := 107) (lc' := [(6, .int 106), (5, .int 1), (4, .int 107), (3, .int 104), (2, .int 20), (0, .ref 0), (1, .ref 22)]) (stk' := [.int 1]) (mem' := fm g tp bt a b) (fun _ _ _ => rfl) ?_
                refine fe_s 4 (pc' := 70) (lc' := [(6, .int (106 + 1)), (5, .int 1), (4, .int 107), (3, .int 104), (2, .int 20), (0, .ref 0), (1, .ref 22)]) (stk' := [.int (106 + 1)]) (mem' := fm g tp bt a b) (fun _ _ _ => rfl) ?_
                rw [show (106 + 1 : Int32) = 107 from rfl]
                refine fe_s 1 (pc' := 72) (lc' := [(6, .int 107), (5, .int 1), (4, .int 107), (3, .int 104), (2, .int 20), (0, .ref 0), (1, .ref 22)]) (stk' := [.int 107, .int 107]) (mem' := fm g tp bt a b) (fun _ _ _ => rfl) ?_
                refine fe_s 1 (pc' := cond (fx_cb .ge 107 107) 115 75) (lc' := [(6, .int 107), (5, .int 1), (4, .int 107), (3, .int 104), (2, .int 20), (0, .ref 0), (1, .ref 22)]) (stk' := []) (mem' := fm g tp bt a b) (fun _ _ _ => rfl) ?_
                rw [show (fx_cb .ge 107 107) = true from by decide]
                dsimp only [cond]
                refine fe_s 1 (pc' := 117) (lc' := [(6, .int 107), (5, .int 1), (4, .int 107), (3, .int 104), (2, .int 20), (0, .ref 0), (1, .ref 22)]) (stk' := [.int 1]) (mem' := fm g tp bt a b) (fun _ _ _ => rfl) ?_
                refine fe_s 1 (pc' := cond (fx_cb .eq 1 0) 122 120) (lc' := [(6, .int 107), (5, .int 1), (4, .int 107), (3, .int 104), (2, .int 20), (0, .ref 0), (1, .ref 22)]) (stk' := []) (mem' := fm g tp bt a b) (fun _ _ _ => rfl) ?_
                rw [show (fx_cb .eq 1 0) = false from by decide]
                dsimp only [cond]
                refine fe_s 1 (pc' := 121) (lc' := [(6, .int 107), (5, .int 1), (4, .int 107), (3, .int 104), (2, .int 20), (0, .ref 0), (1, .ref 22)]) (stk' := [.int 20]) (mem' := fm g tp bt a b) (fun _ _ _ => rfl) ?_
                exact fe_ret ⟨_, Or.inr ⟨20, by omega, rfl⟩, rfl⟩ (by rfl) (by rfl) (by rfl)
              · rw [show (fx_cb .ne 100 (nI n11)) = true from cb_neT (a := 100) (b := n11) (by omega) (by omega) (by omega)]
                dsimp only [cond]
                refine fe_s 1 (pc' := 107) (lc' := [(6, .int 106), (5, .int 1), (4, .int 107), (3, .int 104), (2, .int 20), (0, .ref 0), (1, .ref 22)]) (stk' := [.int 0]) (mem' := fm g tp bt a b) (fun _ _ _ => rfl) ?_
                refine fe_w (lc' := [(6, .int 106), (5, .int 1), (4, .int 107), (3, .int 104), (2, .int 20), (0, .ref 0), (1, .ref 22)]) ⟨rfl, rfl, rfl, rfl, rfl, rfl, rfl, trivial⟩ (by show List.Nodup [6, 5, 4, 3, 2, 0, 1]; decide) (by show List.Nodup [6, 5, 4, 3, 2, 0, 1]; decide) ?_
                exact fail _ _
          · rw [show (fx_cb .ne 110 (nI n7)) = true from cb_neT (a := 110) (b := n7) (by omega) (by omega) (by omega)]
            dsimp only [cond]
            refine fe_s 1 (pc' := 107) (lc' := [(6, .int 105), (5, .int 1), (4, .int 107), (3, .int 104), (2, .int 20), (0, .ref 0), (1, .ref 22)]) (stk' := [.int 0]) (mem' := fm g tp bt a b) (fun _ _ _ => rfl) ?_
            refine fe_w (lc' := [(6, .int 105), (5, .int 1), (4, .int 107), (3, .int 104), (2, .int 20), (0, .ref 0), (1, .ref 22)]) ⟨rfl, rfl, rfl, rfl, rfl, rfl, rfl, trivial⟩ (by show List.Nodup [6, 5, 4, 3, 2, 0, 1]; decide) (by show List.Nodup [6, 5, 4, 3, 2, 0, 1]; decide) ?_
            exact fail _ _
      · rw [show (fx_cb .ne 101 (nI n3)) = true from cb_neT (a := 101) (b := n3) (by omega) (by omega) (by omega)]
        dsimp only [cond]
        refine fe_s 1 (pc' := 107) (lc' := [(6, .int 104), (5, .int 1), (4, .int 107), (3, .int 104), (2, .int 20), (0, .ref 0), (1, .ref 22)]) (stk' := [.int 0]) (mem' := fm g tp bt a b) (fun _ _ _ => rfl) ?_
        refine fe_w (lc' := [(6, .int 104), (5, .int 1), (4, .int 107), (3, .int 104), (2, .int 20), (0, .ref 0), (1, .ref 22)]) ⟨rfl, rfl, rfl, rfl, rfl, rfl, rfl, trivial⟩ (by show List.Nodup [6, 5, 4, 3, 2, 0, 1]; decide) (by show List.Nodup [6, 5, 4, 3, 2, 0, 1]; decide) ?_
        exact fail _ _
  · rw [show (fx_cb .ne 3 (nI (E - F))) = true from cb_neT (a := 3) (b := E - F) (by omega) (by omega) (by omega)]
    dsimp only [cond]
    refine fe_s 4 (pc' := 68) (lc' := [(6, .int 104), (5, .int 0), (4, .int 107), (3, .int 104), (2, .int 20), (0, .ref 0), (1, .ref 22)]) (stk' := []) (mem' := fm g tp bt a b) (fun _ _ _ => rfl) ?_
    refine fe_s 2 (pc' := 72) (lc' := [(6, .int 104), (5, .int 0), (4, .int 107), (3, .int 104), (2, .int 20), (0, .ref 0), (1, .ref 22)]) (stk' := [.int 107, .int 104]) (mem' := fm g tp bt a b) (fun _ _ _ => rfl) ?_
    refine fe_s 1 (pc' := cond (fx_cb .ge 104 107) 115 75) (lc' := [(6, .int 104), (5, .int 0), (4, .int 107), (3, .int 104), (2, .int 20), (0, .ref 0), (1, .ref 22)]) (stk' := []) (mem' := fm g tp bt a b) (fun _ _ _ => rfl) ?_
    rw [show (fx_cb .ge 104 107) = false from by decide]
    dsimp only [cond]
    refine fe_s 1 (pc' := 77) (lc' := [(6, .int 104), (5, .int 0), (4, .int 107), (3, .int 104), (2, .int 20), (0, .ref 0), (1, .ref 22)]) (stk' := [.int 0]) (mem' := fm g tp bt a b) (fun _ _ _ => rfl) ?_
    refine fe_s 1 (pc' := cond (fx_cb .eq 0 0) 115 80) (lc' := [(6, .int 104), (5, .int 0), (4, .int 107), (3, .int 104), (2, .int 20), (0, .ref 0), (1, .ref 22)]) (stk' := []) (mem' := fm g tp bt a b) (fun _ _ _ => rfl) ?_
    rw [show (fx_cb .eq 0 0) = true from by decide]
    dsimp only [cond]
    refine fe_s 1 (pc' := 117) (lc' := [(6, .int 104), (5, .int 0), (4, .int 107), (3, .int 104), (2, .int 20), (0, .ref 0), (1, .ref 22)]) (stk' := [.int 0]) (mem' := fm g tp bt a b) (fun _ _ _ => rfl) ?_
    refine fe_s 1 (pc' := cond (fx_cb .eq 0 0) 122 120) (lc' := [(6, .int 104), (5, .int 0), (4, .int 107), (3, .int 104), (2, .int 20), (0, .ref 0), (1, .ref 22)]) (stk' := []) (mem' := fm g tp bt a b) (fun _ _ _ => rfl) ?_
    rw [show (fx_cb .eq 0 0) = true from by decide]
    dsimp only [cond]
    refine fe_s 4 (pc' := 129) (lc' := [(2, .int (20 + 1)), (6, .int 104), (5, .int 0), (4, .int 107), (3, .int 104), (0, .ref 0), (1, .ref 22)]) (stk' := [.int (107 + 1)]) (mem' := fm g tp bt a b) (fun _ _ _ => rfl) ?_
    rw [show (20 + 1 : Int32) = 21 from rfl]
    rw [show (107 + 1 : Int32) = 108 from rfl]
    refine fe_s 1 (pc' := 130) (lc' := [(3, .int 108), (2, .int 21), (6, .int 104), (5, .int 0), (4, .int 107), (0, .ref 0), (1, .ref 22)]) (stk' := []) (mem' := fm g tp bt a b) (fun _ _ _ => rfl) ?_
    refine fe_s 1 (pc' := fx_to 130 (-116)) (lc' := [(3, .int 108), (2, .int 21), (6, .int 104), (5, .int 0), (4, .int 107), (0, .ref 0), (1, .ref 22)]) (stk' := []) (mem' := fm g tp bt a b) (fun _ _ _ => rfl) ?_
    rw [show fx_to 130 (-116) = 14 from by decide]
    refine fe_w (lc' := [(3, .int 108), (2, .int 21), (0, .ref 0), (1, .ref 22)]) ⟨rfl, rfl, rfl, rfl, trivial⟩ (by show List.Nodup [3, 2, 0, 1]; decide) (by show List.Nodup [3, 2, 6, 5, 4, 0, 1]; decide) ?_
    exact fw_21 hxp
set_option maxHeartbeats 8000000 in
theorem fw_19 {S E F : Nat} (hxp : fm_xp g S E F) : fe_R 1 gk_m226 14 [(3, .int 99), (2, .int 19), (0, .ref 0), (1, .ref 22)] [] (fm g tp bt a b) (fm_FI (fm g tp bt a b)) := by
  obtain ⟨h11, hS9, h14, hES, h13, hFE, -, -, -⟩ := id hxp
  have fail : ∀ (x z : Int32), fe_R 1 gk_m226 107 [(6, .int x), (5, .int z), (4, .int 103), (3, .int 99), (2, .int 19), (0, .ref 0), (1, .ref 22)] [.int 0] (fm g tp bt a b) (fm_FI (fm g tp bt a b)) := by
    intro x z
    refine fe_s 4 (pc' := 70) (lc' := [(6, .int (x + 1)), (5, .int 0), (4, .int 103), (3, .int 99), (2, .int 19), (0, .ref 0), (1, .ref 22)]) (stk' := [.int (x + 1)]) (mem' := fm g tp bt a b) (fun _ _ _ => rfl) ?_
    refine fe_s 1 (pc' := 72) (lc' := [(6, .int (x + 1)), (5, .int 0), (4, .int 103), (3, .int 99), (2, .int 19), (0, .ref 0), (1, .ref 22)]) (stk' := [.int 103, .int (x + 1)]) (mem' := fm g tp bt a b) (fun _ _ _ => rfl) ?_
    refine fe_s 1 (pc' := cond (fx_cb .ge (x + 1) 103) 115 75) (lc' := [(6, .int (x + 1)), (5, .int 0), (4, .int 103), (3, .int 99), (2, .int 19), (0, .ref 0), (1, .ref 22)]) (stk' := []) (mem' := fm g tp bt a b) (fun _ _ _ => rfl) ?_
    cases h1 : fx_cb .ge (x + 1) 103
    · refine fe_s 1 (pc' := 77) (lc' := [(6, .int (x + 1)), (5, .int 0), (4, .int 103), (3, .int 99), (2, .int 19), (0, .ref 0), (1, .ref 22)]) (stk' := [.int 0]) (mem' := fm g tp bt a b) (fun _ _ _ => rfl) ?_
      refine fe_s 1 (pc' := cond (fx_cb .eq 0 0) 115 80) (lc' := [(6, .int (x + 1)), (5, .int 0), (4, .int 103), (3, .int 99), (2, .int 19), (0, .ref 0), (1, .ref 22)]) (stk' := []) (mem' := fm g tp bt a b) (fun _ _ _ => rfl) ?_
      rw [show (fx_cb .eq 0 0) = true from by decide]
      dsimp only [cond]
      refine fe_s 1 (pc' := 117) (lc' := [(6, .int (x + 1)), (5, .int 0), (4, .int 103), (3, .int 99), (2, .int 19), (0, .ref 0), (1, .ref 22)]) (stk' := [.int 0]) (mem' := fm g tp bt a b) (fun _ _ _ => rfl) ?_
      refine fe_s 1 (pc' := cond (fx_cb .eq 0 0) 122 120) (lc' := [(6, .int (x + 1)), (5, .int 0), (4, .int 103), (3, .int 99), (2, .int 19), (0, .ref 0), (1, .ref 22)]) (stk' := []) (mem' := fm g tp bt a b) (fun _ _ _ => rfl) ?_
      rw [show (fx_cb .eq 0 0) = true from by decide]
      dsimp only [cond]
      refine fe_s 4 (pc' := 129) (lc' := [(2, .int (19 + 1)), (6, .int (x + 1)), (5, .int 0), (4, .int 103), (3, .int 99), (0, .ref 0), (1, .ref 22)]) (stk' := [.int (103 + 1)]) (mem' := fm g tp bt a b) (fun _ _ _ => rfl) ?_
      rw [show (19 + 1 : Int32) = 20 from rfl]
      rw [show (103 + 1 : Int32) = 104 from rfl]
      refine fe_s 1 (pc' := 130) (lc' := [(3, .int 104), (2, .int 20), (6, .int (x + 1)), (5, .int 0), (4, .int 103), (0, .ref 0), (1, .ref 22)]) (stk' := []) (mem' := fm g tp bt a b) (fun _ _ _ => rfl) ?_
      refine fe_s 1 (pc' := fx_to 130 (-116)) (lc' := [(3, .int 104), (2, .int 20), (6, .int (x + 1)), (5, .int 0), (4, .int 103), (0, .ref 0), (1, .ref 22)]) (stk' := []) (mem' := fm g tp bt a b) (fun _ _ _ => rfl) ?_
      rw [show fx_to 130 (-116) = 14 from by decide]
      refine fe_w (lc' := [(3, .int 104), (2, .int 20), (0, .ref 0), (1, .ref 22)]) ⟨rfl, rfl, rfl, rfl, trivial⟩ (by show List.Nodup [3, 2, 0, 1]; decide) (by show List.Nodup [3, 2, 6, 5, 4, 0, 1]; decide) ?_
      exact fw_20 hxp
    · refine fe_s 1 (pc' := 117) (lc' := [(6, .int (x + 1)), (5, .int 0), (4, .int 103), (3, .int 99), (2, .int 19), (0, .ref 0), (1, .ref 22)]) (stk' := [.int 0]) (mem' := fm g tp bt a b) (fun _ _ _ => rfl) ?_
      refine fe_s 1 (pc' := cond (fx_cb .eq 0 0) 122 120) (lc' := [(6, .int (x + 1)), (5, .int 0), (4, .int 103), (3, .int 99), (2, .int 19), (0, .ref 0), (1, .ref 22)]) (stk' := []) (mem' := fm g tp bt a b) (fun _ _ _ => rfl) ?_
      rw [show (fx_cb .eq 0 0) = true from by decide]
      dsimp only [cond]
      refine fe_s 4 (pc' := 129) (lc' := [(2, .int (19 + 1)), (6, .int (x + 1)), (5, .int 0), (4, .int 103), (3, .int 99), (0, .ref 0), (1, .ref 22)]) (stk' := [.int (103 + 1)]) (mem' := fm g tp bt a b) (fun _ _ _ => rfl) ?_
      rw [show (19 + 1 : Int32) = 20 from rfl]
      rw [show (103 + 1 : Int32) = 104 from rfl]
      refine fe_s 1 (pc' := 130) (lc' := [(3, .int 104), (2, .int 20), (6, .int (x + 1)), (5, .int 0), (4, .int 103), (0, .ref 0), (1, .ref 22)]) (stk' := []) (mem' := fm g tp bt a b) (fun _ _ _ => rfl) ?_
      refine fe_s 1 (pc' := fx_to 130 (-116)) (lc' := [(3, .int 104), (2, .int 20), (6, .int (x + 1)), (5, .int 0), (4, .int 103), (0, .ref 0), (1, .ref 22)]) (stk' := []) (mem' := fm g tp bt a b) (fun _ _ _ => rfl) ?_
      rw [show fx_to 130 (-116) = 14 from by decide]
      refine fe_w (lc' := [(3, .int 104), (2, .int 20), (0, .ref 0), (1, .ref 22)]) ⟨rfl, rfl, rfl, rfl, trivial⟩ (by show List.Nodup [3, 2, 0, 1]; decide) (by show List.Nodup [3, 2, 6, 5, 4, 0, 1]; decide) ?_
      exact fw_20 hxp
  refine fe_s 2 (pc' := 16) (lc' := [(3, .int 99), (2, .int 19), (0, .ref 0), (1, .ref 22)]) (stk' := [.ref 22, .int 99]) (mem' := fm g tp bt a b) (fun _ _ _ => rfl) ?_
  refine fe_s 1 (pc' := 19) (lc' := [(3, .int 99), (2, .int 19), (0, .ref 0), (1, .ref 22)]) (stk' := [.int 117, .int 99]) (mem' := fm g tp bt a b) (fun _ _ _ => rfl) ?_
  refine fe_s 1 (pc' := cond (fx_cb .ge 99 117) 133 22) (lc' := [(3, .int 99), (2, .int 19), (0, .ref 0), (1, .ref 22)]) (stk' := []) (mem' := fm g tp bt a b) (fun _ _ _ => rfl) ?_
  rw [show (fx_cb .ge 99 117) = false from by decide]
  dsimp only [cond]
  refine fe_s 4 (pc' := 28) (lc' := [(4, .int 99), (3, .int 99), (2, .int 19), (0, .ref 0), (1, .ref 22)]) (stk' := [.int 99, .ref 22]) (mem' := fm g tp bt a b) (fun _ _ _ => rfl) ?_
  refine fe_chr (i := 99) (by omega) (by rfl) (by rfl) ⟨by rfl, by rfl⟩ (by rfl) ?_
  rw [show sk_b.getD 99 0 = 108 from rfl]
  refine fe_s 1 (pc' := 33) (lc' := [(4, .int 99), (3, .int 99), (2, .int 19), (0, .ref 0), (1, .ref 22)]) (stk' := [.int 32, .int 108]) (mem' := fm g tp bt a b) (fun _ _ _ => rfl) ?_
  refine fe_s 1 (pc' := cond (fx_cb .eq 108 32) 42 36) (lc' := [(4, .int 99), (3, .int 99), (2, .int 19), (0, .ref 0), (1, .ref 22)]) (stk' := []) (mem' := fm g tp bt a b) (fun _ _ _ => rfl) ?_
  rw [show (fx_cb .eq 108 32) = false from by decide]
  dsimp only [cond]
  refine fe_s 4 (pc' := 28) (lc' := [(4, .int (99 + 1)), (3, .int 99), (2, .int 19), (0, .ref 0), (1, .ref 22)]) (stk' := [.int (99 + 1), .ref 22]) (mem' := fm g tp bt a b) (fun _ _ _ => rfl) ?_
  rw [show (99 + 1 : Int32) = 100 from rfl]
  refine fe_chr (i := 100) (by omega) (by rfl) (by rfl) ⟨by rfl, by rfl⟩ (by rfl) ?_
  rw [show sk_b.getD 100 0 = 111 from rfl]
  refine fe_s 1 (pc' := 33) (lc' := [(4, .int 100), (3, .int 99), (2, .int 19), (0, .ref 0), (1, .ref 22)]) (stk' := [.int 32, .int 111]) (mem' := fm g tp bt a b) (fun _ _ _ => rfl) ?_
  refine fe_s 1 (pc' := cond (fx_cb .eq 111 32) 42 36) (lc' := [(4, .int 100), (3, .int 99), (2, .int 19), (0, .ref 0), (1, .ref 22)]) (stk' := []) (mem' := fm g tp bt a b) (fun _ _ _ => rfl) ?_
  rw [show (fx_cb .eq 111 32) = false from by decide]
  dsimp only [cond]
  refine fe_s 4 (pc' := 28) (lc' := [(4, .int (100 + 1)), (3, .int 99), (2, .int 19), (0, .ref 0), (1, .ref 22)]) (stk' := [.int (100 + 1), .ref 22]) (mem' := fm g tp bt a b) (fun _ _ _ => rfl) ?_
  rw [show (100 + 1 : Int32) = 101 from rfl]
  refine fe_chr (i := 101) (by omega) (by rfl) (by rfl) ⟨by rfl, by rfl⟩ (by rfl) ?_
  rw [show sk_b.getD 101 0 = 111 from rfl]
  refine fe_s 1 (pc' := 33) (lc' := [(4, .int 101), (3, .int 99), (2, .int 19), (0, .ref 0), (1, .ref 22)]) (stk' := [.int 32, .int 111]) (mem' := fm g tp bt a b) (fun _ _ _ => rfl) ?_
  refine fe_s 1 (pc' := cond (fx_cb .eq 111 32) 42 36) (lc' := [(4, .int 101), (3, .int 99), (2, .int 19), (0, .ref 0), (1, .ref 22)]) (stk' := []) (mem' := fm g tp bt a b) (fun _ _ _ => rfl) ?_
  rw [show (fx_cb .eq 111 32) = false from by decide]
  dsimp only [cond]
  refine fe_s 4 (pc' := 28) (lc' := [(4, .int (101 + 1)), (3, .int 99), (2, .int 19), (0, .ref 0), (1, .ref 22)]) (stk' := [.int (101 + 1), .ref 22]) (mem' := fm g tp bt a b) (fun _ _ _ => rfl) ?_
  rw [show (101 + 1 : Int32) = 102 from rfl]
  refine fe_chr (i := 102) (by omega) (by rfl) (by rfl) ⟨by rfl, by rfl⟩ (by rfl) ?_
  rw [show sk_b.getD 102 0 = 112 from rfl]
  refine fe_s 1 (pc' := 33) (lc' := [(4, .int 102), (3, .int 99), (2, .int 19), (0, .ref 0), (1, .ref 22)]) (stk' := [.int 32, .int 112]) (mem' := fm g tp bt a b) (fun _ _ _ => rfl) ?_
  refine fe_s 1 (pc' := cond (fx_cb .eq 112 32) 42 36) (lc' := [(4, .int 102), (3, .int 99), (2, .int 19), (0, .ref 0), (1, .ref 22)]) (stk' := []) (mem' := fm g tp bt a b) (fun _ _ _ => rfl) ?_
  rw [show (fx_cb .eq 112 32) = false from by decide]
  dsimp only [cond]
  refine fe_s 4 (pc' := 28) (lc' := [(4, .int (102 + 1)), (3, .int 99), (2, .int 19), (0, .ref 0), (1, .ref 22)]) (stk' := [.int (102 + 1), .ref 22]) (mem' := fm g tp bt a b) (fun _ _ _ => rfl) ?_
  rw [show (102 + 1 : Int32) = 103 from rfl]
  refine fe_chr (i := 103) (by omega) (by rfl) (by rfl) ⟨by rfl, by rfl⟩ (by rfl) ?_
  rw [show sk_b.getD 103 0 = 32 from rfl]
  refine fe_s 1 (pc' := 33) (lc' := [(4, .int 103), (3, .int 99), (2, .int 19), (0, .ref 0), (1, .ref 22)]) (stk' := [.int 32, .int 32]) (mem' := fm g tp bt a b) (fun _ _ _ => rfl) ?_
  refine fe_s 1 (pc' := cond (fx_cb .eq 32 32) 42 36) (lc' := [(4, .int 103), (3, .int 99), (2, .int 19), (0, .ref 0), (1, .ref 22)]) (stk' := []) (mem' := fm g tp bt a b) (fun _ _ _ => rfl) ?_
  rw [show (fx_cb .eq 32 32) = true from by decide]
  dsimp only [cond]
  refine fe_s 4 (pc' := 47) (lc' := [(4, .int 103), (3, .int 99), (2, .int 19), (0, .ref 0), (1, .ref 22)]) (stk' := [.ref 0, .int (103 - 99)]) (mem' := fm g tp bt a b) (fun _ _ _ => rfl) ?_
  rw [show (103 - 99 : Int32) = 4 from rfl]
  refine fe_s 4 (pc' := 55) (lc' := [(4, .int 103), (3, .int 99), (2, .int 19), (0, .ref 0), (1, .ref 22)]) (stk' := [.int ((g 14) - (g 13)), .int 4]) (mem' := fm g tp bt a b) (fun _ _ _ => rfl) ?_
  try rw [h14]
  try rw [h13]
  rw [show ((nI E) - (nI F) : Int32) = nI (E - F) from by simp only [tg_sub2 (x := E) (y := F) (by omega), nI_add, fm_mul]]
  refine fe_s 1 (pc' := cond (fx_cb .ne 4 (nI (E - F))) 62 58) (lc' := [(4, .int 103), (3, .int 99), (2, .int 19), (0, .ref 0), (1, .ref 22)]) (stk' := []) (mem' := fm g tp bt a b) (fun _ _ _ => rfl) ?_
  by_cases h2 : 4 = (E - F)
  · rw [show (fx_cb .ne 4 (nI (E - F))) = false from cb_neF (a := 4) (b := E - F) (by omega) (by omega) (by omega)]
    dsimp only [cond]
    refine fe_s 4 (pc' := 66) (lc' := [(5, .int 1), (4, .int 103), (3, .int 99), (2, .int 19), (0, .ref 0), (1, .ref 22)]) (stk' := [.int 99]) (mem' := fm g tp bt a b) (fun _ _ _ => rfl) ?_
    refine fe_s 3 (pc' := 72) (lc' := [(6, .int 99), (5, .int 1), (4, .int 103), (3, .int 99), (2, .int 19), (0, .ref 0), (1, .ref 22)]) (stk' := [.int 103, .int 99]) (mem' := fm g tp bt a b) (fun _ _ _ => rfl) ?_
    refine fe_s 1 (pc' := cond (fx_cb .ge 99 103) 115 75) (lc' := [(6, .int 99), (5, .int 1), (4, .int 103), (3, .int 99), (2, .int 19), (0, .ref 0), (1, .ref 22)]) (stk' := []) (mem' := fm g tp bt a b) (fun _ _ _ => rfl) ?_
    rw [show (fx_cb .ge 99 103) = false from by decide]
    dsimp only [cond]
    refine fe_s 1 (pc' := 77) (lc' := [(6, .int 99), (5, .int 1), (4, .int 103), (3, .int 99), (2, .int 19), (0, .ref 0), (1, .ref 22)]) (stk' := [.int 1]) (mem' := fm g tp bt a b) (fun _ _ _ => rfl) ?_
    refine fe_s 1 (pc' := cond (fx_cb .eq 1 0) 115 80) (lc' := [(6, .int 99), (5, .int 1), (4, .int 103), (3, .int 99), (2, .int 19), (0, .ref 0), (1, .ref 22)]) (stk' := []) (mem' := fm g tp bt a b) (fun _ _ _ => rfl) ?_
    rw [show (fx_cb .eq 1 0) = false from by decide]
    dsimp only [cond]
    refine fe_s 2 (pc' := 83) (lc' := [(6, .int 99), (5, .int 1), (4, .int 103), (3, .int 99), (2, .int 19), (0, .ref 0), (1, .ref 22)]) (stk' := [.int 99, .ref 22]) (mem' := fm g tp bt a b) (fun _ _ _ => rfl) ?_
    refine fe_chr (i := 99) (by omega) (by rfl) (by rfl) ⟨by rfl, by rfl⟩ (by rfl) ?_
    rw [show sk_b.getD 99 0 = 108 from rfl]
    refine fe_s 4 (pc' := 93) (lc' := [(6, .int 99), (5, .int 1), (4, .int 103), (3, .int 99), (2, .int 19), (0, .ref 0), (1, .ref 22)]) (stk' := [.int 99, .int (g 13), .ref 0, .int 108]) (mem' := fm g tp bt a b) (fun _ _ _ => rfl) ?_
    try rw [h13]
    refine fe_s 3 (pc' := 96) (lc' := [(6, .int 99), (5, .int 1), (4, .int 103), (3, .int 99), (2, .int 19), (0, .ref 0), (1, .ref 22)]) (stk' := [.int (((nI F) + 99) - 99), .ref 0, .int 108]) (mem' := fm g tp bt a b) (fun _ _ _ => rfl) ?_
    rw [show (((nI F) + 99) - 99 : Int32) = nI ((F + 99) - 99) from by simp only [show (99 : Int32) = nI 99 from rfl, tg_sub2 (x := F + 99) (y := 99) (by omega), nI_add, fm_mul]]
    refine fe_ivV (fr_byteAt (S := S) (k := (F + 99) - 99) (g := g) (tp := tp) (bt := bt) (a := a) (b := b) h11 (by omega) (by omega)) (by omega) (by rfl) (by rfl) (by rfl) (by rfl) (by rfl) (by rfl) ?_
    rcases fm_byte_or a S ((F + 99) - 99) with ⟨e4, q5⟩ | ⟨q5, n3, qn3, e4⟩
    · rw [e4]
      refine fe_s 1 (pc' := cond (fx_cb .ne 108 (-1)) 106 102) (lc' := [(6, .int 99), (5, .int 1), (4, .int 103), (3, .int 99), (2, .int 19), (0, .ref 0), (1, .ref 22)]) (stk' := []) (mem' := fm g tp bt a b) (fun _ _ _ => rfl) ?_
      rw [show (fx_cb .ne 108 (-1)) = true from by decide]
      dsimp only [cond]
      refine fe_s 1 (pc' := 107) (lc' := [(6, .int 99), (5, .int 1), (4, .int 103), (3, .int 99), (2, .int 19), (0, .ref 0), (1, .ref 22)]) (stk' := [.int 0]) (mem' := fm g tp bt a b) (fun _ _ _ => rfl) ?_
      refine fe_w (lc' := [(6, .int 99), (5, .int 1), (4, .int 103), (3, .int 99), (2, .int 19), (0, .ref 0), (1, .ref 22)]) ⟨rfl, rfl, rfl, rfl, rfl, rfl, rfl, trivial⟩ (by show List.Nodup [6, 5, 4, 3, 2, 0, 1]; decide) (by show List.Nodup [6, 5, 4, 3, 2, 0, 1]; decide) ?_
      exact fail _ _
    · rw [e4]
      refine fe_s 1 (pc' := cond (fx_cb .ne 108 (nI n3)) 106 102) (lc' := [(6, .int 99), (5, .int 1), (4, .int 103), (3, .int 99), (2, .int 19), (0, .ref 0), (1, .ref 22)]) (stk' := []) (mem' := fm g tp bt a b) (fun _ _ _ => rfl) ?_
      by_cases h6 : 108 = n3
      · rw [show (fx_cb .ne 108 (nI n3)) = false from cb_neF (a := 108) (b := n3) (by omega) (by omega) (by omega)]
        dsimp only [cond]
        refine fe_s 2 (pc' := 107) (lc' := [(6, .int 99), (5, .int 1), (4, .int 103), (3, .int 99), (2, .int 19), (0, .ref 0), (1, .ref 22)]) (stk' := [.int 1]) (mem' := fm g tp bt a b) (fun _ _ _ => rfl) ?_
        refine fe_s 4 (pc' := 70) (lc' := [(6, .int (99 + 1)), (5, .int 1), (4, .int 103), (3, .int 99), (2, .int 19), (0, .ref 0), (1, .ref 22)]) (stk' := [.int (99 + 1)]) (mem' := fm g tp bt a b) (fun _ _ _ => rfl) ?_
        rw [show (99 + 1 : Int32) = 100 from rfl]
        refine fe_s 1 (pc' := 72) (lc' := [(6, .int 100), (5, .int 1), (4, .int 103), (3, .int 99), (2, .int 19), (0, .ref 0), (1, .ref 22)]) (stk' := [.int 103, .int 100]) (mem' := fm g tp bt a b) (fun _ _ _ => rfl) ?_
        refine fe_s 1 (pc' := cond (fx_cb .ge 100 103) 115 75) (lc' := [(6, .int 100), (5, .int 1), (4, .int 103), (3, .int 99), (2, .int 19), (0, .ref 0), (1, .ref 22)]) (stk' := []) (mem' := fm g tp bt a b) (fun _ _ _ => rfl) ?_
        rw [show (fx_cb .ge 100 103) = false from by decide]
        dsimp only [cond]
        refine fe_s 1 (pc' := 77) (lc' := [(6, .int 100), (5, .int 1), (4, .int 103), (3, .int 99), (2, .int 19), (0, .ref 0), (1, .ref 22)]) (stk' := [.int 1]) (mem' := fm g tp bt a b) (fun _ _ _ => rfl) ?_
        refine fe_s 1 (pc' := cond (fx_cb .eq 1 0) 115 80) (lc' := [(6, .int 100), (5, .int 1), (4, .int 103), (3, .int 99), (2, .int 19), (0, .ref 0), (1, .ref 22)]) (stk' := []) (mem' := fm g tp bt a b) (fun _ _ _ => rfl) ?_
        rw [show (fx_cb .eq 1 0) = false from by decide]
        dsimp only [cond]
        refine fe_s 2 (pc' := 83) (lc' := [(6, .int 100), (5, .int 1), (4, .int 103), (3, .int 99), (2, .int 19), (0, .ref 0), (1, .ref 22)]) (stk' := [.int 100, .ref 22]) (mem' := fm g tp bt a b) (fun _ _ _ => rfl) ?_
        refine fe_chr (i := 100) (by omega) (by rfl) (by rfl) ⟨by rfl, by rfl⟩ (by rfl) ?_
        rw [show sk_b.getD 100 0 = 111 from rfl]
        refine fe_s 4 (pc' := 93) (lc' := [(6, .int 100), (5, .int 1), (4, .int 103), (3, .int 99), (2, .int 19), (0, .ref 0), (1, .ref 22)]) (stk' := [.int 100, .int (g 13), .ref 0, .int 111]) (mem' := fm g tp bt a b) (fun _ _ _ => rfl) ?_
        try rw [h13]
        refine fe_s 3 (pc' := 96) (lc' := [(6, .int 100), (5, .int 1), (4, .int 103), (3, .int 99), (2, .int 19), (0, .ref 0), (1, .ref 22)]) (stk' := [.int (((nI F) + 100) - 99), .ref 0, .int 111]) (mem' := fm g tp bt a b) (fun _ _ _ => rfl) ?_
        rw [show (((nI F) + 100) - 99 : Int32) = nI ((F + 100) - 99) from by simp only [show (100 : Int32) = nI 100 from rfl, show (99 : Int32) = nI 99 from rfl, tg_sub2 (x := F + 100) (y := 99) (by omega), nI_add, fm_mul]]
        refine fe_ivV (fr_byteAt (S := S) (k := (F + 100) - 99) (g := g) (tp := tp) (bt := bt) (a := a) (b := b) h11 (by omega) (by omega)) (by omega) (by rfl) (by rfl) (by rfl) (by rfl) (by rfl) (by rfl) ?_
        rcases fm_byte_or a S ((F + 100) - 99) with ⟨e8, q9⟩ | ⟨q9, n7, qn7, e8⟩
        · rw [e8]
          refine fe_s 1 (pc' := cond (fx_cb .ne 111 (-1)) 106 102) (lc' := [(6, .int 100), (5, .int 1), (4, .int 103), (3, .int 99), (2, .int 19), (0, .ref 0), (1, .ref 22)]) (stk' := []) (mem' := fm g tp bt a b) (fun _ _ _ => rfl) ?_
          rw [show (fx_cb .ne 111 (-1)) = true from by decide]
          dsimp only [cond]
          refine fe_s 1 (pc' := 107) (lc' := [(6, .int 100), (5, .int 1), (4, .int 103), (3, .int 99), (2, .int 19), (0, .ref 0), (1, .ref 22)]) (stk' := [.int 0]) (mem' := fm g tp bt a b) (fun _ _ _ => rfl) ?_
          refine fe_w (lc' := [(6, .int 100), (5, .int 1), (4, .int 103), (3, .int 99), (2, .int 19), (0, .ref 0), (1, .ref 22)]) ⟨rfl, rfl, rfl, rfl, rfl, rfl, rfl, trivial⟩ (by show List.Nodup [6, 5, 4, 3, 2, 0, 1]; decide) (by show List.Nodup [6, 5, 4, 3, 2, 0, 1]; decide) ?_
          exact fail _ _
        · rw [e8]
          refine fe_s 1 (pc' := cond (fx_cb .ne 111 (nI n7)) 106 102) (lc' := [(6, .int 100), (5, .int 1), (4, .int 103), (3, .int 99), (2, .int 19), (0, .ref 0), (1, .ref 22)]) (stk' := []) (mem' := fm g tp bt a b) (fun _ _ _ => rfl) ?_
          by_cases h10 : 111 = n7
          · rw [show (fx_cb .ne 111 (nI n7)) = false from cb_neF (a := 111) (b := n7) (by omega) (by omega) (by omega)]
            dsimp only [cond]
            refine fe_s 2 (pc' := 107) (lc' := [(6, .int 100), (5, .int 1), (4, .int 103), (3, .int 99), (2, .int 19), (0, .ref 0), (1, .ref 22)]) (stk' := [.int 1]) (mem' := fm g tp bt a b) (fun _ _ _ => rfl) ?_
            refine fe_s 4 (pc' := 70) (lc' := [(6, .int (100 + 1)), (5, .int 1), (4, .int 103), (3, .int 99), (2, .int 19), (0, .ref 0), (1, .ref 22)]) (stk' := [.int (100 + 1)]) (mem' := fm g tp bt a b) (fun _ _ _ => rfl) ?_
            rw [show (100 + 1 : Int32) = 101 from rfl]
            refine fe_s 1 (pc' := 72) (lc' := [(6, .int 101), (5, .int 1), (4, .int 103), (3, .int 99), (2, .int 19), (0, .ref 0), (1, .ref 22)]) (stk' := [.int 103, .int 101]) (mem' := fm g tp bt a b) (fun _ _ _ => rfl) ?_
            refine fe_s 1 (pc' := cond (fx_cb .ge 101 103) 115 75) (lc' := [(6, .int 101), (5, .int 1), (4, .int 103), (3, .int 99), (2, .int 19), (0, .ref 0), (1, .ref 22)]) (stk' := []) (mem' := fm g tp bt a b) (fun _ _ _ => rfl) ?_
            rw [show (fx_cb .ge 101 103) = false from by decide]
            dsimp only [cond]
            refine fe_s 1 (pc' := 77) (lc' := [(6, .int 101), (5, .int 1), (4, .int 103), (3, .int 99), (2, .int 19), (0, .ref 0), (1, .ref 22)]) (stk' := [.int 1]) (mem' := fm g tp bt a b) (fun _ _ _ => rfl) ?_
            refine fe_s 1 (pc' := cond (fx_cb .eq 1 0) 115 80) (lc' := [(6, .int 101), (5, .int 1), (4, .int 103), (3, .int 99), (2, .int 19), (0, .ref 0), (1, .ref 22)]) (stk' := []) (mem' := fm g tp bt a b) (fun _ _ _ => rfl) ?_
            rw [show (fx_cb .eq 1 0) = false from by decide]
            dsimp only [cond]
            refine fe_s 2 (pc' := 83) (lc' := [(6, .int 101), (5, .int 1), (4, .int 103), (3, .int 99), (2, .int 19), (0, .ref 0), (1, .ref 22)]) (stk' := [.int 101, .ref 22]) (mem' := fm g tp bt a b) (fun _ _ _ => rfl) ?_
            refine fe_chr (i := 101) (by omega) (by rfl) (by rfl) ⟨by rfl, by rfl⟩ (by rfl) ?_
            rw [show sk_b.getD 101 0 = 111 from rfl]
            refine fe_s 4 (pc' := 93) (lc' := [(6, .int 101), (5, .int 1), (4, .int 103), (3, .int 99), (2, .int 19), (0, .ref 0), (1, .ref 22)]) (stk' := [.int 101, .int (g 13), .ref 0, .int 111]) (mem' := fm g tp bt a b) (fun _ _ _ => rfl) ?_
            try rw [h13]
            refine fe_s 3 (pc' := 96) (lc' := [(6, .int 101), (5, .int 1), (4, .int 103), (3, .int 99), (2, .int 19), (0, .ref 0), (1, .ref 22)]) (stk' := [.int (((nI F) + 101) - 99), .ref 0, .int 111]) (mem' := fm g tp bt a b) (fun _ _ _ => rfl) ?_
            rw [show (((nI F) + 101) - 99 : Int32) = nI ((F + 101) - 99) from by simp only [show (101 : Int32) = nI 101 from rfl, show (99 : Int32) = nI 99 from rfl, tg_sub2 (x := F + 101) (y := 99) (by omega), nI_add, fm_mul]]
            refine fe_ivV (fr_byteAt (S := S) (k := (F + 101) - 99) (g := g) (tp := tp) (bt := bt) (a := a) (b := b) h11 (by omega) (by omega)) (by omega) (by rfl) (by rfl) (by rfl) (by rfl) (by rfl) (by rfl) ?_
            rcases fm_byte_or a S ((F + 101) - 99) with ⟨e12, q13⟩ | ⟨q13, n11, qn11, e12⟩
            · rw [e12]
              refine fe_s 1 (pc' := cond (fx_cb .ne 111 (-1)) 106 102) (lc' := [(6, .int 101), (5, .int 1), (4, .int 103), (3, .int 99), (2, .int 19), (0, .ref 0), (1, .ref 22)]) (stk' := []) (mem' := fm g tp bt a b) (fun _ _ _ => rfl) ?_
              rw [show (fx_cb .ne 111 (-1)) = true from by decide]
              dsimp only [cond]
              refine fe_s 1 (pc' := 107) (lc' := [(6, .int 101), (5, .int 1), (4, .int 103), (3, .int 99), (2, .int 19), (0, .ref 0), (1, .ref 22)]) (stk' := [.int 0]) (mem' := fm g tp bt a b) (fun _ _ _ => rfl) ?_
              refine fe_w (lc' := [(6, .int 101), (5, .int 1), (4, .int 103), (3, .int 99), (2, .int 19), (0, .ref 0), (1, .ref 22)]) ⟨rfl, rfl, rfl, rfl, rfl, rfl, rfl, trivial⟩ (by show List.Nodup [6, 5, 4, 3, 2, 0, 1]; decide) (by show List.Nodup [6, 5, 4, 3, 2, 0, 1]; decide) ?_
              exact fail _ _
            · rw [e12]
              refine fe_s 1 (pc' := cond (fx_cb .ne 111 (nI n11)) 106 102) (lc' := [(6, .int 101), (5, .int 1), (4, .int 103), (3, .int 99), (2, .int 19), (0, .ref 0), (1, .ref 22)]) (stk' := []) (mem' := fm g tp bt a b) (fun _ _ _ => rfl) ?_
              by_cases h14 : 111 = n11
              · rw [show (fx_cb .ne 111 (nI n11)) = false from cb_neF (a := 111) (b := n11) (by omega) (by omega) (by omega)]
                dsimp only [cond]
                refine fe_s 2 (pc' := 107) (lc' := [(6, .int 101), (5, .int 1), (4, .int 103), (3, .int 99), (2, .int 19), (0, .ref 0), (1, .ref 22)]) (stk' := [.int 1]) (mem' := fm g tp bt a b) (fun _ _ _ => rfl) ?_
                refine fe_s 4 (pc' := 70) (lc' := [(6, .int (101 + 1)), (5, .int 1), (4, .int 103), (3, .int 99), (2, .int 19), (0, .ref 0), (1, .ref 22)]) (stk' := [.int (101 + 1)]) (mem' := fm g tp bt a b) (fun _ _ _ => rfl) ?_
                rw [show (101 + 1 : Int32) = 102 from rfl]
                refine fe_s 1 (pc' := 72) (lc' := [(6, .int 102), (5, .int 1), (4, .int 103), (3, .int 99), (2, .int 19), (0, .ref 0), (1, .ref 22)]) (stk' := [.int 103, .int 102]) (mem' := fm g tp bt a b) (fun _ _ _ => rfl) ?_
                refine fe_s 1 (pc' := cond (fx_cb .ge 102 103) 115 75) (lc' := [(6, .int 102), (5, .int 1), (4, .int 103), (3, .int 99), (2, .int 19), (0, .ref 0), (1, .ref 22)]) (stk' := []) (mem' := fm g tp bt a b) (fun _ _ _ => rfl) ?_
                rw [show (fx_cb .ge 102 103) = false from by decide]
                dsimp only [cond]
                refine fe_s 1 (pc' := 77) (lc' := [(6, .int 102), (5, .int 1), (4, .int 103), (3, .int 99), (2, .int 19), (0, .ref 0), (1, .ref 22)]) (stk' := [.int 1]) (mem' := fm g tp bt a b) (fun _ _ _ => rfl) ?_
                refine fe_s 1 (pc' := cond (fx_cb .eq 1 0) 115 80) (lc' := [(6, .int 102), (5, .int 1), (4, .int 103), (3, .int 99), (2, .int 19), (0, .ref 0), (1, .ref 22)]) (stk' := []) (mem' := fm g tp bt a b) (fun _ _ _ => rfl) ?_
                rw [show (fx_cb .eq 1 0) = false from by decide]
                dsimp only [cond]
                refine fe_s 2 (pc' := 83) (lc' := [(6, .int 102), (5, .int 1), (4, .int 103), (3, .int 99), (2, .int 19), (0, .ref 0), (1, .ref 22)]) (stk' := [.int 102, .ref 22]) (mem' := fm g tp bt a b) (fun _ _ _ => rfl) ?_
                refine fe_chr (i := 102) (by omega) (by rfl) (by rfl) ⟨by rfl, by rfl⟩ (by rfl) ?_
                rw [show sk_b.getD 102 0 = 112 from rfl]
                refine fe_s 4 (pc' := 93) (lc' := [(6, .int 102), (5, .int 1), (4, .int 103), (3, .int 99), (2, .int 19), (0, .ref 0), (1, .ref 22)]) (stk' := [.int 102, .int (g 13), .ref 0, .int 112]) (mem' := fm g tp bt a b) (fun _ _ _ => rfl) ?_
                try rw [h13]
                refine fe_s 3 (pc' := 96) (lc' := [(6, .int 102), (5, .int 1), (4, .int 103), (3, .int 99), (2, .int 19), (0, .ref 0), (1, .ref 22)]) (stk' := [.int (((nI F) + 102) - 99), .ref 0, .int 112]) (mem' := fm g tp bt a b) (fun _ _ _ => rfl) ?_
                rw [show (((nI F) + 102) - 99 : Int32) = nI ((F + 102) - 99) from by simp only [show (102 : Int32) = nI 102 from rfl, show (99 : Int32) = nI 99 from rfl, tg_sub2 (x := F + 102) (y := 99) (by omega), nI_add, fm_mul]]
                refine fe_ivV (fr_byteAt (S := S) (k := (F + 102) - 99) (g := g) (tp := tp) (bt := bt) (a := a) (b := b) h11 (by omega) (by omega)) (by omega) (by rfl) (by rfl) (by rfl) (by rfl) (by rfl) (by rfl) ?_
                rcases fm_byte_or a S ((F + 102) - 99) with ⟨e16, q17⟩ | ⟨q17, n15, qn15, e16⟩
                · rw [e16]
                  refine fe_s 1 (pc' := cond (fx_cb .ne 112 (-1)) 106 102) (lc' := [(6, .int 102), (5, .int 1), (4, .int 103), (3, .int 99), (2, .int 19), (0, .ref 0), (1, .ref 22)]) (stk' := []) (mem' := fm g tp bt a b) (fun _ _ _ => rfl) ?_
                  rw [show (fx_cb .ne 112 (-1)) = true from by decide]
                  dsimp only [cond]
                  refine fe_s 1 (pc' := 107) (lc' := [(6, .int 102), (5, .int 1), (4, .int 103), (3, .int 99), (2, .int 19), (0, .ref 0), (1, .ref 22)]) (stk' := [.int 0]) (mem' := fm g tp bt a b) (fun _ _ _ => rfl) ?_
                  refine fe_w (lc' := [(6, .int 102), (5, .int 1), (4, .int 103), (3, .int 99), (2, .int 19), (0, .ref 0), (1, .ref 22)]) ⟨rfl, rfl, rfl, rfl, rfl, rfl, rfl, trivial⟩ (by show List.Nodup [6, 5, 4, 3, 2, 0, 1]; decide) (by show List.Nodup [6, 5, 4, 3, 2, 0, 1]; decide) ?_
                  exact fail _ _
                · rw [e16]
                  refine fe_s 1 (pc' := cond (fx_cb .ne 112 (nI n15)) 106 102) (lc' := [(6, .int 102), (5, .int 1), (4, .int 103), (3, .int 99), (2, .int 19), (0, .ref 0), (1, .ref 22)]) (stk' := []) (mem' := fm g tp bt a b) (fun _ _ _ => rfl) ?_
                  by_cases h18 : 112 = n15
                  · rw [show (fx_cb .ne 112 (nI n15)) = false from cb_neF (a := 112) (b := n15) (by omega) (by omega) (by omega)]
                    dsimp only [cond]
                    refine fe_s 2 (pc' := 107) (lc' := [(6, .int 102), (5, .int 1), (4, .int 103), (3, .int 99), (2, .int 19), (0, .ref 0), (1, .ref 22)]) (stk' := [.int 1]) (mem' := fm g tp bt a b) (fun _ _ _ => rfl) ?_
                    refine fe_s 4 (pc' := 70) (lc' := [(6, .int (102 + 1)), (5, .int 1), (4, .int 103), (3, .int 99), (2, .int 19), (0, .ref 0), (1, .ref 22)]) (stk' := [.int (102 + 1)]) (mem' := fm g tp bt a b) (fun _ _ _ => rfl) ?_
                    rw [show (102 + 1 : Int32) = 103 from rfl]
                    refine fe_s 1 (pc' := 72) (lc' := [(6, .int 103), (5, .int 1), (4, .int 103), (3, .int 99), (2, .int 19), (0, .ref 0), (1, .ref 22)]) (stk' := [.int 103, .int 103]) (mem' := fm g tp bt a b) (fun _ _ _ => rfl) ?_
                    refine fe_s 1 (pc' := cond (fx_cb .ge 103 103) 115 75) (lc' := [(6, .int 103), (5, .int 1), (4, .int 103), (3, .int 99), (2, .int 19), (0, .ref 0), (1, .ref 22)]) (stk' := []) (mem' := fm g tp bt a b) (fun _ _ _ => rfl) ?_
                    rw [show (fx_cb .ge 103 103) = true from by decide]
                    dsimp only [cond]
                    refine fe_s 1 (pc' := 117) (lc' := [(6, .int 103), (5, .int 1), (4, .int 103), (3, .int 99), (2, .int 19), (0, .ref 0), (1, .ref 22)]) (stk' := [.int 1]) (mem' := fm g tp bt a b) (fun _ _ _ => rfl) ?_
                    refine fe_s 1 (pc' := cond (fx_cb .eq 1 0) 122 120) (lc' := [(6, .int 103), (5, .int 1), (4, .int 103), (3, .int 99), (2, .int 19), (0, .ref 0), (1, .ref 22)]) (stk' := []) (mem' := fm g tp bt a b) (fun _ _ _ => rfl) ?_
                    rw [show (fx_cb .eq 1 0) = false from by decide]
                    dsimp only [cond]
                    refine fe_s 1 (pc' := 121) (lc' := [(6, .int 103), (5, .int 1), (4, .int 103), (3, .int 99), (2, .int 19), (0, .ref 0), (1, .ref 22)]) (stk' := [.int 19]) (mem' := fm g tp bt a b) (fun _ _ _ => rfl) ?_
                    exact fe_ret ⟨_, Or.inr ⟨19, by omega, rfl⟩, rfl⟩ (by rfl) (by rfl) (by rfl)
                  · rw [show (fx_cb .ne 112 (nI n15)) = true from cb_neT (a := 112) (b := n15) (by omega) (by omega) (by omega)]
                    dsimp only [cond]
                    refine fe_s 1 (pc' := 107) (lc' := [(6, .int 102), (5, .int 1), (4, .int 103), (3, .int 99), (2, .int 19), (0, .ref 0), (1, .ref 22)]) (stk' := [.int 0]) (mem' := fm g tp bt a b) (fun _ _ _ => rfl) ?_
                    refine fe_w (lc' := [(6, .int 102), (5, .int 1), (4, .int 103), (3, .int 99), (2, .int 19), (0, .ref 0), (1, .ref 22)]) ⟨rfl, rfl, rfl, rfl, rfl, rfl, rfl, trivial⟩ (by show List.Nodup [6, 5, 4, 3, 2, 0, 1]; decide) (by show List.Nodup [6, 5, 4, 3, 2, 0, 1]; decide) ?_
                    exact fail _ _
              · rw [show (fx_cb .ne 111 (nI n11)) = true from cb_neT (a := 111) (b := n11) (by omega) (by omega) (by omega)]
                dsimp only [cond]
                refine fe_s 1 (pc' := 107) (lc' := [(6, .int 101), (5, .int 1), (4, .int 103), (3, .int 99), (2, .int 19), (0, .ref 0), (1, .ref 22)]) (stk' := [.int 0]) (mem' := fm g tp bt a b) (fun _ _ _ => rfl) ?_
                refine fe_w (lc' := [(6, .int 101), (5, .int 1), (4, .int 103), (3, .int 99), (2, .int 19), (0, .ref 0), (1, .ref 22)]) ⟨rfl, rfl, rfl, rfl, rfl, rfl, rfl, trivial⟩ (by show List.Nodup [6, 5, 4, 3, 2, 0, 1]; decide) (by show List.Nodup [6, 5, 4, 3, 2, 0, 1]; decide) ?_
                exact fail _ _
          · rw [show (fx_cb .ne 111 (nI n7)) = true from cb_neT (a := 111) (b := n7) (by omega) (by omega) (by omega)]
            dsimp only [cond]
            refine fe_s 1 (pc' := 107) (lc' := [(6, .int 100), (5, .int 1), (4, .int 103), (3, .int 99), (2, .int 19), (0, .ref 0), (1, .ref 22)]) (stk' := [.int 0]) (mem' := fm g tp bt a b) (fun _ _ _ => rfl) ?_
            refine fe_w (lc' := [(6, .int 100), (5, .int 1), (4, .int 103), (3, .int 99), (2, .int 19), (0, .ref 0), (1, .ref 22)]) ⟨rfl, rfl, rfl, rfl, rfl, rfl, rfl, trivial⟩ (by show List.Nodup [6, 5, 4, 3, 2, 0, 1]; decide) (by show List.Nodup [6, 5, 4, 3, 2, 0, 1]; decide) ?_
            exact fail _ _
      · rw [show (fx_cb .ne 108 (nI n3)) = true from cb_neT (a := 108) (b := n3) (by omega) (by omega) (by omega)]
        dsimp only [cond]
        refine fe_s 1 (pc' := 107) (lc' := [(6, .int 99), (5, .int 1), (4, .int 103), (3, .int 99), (2, .int 19), (0, .ref 0), (1, .ref 22)]) (stk' := [.int 0]) (mem' := fm g tp bt a b) (fun _ _ _ => rfl) ?_
        refine fe_w (lc' := [(6, .int 99), (5, .int 1), (4, .int 103), (3, .int 99), (2, .int 19), (0, .ref 0), (1, .ref 22)]) ⟨rfl, rfl, rfl, rfl, rfl, rfl, rfl, trivial⟩ (by show List.Nodup [6, 5, 4, 3, 2, 0, 1]; decide) (by show List.Nodup [6, 5, 4, 3, 2, 0, 1]; decide) ?_
        exact fail _ _
  · rw [show (fx_cb .ne 4 (nI (E - F))) = true from cb_neT (a := 4) (b := E - F) (by omega) (by omega) (by omega)]
    dsimp only [cond]
    refine fe_s 4 (pc' := 68) (lc' := [(6, .int 99), (5, .int 0), (4, .int 103), (3, .int 99), (2, .int 19), (0, .ref 0), (1, .ref 22)]) (stk' := []) (mem' := fm g tp bt a b) (fun _ _ _ => rfl) ?_
    refine fe_s 2 (pc' := 72) (lc' := [(6, .int 99), (5, .int 0), (4, .int 103), (3, .int 99), (2, .int 19), (0, .ref 0), (1, .ref 22)]) (stk' := [.int 103, .int 99]) (mem' := fm g tp bt a b) (fun _ _ _ => rfl) ?_
    refine fe_s 1 (pc' := cond (fx_cb .ge 99 103) 115 75) (lc' := [(6, .int 99), (5, .int 0), (4, .int 103), (3, .int 99), (2, .int 19), (0, .ref 0), (1, .ref 22)]) (stk' := []) (mem' := fm g tp bt a b) (fun _ _ _ => rfl) ?_
    rw [show (fx_cb .ge 99 103) = false from by decide]
    dsimp only [cond]
    refine fe_s 1 (pc' := 77) (lc' := [(6, .int 99), (5, .int 0), (4, .int 103), (3, .int 99), (2, .int 19), (0, .ref 0), (1, .ref 22)]) (stk' := [.int 0]) (mem' := fm g tp bt a b) (fun _ _ _ => rfl) ?_
    refine fe_s 1 (pc' := cond (fx_cb .eq 0 0) 115 80) (lc' := [(6, .int 99), (5, .int 0), (4, .int 103), (3, .int 99), (2, .int 19), (0, .ref 0), (1, .ref 22)]) (stk' := []) (mem' := fm g tp bt a b) (fun _ _ _ => rfl) ?_
    rw [show (fx_cb .eq 0 0) = true from by decide]
    dsimp only [cond]
    refine fe_s 1 (pc' := 117) (lc' := [(6, .int 99), (5, .int 0), (4, .int 103), (3, .int 99), (2, .int 19), (0, .ref 0), (1, .ref 22)]) (stk' := [.int 0]) (mem' := fm g tp bt a b) (fun _ _ _ => rfl) ?_
    refine fe_s 1 (pc' := cond (fx_cb .eq 0 0) 122 120) (lc' := [(6, .int 99), (5, .int 0), (4, .int 103), (3, .int 99), (2, .int 19), (0, .ref 0), (1, .ref 22)]) (stk' := []) (mem' := fm g tp bt a b) (fun _ _ _ => rfl) ?_
    rw [show (fx_cb .eq 0 0) = true from by decide]
    dsimp only [cond]
    refine fe_s 4 (pc' := 129) (lc' := [(2, .int (19 + 1)), (6, .int 99), (5, .int 0), (4, .int 103), (3, .int 99), (0, .ref 0), (1, .ref 22)]) (stk' := [.int (103 + 1)]) (mem' := fm g tp bt a b) (fun _ _ _ => rfl) ?_
    rw [show (19 + 1 : Int32) = 20 from rfl]
    rw [show (103 + 1 : Int32) = 104 from rfl]
    refine fe_s 1 (pc' := 130) (lc' := [(3, .int 104), (2, .int 20), (6, .int 99), (5, .int 0), (4, .int 103), (0, .ref 0), (1, .ref 22)]) (stk' := []) (mem' := fm g tp bt a b) (fun _ _ _ => rfl) ?_
    refine fe_s 1 (pc' := fx_to 130 (-116)) (lc' := [(3, .int 104), (2, .int 20), (6, .int 99), (5, .int 0), (4, .int 103), (0, .ref 0), (1, .ref 22)]) (stk' := []) (mem' := fm g tp bt a b) (fun _ _ _ => rfl) ?_
    rw [show fx_to 130 (-116) = 14 from by decide]
    refine fe_w (lc' := [(3, .int 104), (2, .int 20), (0, .ref 0), (1, .ref 22)]) ⟨rfl, rfl, rfl, rfl, trivial⟩ (by show List.Nodup [3, 2, 0, 1]; decide) (by show List.Nodup [3, 2, 6, 5, 4, 0, 1]; decide) ?_
    exact fw_20 hxp
end FIW1
