/-! ===== fx: which word it is (6) ===== -/
section FIW6
variable {g : Nat → Int32} {tp bt : Int64} {a : Nat → Nat → Int32} {b : Nat → Nat → Int64}
set_option maxHeartbeats 8000000 in
theorem fw_9 {S E F : Nat} (hxp : fm_xp g S E F) : fe_R 1 gk_m226 14 [(3, .int 53), (2, .int 9), (0, .ref 0), (1, .ref 22)] [] (fm g tp bt a b) (fm_FI (fm g tp bt a b)) := by
  obtain ⟨h11, hS9, h14, hES, h13, hFE, -, -, -⟩ := id hxp
  have fail : ∀ (x z : Int32), fe_R 1 gk_m226 107 [(6, .int x), (5, .int z), (4, .int 59), (3, .int 53), (2, .int 9), (0, .ref 0), (1, .ref 22)] [.int 0] (fm g tp bt a b) (fm_FI (fm g tp bt a b)) := by
    intro x z
    refine fe_s 4 (pc' := 70) (lc' := [(6, .int (x + 1)), (5, .int 0), (4, .int 59), (3, .int 53), (2, .int 9), (0, .ref 0), (1, .ref 22)]) (stk' := [.int (x + 1)]) (mem' := fm g tp bt a b) (fun _ _ _ => rfl) ?_
    refine fe_s 1 (pc' := 72) (lc' := [(6, .int (x + 1)), (5, .int 0), (4, .int 59), (3, .int 53), (2, .int 9), (0, .ref 0), (1, .ref 22)]) (stk' := [.int 59, .int (x + 1)]) (mem' := fm g tp bt a b) (fun _ _ _ => rfl) ?_
    refine fe_s 1 (pc' := cond (fx_cb .ge (x + 1) 59) 115 75) (lc' := [(6, .int (x + 1)), (5, .int 0), (4, .int 59), (3, .int 53), (2, .int 9), (0, .ref 0), (1, .ref 22)]) (stk' := []) (mem' := fm g tp bt a b) (fun _ _ _ => rfl) ?_
    cases h1 : fx_cb .ge (x + 1) 59
    · refine fe_s 1 (pc' := 77) (lc' := [(6, .int (x + 1)), (5, .int 0), (4, .int 59), (3, .int 53), (2, .int 9), (0, .ref 0), (1, .ref 22)]) (stk' := [.int 0]) (mem' := fm g tp bt a b) (fun _ _ _ => rfl) ?_
      refine fe_s 1 (pc' := cond (fx_cb .eq 0 0) 115 80) (lc' := [(6, .int (x + 1)), (5, .int 0), (4, .int 59), (3, .int 53), (2, .int 9), (0, .ref 0), (1, .ref 22)]) (stk' := []) (mem' := fm g tp bt a b) (fun _ _ _ => rfl) ?_
      rw [show (fx_cb .eq 0 0) = true from by decide]
      dsimp only [cond]
      refine fe_s 1 (pc' := 117) (lc' := [(6, .int (x + 1)), (5, .int 0), (4, .int 59), (3, .int 53), (2, .int 9), (0, .ref 0), (1, .ref 22)]) (stk' := [.int 0]) (mem' := fm g tp bt a b) (fun _ _ _ => rfl) ?_
      refine fe_s 1 (pc' := cond (fx_cb .eq 0 0) 122 120) (lc' := [(6, .int (x + 1)), (5, .int 0), (4, .int 59), (3, .int 53), (2, .int 9), (0, .ref 0), (1, .ref 22)]) (stk' := []) (mem' := fm g tp bt a b) (fun _ _ _ => rfl) ?_
      rw [show (fx_cb .eq 0 0) = true from by decide]
      dsimp only [cond]
      refine fe_s 4 (pc' := 129) (lc' := [(2, .int (9 + 1)), (6, .int (x + 1)), (5, .int 0), (4, .int 59), (3, .int 53), (0, .ref 0), (1, .ref 22)]) (stk' := [.int (59 + 1)]) (mem' := fm g tp bt a b) (fun _ _ _ => rfl) ?_
      rw [show (9 + 1 : Int32) = 10 from rfl]
      rw [show (59 + 1 : Int32) = 60 from rfl]
      refine fe_s 1 (pc' := 130) (lc' := [(3, .int 60), (2, .int 10), (6, .int (x + 1)), (5, .int 0), (4, .int 59), (0, .ref 0), (1, .ref 22)]) (stk' := []) (mem' := fm g tp bt a b) (fun _ _ _ => rfl) ?_
      refine fe_s 1 (pc' := fx_to 130 (-116)) (lc' := [(3, .int 60), (2, .int 10), (6, .int (x + 1)), (5, .int 0), (4, .int 59), (0, .ref 0), (1, .ref 22)]) (stk' := []) (mem' := fm g tp bt a b) (fun _ _ _ => rfl) ?_
      rw [show fx_to 130 (-116) = 14 from by decide]
      refine fe_w (lc' := [(3, .int 60), (2, .int 10), (0, .ref 0), (1, .ref 22)]) ⟨rfl, rfl, rfl, rfl, trivial⟩ (by show List.Nodup [3, 2, 0, 1]; decide) (by show List.Nodup [3, 2, 6, 5, 4, 0, 1]; decide) ?_
      exact fw_10 hxp
    · refine fe_s 1 (pc' := 117) (lc' := [(6, .int (x + 1)), (5, .int 0), (4, .int 59), (3, .int 53), (2, .int 9), (0, .ref 0), (1, .ref 22)]) (stk' := [.int 0]) (mem' := fm g tp bt a b) (fun _ _ _ => rfl) ?_
      refine fe_s 1 (pc' := cond (fx_cb .eq 0 0) 122 120) (lc' := [(6, .int (x + 1)), (5, .int 0), (4, .int 59), (3, .int 53), (2, .int 9), (0, .ref 0), (1, .ref 22)]) (stk' := []) (mem' := fm g tp bt a b) (fun _ _ _ => rfl) ?_
      rw [show (fx_cb .eq 0 0) = true from by decide]
      dsimp only [cond]
      refine fe_s 4 (pc' := 129) (lc' := [(2, .int (9 + 1)), (6, .int (x + 1)), (5, .int 0), (4, .int 59), (3, .int 53), (0, .ref 0), (1, .ref 22)]) (stk' := [.int (59 + 1)]) (mem' := fm g tp bt a b) (fun _ _ _ => rfl) ?_
      rw [show (9 + 1 : Int32) = 10 from rfl]
      rw [show (59 + 1 : Int32) = 60 from rfl]
      refine fe_s 1 (pc' := 130) (lc' := [(3, .int 60), (2, .int 10), (6, .int (x + 1)), (5, .int 0), (4, .int 59), (0, .ref 0), (1, .ref 22)]) (stk' := []) (mem' := fm g tp bt a b) (fun _ _ _ => rfl) ?_
      refine fe_s 1 (pc' := fx_to 130 (-116)) (lc' := [(3, .int 60), (2, .int 10), (6, .int (x + 1)), (5, .int 0), (4, .int 59), (0, .ref 0), (1, .ref 22)]) (stk' := []) (mem' := fm g tp bt a b) (fun _ _ _ => rfl) ?_
      rw [show fx_to 130 (-116) = 14 from by decide]
      refine fe_w (lc' := [(3, .int 60), (2, .int 10), (0, .ref 0), (1, .ref 22)]) ⟨rfl, rfl, rfl, rfl, trivial⟩ (by show List.Nodup [3, 2, 0, 1]; decide) (by show List.Nodup [3, 2, 6, 5, 4, 0, 1]; decide) ?_
      exact fw_10 hxp
  refine fe_s 2 (pc' := 16) (lc' := [(3, .int 53), (2, .int 9), (0, .ref 0), (1, .ref 22)]) (stk' := [.ref 22, .int 53]) (mem' := fm g tp bt a b) (fun _ _ _ => rfl) ?_
  refine fe_s 1 (pc' := 19) (lc' := [(3, .int 53), (2, .int 9), (0, .ref 0), (1, .ref 22)]) (stk' := [.int 117, .int 53]) (mem' := fm g tp bt a b) (fun _ _ _ => rfl) ?_
  refine fe_s 1 (pc' := cond (fx_cb .ge 53 117) 133 22) (lc' := [(3, .int 53), (2, .int 9), (0, .ref 0), (1, .ref 22)]) (stk' := []) (mem' := fm g tp bt a b) (fun _ _ _ => rfl) ?_
  rw [show (fx_cb .ge 53 117) = false from by decide]
  dsimp only [cond]
  refine fe_s 4 (pc' := 28) (lc' := [(4, .int 53), (3, .int 53), (2, .int 9), (0, .ref 0), (1, .ref 22)]) (stk' := [.int 53, .ref 22]) (mem' := fm g tp bt a b) (fun _ _ _ => rfl) ?_
  refine fe_chr (i := 53) (by omega) (by rfl) (by rfl) ⟨by rfl, by rfl⟩ (by rfl) ?_
  rw [show sk_b.getD 53 0 = 119 from rfl]
  refine fe_s 1 (pc' := 33) (lc' := [(4, .int 53), (3, .int 53), (2, .int 9), (0, .ref 0), (1, .ref 22)]) (stk' := [.int 32, .int 119]) (mem' := fm g tp bt a b) (fun _ _ _ => rfl) ?_
  refine fe_s 1 (pc' := cond (fx_cb .eq 119 32) 42 36) (lc' := [(4, .int 53), (3, .int 53), (2, .int 9), (0, .ref 0), (1, .ref 22)]) (stk' := []) (mem' := fm g tp bt a b) (fun _ _ _ => rfl) ?_
  rw [show (fx_cb .eq 119 32) = false from by decide]
  dsimp only [cond]
  refine fe_s 4 (pc' := 28) (lc' := [(4, .int (53 + 1)), (3, .int 53), (2, .int 9), (0, .ref 0), (1, .ref 22)]) (stk' := [.int (53 + 1), .ref 22]) (mem' := fm g tp bt a b) (fun _ _ _ => rfl) ?_
  rw [show (53 + 1 : Int32) = 54 from rfl]
  refine fe_chr (i := 54) (by omega) (by rfl) (by rfl) ⟨by rfl, by rfl⟩ (by rfl) ?_
  rw [show sk_b.getD 54 0 = 101 from rfl]
  refine fe_s 1 (pc' := 33) (lc' := [(4, .int 54), (3, .int 53), (2, .int 9), (0, .ref 0), (1, .ref 22)]) (stk' := [.int 32, .int 101]) (mem' := fm g tp bt a b) (fun _ _ _ => rfl) ?_
  refine fe_s 1 (pc' := cond (fx_cb .eq 101 32) 42 36) (lc' := [(4, .int 54), (3, .int 53), (2, .int 9), (0, .ref 0), (1, .ref 22)]) (stk' := []) (mem' := fm g tp bt a b) (fun _ _ _ => rfl) ?_
  rw [show (fx_cb .eq 101 32) = false from by decide]
  dsimp only [cond]
  refine fe_s 4 (pc' := 28) (lc' := [(4, .int (54 + 1)), (3, .int 53), (2, .int 9), (0, .ref 0), (1, .ref 22)]) (stk' := [.int (54 + 1), .ref 22]) (mem' := fm g tp bt a b) (fun _ _ _ => rfl) ?_
  rw [show (54 + 1 : Int32) = 55 from rfl]
  refine fe_chr (i := 55) (by omega) (by rfl) (by rfl) ⟨by rfl, by rfl⟩ (by rfl) ?_
  rw [show sk_b.getD 55 0 = 105 from rfl]
  refine fe_s 1 (pc' := 33) (lc' := [(4, .int 55), (3, .int 53), (2, .int 9), (0, .ref 0), (1, .ref 22)]) (stk' := [.int 32, .int 105]) (mem' := fm g tp bt a b) (fun _ _ _ => rfl) ?_
  refine fe_s 1 (pc' := cond (fx_cb .eq 105 32) 42 36) (lc' := [(4, .int 55), (3, .int 53), (2, .int 9), (0, .ref 0), (1, .ref 22)]) (stk' := []) (mem' := fm g tp bt a b) (fun _ _ _ => rfl) ?_
  rw [show (fx_cb .eq 105 32) = false from by decide]
  dsimp only [cond]
  refine fe_s 4 (pc' := 28) (lc' := [(4, .int (55 + 1)), (3, .int 53), (2, .int 9), (0, .ref 0), (1, .ref 22)]) (stk' := [.int (55 + 1), .ref 22]) (mem' := fm g tp bt a b) (fun _ _ _ => rfl) ?_
  rw [show (55 + 1 : Int32) = 56 from rfl]
  refine fe_chr (i := 56) (by omega) (by rfl) (by rfl) ⟨by rfl, by rfl⟩ (by rfl) ?_
  rw [show sk_b.getD 56 0 = 103 from rfl]
  refine fe_s 1 (pc' := 33) (lc' := [(4, .int 56), (3, .int 53), (2, .int 9), (0, .ref 0), (1, .ref 22)]) (stk' := [.int 32, .int 103]) (mem' := fm g tp bt a b) (fun _ _ _ => rfl) ?_
  refine fe_s 1 (pc' := cond (fx_cb .eq 103 32) 42 36) (lc' := [(4, .int 56), (3, .int 53), (2, .int 9), (0, .ref 0), (1, .ref 22)]) (stk' := []) (mem' := fm g tp bt a b) (fun _ _ _ => rfl) ?_
  rw [show (fx_cb .eq 103 32) = false from by decide]
  dsimp only [cond]
  refine fe_s 4 (pc' := 28) (lc' := [(4, .int (56 + 1)), (3, .int 53), (2, .int 9), (0, .ref 0), (1, .ref 22)]) (stk' := [.int (56 + 1), .ref 22]) (mem' := fm g tp bt a b) (fun _ _ _ => rfl) ?_
  rw [show (56 + 1 : Int32) = 57 from rfl]
  refine fe_chr (i := 57) (by omega) (by rfl) (by rfl) ⟨by rfl, by rfl⟩ (by rfl) ?_
  rw [show sk_b.getD 57 0 = 104 from rfl]
  refine fe_s 1 (pc' := 33) (lc' := [(4, .int 57), (3, .int 53), (2, .int 9), (0, .ref 0), (1, .ref 22)]) (stk' := [.int 32, .int 104]) (mem' := fm g tp bt a b) (fun _ _ _ => rfl) ?_
  refine fe_s 1 (pc' := cond (fx_cb .eq 104 32) 42 36) (lc' := [(4, .int 57), (3, .int 53), (2, .int 9), (0, .ref 0), (1, .ref 22)]) (stk' := []) (mem' := fm g tp bt a b) (fun _ _ _ => rfl) ?_
  rw [show (fx_cb .eq 104 32) = false from by decide]
  dsimp only [cond]
  refine fe_s 4 (pc' := 28) (lc' := [(4, .int (57 + 1)), (3, .int 53), (2, .int 9), (0, .ref 0), (1, .ref 22)]) (stk' := [.int (57 + 1), .ref 22]) (mem' := fm g tp bt a b) (fun _ _ _ => rfl) ?_
  rw [show (57 + 1 : Int32) = 58 from rfl]
  refine fe_chr (i := 58) (by omega) (by rfl) (by rfl) ⟨by rfl, by rfl⟩ (by rfl) ?_
  rw [show sk_b.getD 58 0 = 115 from rfl]
  refine fe_s 1 (pc' := 33) (lc' := [(4, .int 58), (3, .int 53), (2, .int 9), (0, .ref 0), (1, .ref 22)]) (stk' := [.int 32, .int 115]) (mem' := fm g tp bt a b) (fun _ _ _ => rfl) ?_
  refine fe_s 1 (pc' := cond (fx_cb .eq 115 32) 42 36) (lc' := [(4, .int 58), (3, .int 53), (2, .int 9), (0, .ref 0), (1, .ref 22)]) (stk' := []) (mem' := fm g tp bt a b) (fun _ _ _ => rfl) ?_
  rw [show (fx_cb .eq 115 32) = false from by decide]
  dsimp only [cond]
  refine fe_s 4 (pc' := 28) (lc' := [(4, .int (58 + 1)), (3, .int 53), (2, .int 9), (0, .ref 0), (1, .ref 22)]) (stk' := [.int (58 + 1), .ref 22]) (mem' := fm g tp bt a b) (fun _ _ _ => rfl) ?_
  rw [show (58 + 1 : Int32) = 59 from rfl]
  refine fe_chr (i := 59) (by omega) (by rfl) (by rfl) ⟨by rfl, by rfl⟩ (by rfl) ?_
  rw [show sk_b.getD 59 0 = 32 from rfl]
  refine fe_s 1 (pc' := 33) (lc' := [(4, .int 59), (3, .int 53), (2, .int 9), (0, .ref 0), (1, .ref 22)]) (stk' := [.int 32, .int 32]) (mem' := fm g tp bt a b) (fun _ _ _ => rfl) ?_
  refine fe_s 1 (pc' := cond (fx_cb .eq 32 32) 42 36) (lc' := [(4, .int 59), (3, .int 53), (2, .int 9), (0, .ref 0), (1, .ref 22)]) (stk' := []) (mem' := fm g tp bt a b) (fun _ _ _ => rfl) ?_
  rw [show (fx_cb .eq 32 32) = true from by decide]
  dsimp only [cond]
  refine fe_s 4 (pc' := 47) (lc' := [(4, .int 59), (3, .int 53), (2, .int 9), (0, .ref 0), (1, .ref 22)]) (stk' := [.ref 0, .int (59 - 53)]) (mem' := fm g tp bt a b) (fun _ _ _ => rfl) ?_
  rw [show (59 - 53 : Int32) = 6 from rfl]
  refine fe_s 4 (pc' := 55) (lc' := [(4, .int 59), (3, .int 53), (2, .int 9), (0, .ref 0), (1, .ref 22)]) (stk' := [.int ((g 14) - (g 13)), .int 6]) (mem' := fm g tp bt a b) (fun _ _ _ => rfl) ?_
  try rw [h14]
  try rw [h13]
  rw [show ((nI E) - (nI F) : Int32) = nI (E - F) from by simp only [tg_sub2 (x := E) (y := F) (by omega), nI_add, fm_mul]]
  refine fe_s 1 (pc' := cond (fx_cb .ne 6 (nI (E - F))) 62 58) (lc' := [(4, .int 59), (3, .int 53), (2, .int 9), (0, .ref 0), (1, .ref 22)]) (stk' := []) (mem' := fm g tp bt a b) (fun _ _ _ => rfl) ?_
  by_cases h2 : 6 = (E - F)
  · rw [show (fx_cb .ne 6 (nI (E - F))) = false from cb_neF (a := 6) (b := E - F) (by omega) (by omega) (by omega)]
    dsimp only [cond]
    refine fe_s 4 (pc' := 66) (lc' := [(5, .int 1), (4, .int 59), (3, .int 53), (2, .int 9), (0, .ref 0), (1, .ref 22)]) (stk' := [.int 53]) (mem' := fm g tp bt a b) (fun _ _ _ => rfl) ?_
    refine fe_s 3 (pc' := 72) (lc' := [(6, .int 53), (5, .int 1), (4, .int 59), (3, .int 53), (2, .int 9), (0, .ref 0), (1, .ref 22)]) (stk' := [.int 59, .int 53]) (mem' := fm g tp bt a b) (fun _ _ _ => rfl) ?_
    refine fe_s 1 (pc' := cond (fx_cb .ge 53 59) 115 75) (lc' := [(6, .int 53), (5, .int 1), (4, .int 59), (3, .int 53), (2, .int 9), (0, .ref 0), (1, .ref 22)]) (stk' := []) (mem' := fm g tp bt a b) (fun _ _ _ => rfl) ?_
    rw [show (fx_cb .ge 53 59) = false from by decide]
    dsimp only [cond]
    refine fe_s 1 (pc' := 77) (lc' := [(6, .int 53), (5, .int 1), (4, .int 59), (3, .int 53), (2, .int 9), (0, .ref 0), (1, .ref 22)]) (stk' := [.int 1]) (mem' := fm g tp bt a b) (fun _ _ _ => rfl) ?_
    refine fe_s 1 (pc' := cond (fx_cb .eq 1 0) 115 80) (lc' := [(6, .int 53), (5, .int 1), (4, .int 59), (3, .int 53), (2, .int 9), (0, .ref 0), (1, .ref 22)]) (stk' := []) (mem' := fm g tp bt a b) (fun _ _ _ => rfl) ?_
    rw [show (fx_cb .eq 1 0) = false from by decide]
    dsimp only [cond]
    refine fe_s 2 (pc' := 83) (lc' := [(6, .int 53), (5, .int 1), (4, .int 59), (3, .int 53), (2, .int 9), (0, .ref 0), (1, .ref 22)]) (stk' := [.int 53, .ref 22]) (mem' := fm g tp bt a b) (fun _ _ _ => rfl) ?_
    refine fe_chr (i := 53) (by omega) (by rfl) (by rfl) ⟨by rfl, by rfl⟩ (by rfl) ?_
    rw [show sk_b.getD 53 0 = 119 from rfl]
    refine fe_s 4 (pc' := 93) (lc' := [(6, .int 53), (5, .int 1), (4, .int 59), (3, .int 53), (2, .int 9), (0, .ref 0), (1, .ref 22)]) (stk' := [.int 53, .int (g 13), .ref 0, .int 119]) (mem' := fm g tp bt a b) (fun _ _ _ => rfl) ?_
    try rw [h13]
    refine fe_s 3 (pc' := 96) (lc' := [(6, .int 53), (5, .int 1), (4, .int 59), (3, .int 53), (2, .int 9), (0, .ref 0), (1, .ref 22)]) (stk' := [.int (((nI F) + 53) - 53), .ref 0, .int 119]) (mem' := fm g tp bt a b) (fun _ _ _ => rfl) ?_
    rw [show (((nI F) + 53) - 53 : Int32) = nI ((F + 53) - 53) from by simp only [show (53 : Int32) = nI 53 from rfl, tg_sub2 (x := F + 53) (y := 53) (by omega), nI_add, fm_mul]]
    refine fe_ivV (fr_byteAt (S := S) (k := (F + 53) - 53) (g := g) (tp := tp) (bt := bt) (a := a) (b := b) h11 (by omega) (by omega)) (by omega) (by rfl) (by rfl) (by rfl) (by rfl) (by rfl) (by rfl) ?_
    rcases fm_byte_or a S ((F + 53) - 53) with ⟨e4, q5⟩ | ⟨q5, n3, qn3, e4⟩
    · rw [e4]
      refine fe_s 1 (pc' := cond (fx_cb .ne 119 (-1)) 106 102) (lc' := [(6, .int 53), (5, .int 1), (4, .int 59), (3, .int 53), (2, .int 9), (0, .ref 0), (1, .ref 22)]) (stk' := []) (mem' := fm g tp bt a b) (fun _ _ _ => rfl) ?_
      rw [show (fx_cb .ne 119 (-1)) = true from by decide]
      dsimp only [cond]
      refine fe_s 1 (pc' := 107) (lc' := [(6, .int 53), (5, .int 1), (4, .int 59), (3, .int 53), (2, .int 9), (0, .ref 0), (1, .ref 22)]) (stk' := [.int 0]) (mem' := fm g tp bt a b) (fun _ _ _ => rfl) ?_
      refine fe_w (lc' := [(6, .int 53), (5, .int 1), (4, .int 59), (3, .int 53), (2, .int 9), (0, .ref 0), (1, .ref 22)]) ⟨rfl, rfl, rfl, rfl, rfl, rfl, rfl, trivial⟩ (by show List.Nodup [6, 5, 4, 3, 2, 0, 1]; decide) (by show List.Nodup [6, 5, 4, 3, 2, 0, 1]; decide) ?_
      exact fail _ _
    · rw [e4]
      refine fe_s 1 (pc' := cond (fx_cb .ne 119 (nI n3)) 106 102) (lc' := [(6, .int 53), (5, .int 1), (4, .int 59), (3, .int 53), (2, .int 9), (0, .ref 0), (1, .ref 22)]) (stk' := []) (mem' := fm g tp bt a b) (fun _ _ _ => rfl) ?_
      by_cases h6 : 119 = n3
      · rw [show (fx_cb .ne 119 (nI n3)) = false from cb_neF (a := 119) (b := n3) (by omega) (by omega) (by omega)]
        dsimp only [cond]
        refine fe_s 2 (pc' := 107) (lc' := [(6, .int 53), (5, .int 1), (4, .int 59), (3, .int 53), (2, .int 9), (0, .ref 0), (1, .ref 22)]) (stk' := [.int 1]) (mem' := fm g tp bt a b) (fun _ _ _ => rfl) ?_
        refine fe_s 4 (pc' := 70) (lc' := [(6, .int (53 + 1)), (5, .int 1), (4, .int 59), (3, .int 53), (2, .int 9), (0, .ref 0), (1, .ref 22)]) (stk' := [.int (53 + 1)]) (mem' := fm g tp bt a b) (fun _ _ _ => rfl) ?_
        rw [show (53 + 1 : Int32) = 54 from rfl]
        refine fe_s 1 (pc' := 72) (lc' := [(6, .int 54), (5, .int 1), (4, .int 59), (3, .int 53), (2, .int 9), (0, .ref 0), (1, .ref 22)]) (stk' := [.int 59, .int 54]) (mem' := fm g tp bt a b) (fun _ _ _ => rfl) ?_
        refine fe_s 1 (pc' := cond (fx_cb .ge 54 59) 115 75) (lc' := [(6, .int 54), (5, .int 1), (4, .int 59), (3, .int 53), (2, .int 9), (0, .ref 0), (1, .ref 22)]) (stk' := []) (mem' := fm g tp bt a b) (fun _ _ _ => rfl) ?_
        rw [show (fx_cb .ge 54 59) = false from by decide]
        dsimp only [cond]
        refine fe_s 1 (pc' := 77) (lc' := [(6, .int 54), (5, .int 1), (4, .int 59), (3, .int 53), (2, .int 9), (0, .ref 0), (1, .ref 22)]) (stk' := [.int 1]) (mem' := fm g tp bt a b) (fun _ _ _ => rfl) ?_
        refine fe_s 1 (pc' := cond (fx_cb .eq 1 0) 115 80) (lc' := [(6, .int 54), (5, .int 1), (4, .int 59), (3, .int 53), (2, .int 9), (0, .ref 0), (1, .ref 22)]) (stk' := []) (mem' := fm g tp bt a b) (fun _ _ _ => rfl) ?_
        rw [show (fx_cb .eq 1 0) = false from by decide]
        dsimp only [cond]
        refine fe_s 2 (pc' := 83) (lc' := [(6, .int 54), (5, .int 1), (4, .int 59), (3, .int 53), (2, .int 9), (0, .ref 0), (1, .ref 22)]) (stk' := [.int 54, .ref 22]) (mem' := fm g tp bt a b) (fun _ _ _ => rfl) ?_
        refine fe_chr (i := 54) (by omega) (by rfl) (by rfl) ⟨by rfl, by rfl⟩ (by rfl) ?_
        rw [show sk_b.getD 54 0 = 101 from rfl]
        refine fe_s 4 (pc' := 93) (lc' := [(6, .int 54), (5, .int 1), (4, .int 59), (3, .int 53), (2, .int 9), (0, .ref 0), (1, .ref 22)]) (stk' := [.int 54, .int (g 13), .ref 0, .int 101]) (mem' := fm g tp bt a b) (fun _ _ _ => rfl) ?_
        try rw [h13]
        refine fe_s 3 (pc' := 96) (lc' := [(6, .int 54), (5, .int 1), (4, .int 59), (3, .int 53), (2, .int 9), (0, .ref 0), (1, .ref 22)]) (stk' := [.int (((nI F) + 54) - 53), .ref 0, .int 101]) (mem' := fm g tp bt a b) (fun _ _ _ => rfl) ?_
        rw [show (((nI F) + 54) - 53 : Int32) = nI ((F + 54) - 53) from by simp only [show (54 : Int32) = nI 54 from rfl, show (53 : Int32) = nI 53 from rfl, tg_sub2 (x := F + 54) (y := 53) (by omega), nI_add, fm_mul]]
        refine fe_ivV (fr_byteAt (S := S) (k := (F + 54) - 53) (g := g) (tp := tp) (bt := bt) (a := a) (b := b) h11 (by omega) (by omega)) (by omega) (by rfl) (by rfl) (by rfl) (by rfl) (by rfl) (by rfl) ?_
        rcases fm_byte_or a S ((F + 54) - 53) with ⟨e8, q9⟩ | ⟨q9, n7, qn7, e8⟩
        · rw [e8]
          refine fe_s 1 (pc' := cond (fx_cb .ne 101 (-1)) 106 102) (lc' := [(6, .int 54), (5, .int 1), (4, .int 59), (3, .int 53), (2, .int 9), (0, .ref 0), (1, .ref 22)]) (stk' := []) (mem' := fm g tp bt a b) (fun _ _ _ => rfl) ?_
          rw [show (fx_cb .ne 101 (-1)) = true from by decide]
          dsimp only [cond]
          refine fe_s 1 (pc' := 107) (lc' := [(6, .int 54), (5, .int 1), (4, .int 59), (3, .int 53), (2, .int 9), (0, .ref 0), (1, .ref 22)]) (stk' := [.int 0]) (mem' := fm g tp bt a b) (fun _ _ _ => rfl) ?_
          refine fe_w (lc' := [(6, .int 54), (5, .int 1), (4, .int 59), (3, .int 53), (2, .int 9), (0, .ref 0), (1, .ref 22)]) ⟨rfl, rfl, rfl, rfl, rfl, rfl, rfl, trivial⟩ (by show List.Nodup [6, 5, 4, 3, 2, 0, 1]; decide) (by show List.Nodup [6, 5, 4, 3, 2, 0, 1]; decide) ?_
          exact fail _ _
        · rw [e8]
          refine fe_s 1 (pc' := cond (fx_cb .ne 101 (nI n7)) 106 102) (lc' := [(6, .int 54), (5, .int 1), (4, .int 59), (3, .int 53), (2, .int 9), (0, .ref 0), (1, .ref 22)]) (stk' := []) (mem' := fm g tp bt a b) (fun _ _ _ => rfl) ?_
          by_cases h10 : 101 = n7
          · rw [show (fx_cb .ne 101 (nI n7)) = false from cb_neF (a := 101) (b := n7) (by omega) (by omega) (by omega)]
            dsimp only [cond]
            refine fe_s 2 (pc' := 107) (lc' := [(6, .int 54), (5, .int 1), (4, .int 59), (3, .int 53), (2, .int 9), (0, .ref 0), (1, .ref 22)]) (stk' := [.int 1]) (mem' := fm g tp bt a b) (fun _ _ _ => rfl) ?_
            refine fe_s 4 (pc' := 70) (lc' := [(6, .int (54 + 1)), (5, .int 1), (4, .int 59), (3, .int 53), (2, .int 9), (0, .ref 0), (1, .ref 22)]) (stk' := [.int (54 + 1)]) (mem' := fm g tp bt a b) (fun _ _ _ => rfl) ?_
            rw [show (54 + 1 : Int32) = 55 from rfl]
            refine fe_s 1 (pc' := 72) (lc' := [(6, .int 55), (5, .int 1), (4, .int 59), (3, .int 53), (2, .int 9), (0, .ref 0), (1, .ref 22)]) (stk' := [.int 59, .int 55]) (mem' := fm g tp bt a b) (fun _ _ _ => rfl) ?_
            refine fe_s 1 (pc' := cond (fx_cb .ge 55 59) 115 75) (lc' := [(6, .int 55), (5, .int 1), (4, .int 59), (3, .int 53), (2, .int 9), (0, .ref 0), (1, .ref 22)]) (stk' := []) (mem' := fm g tp bt a b) (fun _ _ _ => rfl) ?_
            rw [show (fx_cb .ge 55 59) = false from by decide]
            dsimp only [cond]
            refine fe_s 1 (pc' := 77) (lc' := [(6, .int 55), (5, .int 1), (4, .int 59), (3, .int 53), (2, .int 9), (0, .ref 0), (1, .ref 22)]) (stk' := [.int 1]) (mem' := fm g tp bt a b) (fun _ _ _ => rfl) ?_
            refine fe_s 1 (pc' := cond (fx_cb .eq 1 0) 115 80) (lc' := [(6, .int 55), (5, .int 1), (4, .int 59), (3, .int 53), (2, .int 9), (0, .ref 0), (1, .ref 22)]) (stk' := []) (mem' := fm g tp bt a b) (fun _ _ _ => rfl) ?_
            rw [show (fx_cb .eq 1 0) = false from by decide]
            dsimp only [cond]
            refine fe_s 2 (pc' := 83) (lc' := [(6, .int 55), (5, .int 1), (4, .int 59), (3, .int 53), (2, .int 9), (0, .ref 0), (1, .ref 22)]) (stk' := [.int 55, .ref 22]) (mem' := fm g tp bt a b) (fun _ _ _ => rfl) ?_
            refine fe_chr (i := 55) (by omega) (by rfl) (by rfl) ⟨by rfl, by rfl⟩ (by rfl) ?_
            rw [show sk_b.getD 55 0 = 105 from rfl]
            refine fe_s 4 (pc' := 93) (lc' := [(6, .int 55), (5, .int 1), (4, .int 59), (3, .int 53), (2, .int 9), (0, .ref 0), (1, .ref 22)]) (stk' := [.int 55, .int (g 13), .ref 0, .int 105]) (mem' := fm g tp bt a b) (fun _ _ _ => rfl) ?_
            try rw [h13]
            refine fe_s 3 (pc' := 96) (lc' := [(6, .int 55), (5, .int 1), (4, .int 59), (3, .int 53), (2, .int 9), (0, .ref 0), (1, .ref 22)]) (stk' := [.int (((nI F) + 55) - 53), .ref 0, .int 105]) (mem' := fm g tp bt a b) (fun _ _ _ => rfl) ?_
            rw [show (((nI F) + 55) - 53 : Int32) = nI ((F + 55) - 53) from by simp only [show (55 : Int32) = nI 55 from rfl, show (53 : Int32) = nI 53 from rfl, tg_sub2 (x := F + 55) (y := 53) (by omega), nI_add, fm_mul]]
            refine fe_ivV (fr_byteAt (S := S) (k := (F + 55) - 53) (g := g) (tp := tp) (bt := bt) (a := a) (b := b) h11 (by omega) (by omega)) (by omega) (by rfl) (by rfl) (by rfl) (by rfl) (by rfl) (by rfl) ?_
            rcases fm_byte_or a S ((F + 55) - 53) with ⟨e12, q13⟩ | ⟨q13, n11, qn11, e12⟩
            · rw [e12]
              refine fe_s 1 (pc' := cond (fx_cb .ne 105 (-1)) 106 102) (lc' := [(6, .int 55), (5, .int 1), (4, .int 59), (3, .int 53), (2, .int 9), (0, .ref 0), (1, .ref 22)]) (stk' := []) (mem' := fm g tp bt a b) (fun _ _ _ => rfl) ?_
              rw [show (fx_cb .ne 105 (-1)) = true from by decide]
              dsimp only [cond]
              refine fe_s 1 (pc' := 107) (lc' := [(6, .int 55), (5, .int 1), (4, .int 59), (3, .int 53), (2, .int 9), (0, .ref 0), (1, .ref 22)]) (stk' := [.int 0]) (mem' := fm g tp bt a b) (fun _ _ _ => rfl) ?_
              refine fe_w (lc' := [(6, .int 55), (5, .int 1), (4, .int 59), (3, .int 53), (2, .int 9), (0, .ref 0), (1, .ref 22)]) ⟨rfl, rfl, rfl, rfl, rfl, rfl, rfl, trivial⟩ (by show List.Nodup [6, 5, 4, 3, 2, 0, 1]; decide) (by show List.Nodup [6, 5, 4, 3, 2, 0, 1]; decide) ?_
              exact fail _ _
            · rw [e12]
              refine fe_s 1 (pc' := cond (fx_cb .ne 105 (nI n11)) 106 102) (lc' := [(6, .int 55), (5, .int 1), (4, .int 59), (3, .int 53), (2, .int 9), (0, .ref 0), (1, .ref 22)]) (stk' := []) (mem' := fm g tp bt a b) (fun _ _ _ => rfl) ?_
              by_cases h14 : 105 = n11
              · rw [show (fx_cb .ne 105 (nI n11)) = false from cb_neF (a := 105) (b := n11) (by omega) (by omega) (by omega)]
                dsimp only [cond]
                refine fe_s 2 (pc' := 107) (lc' := [(6, .int 55), (5, .int 1), (4, .int 59), (3, .int 53), (2, .int 9), (0, .ref 0), (1, .ref 22)]) (stk' := [.int 1]) (mem' := fm g tp bt a b) (fun _ _ _ => rfl) ?_
                refine fe_s 4 (pc' := 70) (lc' := [(6, .int (55 + 1)), (5, .int 1), (4, .int 59), (3, .int 53), (2, .int 9), (0, .ref 0), (1, .ref 22)]) (stk' := [.int (55 + 1)]) (mem' := fm g tp bt a b) (fun _ _ _ => rfl) ?_
                rw [show (55 + 1 : Int32) = 56 from rfl]
                refine fe_s 1 (pc' := 72) (lc' := [(6, .int 56), (5, .int 1), (4, .int 59), (3, .int 53), (2, .int 9), (0, .ref 0), (1, .ref 22)]) (stk' := [.int 59, .int 56]) (mem' := fm g tp bt a b) (fun _ _ _ => rfl) ?_
                refine fe_s 1 (pc' := cond (fx_cb .ge 56 59) 115 75) (lc' := [(6, .int 56), (5, .int 1), (4, .int 59), (3, .int 53), (2, .int 9), (0, .ref 0), (1, .ref 22)]) (stk' := []) (mem' := fm g tp bt a b) (fun _ _ _ => rfl) ?_
                rw [show (fx_cb .ge 56 59) = false from by decide]
                dsimp only [cond]
                refine fe_s 1 (pc' := 77) (lc' := [(6, .int 56), (5, .int 1), (4, .int 59), (3, .int 53), (2, .int 9), (0, .ref 0), (1, .ref 22)]) (stk' := [.int 1]) (mem' := fm g tp bt a b) (fun _ _ _ => rfl) ?_
                refine fe_s 1 (pc' := cond (fx_cb .eq 1 0) 115 80) (lc' := [(6, .int 56), (5, .int 1), (4, .int 59), (3, .int 53), (2, .int 9), (0, .ref 0), (1, .ref 22)]) (stk' := []) (mem' := fm g tp bt a b) (fun _ _ _ => rfl) ?_
                rw [show (fx_cb .eq 1 0) = false from by decide]
                dsimp only [cond]
                refine fe_s 2 (pc' := 83) (lc' := [(6, .int 56), (5, .int 1), (4, .int 59), (3, .int 53), (2, .int 9), (0, .ref 0), (1, .ref 22)]) (stk' := [.int 56, .ref 22]) (mem' := fm g tp bt a b) (fun _ _ _ => rfl) ?_
                refine fe_chr (i := 56) (by omega) (by rfl) (by rfl) ⟨by rfl, by rfl⟩ (by rfl) ?_
                rw [show sk_b.getD 56 0 = 103 from rfl]
                refine fe_s 4 (pc' := 93) (lc' := [(6, .int 56), (5, .int 1), (4, .int 59), (3, .int 53), (2, .int 9), (0, .ref 0), (1, .ref 22)]) (stk' := [.int 56, .int (g 13), .ref 0, .int 103]) (mem' := fm g tp bt a b) (fun _ _ _ => rfl) ?_
                try rw [h13]
                refine fe_s 3 (pc' := 96) (lc' := [(6, .int 56), (5, .int 1), (4, .int 59), (3, .int 53), (2, .int 9), (0, .ref 0), (1, .ref 22)]) (stk' := [.int (((nI F) + 56) - 53), .ref 0, .int 103]) (mem' := fm g tp bt a b) (fun _ _ _ => rfl) ?_
                rw [show (((nI F) + 56) - 53 : Int32) = nI ((F + 56) - 53) from by simp only [show (56 : Int32) = nI 56 from rfl, show (53 : Int32) = nI 53 from rfl, tg_sub2 (x := F + 56) (y := 53) (by omega), nI_add, fm_mul]]
                refine fe_ivV (fr_byteAt (S := S) (k := (F + 56) - 53) (g := g) (tp := tp) (bt := bt) (a := a) (b := b) h11 (by omega) (by omega)) (by omega) (by rfl) (by rfl) (by rfl) (by rfl) (by rfl) (by rfl) ?_
                rcases fm_byte_or a S ((F + 56) - 53) with ⟨e16, q17⟩ | ⟨q17, n15, qn15, e16⟩
                · rw [e16]
                  refine fe_s 1 (pc' := cond (fx_cb .ne 103 (-1)) 106 102) (lc' := [(6, .int 56), (5, .int 1), (4, .int 59), (3, .int 53), (2, .int 9), (0, .ref 0), (1, .ref 22)]) (stk' := []) (mem' := fm g tp bt a b) (fun _ _ _ => rfl) ?_
                  rw [show (fx_cb .ne 103 (-1)) = true from by decide]
                  dsimp only [cond]
                  refine fe_s 1 (pc' := 107) (lc' := [(6, .int 56), (5, .int 1), (4, .int 59), (3, .int 53), (2, .int 9), (0, .ref 0), (1, .ref 22)]) (stk' := [.int 0]) (mem' := fm g tp bt a b) (fun _ _ _ => rfl) ?_
                  refine fe_w (lc' := [(6, .int 56), (5, .int 1), (4, .int 59), (3, .int 53), (2, .int 9), (0, .ref 0), (1, .ref 22)]) ⟨rfl, rfl, rfl, rfl, rfl, rfl, rfl, trivial⟩ (by show List.Nodup [6, 5, 4, 3, 2, 0, 1]; decide) (by show List.Nodup [6, 5, 4, 3, 2, 0, 1]; decide) ?_
                  exact fail _ _
                · rw [e16]
                  refine fe_s 1 (pc' := cond (fx_cb .ne 103 (nI n15)) 106 102) (lc' := [(6, .int 56), (5, .int 1), (4, .int 59), (3, .int 53), (2, .int 9), (0, .ref 0), (1, .ref 22)]) (stk' := []) (mem' := fm g tp bt a b) (fun _ _ _ => rfl) ?_
                  by_cases h18 : 103 = n15
                  · rw [show (fx_cb .ne 103 (nI n15)) = false from cb_neF (a := 103) (b := n15) (by omega) (by omega) (by omega)]
                    dsimp only [cond]
                    refine fe_s 2 (pc' := 107) (lc' := [(6, .int 56), (5, .int 1), (4, .int 59), (3, .int 53), (2, .int 9), (0, .ref 0), (1, .ref 22)]) (stk' := [.int 1]) (mem' := fm g tp bt a b) (fun _ _ _ => rfl) ?_
                    refine fe_s 4 (pc' := 70) (lc' := [(6, .int (56 + 1)), (5, .int 1), (4, .int 59), (3, .int 53), (2, .int 9), (0, .ref 0), (1, .ref 22)]) (stk' := [.int (56 + 1)]) (mem' := fm g tp bt a b) (fun _ _ _ => rfl) ?_
                    rw [show (56 + 1 : Int32) = 57 from rfl]
                    refine fe_s 1 (pc' := 72) (lc' := [(6, .int 57), (5, .int 1), (4, .int 59), (3, .int 53), (2, .int 9), (0, .ref 0), (1, .ref 22)]) (stk' := [.int 59, .int 57]) (mem' := fm g tp bt a b) (fun _ _ _ => rfl) ?_
                    refine fe_s 1 (pc' := cond (fx_cb .ge 57 59) 115 75) (lc' := [(6, .int 57), (5, .int 1), (4, .int 59), (3, .int 53), (2, .int 9), (0, .ref 0), (1, .ref 22)]) (stk' := []) (mem' := fm g tp bt a b) (fun _ _ _ => rfl) ?_
                    rw [show (fx_cb .ge 57 59) = false from by decide]
                    dsimp only [cond]
                    refine fe_s 1 (pc' := 77) (lc' := [(6, .int 57), (5, .int 1), (4, .int 59), (3, .int 53), (2, .int 9), (0, .ref 0), (1, .ref 22)]) (stk' := [.int 1]) (mem' := fm g tp bt a b) (fun _ _ _ => rfl) ?_
                    refine fe_s 1 (pc' := cond (fx_cb .eq 1 0) 115 80) (lc' := [(6, .int 57), (5, .int 1), (4, .int 59), (3, .int 53), (2, .int 9), (0, .ref 0), (1, .ref 22)]) (stk' := []) (mem' := fm g tp bt a b) (fun _ _ _ => rfl) ?_
                    rw [show (fx_cb .eq 1 0) = false from by decide]
                    dsimp only [cond]
                    refine fe_s 2 (pc' := 83) (lc' := [(6, .int 57), (5, .int 1), (4, .int 59), (3, .int 53), (2, .int 9), (0, .ref 0), (1, .ref 22)]) (stk' := [.int 57, .ref 22]) (mem' := fm g tp bt a b) (fun _ _ _ => rfl) ?_
                    refine fe_chr (i := 57) (by omega) (by rfl) (by rfl) ⟨by rfl, by rfl⟩ (by rfl) ?_
                    rw [show sk_b.getD 57 0 = 104 from rfl]
                    refine fe_s 4 (pc' := 93) (lc' := [(6, .int 57), (5, .int 1), (4, .int 59), (3, .int 53), (2, .int 9), (0, .ref 0), (1, .ref 22)]) (stk' := [.int 57, .int (g 13), .ref 0, .int 104]) (mem' := fm g tp bt a b) (fun _ _ _ => rfl) ?_
                    try rw [h13]
                    refine fe_s 3 (pc' := 96) (lc' := [(6, .int 57), (5, .int 1), (4, .int 59), (3, .int 53), (2, .int 9), (0, .ref 0), (1, .ref 22)]) (stk' := [.int (((nI F) + 57) - 53), .ref 0, .int 104]) (mem' := fm g tp bt a b) (fun _ _ _ => rfl) ?_
                    rw [show (((nI F) + 57) - 53 : Int32) = nI ((F + 57) - 53) from by simp only [show (57 : Int32) = nI 57 from rfl, show (53 : Int32) = nI 53 from rfl, tg_sub2 (x := F + 57) (y := 53) (by omega), nI_add, fm_mul]]
                    refine fe_ivV (fr_byteAt (S := S) (k := (F + 57) - 53) (g := g) (tp := tp) (bt := bt) (a := a) (b := b) h11 (by omega) (by omega)) (by omega) (by rfl) (by rfl) (by rfl) (by rfl) (by rfl) (by rfl) ?_
                    rcases fm_byte_or a S ((F + 57) - 53) with ⟨e20, q21⟩ | ⟨q21, n19, qn19, e20⟩
                    · rw [e20]
                      refine fe_s 1 (pc' := cond (fx_cb .ne 104 (-1)) 106 102) (lc' := [(6, .int 57), (5, .int 1), (4, .int 59), (3, .int 53), (2, .int 9), (0, .ref 0), (1, .ref 22)]) (stk' := []) (mem' := fm g tp bt a b) (fun _ _ _ => rfl) ?_
                      rw [show (fx_cb .ne 104 (-1)) = true from by decide]
                      dsimp only [cond]
                      refine fe_s 1 (pc' := 107) (lc' := [(6, .int 57), (5, .int 1), (4, .int 59), (3, .int 53), (2, .int 9), (0, .ref 0), (1, .ref 22)]) (stk' := [.int 0]) (mem' := fm g tp bt a b) (fun _ _ _ => rfl) ?_
                      refine fe_w (lc' := [(6, .int 57), (5, .int 1), (4, .int 59), (3, .int 53), (2, .int 9), (0, .ref 0), (1, .ref 22)]) ⟨rfl, rfl, rfl, rfl, rfl, rfl, rfl, trivial⟩ (by show List.Nodup [6, 5, 4, 3, 2, 0, 1]; decide) (by show List.Nodup [6, 5, 4, 3, 2, 0, 1]; decide) ?_
                      exact fail _ _
                    · rw [e20]
                      refine fe_s 1 (pc' := cond (fx_cb .ne 104 (nI n19)) 106 102) (lc' := [(6, .int 57), (5, .int 1), (4, .int 59), (3, .int 53), (2, .int 9), (0, .ref 0), (1, .ref 22)]) (stk' := []) (mem' := fm g tp bt a b) (fun _ _ _ => rfl) ?_
                      by_cases h22 : 104 = n19
                      · rw [show (fx_cb .ne 104 (nI n19)) = false from cb_neF (a := 104) (b := n19) (by omega) (by omega) (by omega)]
                        dsimp only [cond]
                        refine fe_s 2 (pc' := 107) (lc' := [(6, .int 57), (5, .int 1), (4, .int 59), (3, .int 53), (2, .int 9), (0, .ref 0), (1, .ref 22)]) (stk' := [.int 1]) (mem' := fm g tp bt a b) (fun _ _ _ => rfl) ?_
                        refine fe_s 4 (pc' := 70) (lc' := [(6, .int (57 + 1)), (5, .int 1), (4, .int 59), (3, .int 53), (2, .int 9), (0, .ref 0), (1, .ref 22)]) (stk' := [.int (57 + 1)]) (mem' := fm g tp bt a b) (fun _ _ _ => rfl) ?_
                        rw [show (57 + 1 : Int32) = 58 from rfl]
                        refine fe_s 1 (pc' := 72) (lc' := [(6, .int 58), (5, .int 1), (4, .int 59), (3, .int 53), (2, .int 9), (0, .ref 0), (1, .ref 22)]) (stk' := [.int 59, .int 58]) (mem' := fm g tp bt a b) (fun _ _ _ => rfl) ?_
                        refine fe_s 1 (pc' := cond (fx_cb .ge 58 59) 115 75) (lc' := [(6, .int 58), (5, .int 1), (4, .int 59), (3, .int 53), (2, .int 9), (0, .ref 0), (1, .ref 22)]) (stk' := []) (mem' := fm g tp bt a b) (fun _ _ _ => rfl) ?_
                        rw [show (fx_cb .ge 58 59) = false from by decide]
                        dsimp only [cond]
                        refine fe_s 1 (pc' := 77) (lc' := [(6, .int 58), (5, .int 1), (4, .int 59), (3, .int 53), (2, .int 9), (0, .ref 0), (1, .ref 22)]) (stk' := [.int 1]) (mem' := fm g tp bt a b) (fun _ _ _ => rfl) ?_
                        refine fe_s 1 (pc' := cond (fx_cb .eq 1 0) 115 80) (lc' := [(6, .int 58), (5, .int 1), (4, .int 59), (3, .int 53), (2, .int 9), (0, .ref 0), (1, .ref 22)]) (stk' := []) (mem' := fm g tp bt a b) (fun _ _ _ => rfl) ?_
                        rw [show (fx_cb .eq 1 0) = false from by decide]
                        dsimp only [cond]
                        refine fe_s 2 (pc' := 83) (lc' := [(6, .int 58), (5, .int 1), (4, .int 59), (3, .int 53), (2, .int 9), (0, .ref 0), (1, .ref 22)]) (stk' := [.int 58, .ref 22]) (mem' := fm g tp bt a b) (fun _ _ _ => rfl) ?_
                        refine fe_chr (i := 58) (by omega) (by rfl) (by rfl) ⟨by rfl, by rfl⟩ (by rfl) ?_
                        rw [show sk_b.getD 58 0 = 115 from rfl]
                        refine fe_s 4 (pc' := 93) (lc' := [(6, .int 58), (5, .int 1), (4, .int 59), (3, .int 53), (2, .int 9), (0, .ref 0), (1, .ref 22)]) (stk' := [.int 58, .int (g 13), .ref 0, .int 115]) (mem' := fm g tp bt a b) (fun _ _ _ => rfl) ?_
                        try rw [h13]
                        refine fe_s 3 (pc' := 96) (lc' := [(6, .int 58), (5, .int 1), (4, .int 59), (3, .int 53), (2, .int 9), (0, .ref 0), (1, .ref 22)]) (stk' := [.int (((nI F) + 58) - 53), .ref 0, .int 115]) (mem' := fm g tp bt a b) (fun _ _ _ => rfl) ?_
                        rw [show (((nI F) + 58) - 53 : Int32) = nI ((F + 58) - 53) from by simp only [show (58 : Int32) = nI 58 from rfl, show (53 : Int32) = nI 53 from rfl, tg_sub2 (x := F + 58) (y := 53) (by omega), nI_add, fm_mul]]
                        refine fe_ivV (fr_byteAt (S := S) (k := (F + 58) - 53) (g := g) (tp := tp) (bt := bt) (a := a) (b := b) h11 (by omega) (by omega)) (by omega) (by rfl) (by rfl) (by rfl) (by rfl) (by rfl) (by rfl) ?_
                        rcases fm_byte_or a S ((F + 58) - 53) with ⟨e24, q25⟩ | ⟨q25, n23, qn23, e24⟩
                        · rw [e24]
                          refine fe_s 1 (pc' := cond (fx_cb .ne 115 (-1)) 106 102) (lc' := [(6, .int 58), (5, .int 1), (4, .int 59), (3, .int 53), (2, .int 9), (0, .ref 0), (1, .ref 22)]) (stk' := []) (mem' := fm g tp bt a b) (fun _ _ _ => rfl) ?_
                          rw [show (fx_cb .ne 115 (-1)) = true from by decide]
                          dsimp only [cond]
                          refine fe_s 1 (pc' := 107) (lc' := [(6, .int 58), (5, .int 1), (4, .int 59), (3, .int 53), (2, .int 9), (0, .ref 0), (1, .ref 22)]) (stk' := [.int 0]) (mem' := fm g tp bt a b) (fun _ _ _ => rfl) ?_
                          refine fe_w (lc' := [(6, .int 58), (5, .int 1), (4, .int 59), (3, .int 53), (2, .int 9), (0, .ref 0), (1, .ref 22)]) ⟨rfl, rfl, rfl, rfl, rfl, rfl, rfl, trivial⟩ (by show List.Nodup [6, 5, 4, 3, 2, 0, 1]; decide) (by show List.Nodup [6, 5, 4, 3, 2, 0, 1]; decide) ?_
                          exact fail _ _
                        · rw [e24]
                          refine fe_s 1 (pc' := cond (fx_cb .ne 115 (nI n23)) 106 102) (lc' := [(6, .int 58), (5, .int 1), (4, .int 59), (3, .int 53), (2, .int 9), (0, .ref 0), (1, .ref 22)]) (stk' := []) (mem' := fm g tp bt a b) (fun _ _ _ => rfl) ?_
                          by_cases h26 : 115 = n23
                          · rw [show (fx_cb .ne 115 (nI n23)) = false from cb_neF (a := 115) (b := n23) (by omega) (by omega) (by omega)]
                            dsimp only [cond]
                            refine fe_s 2 (pc' := 107) (lc' := [(6, .int 58), (5, .int 1), (4, .int 59), (3, .int 53), (2, .int 9), (0, .ref 0), (1, .ref 22)]) (stk' := [.int 1]) (mem' := fm g tp bt a b) (fun _ _ _ => rfl) ?_
                            refine fe_s 4 (pc' := 70) (lc' := [(6, .int (58 + 1)), (5, .int 1), (4, .int 59), (3, .int 53), (2, .int 9), (0, .ref 0), (1, .ref 22)]) (stk' := [.int (58 + 1)]) (mem' := fm g tp bt a b) (fun _ _ _ => rfl) ?_
                            rw [show (58 + 1 : Int32) = 59 from rfl]
                            refine fe_s 1 (pc' := 72) (lc' := [(6, .int 59), (5, .int 1), (4, .int 59), (3, .int 53), (2, .int 9), (0, .ref 0), (1, .ref 22)]) (stk' := [.int 59, .int 59]) (mem' := fm g tp bt a b) (fun _ _ _ => rfl) ?_
                            refine fe_s 1 (pc' := cond (fx_cb .ge 59 59) 115 75) (lc' := [(6, .int 59), (5, .int 1), (4, .int 59), (3, .int 53), (2, .int 9), (0, .ref 0), (1, .ref 22)]) (stk' := []) (mem' := fm g tp bt a b) (fun _ _ _ => rfl) ?_
                            rw [show (fx_cb .ge 59 59) = true from by decide]
                            dsimp only [cond]
                            refine fe_s 1 (pc' := 117) (lc' := [(6, .int 59), (5, .int 1), (4, .int 59), (3, .int 53), (2, .int 9), (0, .ref 0), (1, .ref 22)]) (stk' := [.int 1]) (mem' := fm g tp bt a b) (fun _ _ _ => rfl) ?_
                            refine fe_s 1 (pc' := cond (fx_cb .eq 1 0) 122 120) (lc' := [(6, .int 59), (5, .int 1), (4, .int 59), (3, .int 53), (2, .int 9), (0, .ref 0), (1, .ref 22)]) (stk' := []) (mem' := fm g tp bt a b) (fun _ _ _ => rfl) ?_
                            rw [show (fx_cb .eq 1 0) = false from by decide]
                            dsimp only [cond]
                            refine fe_s 1 (pc' := 121) (lc' := [(6, .int 59), (5, .int 1), (4, .int 59), (3, .int 53), (2, .int 9), (0, .ref 0), (1, .ref 22)]) (stk' := [.int 9]) (mem' := fm g tp bt a b) (fun _ _ _ => rfl) ?_
                            exact fe_ret ⟨_, Or.inr ⟨9, by omega, rfl⟩, rfl⟩ (by rfl) (by rfl) (by rfl)
                          · rw [show (fx_cb .ne 115 (nI n23)) = true from cb_neT (a := 115) (b := n23) (by omega) (by omega) (by omega)]
                            dsimp only [cond]
                            refine fe_s 1 (pc' := 107) (lc' := [(6, .int 58), (5, .int 1), (4, .int 59), (3, .int 53), (2, .int 9), (0, .ref 0), (1, .ref 22)]) (stk' := [.int 0]) (mem' := fm g tp bt a b) (fun _ _ _ => rfl) ?_
                            refine fe_w (lc' := [(6, .int 58), (5, .int 1), (4, .int 59), (3, .int 53), (2, .int 9), (0, .ref 0), (1, .ref 22)]) ⟨rfl, rfl, rfl, rfl, rfl, rfl, rfl, trivial⟩ (by show List.Nodup [6, 5, 4, 3, 2, 0, 1]; decide) (by show List.Nodup [6, 5, 4, 3, 2, 0, 1]; decide) ?_
                            exact fail _ _
                      · rw [show (fx_cb .ne 104 (nI n19)) = true from cb_neT (a := 104) (b := n19) (by omega) (by omega) (by omega)]
                        dsimp only [cond]
                        refine fe_s 1 (pc' := 107) (lc' := [(6, .int 57), (5, .int 1), (4, .int 59), (3, .int 53), (2, .int 9), (0, .ref 0), (1, .ref 22)]) (stk' := [.int 0]) (mem' := fm g tp bt a b) (fun _ _ _ => rfl) ?_
                        refine fe_w (lc' := [(6, .int 57), (5, .int 1), (4, .int 59), (3, .int 53), (2, .int 9), (0, .ref 0), (1, .ref 22)]) ⟨rfl, rfl, rfl, rfl, rfl, rfl, rfl, trivial⟩ (by show List.Nodup [6, 5, 4, 3, 2, 0, 1]; decide) (by show List.Nodup [6, 5, 4, 3, 2, 0, 1]; decide) ?_
                        exact fail _ _
                  · rw [show (fx_cb .ne 103 (nI n15)) = true from cb_neT (a := 103) (b := n15) (by omega) (by omega) (by omega)]
                    dsimp only [cond]
                    refine fe_s 1 (pc' := 107) (lc' := [(6, .int 56), (5, .int 1), (4, .int 59), (3, .int 53), (2, .int 9), (0, .ref 0), (1, .ref 22)]) (stk' := [.int 0]) (mem' := fm g tp bt a b) (fun _ _ _ => rfl) ?_
                    refine fe_w (lc' := [(6, .int 56), (5, .int 1), (4, .int 59), (3, .int 53), (2, .int 9), (0, .ref 0), (1, .ref 22)]) ⟨rfl, rfl, rfl, rfl, rfl, rfl, rfl, trivial⟩ (by show List.Nodup [6, 5, 4, 3, 2, 0, 1]; decide) (by show List.Nodup [6, 5, 4, 3, 2, 0, 1]; decide) ?_
                    exact fail _ _
              · rw [show (fx_cb .ne 105 (nI n11)) = true from cb_neT (a := 105) (b := n11) (by omega) (by omega) (by omega)]
                dsimp only [cond]
                refine fe_s 1 (pc' := 107) (lc' := [(6, .int 55), (5, .int 1), (4, .int 59), (3, .int 53), (2, .int 9), (0, .ref 0), (1, .ref 22)]) (stk' := [.int 0]) (mem' := fm g tp bt a b) (fun _ _ _ => rfl) ?_
                refine fe_w (lc' := [(6, .int 55), (5, .int 1), (4, .int 59), (3, .int 53), (2, .int 9), (0, .ref 0), (1, .ref 22)]) ⟨rfl, rfl, rfl, rfl, rfl, rfl, rfl, trivial⟩ (by show List.Nodup [6, 5, 4, 3, 2, 0, 1]; decide) (by show List.Nodup [6, 5, 4, 3, 2, 0, 1]; decide) ?_
                exact fail _ _
          · rw [show (fx_cb .ne 101 (nI n7)) = true from cb_neT (a := 101) (b := n7) (by omega) (by omega) (by omega)]
            dsimp only [cond]
            refine fe_s 1 (pc' := 107) (lc' := [(6, .int 54), (5, .int 1), (4, .int 59), (3, .int 53), (2, .int 9), (0, .ref 0), (1, .ref 22)]) (stk' := [.int 0]) (mem' := fm g tp bt a b) (fun _ _ _ => rfl) ?_
            refine fe_w (lc' := [(6, .int 54), (5, .int 1), (4, .int 59), (3, .int 53), (2, .int 9), (0, .ref 0), (1, .ref 22)]) ⟨rfl, rfl, rfl, rfl, rfl, rfl, rfl, trivial⟩ (by show List.Nodup [6, 5, 4, 3, 2, 0, 1]; decide) (by show List.Nodup [6, 5, 4, 3, 2, 0, 1]; decide) ?_
            exact fail _ _
      · rw [show (fx_cb .ne 119 (nI n3)) = true from cb_neT (a := 119) (b := n3) (by omega) (by omega) (by omega)]
        dsimp only [cond]
        refine fe_s 1 (pc' := 107) (lc' := [(6, .int 53), (5, .int 1), (4, .int 59), (3, .int 53), (2, .int 9), (0, .ref 0), (1, .ref 22)]) (stk' := [.int 0]) (mem' := fm g tp bt a b) (fun _ _ _ => rfl) ?_
        refine fe_w (lc' := [(6, .int 53), (5, .int 1), (4, .int 59), (3, .int 53), (2, .int 9), (0, .ref 0), (1, .ref 22)]) ⟨rfl, rfl, rfl, rfl, rfl, rfl, rfl, trivial⟩ (by show List.Nodup [6, 5, 4, 3, 2, 0, 1]; decide) (by show List.Nodup [6, 5, 4, 3, 2, 0, 1]; decide) ?_
        exact fail _ _
  · rw [show (fx_cb .ne 6 (nI (E - F))) = true from cb_neT (a := 6) (b := E - F) (by omega) (by omega) (by omega)]
    dsimp only [cond]
    refine fe_s 4 (pc' := 68) (lc' := [(6, .int 53), (5, .int 0), (4, .int 59), (3, .int 53), (2, .int 9), (0, .ref 0), (1, .ref 22)]) (stk' := []) (mem' := fm g tp bt a b) (fun _ _ _ => rfl) ?_
    refine fe_s 2 (pc' := 72) (lc' := [(6, .int 53), (5, .int 0), (4, .int 59), (3, .int 53), (2, .int 9), (0, .ref 0), (1, .ref 22)]) (stk' := [.int 59, .int 53]) (mem' := fm g tp bt a b) (fun _ _ _ => rfl) ?_
    refine fe_s 1 (pc' := cond (fx_cb .ge 53 59) 115 75) (lc' := [(6, .int 53), (5, .int 0), (4, .int 59), (3, .int 53), (2, .int 9), (0, .ref 0), (1, .ref 22)]) (stk' := []) (mem' := fm g tp bt a b) (fun _ _ _ => rfl) ?_
    rw [show (fx_cb .ge 53 59) = false from by decide]
    dsimp only [cond]
    refine fe_s 1 (pc' := 77) (lc' := [(6, .int 53), (5, .int 0), (4, .int 59), (3, .int 53), (2, .int 9), (0, .ref 0), (1, .ref 22)]) (stk' := [.int 0]) (mem' := fm g tp bt a b) (fun _ _ _ => rfl) ?_
    refine fe_s 1 (pc' := cond (fx_cb .eq 0 0) 115 80) (lc' := [(6, .int 53), (5, .int 0), (4, .int 59), (3, .int 53), (2, .int 9), (0, .ref 0), (1, .ref 22)]) (stk' := []) (mem' := fm g tp bt a b) (fun _ _ _ => rfl) ?_
    rw [show (fx_cb .eq 0 0) = true from by decide]
    dsimp only [cond]
    refine fe_s 1 (pc' := 117) (lc' := [(6, .int 53), (5, .int 0), (4, .int 59), (3, .int 53), (2, .int 9), (0, .ref 0), (1, .ref 22)]) (stk' := [.int 0]) (mem' := fm g tp bt a b) (fun _ _ _ => rfl) ?_
    refine fe_s 1 (pc' := cond (fx_cb .eq 0 0) 122 120) (lc' := [(6, .int 53), (5, .int 0), (4, .int 59), (3, .int 53), (2, .int 9), (0, .ref 0), (1, .ref 22)]) (stk' := []) (mem' := fm g tp bt a b) (fun _ _ _ => rfl) ?_
    rw [show (fx_cb .eq 0 0) = true from by decide]
    dsimp only [cond]
    refine fe_s 4 (pc' := 129) (lc' := [(2, .int (9 + 1)), (6, .int 53), (5, .int 0), (4, .int 59), (3, .int 53), (0, .ref 0), (1, .ref 22)]) (stk' := [.int (59 + 1)]) (mem' := fm g tp bt a b) (fun _ _ _ => rfl) ?_
    rw [show (9 + 1 : Int32) = 10 from rfl]
    rw [show (59 + 1 : Int32) = 60 from rfl]
    refine fe_s 1 (pc' := 130) (lc' := [(3, .int 60), (2, .int 10), (6, .int 53), (5, .int 0), (4, .int 59), (0, .ref 0), (1, .ref 22)]) (stk' := []) (mem' := fm g tp bt a b) (fun _ _ _ => rfl) ?_
    refine fe_s 1 (pc' := fx_to 130 (-116)) (lc' := [(3, .int 60), (2, .int 10), (6, .int 53), (5, .int 0), (4, .int 59), (0, .ref 0), (1, .ref 22)]) (stk' := []) (mem' := fm g tp bt a b) (fun _ _ _ => rfl) ?_
    rw [show fx_to 130 (-116) = 14 from by decide]
    refine fe_w (lc' := [(3, .int 60), (2, .int 10), (0, .ref 0), (1, .ref 22)]) ⟨rfl, rfl, rfl, rfl, trivial⟩ (by show List.Nodup [3, 2, 0, 1]; decide) (by show List.Nodup [3, 2, 6, 5, 4, 0, 1]; decide) ?_
    exact fw_10 hxp
set_option maxHeartbeats 8000000 in
theorem fw_8 {S E F : Nat} (hxp : fm_xp g S E F) : fe_R 1 gk_m226 14 [(3, .int 47), (2, .int 8), (0, .ref 0), (1, .ref 22)] [] (fm g tp bt a b) (fm_FI (fm g tp bt a b)) := by
  obtain ⟨h11, hS9, h14, hES, h13, hFE, -, -, -⟩ := id hxp
  have fail : ∀ (x z : Int32), fe_R 1 gk_m226 107 [(6, .int x), (5, .int z), (4, .int 52), (3, .int 47), (2, .int 8), (0, .ref 0), (1, .ref 22)] [.int 0] (fm g tp bt a b) (fm_FI (fm g tp bt a b)) := by
    intro x z
    refine fe_s 4 (pc' := 70) (lc' := [(6, .int (x + 1)), (5, .int 0), (4, .int 52), (3, .int 47), (2, .int 8), (0, .ref 0), (1, .ref 22)]) (stk' := [.int (x + 1)]) (mem' := fm g tp bt a b) (fun _ _ _ => rfl) ?_
    refine fe_s 1 (pc' := 72) (lc' := [(6, .int (x + 1)), (5, .int 0), (4, .int 52), (3, .int 47), (2, .int 8), (0, .ref 0), (1, .ref 22)]) (stk' := [.int 52, .int (x + 1)]) (mem' := fm g tp bt a b) (fun _ _ _ => rfl) ?_
    refine fe_s 1 (pc' := cond (fx_cb .ge (x + 1) 52) 115 75) (lc' := [(6, .int (x + 1)), (5, .int 0), (4, .int 52), (3, .int 47), (2, .int 8), (0, .ref 0), (1, .ref 22)]) (stk' := []) (mem' := fm g tp bt a b) (fun _ _ _ => rfl) ?_
    cases h1 : fx_cb .ge (x + 1) 52
    · refine fe_s 1 (pc' := 77) (lc' := [(6, .int (x + 1)), (5, .int 0), (4, .int 52), (3, .int 47), (2, .int 8), (0, .ref 0), (1, .ref 22)]) (stk' := [.int 0]) (mem' := fm g tp bt a b) (fun _ _ _ => rfl) ?_
      refine fe_s 1 (pc' := cond (fx_cb .eq 0 0) 115 80) (lc' := [(6, .int (x + 1)), (5, .int 0), (4, .int 52), (3, .int 47), (2, .int 8), (0, .ref 0), (1, .ref 22)]) (stk' := []) (mem' := fm g tp bt a b) (fun _ _ _ => rfl) ?_
      rw [show (fx_cb .eq 0 0) = true from by decide]
      dsimp only [cond]
      refine fe_s 1 (pc' := 117) (lc' := [(6, .int (x + 1)), (5, .int 0), (4, .int 52), (3, .int 47), (2, .int 8), (0, .ref 0), (1, .ref 22)]) (stk' := [.int 0]) (mem' := fm g tp bt a b) (fun _ _ _ => rfl) ?_
      refine fe_s 1 (pc' := cond (fx_cb .eq 0 0) 122 120) (lc' := [(6, .int (x + 1)), (5, .int 0), (4, .int 52), (3, .int 47), (2, .int 8), (0, .ref 0), (1, .ref 22)]) (stk' := []) (mem' := fm g tp bt a b) (fun _ _ _ => rfl) ?_
      rw [show (fx_cb .eq 0 0) = true from by decide]
      dsimp only [cond]
      refine fe_s 4 (pc' := 129) (lc' := [(2, .int (8 + 1)), (6, .int (x + 1)), (5, .int 0), (4, .int 52), (3, .int 47), (0, .ref 0), (1, .ref 22)]) (stk' := [.int (52 + 1)]) (mem' := fm g tp bt a b) (fun _ _ _ => rfl) ?_
      rw [show (8 + 1 : Int32) = 9 from rfl]
      rw [show (52 + 1 : Int32) = 53 from rfl]
      refine fe_s 1 (pc' := 130) (lc' := [(3, .int 53), (2, .int 9), (6, .int (x + 1)), (5, .int 0), (4, .int 52), (0, .ref 0), (1, .ref 22)]) (stk' := []) (mem' := fm g tp bt a b) (fun _ _ _ => rfl) ?_
      refine fe_s 1 (pc' := fx_to 130 (-116)) (lc' := [(3, .int 53), (2, .int 9), (6, .int (x + 1)), (5, .int 0), (4, .int 52), (0, .ref 0), (1, .ref 22)]) (stk' := []) (mem' := fm g tp bt a b) (fun _ _ _ => rfl) ?_
      rw [show fx_to 130 (-116) = 14 from by decide]
      refine fe_w (lc' := [(3, .int 53), (2, .int 9), (0, .ref 0), (1, .ref 22)]) ⟨rfl, rfl, rfl, rfl, trivial⟩ (by show List.Nodup [3, 2, 0, 1]; decide) (by show List.Nodup [3, 2, 6, 5, 4, 0, 1]; decide) ?_
      exact fw_9 hxp
    · refine fe_s 1 (pc' := 117) (lc' := [(6, .int (x + 1)), (5, .int 0), (4, .int 52), (3, .int 47), (2, .int 8), (0, .ref 0), (1, .ref 22)]) (stk' := [.int 0]) (mem' := fm g tp bt a b) (fun _ _ _ => rfl) ?_
      refine fe_s 1 (pc' := cond (fx_cb .eq 0 0) 122 120) (lc' := [(6, .int (x + 1)), (5, .int 0), (4, .int 52), (3, .int 47), (2, .int 8), (0, .ref 0), (1, .ref 22)]) (stk' := []) (mem' := fm g tp bt a b) (fun _ _ _ => rfl) ?_
      rw [show (fx_cb .eq 0 0) = true from by decide]
      dsimp only [cond]
      refine fe_s 4 (pc' := 129) (lc' := [(2, .int (8 + 1)), (6, .int (x + 1)), (5, .int 0), (4, .int 52), (3, .int 47), (0, .ref 0), (1, .ref 22)]) (stk' := [.int (52 + 1)]) (mem' := fm g tp bt a b) (fun _ _ _ => rfl) ?_
      rw [show (8 + 1 : Int32) = 9 from rfl]
      rw [show (52 + 1 : Int32) = 53 from rfl]
      refine fe_s 1 (pc' := 130) (lc' := [(3, .int 53), (2, .int 9), (6, .int (x + 1)), (5, .int 0), (4, .int 52), (0, .ref 0), (1, .ref 22)]) (stk' := []) (mem' := fm g tp bt a b) (fun _ _ _ => rfl) ?_
      refine fe_s 1 (pc' := fx_to 130 (-116)) (lc' := [(3, .int 53), (2, .int 9), (6, .int (x + 1)), (5, .int 0), (4, .int 52), (0, .ref 0), (1, .ref 22)]) (stk' := []) (mem' := fm g tp bt a b) (fun _ _ _ => rfl) ?_
      rw [show fx_to 130 (-116) = 14 from by decide]
      refine fe_w (lc' := [(3, .int 53), (2, .int 9), (0, .ref 0), (1, .ref 22)]) ⟨rfl, rfl, rfl, rfl, trivial⟩ (by show List.Nodup [3, 2, 0, 1]; decide) (by show List.Nodup [3, 2, 6, 5, 4, 0, 1]; decide) ?_
      exact fw_9 hxp
  refine fe_s 2 (pc' := 16) (lc' := [(3, .int 47), (2, .int 8), (0, .ref 0), (1, .ref 22)]) (stk' := [.ref 22, .int 47]) (mem' := fm g tp bt a b) (fun _ _ _ => rfl) ?_
  refine fe_s 1 (pc' := 19) (lc' := [(3, .int 47), (2, .int 8), (0, .ref 0), (1, .ref 22)]) (stk' := [.int 117, .int 47]) (mem' := fm g tp bt a b) (fun _ _ _ => rfl) ?_
  refine fe_s 1 (pc' := cond (fx_cb .ge 47 117) 133 22) (lc' := [(3, .int 47), (2, .int 8), (0, .ref 0), (1, .ref 22)]) (stk' := []) (mem' := fm g tp bt a b) (fun _ _ _ => rfl) ?_
  rw [show (fx_cb .ge 47 117) = false from by decide]
  dsimp only [cond]
  refine fe_s 4 (pc' := 28) (lc' := [(4, .int 47), (3, .int 47), (2, .int 8), (0, .ref 0), (1, .ref 22)]) (stk' := [.int 47, .ref 22]) (mem' := fm g tp bt a b) (fun _ _ _ => rfl) ?_
  refine fe_chr (i := 47) (by omega) (by rfl) (by rfl) ⟨by rfl, by rfl⟩ (by rfl) ?_
  rw [show sk_b.getD 47 0 = 98 from rfl]
  refine fe_s 1 (pc' := 33) (lc' := [(4, .int 47), (3, .int 47), (2, .int 8), (0, .ref 0), (1, .ref 22)]) (stk' := [.int 32, .int 98]) (mem' := fm g tp bt a b) (fun _ _ _ => rfl) ?_
  refine fe_s 1 (pc' := cond (fx_cb .eq 98 32) 42 36) (lc' := [(4, .int 47), (3, .int 47), (2, .int 8), (0, .ref 0), (1, .ref 22)]) (stk' := []) (mem' := fm g tp bt a b) (fun _ _ _ => rfl) ?_
  rw [show (fx_cb .eq 98 32) = false from by decide]
  dsimp only [cond]
  refine fe_s 4 (pc' := 28) (lc' := [(4, .int (47 + 1)), (3, .int 47), (2, .int 8), (0, .ref 0), (1, .ref 22)]) (stk' := [.int (47 + 1), .ref 22]) (mem' := fm g tp bt a b) (fun _ _ _ => rfl) ?_
  rw [show (47 + 1 : Int32) = 48 from rfl]
  refine fe_chr (i := 48) (by omega) (by rfl) (by rfl) ⟨by rfl, by rfl⟩ (by rfl) ?_
  rw [show sk_b.getD 48 0 = 101 from rfl]
  refine fe_s 1 (pc' := 33) (lc' := [(4, .int 48), (3, .int 47), (2, .int 8), (0, .ref 0), (1, .ref 22)]) (stk' := [.int 32, .int 101]) (mem' := fm g tp bt a b) (fun _ _ _ => rfl) ?_
  refine fe_s 1 (pc' := cond (fx_cb .eq 101 32) 42 36) (lc' := [(4, .int 48), (3, .int 47), (2, .int 8), (0, .ref 0), (1, .ref 22)]) (stk' := []) (mem' := fm g tp bt a b) (fun _ _ _ => rfl) ?_
  rw [show (fx_cb .eq 101 32) = false from by decide]
  dsimp only [cond]
  refine fe_s 4 (pc' := 28) (lc' := [(4, .int (48 + 1)), (3, .int 47), (2, .int 8), (0, .ref 0), (1, .ref 22)]) (stk' := [.int (48 + 1), .ref 22]) (mem' := fm g tp bt a b) (fun _ _ _ => rfl) ?_
  rw [show (48 + 1 : Int32) = 49 from rfl]
  refine fe_chr (i := 49) (by omega) (by rfl) (by rfl) ⟨by rfl, by rfl⟩ (by rfl) ?_
  rw [show sk_b.getD 49 0 = 97 from rfl]
  refine fe_s 1 (pc' := 33) (lc' := [(4, .int 49), (3, .int 47), (2, .int 8), (0, .ref 0), (1, .ref 22)]) (stk' := [.int 32, .int 97]) (mem' := fm g tp bt a b) (fun _ _ _ => rfl) ?_
  refine fe_s 1 (pc' := cond (fx_cb .eq 97 32) 42 36) (lc' := [(4, .int 49), (3, .int 47), (2, .int 8), (0, .ref 0), (1, .ref 22)]) (stk' := []) (mem' := fm g tp bt a b) (fun _ _ _ => rfl) ?_
  rw [show (fx_cb .eq 97 32) = false from by decide]
  dsimp only [cond]
  refine fe_s 4 (pc' := 28) (lc' := [(4, .int (49 + 1)), (3, .int 47), (2, .int 8), (0, .ref 0), (1, .ref 22)]) (stk' := [.int (49 + 1), .ref 22]) (mem' := fm g tp bt a b) (fun _ _ _ => rfl) ?_
  rw [show (49 + 1 : Int32) = 50 from rfl]
  refine fe_chr (i := 50) (by omega) (by rfl) (by rfl) ⟨by rfl, by rfl⟩ (by rfl) ?_
  rw [show sk_b.getD 50 0 = 114 from rfl]
  refine fe_s 1 (pc' := 33) (lc' := [(4, .int 50), (3, .int 47), (2, .int 8), (0, .ref 0), (1, .ref 22)]) (stk' := [.int 32, .int 114]) (mem' := fm g tp bt a b) (fun _ _ _ => rfl) ?_
  refine fe_s 1 (pc' := cond (fx_cb .eq 114 32) 42 36) (lc' := [(4, .int 50), (3, .int 47), (2, .int 8), (0, .ref 0), (1, .ref 22)]) (stk' := []) (mem' := fm g tp bt a b) (fun _ _ _ => rfl) ?_
  rw [show (fx_cb .eq 114 32) = false from by decide]
  dsimp only [cond]
  refine fe_s 4 (pc' := 28) (lc' := [(4, .int (50 + 1)), (3, .int 47), (2, .int 8), (0, .ref 0), (1, .ref 22)]) (stk' := [.int (50 + 1), .ref 22]) (mem' := fm g tp bt a b) (fun _ _ _ => rfl) ?_
  rw [show (50 + 1 : Int32) = 51 from rfl]
  refine fe_chr (i := 51) (by omega) (by rfl) (by rfl) ⟨by rfl, by rfl⟩ (by rfl) ?_
  rw [show sk_b.getD 51 0 = 115 from rfl]
  refine fe_s 1 (pc' := 33) (lc' := [(4, .int 51), (3, .int 47), (2, .int 8), (0, .ref 0), (1, .ref 22)]) (stk' := [.int 32, .int 115]) (mem' := fm g tp bt a b) (fun _ _ _ => rfl) ?_
  refine fe_s 1 (pc' := cond (fx_cb .eq 115 32) 42 36) (lc' := [(4, .int 51), (3, .int 47), (2, .int 8), (0, .ref 0), (1, .ref 22)]) (stk' := []) (mem' := fm g tp bt a b) (fun _ _ _ => rfl) ?_
  rw [show (fx_cb .eq 115 32) = false from by decide]
  dsimp only [cond]
  refine fe_s 4 (pc' := 28) (lc' := [(4, .int (51 + 1)), (3, .int 47), (2, .int 8), (0, .ref 0), (1, .ref 22)]) (stk' := [.int (51 + 1), .ref 22]) (mem' := fm g tp bt a b) (fun _ _ _ => rfl) ?_
  rw [show (51 + 1 : Int32) = 52 from rfl]
  refine fe_chr (i := 52) (by omega) (by rfl) (by rfl) ⟨by rfl, by rfl⟩ (by rfl) ?_
  rw [show sk_b.getD 52 0 = 32 from rfl]
  refine fe_s 1 (pc' := 33) (lc' := [(4, .int 52), (3, .int 47), (2, .int 8), (0, .ref 0), (1, .ref 22)]) (stk' := [.int 32, .int 32]) (mem' := fm g tp bt a b) (fun _ _ _ => rfl) ?_
  refine fe_s 1 (pc' := cond (fx_cb .eq 32 32) 42 36) (lc' := [(4, .int 52), (3, .int 47), (2, .int 8), (0, .ref 0), (1, .ref 22)]) (stk' := []) (mem' := fm g tp bt a b) (fun _ _ _ => rfl) ?_
  rw [show (fx_cb .eq 32 32) = true from by decide]
  dsimp only [cond]
  refine fe_s 4 (pc' := 47) (lc' := [(4, .int 52), (3, .int 47), (2, .int 8), (0, .ref 0), (1, .ref 22)]) (stk' := [.ref 0, .int (52 - 47)]) (mem' := fm g tp bt a b) (fun _ _ _ => rfl) ?_
  rw [show (52 - 47 : Int32) = 5 from rfl]
  refine fe_s 4 (pc' := 55) (lc' := [(4, .int 52), (3, .int 47), (2, .int 8), (0, .ref 0), (1, .ref 22)]) (stk' := [.int ((g 14) - (g 13)), .int 5]) (mem' := fm g tp bt a b) (fun _ _ _ => rfl) ?_
  try rw [h14]
  try rw [h13]
  rw [show ((nI E) - (nI F) : Int32) = nI (E - F) from by simp only [tg_sub2 (x := E) (y := F) (by omega), nI_add, fm_mul]]
  refine fe_s 1 (pc' := cond (fx_cb .ne 5 (nI (E - F))) 62 58) (lc' := [(4, .int 52), (3, .int 47), (2, .int 8), (0, .ref 0), (1, .ref 22)]) (stk' := []) (mem' := fm g tp bt a b) (fun _ _ _ => rfl) ?_
  by_cases h2 : 5 = (E - F)
  · rw [show (fx_cb .ne 5 (nI (E - F))) = false from cb_neF (a := 5) (b := E - F) (by omega) (by omega) (by omega)]
    dsimp only [cond]
    refine fe_s 4 (pc' := 66) (lc' := [(5, .int 1), (4, .int 52), (3, .int 47), (2, .int 8), (0, .ref 0), (1, .ref 22)]) (stk' := [.int 47]) (mem' := fm g tp bt a b) (fun _ _ _ => rfl) ?_
    refine fe_s 3 (pc' := 72) (lc' := [(6, .int 47), (5, .int 1), (4, .int 52), (3, .int 47), (2, .int 8), (0, .ref 0), (1, .ref 22)]) (stk' := [.int 52, .int 47]) (mem' := fm g tp bt a b) (fun _ _ _ => rfl) ?_
    refine fe_s 1 (pc' := cond (fx_cb .ge 47 52) 115 75) (lc' := [(6, .int 47), (5, .int 1), (4, .int 52), (3, .int 47), (2, .int 8), (0, .ref 0), (1, .ref 22)]) (stk' := []) (mem' := fm g tp bt a b) (fun _ _ _ => rfl) ?_
    rw [show (fx_cb .ge 47 52) = false from by decide]
    dsimp only [cond]
    refine fe_s 1 (pc' := 77) (lc' := [(6, .int 47), (5, .int 1), (4, .int 52), (3, .int 47), (2, .int 8), (0, .ref 0), (1, .ref 22)]) (stk' := [.int 1]) (mem' := fm g tp bt a b) (fun _ _ _ => rfl) ?_
    refine fe_s 1 (pc' := cond (fx_cb .eq 1 0) 115 80) (lc' := [(6, .int 47), (5, .int 1), (4, .int 52), (3, .int 47), (2, .int 8), (0, .ref 0), (1, .ref 22)]) (stk' := []) (mem' := fm g tp bt a b) (fun _ _ _ => rfl) ?_
    rw [show (fx_cb .eq 1 0) = false from by decide]
    dsimp only [cond]
    refine fe_s 2 (pc' := 83) (lc' := [(6, .int 47), (5, .int 1), (4, .int 52), (3, .int 47), (2, .int 8), (0, .ref 0), (1, .ref 22)]) (stk' := [.int 47, .ref 22]) (mem' := fm g tp bt a b) (fun _ _ _ => rfl) ?_
    refine fe_chr (i := 47) (by omega) (by rfl) (by rfl) ⟨by rfl, by rfl⟩ (by rfl) ?_
    rw [show sk_b.getD 47 0 = 98 from rfl]
    refine fe_s 4 (pc' := 93) (lc' := [(6, .int 47), (5, .int 1), (4, .int 52), (3, .int 47), (2, .int 8), (0, .ref 0), (1, .ref 22)]) (stk' := [.int 47, .int (g 13), .ref 0, .int 98]) (mem' := fm g tp bt a b) (fun _ _ _ => rfl) ?_
    try rw [h13]
    refine fe_s 3 (pc' := 96) (lc' := [(6, .int 47), (5, .int 1), (4, .int 52), (3, .int 47), (2, .int 8), (0, .ref 0), (1, .ref 22)]) (stk' := [.int (((nI F) + 47) - 47), .ref 0, .int 98]) (mem' := fm g tp bt a b) (fun _ _ _ => rfl) ?_
    rw [show (((nI F) + 47) - 47 : Int32) = nI ((F + 47) - 47) from by simp only [show (47 : Int32) = nI 47 from rfl, tg_sub2 (x := F + 47) (y := 47) (by omega), nI_add, fm_mul]]
    refine fe_ivV (fr_byteAt (S := S) (k := (F + 47) - 47) (g := g) (tp := tp) (bt := bt) (a := a) (b := b) h11 (by omega) (by omega)) (by omega) (by rfl) (by rfl) (by rfl) (by rfl) (by rfl) (by rfl) ?_
    rcases fm_byte_or a S ((F + 47) - 47) with ⟨e4, q5⟩ | ⟨q5, n3, qn3, e4⟩
    · rw [e4]
      refine fe_s 1 (pc' := cond (fx_cb .ne 98 (-1)) 106 102) (lc' := [(6, .int 47), (5, .int 1), (4, .int 52), (3, .int 47), (2, .int 8), (0, .ref 0), (1, .ref 22)]) (stk' := []) (mem' := fm g tp bt a b) (fun _ _ _ => rfl) ?_
      rw [show (fx_cb .ne 98 (-1)) = true from by decide]
      dsimp only [cond]
      refine fe_s 1 (pc' := 107) (lc' := [(6, .int 47), (5, .int 1), (4, .int 52), (3, .int 47), (2, .int 8), (0, .ref 0), (1, .ref 22)]) (stk' := [.int 0]) (mem' := fm g tp bt a b) (fun _ _ _ => rfl) ?_
      refine fe_w (lc' := [(6, .int 47), (5, .int 1), (4, .int 52), (3, .int 47), (2, .int 8), (0, .ref 0), (1, .ref 22)]) ⟨rfl, rfl, rfl, rfl, rfl, rfl, rfl, trivial⟩ (by show List.Nodup [6, 5, 4, 3, 2, 0, 1]; decide) (by show List.Nodup [6, 5, 4, 3, 2, 0, 1]; decide) ?_
      exact fail _ _
    · rw [e4]
      refine fe_s 1 (pc' := cond (fx_cb .ne 98 (nI n3)) 106 102) (lc' := [(6, .int 47), (5, .int 1), (4, .int 52), (3, .int 47), (2, .int 8), (0, .ref 0), (1, .ref 22)]) (stk' := []) (mem' := fm g tp bt a b) (fun _ _ _ => rfl) ?_
      by_cases h6 : 98 = n3
      · rw [show (fx_cb .ne 98 (nI n3)) = false from cb_neF (a := 98) (b := n3) (by omega) (by omega) (by omega)]
        dsimp only [cond]
        refine fe_s 2 (pc' := 107) (lc' := [(6, .int 47), (5, .int 1), (4, .int 52), (3, .int 47), (2, .int 8), (0, .ref 0), (1, .ref 22)]) (stk' := [.int 1]) (mem' := fm g tp bt a b) (fun _ _ _ => rfl) ?_
        refine fe_s 4 (pc' := 70) (lc' := [(6, .int (47 + 1)), (5, .int 1), (4, .int 52), (3, .int 47), (2, .int 8), (0, .ref 0), (1, .ref 22)]) (stk' := [.int (47 + 1)]) (mem' := fm g tp bt a b) (fun _ _ _ => rfl) ?_
        rw [show (47 + 1 : Int32) = 48 from rfl]
        refine fe_s 1 (pc' := 72) (lc' := [(6, .int 48), (5, .int 1), (4, .int 52), (3, .int 47), (2, .int 8), (0, .ref 0), (1, .ref 22)]) (stk' := [.int 52, .int 48]) (mem' := fm g tp bt a b) (fun _ _ _ => rfl) ?_
        refine fe_s 1 (pc' := cond (fx_cb .ge 48 52) 115 75) (lc' := [(6, .int 48), (5, .int 1), (4, .int 52), (3, .int 47), (2, .int 8), (0, .ref 0), (1, .ref 22)]) (stk' := []) (mem' := fm g tp bt a b) (fun _ _ _ => rfl) ?_
        rw [show (fx_cb .ge 48 52) = false from by decide]
        dsimp only [cond]
        refine fe_s 1 (pc' := 77) (lc' := [(6, .int 48), (5, .int 1), (4, .int 52), (3, .int 47), (2, .int 8), (0, .ref 0), (1, .ref 22)]) (stk' := [.int 1]) (mem' := fm g tp bt a b) (fun _ _ _ => rfl) ?_
        refine fe_s 1 (pc' := cond (fx_cb .eq 1 0) 115 80) (lc' := [(6, .int 48), (5, .int 1), (4, .int 52), (3, .int 47), (2, .int 8), (0, .ref 0), (1, .ref 22)]) (stk' := []) (mem' := fm g tp bt a b) (fun _ _ _ => rfl) ?_
        rw [show (fx_cb .eq 1 0) = false from by decide]
        dsimp only [cond]
        refine fe_s 2 (pc' := 83) (lc' := [(6, .int 48), (5, .int 1), (4, .int 52), (3, .int 47), (2, .int 8), (0, .ref 0), (1, .ref 22)]) (stk' := [.int 48, .ref 22]) (mem' := fm g tp bt a b) (fun _ _ _ => rfl) ?_
        refine fe_chr (i := 48) (by omega) (by rfl) (by rfl) ⟨by rfl, by rfl⟩ (by rfl) ?_
        rw [show sk_b.getD 48 0 = 101 from rfl]
        refine fe_s 4 (pc' := 93) (lc' := [(6, .int 48), (5, .int 1), (4, .int 52), (3, .int 47), (2, .int 8), (0, .ref 0), (1, .ref 22)]) (stk' := [.int 48, .int (g 13), .ref 0, .int 101]) (mem' := fm g tp bt a b) (fun _ _ _ => rfl) ?_
        try rw [h13]
        refine fe_s 3 (pc' := 96) (lc' := [(6, .int 48), (5, .int 1), (4, .int 52), (3, .int 47), (2, .int 8), (0, .ref 0), (1, .ref 22)]) (stk' := [.int (((nI F) + 48) - 47), .ref 0, .int 101]) (mem' := fm g tp bt a b) (fun _ _ _ => rfl) ?_
        rw [show (((nI F) + 48) - 47 : Int32) = nI ((F + 48) - 47) from by simp only [show (48 : Int32) = nI 48 from rfl, show (47 : Int32) = nI 47 from rfl, tg_sub2 (x := F + 48) (y := 47) (by omega), nI_add, fm_mul]]
        refine fe_ivV (fr_byteAt (S := S) (k := (F + 48) - 47) (g := g) (tp := tp) (bt := bt) (a := a) (b := b) h11 (by omega) (by omega)) (by omega) (by rfl) (by rfl) (by rfl) (by rfl) (by rfl) (by rfl) ?_
        rcases fm_byte_or a S ((F + 48) - 47) with ⟨e8, q9⟩ | ⟨q9, n7, qn7, e8⟩
        · rw [e8]
          refine fe_s 1 (pc' := cond (fx_cb .ne 101 (-1)) 106 102) (lc' := [(6, .int 48), (5, .int 1), (4, .int 52), (3, .int 47), (2, .int 8), (0, .ref 0), (1, .ref 22)]) (stk' := []) (mem' := fm g tp bt a b) (fun _ _ _ => rfl) ?_
          rw [show (fx_cb .ne 101 (-1)) = true from by decide]
          dsimp only [cond]
          refine fe_s 1 (pc' := 107) (lc' := [(6, .int 48), (5, .int 1), (4, .int 52), (3, .int 47), (2, .int 8), (0, .ref 0), (1, .ref 22)]) (stk' := [.int 0]) (mem' := fm g tp bt a b) (fun _ _ _ => rfl) ?_
          refine fe_w (lc' := [(6, .int 48), (5, .int 1), (4, .int 52), (3, .int 47), (2, .int 8), (0, .ref 0), (1, .ref 22)]) ⟨rfl, rfl, rfl, rfl, rfl, rfl, rfl, trivial⟩ (by show List.Nodup [6, 5, 4, 3, 2, 0, 1]; decide) (by show List.Nodup [6, 5, 4, 3, 2, 0, 1]; decide) ?_
          exact fail _ _
        · rw [e8]
          refine fe_s 1 (pc' := cond (fx_cb .ne 101 (nI n7)) 106 102) (lc' := [(6, .int 48), (5, .int 1), (4, .int 52), (3, .int 47), (2, .int 8), (0, .ref 0), (1, .ref 22)]) (stk' := []) (mem' := fm g tp bt a b) (fun _ _ _ => rfl) ?_
          by_cases h10 : 101 = n7
          · rw [show (fx_cb .ne 101 (nI n7)) = false from cb_neF (a := 101) (b := n7) (by omega) (by omega) (by omega)]
            dsimp only [cond]
            refine fe_s 2 (pc' := 107) (lc' := [(6, .int 48), (5, .int 1), (4, .int 52), (3, .int 47), (2, .int 8), (0, .ref 0), (1, .ref 22)]) (stk' := [.int 1]) (mem' := fm g tp bt a b) (fun _ _ _ => rfl) ?_
            refine fe_s 4 (pc' := 70) (lc' := [(6, .int (48 + 1)), (5, .int 1), (4, .int 52), (3, .int 47), (2, .int 8), (0, .ref 0), (1, .ref 22)]) (stk' := [.int (48 + 1)]) (mem' := fm g tp bt a b) (fun _ _ _ => rfl) ?_
            rw [show (48 + 1 : Int32) = 49 from rfl]
            refine fe_s 1 (pc' := 72) (lc' := [(6, .int 49), (5, .int 1), (4, .int 52), (3, .int 47), (2, .int 8), (0, .ref 0), (1, .ref 22)]) (stk' := [.int 52, .int 49]) (mem' := fm g tp bt a b) (fun _ _ _ => rfl) ?_
            refine fe_s 1 (pc' := cond (fx_cb .ge 49 52) 115 75) (lc' := [(6, .int 49), (5, .int 1), (4, .int 52), (3, .int 47), (2, .int 8), (0, .ref 0), (1, .ref 22)]) (stk' := []) (mem' := fm g tp bt a b) (fun _ _ _ => rfl) ?_
            rw [show (fx_cb .ge 49 52) = false from by decide]
            dsimp only [cond]
            refine fe_s 1 (pc' := 77) (lc' := [(6, .int 49), (5, .int 1), (4, .int 52), (3, .int 47), (2, .int 8), (0, .ref 0), (1, .ref 22)]) (stk' := [.int 1]) (mem' := fm g tp bt a b) (fun _ _ _ => rfl) ?_
            refine fe_s 1 (pc' := cond (fx_cb .eq 1 0) 115 80) (lc' := [(6, .int 49), (5, .int 1), (4, .int 52), (3, .int 47), (2, .int 8), (0, .ref 0), (1, .ref 22)]) (stk' := []) (mem' := fm g tp bt a b) (fun _ _ _ => rfl) ?_
            rw [show (fx_cb .eq 1 0) = false from by decide]
            dsimp only [cond]
            refine fe_s 2 (pc' := 83) (lc' := [(6, .int 49), (5, .int 1), (4, .int 52), (3, .int 47), (2, .int 8), (0, .ref 0), (1, .ref 22)]) (stk' := [.int 49, .ref 22]) (mem' := fm g tp bt a b) (fun _ _ _ => rfl) ?_
            refine fe_chr (i := 49) (by omega) (by rfl) (by rfl) ⟨by rfl, by rfl⟩ (by rfl) ?_
            rw [show sk_b.getD 49 0 = 97 from rfl]
            refine fe_s 4 (pc' := 93) (lc' := [(6, .int 49), (5, .int 1), (4, .int 52), (3, .int 47), (2, .int 8), (0, .ref 0), (1, .ref 22)]) (stk' := [.int 49, .int (g 13), .ref 0, .int 97]) (mem' := fm g tp bt a b) (fun _ _ _ => rfl) ?_
            try rw [h13]
            refine fe_s 3 (pc' := 96) (lc' := [(6, .int 49), (5, .int 1), (4, .int 52), (3, .int 47), (2, .int 8), (0, .ref 0), (1, .ref 22)]) (stk' := [.int (((nI F) + 49) - 47), .ref 0, .int 97]) (mem' := fm g tp bt a b) (fun _ _ _ => rfl) ?_
            rw [show (((nI F) + 49) - 47 : Int32) = nI ((F + 49) - 47) from by simp only [show (49 : Int32) = nI 49 from rfl, show (47 : Int32) = nI 47 from rfl, tg_sub2 (x := F + 49) (y := 47) (by omega), nI_add, fm_mul]]
            refine fe_ivV (fr_byteAt (S := S) (k := (F + 49) - 47) (g := g) (tp := tp) (bt := bt) (a := a) (b := b) h11 (by omega) (by omega)) (by omega) (by rfl) (by rfl) (by rfl) (by rfl) (by rfl) (by rfl) ?_
            rcases fm_byte_or a S ((F + 49) - 47) with ⟨e12, q13⟩ | ⟨q13, n11, qn11, e12⟩
            · rw [e12]
              refine fe_s 1 (pc' := cond (fx_cb .ne 97 (-1)) 106 102) (lc' := [(6, .int 49), (5, .int 1), (4, .int 52), (3, .int 47), (2, .int 8), (0, .ref 0), (1, .ref 22)]) (stk' := []) (mem' := fm g tp bt a b) (fun _ _ _ => rfl) ?_
              rw [show (fx_cb .ne 97 (-1)) = true from by decide]
              dsimp only [cond]
              refine fe_s 1 (pc' := 107) (lc' := [(6, .int 49), (5, .int 1), (4, .int 52), (3, .int 47), (2, .int 8), (0, .ref 0), (1, .ref 22)]) (stk' := [.int 0]) (mem' := fm g tp bt a b) (fun _ _ _ => rfl) ?_
              refine fe_w (lc' := [(6, .int 49), (5, .int 1), (4, .int 52), (3, .int 47), (2, .int 8), (0, .ref 0), (1, .ref 22)]) ⟨rfl, rfl, rfl, rfl, rfl, rfl, rfl, trivial⟩ (by show List.Nodup [6, 5, 4, 3, 2, 0, 1]; decide) (by show List.Nodup [6, 5, 4, 3, 2, 0, 1]; decide) ?_
              exact fail _ _
            · rw [e12]
              refine fe_s 1 (pc' := cond (fx_cb .ne 97 (nI n11)) 106 102) (lc' := [(6, .int 49), (5, .int 1), (4, .int 52), (3, .int 47), (2, .int 8), (0, .ref 0), (1, .ref 22)]) (stk' := []) (mem' := fm g tp bt a b) (fun _ _ _ => rfl) ?_
              by_cases h14 : 97 = n11
              · rw [show (fx_cb .ne 97 (nI n11)) = false from cb_neF (a := 97) (b := n11) (by omega) (by omega) (by omega)]
                dsimp only [cond]
                refine fe_s 2 (pc' := 107) (lc' := [(6, .int 49), (5, .int 1), (4, .int 52), (3, .int 47), (2, .int 8), (0, .ref 0), (1, .ref 22)]) (stk' := [.int 1]) (mem' := fm g tp bt a b) (fun _ _ _ => rfl) ?_
                refine fe_s 4 (pc' := 70) (lc' := [(6, .int (49 + 1)), (5, .int 1), (4, .int 52), (3, .int 47), (2, .int 8), (0, .ref 0), (1, .ref 22)]) (stk' := [.int (49 + 1)]) (mem' := fm g tp bt a b) (fun _ _ _ => rfl) ?_
                rw [show (49 + 1 : Int32) = 50 from rfl]
                refine fe_s 1 (pc' := 72) (lc' := [(6, .int 50), (5, .int 1), (4, .int 52), (3, .int 47), (2, .int 8), (0, .ref 0), (1, .ref 22)]) (stk' := [.int 52, .int 50]) (mem' := fm g tp bt a b) (fun _ _ _ => rfl) ?_
                refine fe_s 1 (pc' := cond (fx_cb .ge 50 52) 115 75) (lc' := [(6, .int 50), (5, .int 1), (4, .int 52), (3, .int 47), (2, .int 8), (0, .ref 0), (1, .ref 22)]) (stk' := []) (mem' := fm g tp bt a b) (fun _ _ _ => rfl) ?_
                rw [show (fx_cb .ge 50 52) = false from by decide]
                dsimp only [cond]
                refine fe_s 1 (pc' := 77) (lc' := [(6, .int 50), (5, .int 1), (4, .int 52), (3, .int 47), (2, .int 8), (0, .ref 0), (1, .ref 22)]) (stk' := [.int 1]) (mem' := fm g tp bt a b) (fun _ _ _ => rfl) ?_
                refine fe_s 1 (pc' := cond (fx_cb .eq 1 0) 115 80) (lc' := [(6, .int 50), (5, .int 1), (4, .int 52), (3, .int 47), (2, .int 8), (0, .ref 0), (1, .ref 22)]) (stk' := []) (mem' := fm g tp bt a b) (fun _ _ _ => rfl) ?_
                rw [show (fx_cb .eq 1 0) = false from by decide]
                dsimp only [cond]
                refine fe_s 2 (pc' := 83) (lc' := [(6, .int 50), (5, .int 1), (4, .int 52), (3, .int 47), (2, .int 8), (0, .ref 0), (1, .ref 22)]) (stk' := [.int 50, .ref 22]) (mem' := fm g tp bt a b) (fun _ _ _ => rfl) ?_
                refine fe_chr (i := 50) (by omega) (by rfl) (by rfl) ⟨by rfl, by rfl⟩ (by rfl) ?_
                rw [show sk_b.getD 50 0 = 114 from rfl]
                refine fe_s 4 (pc' := 93) (lc' := [(6, .int 50), (5, .int 1), (4, .int 52), (3, .int 47), (2, .int 8), (0, .ref 0), (1, .ref 22)]) (stk' := [.int 50, .int (g 13), .ref 0, .int 114]) (mem' := fm g tp bt a b) (fun _ _ _ => rfl) ?_
                try rw [h13]
                refine fe_s 3 (pc' := 96) (lc' := [(6, .int 50), (5, .int 1), (4, .int 52), (3, .int 47), (2, .int 8), (0, .ref 0), (1, .ref 22)]) (stk' := [.int (((nI F) + 50) - 47), .ref 0, .int 114]) (mem' := fm g tp bt a b) (fun _ _ _ => rfl) ?_
                rw [show (((nI F) + 50) - 47 : Int32) = nI ((F + 50) - 47) from by simp only [show (50 : Int32) = nI 50 from rfl, show (47 : Int32) = nI 47 from rfl, tg_sub2 (x := F + 50) (y := 47) (by omega), nI_add, fm_mul]]
                refine fe_ivV (fr_byteAt (S := S) (k := (F + 50) - 47) (g := g) (tp := tp) (bt := bt) (a := a) (b := b) h11 (by omega) (by omega)) (by omega) (by rfl) (by rfl) (by rfl) (by rfl) (by rfl) (by rfl) ?_
                rcases fm_byte_or a S ((F + 50) - 47) with ⟨e16, q17⟩ | ⟨q17, n15, qn15, e16⟩
                · rw [e16]
                  refine fe_s 1 (pc' := cond (fx_cb .ne 114 (-1)) 106 102) (lc' := [(6, .int 50), (5, .int 1), (4, .int 52), (3, .int 47), (2, .int 8), (0, .ref 0), (1, .ref 22)]) (stk' := []) (mem' := fm g tp bt a b) (fun _ _ _ => rfl) ?_
                  rw [show (fx_cb .ne 114 (-1)) = true from by decide]
                  dsimp only [cond]
                  refine fe_s 1 (pc' := 107) (lc' := [(6, .int 50), (5, .int 1), (4, .int 52), (3, .int 47), (2, .int 8), (0, .ref 0), (1, .ref 22)]) (stk' := [.int 0]) (mem' := fm g tp bt a b) (fun _ _ _ => rfl) ?_
                  refine fe_w (lc' := [(6, .int 50), (5, .int 1), (4, .int 52), (3, .int 47), (2, .int 8), (0, .ref 0), (1, .ref 22)]) ⟨rfl, rfl, rfl, rfl, rfl, rfl, rfl, trivial⟩ (by show List.Nodup [6, 5, 4, 3, 2, 0, 1]; decide) (by show List.Nodup [6, 5, 4, 3, 2, 0, 1]; decide) ?_
                  exact fail _ _
                · rw [e16]
                  refine fe_s 1 (pc' := cond (fx_cb .ne 114 (nI n15)) 106 102) (lc' := [(6, .int 50), (5, .int 1), (4, .int 52), (3, .int 47), (2, .int 8), (0, .ref 0), (1, .ref 22)]) (stk' := []) (mem' := fm g tp bt a b) (fun _ _ _ => rfl) ?_
                  by_cases h18 : 114 = n15
                  · rw [show (fx_cb .ne 114 (nI n15)) = false from cb_neF (a := 114) (b := n15) (by omega) (by omega) (by omega)]
                    dsimp only [cond]
                    refine fe_s 2 (pc' := 107) (lc' := [(6, .int 50), (5, .int 1), (4, .int 52), (3, .int 47), (2, .int 8), (0, .ref 0), (1, .ref 22)]) (stk' := [.int 1]) (mem' := fm g tp bt a b) (fun _ _ _ => rfl) ?_
                    refine fe_s 4 (pc' := 70) (lc' := [(6, .int (50 + 1)), (5, .int 1), (4, .int 52), (3, .int 47), (2, .int 8), (0, .ref 0), (1, .ref 22)]) (stk' := [.int (50 + 1)]) (mem' := fm g tp bt a b) (fun _ _ _ => rfl) ?_
                    rw [show (50 + 1 : Int32) = 51 from rfl]
                    refine fe_s 1 (pc' := 72) (lc' := [(6, .int 51), (5, .int 1), (4, .int 52), (3, .int 47), (2, .int 8), (0, .ref 0), (1, .ref 22)]) (stk' := [.int 52, .int 51]) (mem' := fm g tp bt a b) (fun _ _ _ => rfl) ?_
                    refine fe_s 1 (pc' := cond (fx_cb .ge 51 52) 115 75) (lc' := [(6, .int 51), (5, .int 1), (4, .int 52), (3, .int 47), (2, .int 8), (0, .ref 0), (1, .ref 22)]) (stk' := []) (mem' := fm g tp bt a b) (fun _ _ _ => rfl) ?_
                    rw [show (fx_cb .ge 51 52) = false from by decide]
                    dsimp only [cond]
                    refine fe_s 1 (pc' := 77) (lc' := [(6, .int 51), (5, .int 1), (4, .int 52), (3, .int 47), (2, .int 8), (0, .ref 0), (1, .ref 22)]) (stk' := [.int 1]) (mem' := fm g tp bt a b) (fun _ _ _ => rfl) ?_
                    refine fe_s 1 (pc' := cond (fx_cb .eq 1 0) 115 80) (lc' := [(6, .int 51), (5, .int 1), (4, .int 52), (3, .int 47), (2, .int 8), (0, .ref 0), (1, .ref 22)]) (stk' := []) (mem' := fm g tp bt a b) (fun _ _ _ => rfl) ?_
                    rw [show (fx_cb .eq 1 0) = false from by decide]
                    dsimp only [cond]
                    refine fe_s 2 (pc' := 83) (lc' := [(6, .int 51), (5, .int 1), (4, .int 52), (3, .int 47), (2, .int 8), (0, .ref 0), (1, .ref 22)]) (stk' := [.int 51, .ref 22]) (mem' := fm g tp bt a b) (fun _ _ _ => rfl) ?_
                    refine fe_chr (i := 51) (by omega) (by rfl) (by rfl) ⟨by rfl, by rfl⟩ (by rfl) ?_
                    rw [show sk_b.getD 51 0 = 115 from rfl]
                    refine fe_s 4 (pc' := 93) (lc' := [(6, .int 51), (5, .int 1), (4, .int 52), (3, .int 47), (2, .int 8), (0, .ref 0), (1, .ref 22)]) (stk' := [.int 51, .int (g 13), .ref 0, .int 115]) (mem' := fm g tp bt a b) (fun _ _ _ => rfl) ?_
                    try rw [h13]
                    refine fe_s 3 (pc' := 96) (lc' := [(6, .int 51), (5, .int 1), (4, .int 52), (3, .int 47), (2, .int 8), (0, .ref 0), (1, .ref 22)]) (stk' := [.int (((nI F) + 51) - 47), .ref 0, .int 115]) (mem' := fm g tp bt a b) (fun _ _ _ => rfl) ?_
                    rw [show (((nI F) + 51) - 47 : Int32) = nI ((F + 51) - 47) from by simp only [show (51 : Int32) = nI 51 from rfl, show (47 : Int32) = nI 47 from rfl, tg_sub2 (x := F + 51) (y := 47) (by omega), nI_add, fm_mul]]
                    refine fe_ivV (fr_byteAt (S := S) (k := (F + 51) - 47) (g := g) (tp := tp) (bt := bt) (a := a) (b := b) h11 (by omega) (by omega)) (by omega) (by rfl) (by rfl) (by rfl) (by rfl) (by rfl) (by rfl) ?_
                    rcases fm_byte_or a S ((F + 51) - 47) with ⟨e20, q21⟩ | ⟨q21, n19, qn19, e20⟩
                    · rw [e20]
                      refine fe_s 1 (pc' := cond (fx_cb .ne 115 (-1)) 106 102) (lc' := [(6, .int 51), (5, .int 1), (4, .int 52), (3, .int 47), (2, .int 8), (0, .ref 0), (1, .ref 22)]) (stk' := []) (mem' := fm g tp bt a b) (fun _ _ _ => rfl) ?_
                      rw [show (fx_cb .ne 115 (-1)) = true from by decide]
                      dsimp only [cond]
                      refine fe_s 1 (pc' := 107) (lc' := [(6, .int 51), (5, .int 1), (4, .int 52), (3, .int 47), (2, .int 8), (0, .ref 0), (1, .ref 22)]) (stk' := [.int 0]) (mem' := fm g tp bt a b) (fun _ _ _ => rfl) ?_
                      refine fe_w (lc' := [(6, .int 51), (5, .int 1), (4, .int 52), (3, .int 47), (2, .int 8), (0, .ref 0), (1, .ref 22)]) ⟨rfl, rfl, rfl, rfl, rfl, rfl, rfl, trivial⟩ (by show List.Nodup [6, 5, 4, 3, 2, 0, 1]; decide) (by show List.Nodup [6, 5, 4, 3, 2, 0, 1]; decide) ?_
                      exact fail _ _
                    · rw [e20]
                      refine fe_s 1 (pc' := cond (fx_cb .ne 115 (nI n19)) 106 102) (lc' := [(6, .int 51), (5, .int 1), (4, .int 52), (3, .int 47), (2, .int 8), (0, .ref 0), (1, .ref 22)]) (stk' := []) (mem' := fm g tp bt a b) (fun _ _ _ => rfl) ?_
                      by_cases h22 : 115 = n19
                      · rw [show (fx_cb .ne 115 (nI n19)) = false from cb_neF (a := 115) (b := n19) (by omega) (by omega) (by omega)]
                        dsimp only [cond]
                        refine fe_s 2 (pc' := 107) (lc' := [(6, .int 51), (5, .int 1), (4, .int 52), (3, .int 47), (2, .int 8), (0, .ref 0), (1, .ref 22)]) (stk' := [.int 1]) (mem' := fm g tp bt a b) (fun _ _ _ => rfl) ?_
                        refine fe_s 4 (pc' := 70) (lc' := [(6, .int (51 + 1)), (5, .int 1), (4, .int 52), (3, .int 47), (2, .int 8), (0, .ref 0), (1, .ref 22)]) (stk' := [.int (51 + 1)]) (mem' := fm g tp bt a b) (fun _ _ _ => rfl) ?_
                        rw [show (51 + 1 : Int32) = 52 from rfl]
                        refine fe_s 1 (pc' := 72) (lc' := [(6, .int 52), (5, .int 1), (4, .int 52), (3, .int 47), (2, .int 8), (0, .ref 0), (1, .ref 22)]) (stk' := [.int 52, .int 52]) (mem' := fm g tp bt a b) (fun _ _ _ => rfl) ?_
                        refine fe_s 1 (pc' := cond (fx_cb .ge 52 52) 115 75) (lc' := [(6, .int 52), (5, .int 1), (4, .int 52), (3, .int 47), (2, .int 8), (0, .ref 0), (1, .ref 22)]) (stk' := []) (mem' := fm g tp bt a b) (fun _ _ _ => rfl) ?_
                        rw [show (fx_cb .ge 52 52) = true from by decide]
                        dsimp only [cond]
                        refine fe_s 1 (pc' := 117) (lc' := [(6, .int 52), (5, .int 1), (4, .int 52), (3, .int 47), (2, .int 8), (0, .ref 0), (1, .ref 22)]) (stk' := [.int 1]) (mem' := fm g tp bt a b) (fun _ _ _ => rfl) ?_
                        refine fe_s 1 (pc' := cond (fx_cb .eq 1 0) 122 120) (lc' := [(6, .int 52), (5, .int 1), (4, .int 52), (3, .int 47), (2, .int 8), (0, .ref 0), (1, .ref 22)]) (stk' := []) (mem' := fm g tp bt a b) (fun _ _ _ => rfl) ?_
                        rw [show (fx_cb .eq 1 0) = false from by decide]
                        dsimp only [cond]
                        refine fe_s 1 (pc' := 121) (lc' := [(6, .int 52), (5, .int 1), (4, .int 52), (3, .int 47), (2, .int 8), (0, .ref 0), (1, .ref 22)]) (stk' := [.int 8]) (mem' := fm g tp bt a b) (fun _ _ _ => rfl) ?_
                        exact fe_ret ⟨_, Or.inr ⟨8, by omega, rfl⟩, rfl⟩ (by rfl) (by rfl) (by rfl)
                      · rw [show (fx_cb .ne 115 (nI n19)) = true from cb_neT (a := 115) (b := n19) (by omega) (by omega) (by omega)]
                        dsimp only [cond]
                        refine fe_s 1 (pc' := 107) (lc' := [(6, .int 51), (5, .int 1), (4, .int 52), (3, .int 47), (2, .int 8), (0, .ref 0), (1, .ref 22)]) (stk' := [.int 0]) (mem' := fm g tp bt a b) (fun _ _ _ => rfl) ?_
                        refine fe_w (lc' := [(6, .int 51), (5, .int 1), (4, .int 52), (3, .int 47), (2, .int 8), (0, .ref 0), (1, .ref 22)]) ⟨rfl, rfl, rfl, rfl, rfl, rfl, rfl, trivial⟩ (by show List.Nodup [6, 5, 4, 3, 2, 0, 1]; decide) (by show List.Nodup [6, 5, 4, 3, 2, 0, 1]; decide) ?_
                        exact fail _ _
                  · rw [show (fx_cb .ne 114 (nI n15)) = true from cb_neT (a := 114) (b := n15) (by omega) (by omega) (by omega)]
                    dsimp only [cond]
                    refine fe_s 1 (pc' := 107) (lc' := [(6, .int 50), (5, .int 1), (4, .int 52), (3, .int 47), (2, .int 8), (0, .ref 0), (1, .ref 22)]) (stk' := [.int 0]) (mem' := fm g tp bt a b) (fun _ _ _ => rfl) ?_
                    refine fe_w (lc' := [(6, .int 50), (5, .int 1), (4, .int 52), (3, .int 47), (2, .int 8), (0, .ref 0), (1, .ref 22)]) ⟨rfl, rfl, rfl, rfl, rfl, rfl, rfl, trivial⟩ (by show List.Nodup [6, 5, 4, 3, 2, 0, 1]; decide) (by show List.Nodup [6, 5, 4, 3, 2, 0, 1]; decide) ?_
                    exact fail _ _
              · rw [show (fx_cb .ne 97 (nI n11)) = true from cb_neT (a := 97) (b := n11) (by omega) (by omega) (by omega)]
                dsimp only [cond]
                refine fe_s 1 (pc' := 107) (lc' := [(6, .int 49), (5, .int 1), (4, .int 52), (3, .int 47), (2, .int 8), (0, .ref 0), (1, .ref 22)]) (stk' := [.int 0]) (mem' := fm g tp bt a b) (fun _ _ _ => rfl) ?_
                refine fe_w (lc' := [(6, .int 49), (5, .int 1), (4, .int 52), (3, .int 47), (2, .int 8), (0, .ref 0), (1, .ref 22)]) ⟨rfl, rfl, rfl, rfl, rfl, rfl, rfl, trivial⟩ (by show List.Nodup [6, 5, 4, 3, 2, 0, 1]; decide) (by show List.Nodup [6, 5, 4, 3, 2, 0, 1]; decide) ?_
                exact fail _ _
          · rw [show (fx_cb .ne 101 (nI n7)) = true from cb_neT (a := 101) (b := n7) (by omega) (by omega) (by omega)]
            dsimp only [cond]
            refine fe_s 1 (pc' := 107) (lc' := [(6, .int 48), (5, .int 1), (4, .int 52), (3, .int 47), (2, .int 8), (0, .ref 0), (1, .ref 22)]) (stk' := [.int 0]) (mem' := fm g tp bt a b) (fun _ _ _ => rfl) ?_
            refine fe_w (lc' := [(6, .int 48), (5, .int 1), (4, .int 52), (3, .int 47), (2, .int 8), (0, .ref 0), (1, .ref 22)]) ⟨rfl, rfl, rfl, rfl, rfl, rfl, rfl, trivial⟩ (by show List.Nodup [6, 5, 4, 3, 2, 0, 1]; decide) (by show List.Nodup [6, 5, 4, 3, 2, 0, 1]; decide) ?_
            exact fail _ _
      · rw [show (fx_cb .ne 98 (nI n3)) = true from cb_neT (a := 98) (b := n3) (by omega) (by omega) (by omega)]
        dsimp only [cond]
        refine fe_s 1 (pc' := 107) (lc' := [(6, .int 47), (5, .int 1), (4, .int 52), (3, .int 47), (2, .int 8), (0, .ref 0), (1, .ref 22)]) (stk' := [.int 0]) (mem' := fm g tp bt a b) (fun _ _ _ => rfl) ?_
        refine fe_w (lc' := [(6, .int 47), (5, .int 1), (4, .int 52), (3, .int 47), (2, .int 8), (0, .ref 0), (1, .ref 22)]) ⟨rfl, rfl, rfl, rfl, rfl, rfl, rfl, trivial⟩ (by show List.Nodup [6, 5, 4, 3, 2, 0, 1]; decide) (by show List.Nodup [6, 5, 4, 3, 2, 0, 1]; decide) ?_
        exact fail _ _
  · rw [show (fx_cb .ne 5 (nI (E - F))) = true from cb_neT (a := 5) (b := E - F) (by omega) (by omega) (by omega)]
    dsimp only [cond]
    refine fe_s 4 (pc' := 68) (lc' := [(6, .int 47), (5, .int 0), (4, .int 52), (3, .int 47), (2, .int 8), (0, .ref 0), (1, .ref 22)]) (stk' := []) (mem' := fm g tp bt a b) (fun _ _ _ => rfl) ?_
    refine fe_s 2 (pc' := 72) (lc' := [(6, .int 47), (5, .int 0), (4, .int 52), (3, .int 47), (2, .int 8), (0, .ref 0), (1, .ref 22)]) (stk' := [.int 52, .int 47]) (mem' := fm g tp bt a b) (fun _ _ _ => rfl) ?_
    refine fe_s 1 (pc' := cond (fx_cb .ge 47 52) 115 75) (lc' := [(6, .int 47), (5, .int 0), (4, .int 52), (3, .int 47), (2, .int 8), (0, .ref 0), (1, .ref 22)]) (stk' := []) (mem' := fm g tp bt a b) (fun _ _ _ => rfl) ?_
    rw [show (fx_cb .ge 47 52) = false from by decide]
    dsimp only [cond]
    refine fe_s 1 (pc' := 77) (lc' := [(6, .int 47), (5, .int 0), (4, .int 52), (3, .int 47), (2, .int 8), (0, .ref 0), (1, .ref 22)]) (stk' := [.int 0]) (mem' := fm g tp bt a b) (fun _ _ _ => rfl) ?_
    refine fe_s 1 (pc' := cond (fx_cb .eq 0 0) 115 80) (lc' := [(6, .int 47), (5, .int 0), (4, .int 52), (3, .int 47), (2, .int 8), (0, .ref 0), (1, .ref 22)]) (stk' := []) (mem' := fm g tp bt a b) (fun _ _ _ => rfl) ?_
    rw [show (fx_cb .eq 0 0) = true from by decide]
    dsimp only [cond]
    refine fe_s 1 (pc' := 117) (lc' := [(6, .int 47), (5, .int 0), (4, .int 52), (3, .int 47), (2, .int 8), (0, .ref 0), (1, .ref 22)]) (stk' := [.int 0]) (mem' := fm g tp bt a b) (fun _ _ _ => rfl) ?_
    refine fe_s 1 (pc' := cond (fx_cb .eq 0 0) 122 120) (lc' := [(6, .int 47), (5, .int 0), (4, .int 52), (3, .int 47), (2, .int 8), (0, .ref 0), (1, .ref 22)]) (stk' := []) (mem' := fm g tp bt a b) (fun _ _ _ => rfl) ?_
    rw [show (fx_cb .eq 0 0) = true from by decide]
    dsimp only [cond]
    refine fe_s 4 (pc' := 129) (lc' := [(2, .int (8 + 1)), (6, .int 47), (5, .int 0), (4, .int 52), (3, .int 47), (0, .ref 0), (1, .ref 22)]) (stk' := [.int (52 + 1)]) (mem' := fm g tp bt a b) (fun _ _ _ => rfl) ?_
    rw [show (8 + 1 : Int32) = 9 from rfl]
    rw [show (52 + 1 : Int32) = 53 from rfl]
    refine fe_s 1 (pc' := 130) (lc' := [(3, .int 53), (2, .int 9), (6, .int 47), (5, .int 0), (4, .int 52), (0, .ref 0), (1, .ref 22)]) (stk' := []) (mem' := fm g tp bt a b) (fun _ _ _ => rfl) ?_
    refine fe_s 1 (pc' := fx_to 130 (-116)) (lc' := [(3, .int 53), (2, .int 9), (6, .int 47), (5, .int 0), (4, .int 52), (0, .ref 0), (1, .ref 22)]) (stk' := []) (mem' := fm g tp bt a b) (fun _ _ _ => rfl) ?_
    rw [show fx_to 130 (-116) = 14 from by decide]
    refine fe_w (lc' := [(3, .int 53), (2, .int 9), (0, .ref 0), (1, .ref 22)]) ⟨rfl, rfl, rfl, rfl, trivial⟩ (by show List.Nodup [3, 2, 0, 1]; decide) (by show List.Nodup [3, 2, 6, 5, 4, 0, 1]; decide) ?_
    exact fw_9 hxp
end FIW6
