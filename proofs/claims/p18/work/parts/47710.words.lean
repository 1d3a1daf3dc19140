/-! ===== fx: which word it is (10) ===== -/
section FIW10
variable {g : Nat → Int32} {tp bt : Int64} {a : Nat → Nat → Int32} {b : Nat → Nat → Int64}
set_option maxHeartbeats 8000000 in
theorem fw_1 {S E F : Nat} (hxp : fm_xp g S E F) : fe_R 1 gk_m226 14 [(3, .int 5), (2, .int 1), (0, .ref 0), (1, .ref 22)] [] (fm g tp bt a b) (fm_FI (fm g tp bt a b)) := by
  obtain ⟨h11, hS9, h14, hES, h13, hFE, -, -, -⟩ := id hxp
  have fail : ∀ (x z : Int32), fe_R 1 gk_m226 107 [(6, .int x), (5, .int z), (4, .int 10), (3, .int 5), (2, .int 1), (0, .ref 0), (1, .ref 22)] [.int 0] (fm g tp bt a b) (fm_FI (fm g tp bt a b)) := by
    intro x z
    refine fe_s 4 (pc' := 70) (lc' := [(6, .int (x + 1)), (5, .int 0), (4, .int 10), (3, .int 5), (2, .int 1), (0, .ref 0), (1, .ref 22)]) (stk' := [.int (x + 1)]) (mem' := fm g tp bt a b) (fun _ _ _ => rfl) ?_
    refine fe_s 1 (pc' := 72) (lc' := [(6, .int (x + 1)), (5, .int 0), (4, .int 10), (3, .int 5), (2, .int 1), (0, .ref 0), (1, .ref 22)]) (stk' := [.int 10, .int (x + 1)]) (mem' := fm g tp bt a b) (fun _ _ _ => rfl) ?_
    refine fe_s 1 (pc' := cond (fx_cb .ge (x + 1) 10) 115 75) (lc' := [(6, .int (x + 1)), (5, .int 0), (4, .int 10), (3, .int 5), (2, .int 1), (0, .ref 0), (1, .ref 22)]) (stk' := []) (mem' := fm g tp bt a b) (fun _ _ _ => rfl) ?_
    cases h1 : fx_cb .ge (x + 1) 10
    · refine fe_s 1 (pc' := 77) (lc' := [(6, .int (x + 1)), (5, .int 0), (4, .int 10), (3, .int 5), (2, .int 1), (0, .ref 0), (1, .ref 22)]) (stk' := [.int 0]) (mem' := fm g tp bt a b) (fun _ _ _ => rfl) ?_
      refine fe_s 1 (pc' := cond (fx_cb .eq 0 0) 115 80) (lc' := [(6, .int (x + 1)), (5, .int 0), (4, .int 10), (3, .int 5), (2, .int 1), (0, .ref 0), (1, .ref 22)]) (stk' := []) (mem' := fm g tp bt a b) (fun _ _ _ => rfl) ?_
      rw [show (fx_cb .eq 0 0) = true from by decide]
      dsimp only [cond]
      refine fe_s 1 (pc' := 117) (lc' := [(6, .int (x + 1)), (5, .int 0), (4, .int 10), (3, .int 5), (2, .int 1), (0, .ref 0), (1, .ref 22)]) (stk' := [.int 0]) (mem' := fm g tp bt a b) (fun _ _ _ => rfl) ?_
      refine fe_s 1 (pc' := cond (fx_cb .eq 0 0) 122 120) (lc' := [(6, .int (x + 1)), (5, .int 0), (4, .int 10), (3, .int 5), (2, .int 1), (0, .ref 0), (1, .ref 22)]) (stk' := []) (mem' := fm g tp bt a b) (fun _ _ _ => rfl) ?_
      rw [show (fx_cb .eq 0 0) = true from by decide]
      dsimp only [cond]
      refine fe_s 4 (pc' := 129) (lc' := [(2, .int (1 + 1)), (6, .int (x + 1)), (5, .int 0), (4, .int 10), (3, .int 5), (0, .ref 0), (1, .ref 22)]) (stk' := [.int (10 + 1)]) (mem' := fm g tp bt a b) (fun _ _ _ => rfl) ?_
      rw [show (1 + 1 : Int32) = 2 from rfl]
      rw [show (10 + 1 : Int32) = 11 from rfl]
      refine fe_s 1 (pc' := 130) (lc' := [(3, .int 11), (2, .int 2), (6, .int (x + 1)), (5, .int 0), (4, .int 10), (0, .ref 0), (1, .ref 22)]) (stk' := []) (mem' := fm g tp bt a b) (fun _ _ _ => rfl) ?_
      refine fe_s 1 (pc' := fx_to 130 (-116)) (lc' := [(3, .int 11), (2, .int 2), (6, .int (x + 1)), (5, .int 0), (4, .int 10), (0, .ref 0), (1, .ref 22)]) (stk' := []) (mem' := fm g tp bt a b) (fun _ _ _ => rfl) ?_
      rw [show fx_to 130 (-116) = 14 from by decide]
      refine fe_w (lc' := [(3, .int 11), (2, .int 2), (0, .ref 0), (1, .ref 22)]) ⟨rfl, rfl, rfl, rfl, trivial⟩ (by show List.Nodup [3, 2, 0, 1]; decide) (by show List.Nodup [3, 2, 6, 5, 4, 0, 1]; decide) ?_
      exact fw_2 hxp
    · refine fe_s 1 (pc' := 117) (lc' := [(6, .int (x + 1)), (5, .int 0), (4, .int 10), (3, .int 5), (2, .int 1), (0, .ref 0), (1, .ref 22)]) (stk' := [.int 0]) (mem' := fm g tp bt a b) (fun _ _ _ => rfl) ?_
      refine fe_s 1 (pc' := cond (fx_cb .eq 0 0) 122 120) (lc' := [(6, .int (x + 1)), (5, .int 0), (4, .int 10), (3, .int 5), (2, .int 1), (0, .ref 0), (1, .ref 22)]) (stk' := []) (mem' := fm g tp bt a b) (fun _ _ _ => rfl) ?_
      rw [show (fx_cb .eq 0 0) = true from by decide]
      dsimp only [cond]
      refine fe_s 4 (pc' := 129) (lc' := [(2, .int (1 + 1)), (6, .int (x + 1)), (5, .int 0), (4, .int 10), (3, .int 5), (0, .ref 0), (1, .ref 22)]) (stk' := [.int (10 + 1)]) (mem' := fm g tp bt a b) (fun _ _ _ => rfl) ?_
      rw [show (1 + 1 : Int32) = 2 from rfl]
      rw [show (10 + 1 : Int32) = 11 from rfl]
      refine fe_s 1 (pc' := 130) (lc' := [(3, .int 11), (2, .int 2), (6, .int (x + 1)), (5, .int 0), (4, .int 10), (0, .ref 0), (1, .ref 22)]) (stk' := []) (mem' := fm g tp bt a b) (fun _ _ _ => rfl) ?_
      refine fe_s 1 (pc' := fx_to 130 (-116)) (lc' := [(3, .int 11), (2, .int 2), (6, .int (x + 1)), (5, .int 0), (4, .int 10), (0, .ref 0), (1, .ref 22)]) (stk' := []) (mem' := fm g tp bt a b) (fun _ _ _ => rfl) ?_
      rw [show fx_to 130 (-116) = 14 from by decide]
      refine fe_w (lc' := [(3, .int 11), (2, .int 2), (0, .ref 0), (1, .ref 22)]) ⟨rfl, rfl, rfl, rfl, trivial⟩ (by show List.Nodup [3, 2, 0, 1]; decide) (by show List.Nodup [3, 2, 6, 5, 4, 0, 1]; decide) ?_
      exact fw_2 hxp
  refine fe_s 2 (pc' := 16) (lc' := [(3, .int 5), (2, .int 1), (0, .ref 0), (1, .ref 22)]) (stk' := [.ref 22, .int 5]) (mem' := fm g tp bt a b) (fun _ _ _ => rfl) ?_
  refine fe_s 1 (pc' := 19) (lc' := [(3, .int 5), (2, .int 1), (0, .ref 0), (1, .ref 22)]) (stk' := [.int 117, .int 5]) (mem' := fm g tp bt a b) (fun _ _ _ => rfl) ?_
  refine fe_s 1 (pc' := cond (fx_cb .ge 5 117) 133 22) (lc' := [(3, .int 5), (2, .int 1), (0, .ref 0), (1, .ref 22)]) (stk' := []) (mem' := fm g tp bt a b) (fun _ _ _ => rfl) ?_
  rw [show (fx_cb .ge 5 117) = false from by decide]
  dsimp only [cond]
  refine fe_s 4 (pc' := 28) (lc' := [(4, .int 5), (3, .int 5), (2, .int 1), (0, .ref 0), (1, .ref 22)]) (stk' := [.int 5, .ref 22]) (mem' := fm g tp bt a b) (fun _ _ _ => rfl) ?_
  refine fe_chr (i := 5) (by omega) (by rfl) (by rfl) ⟨by rfl, by rfl⟩ (by rfl) ?_
  rw [show sk_b.getD 5 0 = 115 from rfl]
  refine fe_s 1 (pc' := 33) (lc' := [(4, .int 5), (3, .int 5), (2, .int 1), (0, .ref 0), (1, .ref 22)]) (stk' := [.int 32, .int 115]) (mem' := fm g tp bt a b) (fun _ _ _ => rfl) ?_
  refine fe_s 1 (pc' := cond (fx_cb .eq 115 32) 42 36) (lc' := [(4, .int 5), (3, .int 5), (2, .int 1), (0, .ref 0), (1, .ref 22)]) (stk' := []) (mem' := fm g tp bt a b) (fun _ _ _ => rfl) ?_
  rw [show (fx_cb .eq 115 32) = false from by decide]
  dsimp only [cond]
  refine fe_s 4 (pc' := 28) (lc' := [(4, .int (5 + 1)), (3, .int 5), (2, .int 1), (0, .ref 0), (1, .ref 22)]) (stk' := [.int (5 + 1), .ref 22]) (mem' := fm g tp bt a b) (fun _ _ _ => rfl) ?_
  rw [show (5 + 1 : Int32) = 6 from rfl]
  refine fe_chr (i := 6) (by omega) (by rfl) (by rfl) ⟨by rfl, by rfl⟩ (by rfl) ?_
  rw [show sk_b.getD 6 0 = 104 from rfl]
  refine fe_s 1 (pc' := 33) (lc' := [(4, .int 6), (3, .int 5), (2, .int 1), (0, .ref 0), (1, .ref 22)]) (stk' := [.int 32, .int 104]) (mem' := fm g tp bt a b) (fun _ _ _ => rfl) ?_
  refine fe_s 1 (pc' := cond (fx_cb .eq 104 32) 42 36) (lc' := [(4, .int 6), (3, .int 5), (2, .int 1), (0, .ref 0), (1, .ref 22)]) (stk' := []) (mem' := fm g tp bt a b) (fun _ _ _ => rfl) ?_
  rw [show (fx_cb .eq 104 32) = false from by decide]
  dsimp only [cond]
  refine fe_s 4 (pc' := 28) (lc' := [(4, .int (6 + 1)), (3, .int 5), (2, .int 1), (0, .ref 0), (1, .ref 22)]) (stk' := [.int (6 + 1), .ref 22]) (mem' := fm g tp bt a b) (fun _ _ _ => rfl) ?_
  rw [show (6 + 1 : Int32) = 7 from rfl]
  refine fe_chr (i := 7) (by omega) (by rfl) (by rfl) ⟨by rfl, by rfl⟩ (by rfl) ?_
  rw [show sk_b.getD 7 0 = 111 from rfl]
  refine fe_s 1 (pc' := 33) (lc' := [(4, .int 7), (3, .int 5), (2, .int 1), (0, .ref 0), (1, .ref 22)]) (stk' := [.int 32, .int 111]) (mem' := fm g tp bt a b) (fun _ _ _ => rfl) ?_
  refine fe_s 1 (pc' := cond (fx_cb .eq 111 32) 42 36) (lc' := [(4, .int 7), (3, .int 5), (2, .int 1), (0, .ref 0), (1, .ref 22)]) (stk' := []) (mem' := fm g tp bt a b) (fun _ _ _ => rfl) ?_
  rw [show (fx_cb .eq 111 32) = false from by decide]
  dsimp only [cond]
  refine fe_s 4 (pc' := 28) (lc' := [(4, .int (7 + 1)), (3, .int 5), (2, .int 1), (0, .ref 0), (1, .ref 22)]) (stk' := [.int (7 + 1), .ref 22]) (mem' := fm g tp bt a b) (fun _ _ _ => rfl) ?_
  rw [show (7 + 1 : Int32) = 8 from rfl]
  refine fe_chr (i := 8) (by omega) (by rfl) (by rfl) ⟨by rfl, by rfl⟩ (by rfl) ?_
  rw [show sk_b.getD 8 0 = 114 from rfl]
  refine fe_s 1 (pc' := 33) (lc' := [(4, .int 8), (3, .int 5), (2, .int 1), (0, .ref 0), (1, .ref 22)]) (stk' := [.int 32, .int 114]) (mem' := fm g tp bt a b) (fun _ _ _ => rfl) ?_
  refine fe_s 1 (pc' := cond (fx_cb .eq 114 32) 42 36) (lc' := [(4, .int 8), (3, .int 5), (2, .int 1), (0, .ref 0), (1, .ref 22)]) (stk' := []) (mem' := fm g tp bt a b) (fun _ _ _ => rfl) ?_
  rw [show (fx_cb .eq 114 32) = false from by decide]
  dsimp only [cond]
  refine fe_s 4 (pc' := 28) (lc' := [(4, .int (8 + 1)), (3, .int 5), (2, .int 1), (0, .ref 0), (1, .ref 22)]) (stk' := [.int (8 + 1), .ref 22]) (mem' := fm g tp bt a b) (fun _ _ _ => rfl) ?_
  rw [show (8 + 1 : Int32) = 9 from rfl]
  refine fe_chr (i := 9) (by omega) (by rfl) (by rfl) ⟨by rfl, by rfl⟩ (by rfl) ?_
  rw [show sk_b.getD 9 0 = 101 from rfl]
  refine fe_s 1 (pc' := 33) (lc' := [(4, .int 9), (3, .int 5), (2, .int 1), (0, .ref 0), (1, .ref 22)]) (stk' := [.int 32, .int 101]) (mem' := fm g tp bt a b) (fun _ _ _ => rfl) ?_
  refine fe_s 1 (pc' := cond (fx_cb .eq 101 32) 42 36) (lc' := [(4, .int 9), (3, .int 5), (2, .int 1), (0, .ref 0), (1, .ref 22)]) (stk' := []) (mem' := fm g tp bt a b) (fun _ _ _ => rfl) ?_
  rw [show (fx_cb .eq 101 32) = false from by decide]
  dsimp only [cond]
  refine fe_s 4 (pc' := 28) (lc' := [(4, .int (9 + 1)), (3, .int 5), (2, .int 1), (0, .ref 0), (1, .ref 22)]) (stk' := [.int (9 + 1), .ref 22]) (mem' := fm g tp bt a b) (fun _ _ _ => rfl) ?_
  rw [show (9 + 1 : Int32) = 10 from rfl]
  refine fe_chr (i := 10) (by omega) (by rfl) (by rfl) ⟨by rfl, by rfl⟩ (by rfl) ?_
  rw [show sk_b.getD 10 0 = 32 from rfl]
  refine fe_s 1 (pc' := 33) (lc' := [(4, .int 10), (3, .int 5), (2, .int 1), (0, .ref 0), (1, .ref 22)]) (stk' := [.int 32, .int 32]) (mem' := fm g tp bt a b) (fun _ _ _ => rfl) ?_
  refine fe_s 1 (pc' := cond (fx_cb .eq 32 32) 42 36) (lc' := [(4, .int 10), (3, .int 5), (2, .int 1), (0, .ref 0), (1, .ref 22)]) (stk' := []) (mem' := fm g tp bt a b) (fun _ _ _ => rfl) ?_
  rw [show (fx_cb .eq 32 32) = true from by decide]
  dsimp only [cond]
  refine fe_s 4 (pc' := 47) (lc' := [(4, .int 10), (3, .int 5), (2, .int 1), (0, .ref 0), (1, .ref 22)]) (stk' := [.ref 0, .int (10 - 5)]) (mem' := fm g tp bt a b) (fun _ _ _ => rfl) ?_
  rw [show (10 - 5 : Int32) = 5 from rfl]
  refine fe_s 4 (pc' := 55) (lc' := [(4, .int 10), (3, .int 5), (2, .int 1), (0, .ref 0), (1, .ref 22)]) (stk' := [.int ((g 14) - (g 13)), .int 5]) (mem' := fm g tp bt a b) (fun _ _ _ => rfl) ?_
  try rw [h14]
  try rw [h13]
  rw [show ((nI E) - (nI F) : Int32) = nI (E - F) from by simp only [tg_sub2 (x := E) (y := F) (by omega), nI_add, fm_mul]]
  refine fe_s 1 (pc' := cond (fx_cb .ne 5 (nI (E - F))) 62 58) (lc' := [(4, .int 10), (3, .int 5), (2, .int 1), (0, .ref 0), (1, .ref 22)]) (stk' := []) (mem' := fm g tp bt a b) (fun _ _ _ => rfl) ?_
  by_cases h2 : 5 = (E - F)
  · rw [show (fx_cb .ne 5 (nI (E - F))) = false from cb_neF (a := 5) (b := E - F) (by omega) (by omega) (by omega)]
    dsimp only [cond]
    refine fe_s 4 (pc' := 66) (lc' := [(5, .int 1), (4, .int 10), (3, .int 5), (2, .int 1), (0, .ref 0), (1, .ref 22)]) (stk' := [.int 5]) (mem' := fm g tp bt a b) (fun _ _ _ => rfl) ?_
    refine fe_s 3 (pc' := 72) (lc' := [(6, .int 5), (5, .int 1), (4, .int 10), (3, .int 5), (2, .int 1), (0, .ref 0), (1, .ref 22)]) (stk' := [.int 10, .int 5]) (mem' := fm g tp bt a b) (fun _ _ _ => rfl) ?_
    refine fe_s 1 (pc' := cond (fx_cb .ge 5 10) 115 75) (lc' := [(6, .int 5), (5, .int 1), (4, .int 10), (3, .int 5), (2, .int 1), (0, .ref 0), (1, .ref 22)]) (stk' := []) (mem' := fm g tp bt a b) (fun _ _ _ => rfl) ?_
    rw [show (fx_cb .ge 5 10) = false from by decide]
    dsimp only [cond]
    refine fe_s 1 (pc' := 77) (lc' := [(6, .int 5), (5, .int 1), (4, .int 10), (3, .int 5), (2, .int 1), (0, .ref 0), (1, .ref 22)]) (stk' := [.int 1]) (mem' := fm g tp bt a b) (fun _ _ _ => rfl) ?_
    refine fe_s 1 (pc' := cond (fx_cb .eq 1 0) 115 80) (lc' := [(6, .int 5), (5, .int 1), (4, .int 10), (3, .int 5), (2, .int 1), (0, .ref 0), (1, .ref 22)]) (stk' := []) (mem' := fm g tp bt a b) (fun _ _ _ => rfl) ?_
    rw [show (fx_cb .eq 1 0) = false from by decide]
    dsimp only [cond]
    refine fe_s 2 (pc' := 83) (lc' := [(6, .int 5), (5, .int 1), (4, .int 10), (3, .int 5), (2, .int 1), (0, .ref 0), (1, .ref 22)]) (stk' := [.int 5, .ref 22]) (mem' := fm g tp bt a b) (fun _ _ _ => rfl) ?_
    refine fe_chr (i := 5) (by omega) (by rfl) (by rfl) ⟨by rfl, by rfl⟩ (by rfl) ?_
    rw [show sk_b.getD 5 0 = 115 from rfl]
    refine fe_s 4 (pc' := 93) (lc' := [(6, .int 5), (5, .int 1), (4, .int 10), (3, .int 5), (2, .int 1), (0, .ref 0), (1, .ref 22)]) (stk' := [.int 5, .int (g 13), .ref 0, .int 115]) (mem' := fm g tp bt a b) (fun _ _ _ => rfl) ?_
    try rw [h13]
    refine fe_s 3 (pc' := 96) (lc' := [(6, .int 5), (5, .int 1), (4, .int 10), (3, .int 5), (2, .int 1), (0, .ref 0), (1, .ref 22)]) (stk' := [.int (((nI F) + 5) - 5), .ref 0, .int 115]) (mem' := fm g tp bt a b) (fun _ _ _ => rfl) ?_
    rw [show (((nI F) + 5) - 5 : Int32) = nI ((F + 5) - 5) from by simp only [show (5 : Int32) = nI 5 from rfl, tg_sub2 (x := F + 5) (y := 5) (by omega), nI_add, fm_mul]]
    refine fe_ivV (fr_byteAt (S := S) (k := (F + 5) - 5) (g := g) (tp := tp) (bt := bt) (a := a) (b := b) h11 (by omega) (by omega)) (by omega) (by rfl) (by rfl) (by rfl) (by rfl) (by rfl) (by rfl) ?_
    rcases fm_byte_or a S ((F + 5) - 5) with ⟨e4, q5⟩ | ⟨q5, n3, qn3, e4⟩
    · rw [e4]
      refine fe_s 1 (pc' := cond (fx_cb .ne 115 (-1)) 106 102) (lc' := [(6, .int 5), (5, .int 1), (4, .int 10), (3, .int 5), (2, .int 1), (0, .ref 0), (1, .ref 22)]) (stk' := []) (mem' := fm g tp bt a b) (fun _ _ _ => rfl) ?_
      rw [show (fx_cb .ne 115 (-1)) = true from by decide]
      dsimp only [cond]
      refine fe_s 1 (pc' := 107) (lc' := [(6, .int 5), (5, .int 1), (4, .int 10), (3, .int 5), (2, .int 1), (0, .ref 0), (1, .ref 22)]) (stk' := [.int 0]) (mem' := fm g tp bt a b) (fun _ _ _ => rfl) ?_
      refine fe_w (lc' := [(6, .int 5), (5, .int 1), (4, .int 10), (3, .int 5), (2, .int 1), (0, .ref 0), (1, .ref 22)]) ⟨rfl, rfl, rfl, rfl, rfl, rfl, rfl, trivial⟩ (by show List.Nodup [6, 5, 4, 3, 2, 0, 1]; decide) (by show List.Nodup [6, 5, 4, 3, 2, 0, 1]; decide) ?_
      exact fail _ _
    · rw [e4]
      refine fe_s 1 (pc' := cond (fx_cb .ne 115 (nI n3)) 106 102) (lc' := [(6, .int 5), (5, .int 1), (4, .int 10), (3, .int 5), (2, .int 1), (0, .ref 0), (1, .ref 22)]) (stk' := []) (mem' := fm g tp bt a b) (fun _ _ _ => rfl) ?_
      by_cases h6 : 115 = n3
      · rw [show (fx_cb .ne 115 (nI n3)) = false from cb_neF (a := 115) (b := n3) (by omega) (by omega) (by omega)]
        dsimp only [cond]
        refine fe_s 2 (pc' := 107) (lc' := [(6, .int 5), (5, .int 1), (4, .int 10), (3, .int 5), (2, .int 1), (0, .ref 0), (1, .ref 22)]) (stk' := [.int 1]) (mem' := fm g tp bt a b) (fun _ _ _ => rfl) ?_
        refine fe_s 4 (pc' := 70) (lc' := [(6, .int (5 + 1)), (5, .int 1), (4, .int 10), (3, .int 5), (2, .int 1), (0, .ref 0), (1, .ref 22)]) (stk' := [.int (5 + 1)]) (mem' := fm g tp bt a b) (fun _ _ _ => rfl) ?_
        rw [show (5 + 1 : Int32) = 6 from rfl]
        refine fe_s 1 (pc' := 72) (lc' := [(6, .int 6), (5, .int 1), (4, .int 10), (3, .int 5), (2, .int 1), (0, .ref 0), (1, .ref 22)]) (stk' := [.int 10, .int 6]) (mem' := fm g tp bt a b) (fun _ _ _ => rfl) ?_
        refine fe_s 1 (pc' := cond (fx_cb .ge 6 10) 115 75) (lc' := [(6, .int 6), (5, .int 1), (4, .int 10), (3, .int 5), (2, .int 1), (0, .ref 0), (1, .ref 22)]) (stk' := []) (mem' := fm g tp bt a b) (fun _ _ _ => rfl) ?_
        rw [show (fx_cb .ge 6 10) = false from by decide]
        dsimp only [cond]
        refine fe_s 1 (pc' := 77) (lc' := [(6, .int 6), (5, .int 1), (4, .int 10), (3, .int 5), (2, .int 1), (0, .ref 0), (1, .ref 22)]) (stk' := [.int 1]) (mem' := fm g tp bt a b) (fun _ _ _ => rfl) ?_
        refine fe_s 1 (pc' := cond (fx_cb .eq 1 0) 115 80) (lc' := [(6, .int 6), (5, .int 1), (4, .int 10), (3, .int 5), (2, .int 1), (0, .ref 0), (1, .ref 22)]) (stk' := []) (mem' := fm g tp bt a b) (fun _ _ _ => rfl) ?_
        rw [show (fx_cb .eq 1 0) = false from by decide]
        dsimp only [cond]
        refine fe_s 2 (pc' := 83) (lc' := [(6, .int 6), (5, .int 1), (4, .int 10), (3, .int 5), (2, .int 1), (0, .ref 0), (1, .ref 22)]) (stk' := [.int 6, .ref 22]) (mem' := fm g tp bt a b) (fun _ _ _ => rfl) ?_
        refine fe_chr (i := 6) (by omega) (by rfl) (by rfl) ⟨by rfl, by rfl⟩ (by rfl) ?_
        rw [show sk_b.getD 6 0 = 104 from rfl]
        refine fe_s 4 (pc' := 93) (lc' := [(6, .int 6), (5, .int 1), (4, .int 10), (3, .int 5), (2, .int 1), (0, .ref 0), (1, .ref 22)]) (stk' := [.int 6, .int (g 13), .ref 0, .int 104]) (mem' := fm g tp bt a b) (fun _ _ _ => rfl) ?_
        try rw [h13]
        refine fe_s 3 (pc' := 96) (lc' := [(6, .int 6), (5, .int 1), (4, .int 10), (3, .int 5), (2, .int 1), (0, .ref 0), (1, .ref 22)]) (stk' := [.int (((nI F) + 6) - 5), .ref 0, .int 104]) (mem' := fm g tp bt a b) (fun _ _ _ => rfl) ?_
        rw [show (((nI F) + 6) - 5 : Int32) = nI ((F + 6) - 5) from by simp only [show (6 : Int32) = nI 6 from rfl, show (5 : Int32) = nI 5 from rfl, tg_sub2 (x := F + 6) (y := 5) (by omega), nI_add, fm_mul]]
        refine fe_ivV (fr_byteAt (S := S) (k := (F + 6) - 5) (g := g) (tp := tp) (bt := bt) (a := a) (b := b) h11 (by omega) (by omega)) (by omega) (by rfl) (by rfl) (by rfl) (by rfl) (by rfl) (by rfl) ?_
        rcases fm_byte_or a S ((F + 6) - 5) with ⟨e8, q9⟩ | ⟨q9, n7, qn7, e8⟩
        · rw [e8]
          refine fe_s 1 (pc' := cond (fx_cb .ne 104 (-1)) 106 102) (lc' := [(6, .int 6), (5, .int 1), (4, .int 10), (3, .int 5), (2, .int 1), (0, .ref 0), (1, .ref 22)]) (stk' := []) (mem' := fm g tp bt a b) (fun _ _ _ => rfl) ?_
          rw [show (fx_cb .ne 104 (-1)) = true from by decide]
          dsimp only [cond]
          refine fe_s 1 (pc' := 107) (lc' := [(6, .int 6), (5, .int 1), (4, .int 10), (3, .int 5), (2, .int 1), (0, .ref 0), (1, .ref 22)]) (stk' := [.int 0]) (mem' := fm g tp bt a b) (fun _ _ _ => rfl) ?_
          refine fe_w (lc' := [(6, .int 6), (5, .int 1), (4, .int 10), (3, .int 5), (2, .int 1), (0, .ref 0), (1, .ref 22)]) ⟨rfl, rfl, rfl, rfl, rfl, rfl, rfl, trivial⟩ (by show List.Nodup [6, 5, 4, 3, 2, 0, 1]; decide) (by show List.Nodup [6, 5, 4, 3, 2, 0, 1]; decide) ?_
          exact fail _ _
        · rw [e8]
          refine fe_s 1 (pc' := cond (fx_cb .ne 104 (nI n7)) 106 102) (lc' := [(6, .int 6), (5, .int 1), (4, .int 10), (3, .int 5), (2, .int 1), (0, .ref 0), (1, .ref 22)]) (stk' := []) (mem' := fm g tp bt a b) (fun _ _ _ => rfl) ?_
          by_cases h10 : 104 = n7
          · rw [show (fx_cb .ne 104 (nI n7)) = false from cb_neF (a := 104) (b := n7) (by omega) (by omega) (by omega)]
            dsimp only [cond]
            refine fe_s 2 (pc' := 107) (lc' := [(6, .int 6), (5, .int 1), (4, .int 10), (3, .int 5), (2, .int 1), (0, .ref 0), (1, .ref 22)]) (stk' := [.int 1]) (mem' := fm g tp bt a b) (fun _ _ _ => rfl) ?_
            refine fe_s 4 (pc' := 70) (lc' := [(6, .int (6 + 1)), (5, .int 1), (4, .int 10), (3, .int 5), (2, .int 1), (0, .ref 0), (1, .ref 22)]) (stk' := [.int (6 + 1)]) (mem' := fm g tp bt a b) (fun _ _ _ => rfl) ?_
            rw [show (6 + 1 : Int32) = 7 from rfl]
            refine fe_s 1 (pc' := 72) (lc' := [(6, .int 7), (5, .int 1), (4, .int 10), (3, .int 5), (2, .int 1), (0, .ref 0), (1, .ref 22)]) (stk' := [.int 10, .int 7]) (mem' := fm g tp bt a b) (fun _ _ _ => rfl) ?_
            refine fe_s 1 (pc' := cond (fx_cb .ge 7 10) 115 75) (lc' := [(6, .int 7), (5, .int 1), (4, .int 10), (3, .int 5), (2, .int 1), (0, .ref 0), (1, .ref 22)]) (stk' := []) (mem' := fm g tp bt a b) (fun _ _ _ => rfl) ?_
            rw [show (fx_cb .ge 7 10) = false from by decide]
            dsimp only [cond]
            refine fe_s 1 (pc' := 77) (lc' := [(6, .int 7), (5, .int 1), (4, .int 10), (3, .int 5), (2, .int 1), (0, .ref 0), (1, .ref 22)]) (stk' := [.int 1]) (mem' := fm g tp bt a b) (fun _ _ _ => rfl) ?_
            refine fe_s 1 (pc' := cond (fx_cb .eq 1 0) 115 80) (lc' := [(6, .int 7), (5, .int 1), (4, .int 10), (3, .int 5), (2, .int 1), (0, .ref 0), (1, .ref 22)]) (stk' := []) (mem' := fm g tp bt a b) (fun _ _ _ => rfl) ?_
            rw [show (fx_cb .eq 1 0) = false from by decide]
            dsimp only [cond]
            refine fe_s 2 (pc' := 83) (lc' := [(6, .int 7), (5, .int 1), (4, .int 10), (3, .int 5), (2, .int 1), (0, .ref 0), (1, .ref 22)]) (stk' := [.int 7, .ref 22]) (mem' := fm g tp bt a b) (fun _ _ _ => rfl) ?_
            refine fe_chr (i := 7) (by omega) (by rfl) (by rfl) ⟨by rfl, by rfl⟩ (by rfl) ?_
            rw [show sk_b.getD 7 0 = 111 from rfl]
            refine fe_s 4 (pc' := 93) (lc' := [(6, .int 7), (5, .int 1), (4, .int 10), (3, .int 5), (2, .int 1), (0, .ref 0), (1, .ref 22)]) (stk' := [.int 7, .int (g 13), .ref 0, .int 111]) (mem' := fm g tp bt a b) (fun _ _ _ => rfl) ?_
            try rw [h13]
            refine fe_s 3 (pc' := 96) (lc' := [(6, .int 7), (5, .int 1), (4, .int 10), (3, .int 5), (2, .int 1), (0, .ref 0), (1, .ref 22)]) (stk' := [.int (((nI F) + 7) - 5), .ref 0, .int 111]) (mem' := fm g tp bt a b) (fun _ _ _ => rfl) ?_
            rw [show (((nI F) + 7) - 5 : Int32) = nI ((F + 7) - 5) from by simp only [show (7 : Int32) = nI 7 from rfl, show (5 : Int32) = nI 5 from rfl, tg_sub2 (x := F + 7) (y := 5) (by omega), nI_add, fm_mul]]
            refine fe_ivV (fr_byteAt (S := S) (k := (F + 7) - 5) (g := g) (tp := tp) (bt := bt) (a := a) (b := b) h11 (by omega) (by omega)) (by omega) (by rfl) (by rfl) (by rfl) (by rfl) (by rfl) (by rfl) ?_
            rcases fm_byte_or a S ((F + 7) - 5) with ⟨e12, q13⟩ | ⟨q13, n11, qn11, e12⟩
            · rw [e12]
              refine fe_s 1 (pc' := cond (fx_cb .ne 111 (-1)) 106 102) (lc' := [(6, .int 7), (5, .int 1), (4, .int 10), (3, .int 5), (2, .int 1), (0, .ref 0), (1, .ref 22)]) (stk' := []) (mem' := fm g tp bt a b) (fun _ _ _ => rfl) ?_
              rw [show (fx_cb .ne 111 (-1)) = true from by decide]
              dsimp only [cond]
              refine fe_s 1 (pc' := 107) (lc' := [(6, .int 7), (5, .int 1), (4, .int 10), (3, .int 5), (2, .int 1), (0, .ref 0), (1, .ref 22)]) (stk' := [.int 0]) (mem' := fm g tp bt a b) (fun _ _ _ => rfl) ?_
              refine fe_w (lc' := [(6, .int 7), (5, .int 1), (4, .int 10), (3, .int 5), (2, .int 1), (0, .ref 0), (1, .ref 22)]) ⟨rfl, rfl, rfl, rfl, rfl, rfl, rfl, trivial⟩ (by show List.Nodup [6, 5, 4, 3, 2, 0, 1]; decide) (by show List.Nodup [6, 5, 4, 3, 2, 0, 1]; decide) ?_
              exact fail _ _
            · rw [e12]
              refine fe_s 1 (pc' := cond (fx_cb .ne 111 (nI n11)) 106 102) (lc' := [(6, .int 7), (5, .int 1), (4, .int 10), (3, .int 5), (2, .int 1), (0, .ref 0), (1, .ref 22)]) (stk' := []) (mem' := fm g tp bt a b) (fun _ _ _ => rfl) ?_
              by_cases h14 : 111 = n11
              · rw [show (fx_cb .ne 111 (nI n11)) = false from cb_neF (a := 111) (b := n11) (by omega) (by omega) (by omega)]
                dsimp only [cond]
                refine fe_s 2 (pc' := 107) (lc' := [(6, .int 7), (5, .int 1), (4, .int 10), (3, .int 5), (2, .int 1), (0, .ref 0), (1, .ref 22)]) (stk' := [.int 1]) (mem' := fm g tp bt a b) (fun _ _ _ => rfl) ?_
                refine fe_s 4 (pc' := 70) (lc' := [(6, .int (7 + 1)), (5, .int 1), (4, .int 10), (3, .int 5), (2, .int 1), (0, .ref 0), (1, .ref 22)]) (stk' := [.int (7 + 1)]) (mem' := fm g tp bt a b) (fun _ _ _ => rfl) ?_
                rw [show (7 + 1 : Int32) = 8 from rfl]
                refine fe_s 1 (pc' := 72) (lc' := [(6, .int 8), (5, .int 1), (4, .int 10), (3, .int 5), (2, .int 1), (0, .ref 0), (1, .ref 22)]) (stk' := [.int 10, .int 8]) (mem' := fm g tp bt a b) (fun _ _ _ => rfl) ?_
                refine fe_s 1 (pc' := cond (fx_cb .ge 8 10) 115 75) (lc' := [(6, .int 8), (5, .int 1), (4, .int 10), (3, .int 5), (2, .int 1), (0, .ref 0), (1, .ref 22)]) (stk' := []) (mem' := fm g tp bt a b) (fun _ _ _ => rfl) ?_
                rw [show (fx_cb .ge 8 10) = false from by decide]
                dsimp only [cond]
                refine fe_s 1 (pc' := 77) (lc' := [(6, .int 8), (5, .int 1), (4, .int 10), (3, .int 5), (2, .int 1), (0, .ref 0), (1, .ref 22)]) (stk' := [.int 1]) (mem' := fm g tp bt a b) (fun _ _ _ => rfl) ?_
                refine fe_s 1 (pc' := cond (fx_cb .eq 1 0) 115 80) (lc' := [(6, .int 8), (5, .int 1), (4, .int 10), (3, .int 5), (2, .int 1), (0, .ref 0), (1, .ref 22)]) (stk' := []) (mem' := fm g tp bt a b) (fun _ _ _ => rfl) ?_
                rw [show (fx_cb .eq 1 0) = false from by decide]
                dsimp only [cond]
                refine fe_s 2 (pc' := 83) (lc' := [(6, .int 8), (5, .int 1), (4, .int 10), (3, .int 5), (2, .int 1), (0, .ref 0), (1, .ref 22)]) (stk' := [.int 8, .ref 22]) (mem' := fm g tp bt a b) (fun _ _ _ => rfl) ?_
                refine fe_chr (i := 8) (by omega) (by rfl) (by rfl) ⟨by rfl, by rfl⟩ (by rfl) ?_
                rw [show sk_b.getD 8 0 = 114 from rfl]
                refine fe_s 4 (pc' := 93) (lc' := [(6, .int 8), (5, .int 1), (4, .int 10), (3, .int 5), (2, .int 1), (0, .ref 0), (1, .ref 22)]) (stk' := [.int 8, .int (g 13), .ref 0, .int 114]) (mem' := fm g tp bt a b) (fun _ _ _ => rfl) ?_
                try rw [h13]
                refine fe_s 3 (pc' := 96) (lc' := [(6, .int 8), (5, .int 1), (4, .int 10), (3, .int 5), (2, .int 1), (0, .ref 0), (1, .ref 22)]) (stk' := [.int (((nI F) + 8) - 5), .ref 0, .int 114]) (mem' := fm g tp bt a b) (fun _ _ _ => rfl) ?_
                rw [show (((nI F) + 8) - 5 : Int32) = nI ((F + 8) - 5) from by simp only [show (8 : Int32) = nI 8 from rfl, show (5 : Int32) = nI 5 from rfl, tg_sub2 (x := F + 8) (y := 5) (by omega), nI_add, fm_mul]]
                refine fe_ivV (fr_byteAt (S := S) (k := (F + 8) - 5) (g := g) (tp := tp) (bt := bt) (a := a) (b := b) h11 (by omega) (by omega)) (by omega) (by rfl) (by rfl) (by rfl) (by rfl) (by rfl) (by rfl) ?_
                rcases fm_byte_or a S ((F + 8) - 5) with ⟨e16, q17⟩ | ⟨q17, n15, qn15, e16⟩
                · rw [e16]
                  refine fe_s 1 (pc' := cond (fx_cb .ne 114 (-1)) 106 102) (lc' := [(6, .int 8), (5, .int 1), (4, .int 10), (3, .int 5), (2, .int 1), (0, .ref 0), (1, .ref 22)]) (stk' := []) (mem' := fm g tp bt a b) (fun _ _ _ => rfl) ?_
                  rw [show (fx_cb .ne 114 (-1)) = true from by decide]
                  dsimp only [cond]
                  refine fe_s 1 (pc' := 107) (lc' := [(6, .int 8), (5, .int 1), (4, .int 10), (3, .int 5), (2, .int 1), (0, .ref 0), (1, .ref 22)]) (stk' := [.int 0]) (mem' := fm g tp bt a b) (fun _ _ _ => rfl) ?_
                  refine fe_w (lc' := [(6, .int 8), (5, .int 1), (4, .int 10), (3, .int 5), (2, .int 1), (0, .ref 0), (1, .ref 22)]) ⟨rfl, rfl, rfl, rfl, rfl, rfl, rfl, trivial⟩ (by show List.Nodup [6, 5, 4, 3, 2, 0, 1]; decide) (by show List.Nodup [6, 5, 4, 3, 2, 0, 1]; decide) ?_
                  exact fail _ _
                · rw [e16]
                  refine fe_s 1 (pc' := cond (fx_cb .ne 114 (nI n15)) 106 102) (lc' := [(6, .int 8), (5, .int 1), (4, .int 10), (3, .int 5), (2, .int 1), (0, .ref 0), (1, .ref 22)]) (stk' := []) (mem' := fm g tp bt a b) (fun _ _ _ => rfl) ?_
                  by_cases h18 : 114 = n15
                  · rw [show (fx_cb .ne 114 (nI n15)) = false from cb_neF (a := 114) (b := n15) (by omega) (by omega) (by omega)]
                    dsimp only [cond]
                    refine fe_s 2 (pc' := 107) (lc' := [(6, .int 8), (5, .int 1), (4, .int 10), (3, .int 5), (2, .int 1), (0, .ref 0), (1, .ref 22)]) (stk' := [.int 1]) (mem' := fm g tp bt a b) (fun _ _ _ => rfl) ?_
                    refine fe_s 4 (pc' := 70) (lc' := [(6, .int (8 + 1)), (5, .int 1), (4, .int 10), (3, .int 5), (2, .int 1), (0, .ref 0), (1, .ref 22)]) (stk' := [.int (8 + 1)]) (mem' := fm g tp bt a b) (fun _ _ _ => rfl) ?_
                    rw [show (8 + 1 : Int32) = 9 from rfl]
                    refine fe_s 1 (pc' := 72) (lc' := [(6, .int 9), (5, .int 1), (4, .int 10), (3, .int 5), (2, .int 1), (0, .ref 0), (1, .ref 22)]) (stk' := [.int 10, .int 9]) (mem' := fm g tp bt a b) (fun _ _ _ => rfl) ?_
                    refine fe_s 1 (pc' := cond (fx_cb .ge 9 10) 115 75) (lc' := [(6, .int 9), (5, .int 1), (4, .int 10), (3, .int 5), (2, .int 1), (0, .ref 0), (1, .ref 22)]) (stk' := []) (mem' := fm g tp bt a b) (fun _ _ _ => rfl) ?_
                    rw [show (fx_cb .ge 9 10) = false from by decide]
                    dsimp only [cond]
                    refine fe_s 1 (pc' := 77) (lc' := [(6, .int 9), (5, .int 1), (4, .int 10), (3, .int 5), (2, .int 1), (0, .ref 0), (1, .ref 22)]) (stk' := [.int 1]) (mem' := fm g tp bt a b) (fun _ _ _ => rfl) ?_
                    refine fe_s 1 (pc' := cond (fx_cb .eq 1 0) 115 80) (lc' := [(6, .int 9), (5, .int 1), (4, .int 10), (3, .int 5), (2, .int 1), (0, .ref 0), (1, .ref 22)]) (stk' := []) (mem' := fm g tp bt a b) (fun _ _ _ => rfl) ?_
                    rw [show (fx_cb .eq 1 0) = false from by decide]
                    dsimp only [cond]
                    refine fe_s 2 (pc' := 83) (lc' := [(6, .int 9), (5, .int 1), (4, .int 10), (3, .int 5), (2, .int 1), (0, .ref 0), (1, .ref 22)]) (stk' := [.int 9, .ref 22]) (mem' := fm g tp bt a b) (fun _ _ _ => rfl) ?_
                    refine fe_chr (i := 9) (by omega) (by rfl) (by rfl) ⟨by rfl, by rfl⟩ (by rfl) ?_
                    rw [show sk_b.getD 9 0 = 101 from rfl]
                    refine fe_s 4 (pc' := 93) (lc' := [(6, .int 9), (5, .int 1), (4, .int 10), (3, .int 5), (2, .int 1), (0, .ref 0), (1, .ref 22)]) (stk' := [.int 9, .int (g 13), .ref 0, .int 101]) (mem' := fm g tp bt a b) (fun _ _ _ => rfl) ?_
                    try rw [h13]
                    refine fe_s 3 (pc' := 96) (lc' := [(6, .int 9), (5, .int 1), (4, .int 10), (3, .int 5), (2, .int 1), (0, .ref 0), (1, .ref 22)]) (stk' := [.int (((nI F) + 9) - 5), .ref 0, .int 101]) (mem' := fm g tp bt a b) (fun _ _ _ => rfl) ?_
                    rw [show (((nI F) + 9) - 5 : Int32) = nI ((F + 9) - 5) from by simp only [show (9 : Int32) = nI 9 from rfl, show (5 : Int32) = nI 5 from rfl, tg_sub2 (x := F + 9) (y := 5) (by omega), nI_add, fm_mul]]
                    refine fe_ivV (fr_byteAt (S := S) (k := (F + 9) - 5) (g := g) (tp := tp) (bt := bt) (a := a) (b := b) h11 (by omega) (by omega)) (by omega) (by rfl) (by rfl) (by rfl) (by rfl) (by rfl) (by rfl) ?_
                    rcases fm_byte_or a S ((F + 9) - 5) with ⟨e20, q21⟩ | ⟨q21, n19, qn19, e20⟩
                    · rw [e20]
                      refine fe_s 1 (pc' := cond (fx_cb .ne 101 (-1)) 106 102) (lc' := [(6, .int 9), (5, .int 1), (4, .int 10), (3, .int 5), (2, .int 1), (0, .ref 0), (1, .ref 22)]) (stk' := []) (mem' := fm g tp bt a b) (fun _ _ _ => rfl) ?_
                      rw [show (fx_cb .ne 101 (-1)) = true from by decide]
                      dsimp only [cond]
                      refine fe_s 1 (pc' := 107) (lc' := [(6, .int 9), (5, .int 1), (4, .int 10), (3, .int 5), (2, .int 1), (0, .ref 0), (1, .ref 22)]) (stk' := [.int 0]) (mem' := fm g tp bt a b) (fun _ _ _ => rfl) ?_
                      refine fe_w (lc' := [(6, .int 9), (5, .int 1), (4, .int 10), (3, .int 5), (2, .int 1), (0, .ref 0), (1, .ref 22)]) ⟨rfl, rfl, rfl, rfl, rfl, rfl, rfl, trivial⟩ (by show List.Nodup [6, 5, 4, 3, 2, 0, 1]; decide) (by show List.Nodup [6, 5, 4, 3, 2, 0, 1]; decide) ?_
                      exact fail _ _
                    · rw [e20]
                      refine fe_s 1 (pc' := cond (fx_cb .ne 101 (nI n19)) 106 102) (lc' := [(6, .int 9), (5, .int 1), (4, .int 10), (3, .int 5), (2, .int 1), (0, .ref 0), (1, .ref 22)]) (stk' := []) (mem' := fm g tp bt a b) (fun _ _ _ => rfl) ?_
                      by_cases h22 : 101 = n19
                      · rw [show (fx_cb .ne 101 (nI n19)) = false from cb_neF (a := 101) (b := n19) (by omega) (by omega) (by omega)]
                        dsimp only [cond]
                        refine fe_s 2 (pc' := 107) (lc' := [(6, .int 9), (5, .int 1), (4, .int 10), (3, .int 5), (2, .int 1), (0, .ref 0), (1, .ref 22)]) (stk' := [.int 1]) (mem' := fm g tp bt a b) (fun _ _ _ => rfl) ?_
                        refine fe_s 4 (pc' := 70) (lc' := [(6, .int (9 + 1)), (5, .int 1), (4, .int 10), (3, .int 5), (2, .int 1), (0, .ref 0), (1, .ref 22)]) (stk' := [.int (9 + 1)]) (mem' := fm g tp bt a b) (fun _ _ _ => rfl) ?_
                        rw [show (9 + 1 : Int32) = 10 from rfl]
                        refine fe_s 1 (pc' := 72) (lc' := [(6, .int 10), (5, .int 1), (4, .int 10), (3, .int 5), (2, .int 1), (0, .ref 0), (1, .ref 22)]) (stk' := [.int 10, .int 10]) (mem' := fm g tp bt a b) (fun _ _ _ => rfl) ?_
                        refine fe_s 1 (pc' := cond (fx_cb .ge 10 10) 115 75) (lc' := [(6, .int 10), (5, .int 1), (4, .int 10), (3, .int 5), (2, .int 1), (0, .ref 0), (1, .ref 22)]) (stk' := []) (mem' := fm g tp bt a b) (fun _ _ _ => rfl) ?_
                        rw [show (fx_cb .ge 10 10) = true from by decide]
                        dsimp only [cond]
                        refine fe_s 1 (pc' := 117) (lc' := [(6, .int 10), (5, .int 1), (4, .int 10), (3, .int 5), (2, .int 1), (0, .ref 0), (1, .ref 22)]) (stk' := [.int 1]) (mem' := fm g tp bt a b) (fun _ _ _ => rfl) ?_
                        refine fe_s 1 (pc' := cond (fx_cb .eq 1 0) 122 120) (lc' := [(6, .int 10), (5, .int 1), (4, .int 10), (3, .int 5), (2, .int 1), (0, .ref 0), (1, .ref 22)]) (stk' := []) (mem' := fm g tp bt a b) (fun _ _ _ => rfl) ?_
                        rw [show (fx_cb .eq 1 0) = false from by decide]
                        dsimp only [cond]
                        refine fe_s 1 (pc' := 121) (lc' := [(6, .int 10), (5, .int 1), (4, .int 10), (3, .int 5), (2, .int 1), (0, .ref 0), (1, .ref 22)]) (stk' := [.int 1]) (mem' := fm g tp bt a b) (fun _ _ _ => rfl) ?_
                        exact fe_ret ⟨_, Or.inr ⟨1, by omega, rfl⟩, rfl⟩ (by rfl) (by rfl) (by rfl)
                      · rw [show (fx_cb .ne 101 (nI n19)) = true from cb_neT (a := 101) (b := n19) (by omega) (by omega) (by omega)]
                        dsimp only [cond]
                        refine fe_s 1 (pc' := 107) (lc' := [(6, .int 9), (5, .int 1), (4, .int 10), (3, .int 5), (2, .int 1), (0, .ref 0), (1, .ref 22)]) (stk' := [.int 0]) (mem' := fm g tp bt a b) (fun _ _ _ => rfl) ?_
                        refine fe_w (lc' := [(6, .int 9), (5, .int 1), (4, .int 10), (3, .int 5), (2, .int 1), (0, .ref 0), (1, .ref 22)]) ⟨rfl, rfl, rfl, rfl, rfl, rfl, rfl, trivial⟩ (by show List.Nodup [6, 5, 4, 3, 2, 0, 1]; decide) (by show List.Nodup [6, 5, 4, 3, 2, 0, 1]; decide) ?_
                        exact fail _ _
                  · rw [show (fx_cb .ne 114 (nI n15)) = true from cb_neT (a := 114) (b := n15) (by omega) (by omega) (by omega)]
                    dsimp only [cond]
                    refine fe_s 1 (pc' := 107) (lc' := [(6, .int 8), (5, .int 1), (4, .int 10), (3, .int 5), (2, .int 1), (0, .ref 0), (1, .ref 22)]) (stk' := [.int 0]) (mem' := fm g tp bt a b) (fun _ _ _ => rfl) ?_
                    refine fe_w (lc' := [(6, .int 8), (5, .int 1), (4, .int 10), (3, .int 5), (2, .int 1), (0, .ref 0), (1, .ref 22)]) ⟨rfl, rfl, rfl, rfl, rfl, rfl, rfl, trivial⟩ (by show List.Nodup [6, 5, 4, 3, 2, 0, 1]; decide) (by show List.Nodup [6, 5, 4, 3, 2, 0, 1]; decide) ?_
                    exact fail _ _
              · rw [show (fx_cb .ne 111 (nI n11)) = true from cb_neT (a := 111) (b := n11) (by omega) (by omega) (by omega)]
                dsimp only [cond]
                refine fe_s 1 (pc' := 107) (lc' := [(6, .int 7), (5, .int 1), (4, .int 10), (3, .int 5), (2, .int 1), (0, .ref 0), (1, .ref 22)]) (stk' := [.int 0]) (mem' := fm g tp bt a b) (fun _ _ _ => rfl) ?_
                refine fe_w (lc' := [(6, .int 7), (5, .int 1), (4, .int 10), (3, .int 5), (2, .int 1), (0, .ref 0), (1, .ref 22)]) ⟨rfl, rfl, rfl, rfl, rfl, rfl, rfl, trivial⟩ (by show List.Nodup [6, 5, 4, 3, 2, 0, 1]; decide) (by show List.Nodup [6, 5, 4, 3, 2, 0, 1]; decide) ?_
                exact fail _ _
          · rw [show (fx_cb .ne 104 (nI n7)) = true from cb_neT (a := 104) (b := n7) (by omega) (by omega) (by omega)]
            dsimp only [cond]
            refine fe_s 1 (pc' := 107) (lc' := [(6, .int 6), (5, .int 1), (4, .int 10), (3, .int 5), (2, .int 1), (0, .ref 0), (1, .ref 22)]) (stk' := [.int 0]) (mem' := fm g tp bt a b) (fun _ _ _ => rfl) ?_
            refine fe_w (lc' := [(6, .int 6), (5, .int 1), (4, .int 10), (3, .int 5), (2, .int 1), (0, .ref 0), (1, .ref 22)]) ⟨rfl, rfl, rfl, rfl, rfl, rfl, rfl, trivial⟩ (by show List.Nodup [6, 5, 4, 3, 2, 0, 1]; decide) (by show List.Nodup [6, 5, 4, 3, 2, 0, 1]; decide) ?_
            exact fail _ _
      · rw [show (fx_cb .ne 115 (nI n3)) = true from cb_neT (a := 115) (b := n3) (by omega) (by omega) (by omega)]
        dsimp only [cond]
        refine fe_s 1 (pc' := 107) (lc' := [(6, .int 5), (5, .int 1), (4, .int 10), (3, .int 5), (2, .int 1), (0, .ref 0), (1, .ref 22)]) (stk' := [.int 0]) (mem' := fm g tp bt a b) (fun _ _ _ => rfl) ?_
        refine fe_w (lc' := [(6, .int 5), (5, .int 1), (4, .int 10), (3, .int 5), (2, .int 1), (0, .ref 0), (1, .ref 22)]) ⟨rfl, rfl, rfl, rfl, rfl, rfl, rfl, trivial⟩ (by show List.Nodup [6, 5, 4, 3, 2, 0, 1]; decide) (by show List.Nodup [6, 5, 4, 3, 2, 0, 1]; decide) ?_
        exact fail _ _
  · rw [show (fx_cb .ne 5 (nI (E - F))) = true from cb_neT (a := 5) (b := E - F) (by omega) (by omega) (by omega)]
    dsimp only [cond]
    refine fe_s 4 (pc' := 68) (lc' := [(6, .int 5), (5, .int 0), (4, .int 10), (3, .int 5), (2, .int 1), (0, .ref 0), (1, .ref 22)]) (stk' := []) (mem' := fm g tp bt a b) (fun _ _ _ => rfl) ?_
    refine fe_s 2 (pc' := 72) (lc' := [(6, .int 5), (5, .int 0), (4, .int 10), (3, .int 5), (2, .int 1), (0, .ref 0), (1, .ref 22)]) (stk' := [.int 10, .int 5]) (mem' := fm g tp bt a b) (fun _ _ _ => rfl) ?_
    refine fe_s 1 (pc' := cond (fx_cb .ge 5 10) 115 75) (lc' := [(6, .int 5), (5, .int 0), (4, .int 10), (3, .int 5), (2, .int 1), (0, .ref 0), (1, .ref 22)]) (stk' := []) (mem' := fm g tp bt a b) (fun _ _ _ => rfl) ?_
    rw [show (fx_cb .ge 5 10) = false from by decide]
    dsimp only [cond]
    refine fe_s 1 (pc' := 77) (lc' := [(6, .int 5), (5, .int 0), (4, .int 10), (3, .int 5), (2, .int 1), (0, .ref 0), (1, .ref 22)]) (stk' := [.int 0]) (mem' := fm g tp bt a b) (fun _ _ _ => rfl) ?_
    refine fe_s 1 (pc' := cond (fx_cb .eq 0 0) 115 80) (lc' := [(6, .int 5), (5, .int 0), (4, .int 10), (3, .int 5), (2, .int 1), (0, .ref 0), (1, .ref 22)]) (stk' := []) (mem' := fm g tp bt a b) (fun _ _ _ => rfl) ?_
    rw [show (fx_cb .eq 0 0) = true from by decide]
    dsimp only [cond]
    refine fe_s 1 (pc' := 117) (lc' := [(6, .int 5), (5, .int 0), (4, .int 10), (3, .int 5), (2, .int 1), (0, .ref 0), (1, .ref 22)]) (stk' := [.int 0]) (mem' := fm g tp bt a b) (fun _ _ _ => rfl) ?_
    refine fe_s 1 (pc' := cond (fx_cb .eq 0 0) 122 120) (lc' := [(6, .int 5), (5, .int 0), (4, .int 10), (3, .int 5), (2, .int 1), (0, .ref 0), (1, .ref 22)]) (stk' := []) (mem' := fm g tp bt a b) (fun _ _ _ => rfl) ?_
    rw [show (fx_cb .eq 0 0) = true from by decide]
    dsimp only [cond]
    refine fe_s 4 (pc' := 129) (lc' := [(2, .int (1 + 1)), (6, .int 5), (5, .int 0), (4, .int 10), (3, .int 5), (0, .ref 0), (1, .ref 22)]) (stk' := [.int (10 + 1)]) (mem' := fm g tp bt a b) (fun _ _ _ => rfl) ?_
    rw [show (1 + 1 : Int32) = 2 from rfl]
    rw [show (10 + 1 : Int32) = 11 from rfl]
    refine fe_s 1 (pc' := 130) (lc' := [(3, .int 11), (2, .int 2), (6, .int 5), (5, .int 0), (4, .int 10), (0, .ref 0), (1, .ref 22)]) (stk' := []) (mem' := fm g tp bt a b) (fun _ _ _ => rfl) ?_
    refine fe_s 1 (pc' := fx_to 130 (-116)) (lc' := [(3, .int 11), (2, .int 2), (6, .int 5), (5, .int 0), (4, .int 10), (0, .ref 0), (1, .ref 22)]) (stk' := []) (mem' := fm g tp bt a b) (fun _ _ _ => rfl) ?_
    rw [show fx_to 130 (-116) = 14 from by decide]
    refine fe_w (lc' := [(3, .int 11), (2, .int 2), (0, .ref 0), (1, .ref 22)]) ⟨rfl, rfl, rfl, rfl, trivial⟩ (by show List.Nodup [3, 2, 0, 1]; decide) (by show List.Nodup [3, 2, 6, 5, 4, 0, 1]; decide) ?_
    exact fw_2 hxp
set_option maxHeartbeats 8000000 in
theorem fw_0 {S E F : Nat} (hxp : fm_xp g S E F) : fe_R 1 gk_m226 14 [(3, .int 1), (2, .int 0), (0, .ref 0), (1, .ref 22)] [] (fm g tp bt a b) (fm_FI (fm g tp bt a b)) := by
  obtain ⟨h11, hS9, h14, hES, h13, hFE, -, -, -⟩ := id hxp
  have fail : ∀ (x z : Int32), fe_R 1 gk_m226 107 [(6, .int x), (5, .int z), (4, .int 4), (3, .int 1), (2, .int 0), (0, .ref 0), (1, .ref 22)] [.int 0] (fm g tp bt a b) (fm_FI (fm g tp bt a b)) := by
    intro x z
    refine fe_s 4 (pc' := 70) (lc' := [(6, .int (x + 1)), (5, .int 0), (4, .int 4), (3, .int 1), (2, .int 0), (0, .ref 0), (1, .ref 22)]) (stk' := [.int (x + 1)]) (mem' := fm g tp bt a b) (fun _ _ _ => rfl) ?_
    refine fe_s 1 (pc' := 72) (lc' := [(6, .int (x + 1)), (5, .int 0), (4, .int 4), (3, .int 1), (2, .int 0), (0, .ref 0), (1, .ref 22)]) (stk' := [.int 4, .int (x + 1)]) (mem' := fm g tp bt a b) (fun _ _ _ => rfl) ?_
    refine fe_s 1 (pc' := cond (fx_cb .ge (x + 1) 4) 115 75) (lc' := [(6, .int (x + 1)), (5, .int 0), (4, .int 4), (3, .int 1), (2, .int 0), (0, .ref 0), (1, .ref 22)]) (stk' := []) (mem' := fm g tp bt a b) (fun _ _ _ => rfl) ?_
    cases h1 : fx_cb .ge (x + 1) 4
    · refine fe_s 1 (pc' := 77) (lc' := [(6, .int (x + 1)), (5, .int 0), (4, .int 4), (3, .int 1), (2, .int 0), (0, .ref 0), (1, .ref 22)]) (stk' := [.int 0]) (mem' := fm g tp bt a b) (fun _ _ _ => rfl) ?_
      refine fe_s 1 (pc' := cond (fx_cb .eq 0 0) 115 80) (lc' := [(6, .int (x + 1)), (5, .int 0), (4, .int 4), (3, .int 1), (2, .int 0), (0, .ref 0), (1, .ref 22)]) (stk' := []) (mem' := fm g tp bt a b) (fun _ _ _ => rfl) ?_
      rw [show (fx_cb .eq 0 0) = true from by decide]
      dsimp only [cond]
      refine fe_s 1 (pc' := 117) (lc' := [(6, .int (x + 1)), (5, .int 0), (4, .int 4), (3, .int 1), (2, .int 0), (0, .ref 0), (1, .ref 22)]) (stk' := [.int 0]) (mem' := fm g tp bt a b) (fun _ _ _ => rfl) ?_
      refine fe_s 1 (pc' := cond (fx_cb .eq 0 0) 122 120) (lc' := [(6, .int (x + 1)), (5, .int 0), (4, .int 4), (3, .int 1), (2, .int 0), (0, .ref 0), (1, .ref 22)]) (stk' := []) (mem' := fm g tp bt a b) (fun _ _ _ => rfl) ?_
      rw [show (fx_cb .eq 0 0) = true from by decide]
      dsimp only [cond]
      refine fe_s 4 (pc' := 129) (lc' := [(2, .int (0 + 1)), (6, .int (x + 1)), (5, .int 0), (4, .int 4), (3, .int 1), (0, .ref 0), (1, .ref 22)]) (stk' := [.int (4 + 1)]) (mem' := fm g tp bt a b) (fun _ _ _ => rfl) ?_
      rw [show (4 + 1 : Int32) = 5 from rfl]
      rw [show (0 + 1 : Int32) = 1 from rfl]
      refine fe_s 1 (pc' := 130) (lc' := [(3, .int 5), (2, .int 1), (6, .int (x + 1)), (5, .int 0), (4, .int 4), (0, .ref 0), (1, .ref 22)]) (stk' := []) (mem' := fm g tp bt a b) (fun _ _ _ => rfl) ?_
      refine fe_s 1 (pc' := fx_to 130 (-116)) (lc' := [(3, .int 5), (2, .int 1), (6, .int (x + 1)), (5, .int 0), (4, .int 4), (0, .ref 0), (1, .ref 22)]) (stk' := []) (mem' := fm g tp bt a b) (fun _ _ _ => rfl) ?_
      rw [show fx_to 130 (-116) = 14 from by decide]
      refine fe_w (lc' := [(3, .int 5), (2, .int 1), (0, .ref 0), (1, .ref 22)]) ⟨rfl, rfl, rfl, rfl, trivial⟩ (by show List.Nodup [3, 2, 0, 1]; decide) (by show List.Nodup [3, 2, 6, 5, 4, 0, 1]; decide) ?_
      exact fw_1 hxp
    · refine fe_s 1 (pc' := 117) (lc' := [(6, .int (x + 1)), (5, .int 0), (4, .int 4), (3, .int 1), (2, .int 0), (0, .ref 0), (1, .ref 22)]) (stk' := [.int 0]) (mem' := fm g tp bt a b) (fun _ _ _ => rfl) ?_
      refine fe_s 1 (pc' := cond (fx_cb .eq 0 0) 122 120) (lc' := [(6, .int (x + 1)), (5, .int 0), (4, .int 4), (3, .int 1), (2, .int 0), (0, .ref 0), (1, .ref 22)]) (stk' := []) (mem' := fm g tp bt a b) (fun _ _ _ => rfl) ?_
      rw [show (fx_cb .eq 0 0) = true from by decide]
      dsimp only [cond]
      refine fe_s 4 (pc' := 129) (lc' := [(2, .int (0 + 1)), (6, .int (x + 1)), (5, .int 0), (4, .int 4), (3, .int 1), (0, .ref 0), (1, .ref 22)]) (stk' := [.int (4 + 1)]) (mem' := fm g tp bt a b) (fun _ _ _ => rfl) ?_
      rw [show (4 + 1 : Int32) = 5 from rfl]
      rw [show (0 + 1 : Int32) = 1 from rfl]
      refine fe_s 1 (pc' := 130) (lc' := [(3, .int 5), (2, .int 1), (6, .int (x + 1)), (5, .int 0), (4, .int 4), (0, .ref 0), (1, .ref 22)]) (stk' := []) (mem' := fm g tp bt a b) (fun _ _ _ => rfl) ?_
      refine fe_s 1 (pc' := fx_to 130 (-116)) (lc' := [(3, .int 5), (2, .int 1), (6, .int (x + 1)), (5, .int 0), (4, .int 4), (0, .ref 0), (1, .ref 22)]) (stk' := []) (mem' := fm g tp bt a b) (fun _ _ _ => rfl) ?_
      rw [show fx_to 130 (-116) = 14 from by decide]
      refine fe_w (lc' := [(3, .int 5), (2, .int 1), (0, .ref 0), (1, .ref 22)]) ⟨rfl, rfl, rfl, rfl, trivial⟩ (by show List.Nodup [3, 2, 0, 1]; decide) (by show List.Nodup [3, 2, 6, 5, 4, 0, 1]; decide) ?_
      exact fw_1 hxp
  refine fe_s 2 (pc' := 16) (lc' := [(3, .int 1), (2, .int 0), (0, .ref 0), (1, .ref 22)]) (stk' := [.ref 22, .int 1]) (mem' := fm g tp bt a b) (fun _ _ _ => rfl) ?_
  refine fe_s 1 (pc' := 19) (lc' := [(3, .int 1), (2, .int 0), (0, .ref 0), (1, .ref 22)]) (stk' := [.int 117, .int 1]) (mem' := fm g tp bt a b) (fun _ _ _ => rfl) ?_
  refine fe_s 1 (pc' := cond (fx_cb .ge 1 117) 133 22) (lc' := [(3, .int 1), (2, .int 0), (0, .ref 0), (1, .ref 22)]) (stk' := []) (mem' := fm g tp bt a b) (fun _ _ _ => rfl) ?_
  rw [show (fx_cb .ge 1 117) = false from by decide]
  dsimp only [cond]
  refine fe_s 4 (pc' := 28) (lc' := [(4, .int 1), (3, .int 1), (2, .int 0), (0, .ref 0), (1, .ref 22)]) (stk' := [.int 1, .ref 22]) (mem' := fm g tp bt a b) (fun _ _ _ => rfl) ?_
  refine fe_chr (i := 1) (by omega) (by rfl) (by rfl) ⟨by rfl, by rfl⟩ (by rfl) ?_
  rw [show sk_b.getD 1 0 = 105 from rfl]
  refine fe_s 1 (pc' := 33) (lc' := [(4, .int 1), (3, .int 1), (2, .int 0), (0, .ref 0), (1, .ref 22)]) (stk' := [.int 32, .int 105]) (mem' := fm g tp bt a b) (fun _ _ _ => rfl) ?_
  refine fe_s 1 (pc' := cond (fx_cb .eq 105 32) 42 36) (lc' := [(4, .int 1), (3, .int 1), (2, .int 0), (0, .ref 0), (1, .ref 22)]) (stk' := []) (mem' := fm g tp bt a b) (fun _ _ _ => rfl) ?_
  rw [show (fx_cb .eq 105 32) = false from by decide]
  dsimp only [cond]
  refine fe_s 4 (pc' := 28) (lc' := [(4, .int (1 + 1)), (3, .int 1), (2, .int 0), (0, .ref 0), (1, .ref 22)]) (stk' := [.int (1 + 1), .ref 22]) (mem' := fm g tp bt a b) (fun _ _ _ => rfl) ?_
  rw [show (1 + 1 : Int32) = 2 from rfl]
  refine fe_chr (i := 2) (by omega) (by rfl) (by rfl) ⟨by rfl, by rfl⟩ (by rfl) ?_
  rw [show sk_b.getD 2 0 = 99 from rfl]
  refine fe_s 1 (pc' := 33) (lc' := [(4, .int 2), (3, .int 1), (2, .int 0), (0, .ref 0), (1, .ref 22)]) (stk' := [.int 32, .int 99]) (mem' := fm g tp bt a b) (fun _ _ _ => rfl) ?_
  refine fe_s 1 (pc' := cond (fx_cb .eq 99 32) 42 36) (lc' := [(4, .int 2), (3, .int 1), (2, .int 0), (0, .ref 0), (1, .ref 22)]) (stk' := []) (mem' := fm g tp bt a b) (fun _ _ _ => rfl) ?_
  rw [show (fx_cb .eq 99 32) = false from by decide]
  dsimp only [cond]
  refine fe_s 4 (pc' := 28) (lc' := [(4, .int (2 + 1)), (3, .int 1), (2, .int 0), (0, .ref 0), (1, .ref 22)]) (stk' := [.int (2 + 1), .ref 22]) (mem' := fm g tp bt a b) (fun _ _ _ => rfl) ?_
  rw [show (2 + 1 : Int32) = 3 from rfl]
  refine fe_chr (i := 3) (by omega) (by rfl) (by rfl) ⟨by rfl, by rfl⟩ (by rfl) ?_
  rw [show sk_b.getD 3 0 = 101 from rfl]
  refine fe_s 1 (pc' := 33) (lc' := [(4, .int 3), (3, .int 1), (2, .int 0), (0, .ref 0), (1, .ref 22)]) (stk' := [.int 32, .int 101]) (mem' := fm g tp bt a b) (fun _ _ _ => rfl) ?_
  refine fe_s 1 (pc' := cond (fx_cb .eq 101 32) 42 36) (lc' := [(4, .int 3), (3, .int 1), (2, .int 0), (0, .ref 0), (1, .ref 22)]) (stk' := []) (mem' := fm g tp bt a b) (fun _ _ _ => rfl) ?_
  rw [show (fx_cb .eq 101 32) = false from by decide]
  dsimp only [cond]
  refine fe_s 4 (pc' := 28) (lc' := [(4, .int (3 + 1)), (3, .int 1), (2, .int 0), (0, .ref 0), (1, .ref 22)]) (stk' := [.int (3 + 1), .ref 22]) (mem' := fm g tp bt a b) (fun _ _ _ => rfl) ?_
  rw [show (3 + 1 : Int32) = 4 from rfl]
  refine fe_chr (i := 4) (by omega) (by rfl) (by rfl) ⟨by rfl, by rfl⟩ (by rfl) ?_
  rw [show sk_b.getD 4 0 = 32 from rfl]
  refine fe_s 1 (pc' := 33) (lc' := [(4, .int 4), (3, .int 1), (2, .int 0), (0, .ref 0), (1, .ref 22)]) (stk' := [.int 32, .int 32]) (mem' := fm g tp bt a b) (fun _ _ _ => rfl) ?_
  refine fe_s 1 (pc' := cond (fx_cb .eq 32 32) 42 36) (lc' := [(4, .int 4), (3, .int 1), (2, .int 0), (0, .ref 0), (1, .ref 22)]) (stk' := []) (mem' := fm g tp bt a b) (fun _ _ _ => rfl) ?_
  rw [show (fx_cb .eq 32 32) = true from by decide]
  dsimp only [cond]
  refine fe_s 4 (pc' := 47) (lc' := [(4, .int 4), (3, .int 1), (2, .int 0), (0, .ref 0), (1, .ref 22)]) (stk' := [.ref 0, .int (4 - 1)]) (mem' := fm g tp bt a b) (fun _ _ _ => rfl) ?_
  rw [show (4 - 1 : Int32) = 3 from rfl]
  refine fe_s 4 (pc' := 55) (lc' := [(4, .int 4), (3, .int 1), (2, .int 0), (0, .ref 0), (1, .ref 22)]) (stk' := [.int ((g 14) - (g 13)), .int 3]) (mem' := fm g tp bt a b) (fun _ _ _ => rfl) ?_
  try rw [h14]
  try rw [h13]
  rw [show ((nI E) - (nI F) : Int32) = nI (E - F) from by simp only [tg_sub2 (x := E) (y := F) (by omega), nI_add, fm_mul]]
  refine fe_s 1 (pc' := cond (fx_cb .ne 3 (nI (E - F))) 62 58) (lc' := [(4, .int 4), (3, .int 1), (2, .int 0), (0, .ref 0), (1, .ref 22)]) (stk' := []) (mem' := fm g tp bt a b) (fun _ _ _ => rfl) ?_
  by_cases h2 : 3 = (E - F)
  · rw [show (fx_cb .ne 3 (nI (E - F))) = false from cb_neF (a := 3) (b := E - F) (by omega) (by omega) (by omega)]
    dsimp only [cond]
    refine fe_s 4 (pc' := 66) (lc' := [(5, .int 1), (4, .int 4), (3, .int 1), (2, .int 0), (0, .ref 0), (1, .ref 22)]) (stk' := [.int 1]) (mem' := fm g tp bt a b) (fun _ _ _ => rfl) ?_
    refine fe_s 3 (pc' := 72) (lc' := [(6, .int 1), (5, .int 1), (4, .int 4), (3, .int 1), (2, .int 0), (0, .ref 0), (1, .ref 22)]) (stk' := [.int 4, .int 1]) (mem' := fm g tp bt a b) (fun _ _ _ => rfl) ?_
    refine fe_s 1 (pc' := cond (fx_cb .ge 1 4) 115 75) (lc' := [(6, .int 1), (5, .int 1), (4, .int 4), (3, .int 1), (2, .int 0), (0, .ref 0), (1, .ref 22)]) (stk' := []) (mem' := fm g tp bt a b) (fun _ _ _ => rfl) ?_
    rw [show (fx_cb .ge 1 4) = false from by decide]
    dsimp only [cond]
    refine fe_s 1 (pc' := 77) (lc' := [(6, .int 1), (5, .int 1), (4, .int 4), (3, .int 1), (2, .int 0), (0, .ref 0), (1, .ref 22)]) (stk' := [.int 1]) (mem' := fm g tp bt a b) (fun _ _ _ => rfl) ?_
    refine fe_s 1 (pc' := cond (fx_cb .eq 1 0) 115 80) (lc' := [(6, .int 1), (5, .int 1), (4, .int 4), (3, .int 1), (2, .int 0), (0, .ref 0), (1, .ref 22)]) (stk' := []) (mem' := fm g tp bt a b) (fun _ _ _ => rfl) ?_
    rw [show (fx_cb .eq 1 0) = false from by decide]
    dsimp only [cond]
    refine fe_s 2 (pc' := 83) (lc' := [(6, .int 1), (5, .int 1), (4, .int 4), (3, .int 1), (2, .int 0), (0, .ref 0), (1, .ref 22)]) (stk' := [.int 1, .ref 22]) (mem' := fm g tp bt a b) (fun _ _ _ => rfl) ?_
    refine fe_chr (i := 1) (by omega) (by rfl) (by rfl) ⟨by rfl, by rfl⟩ (by rfl) ?_
    rw [show sk_b.getD 1 0 = 105 from rfl]
    refine fe_s 4 (pc' := 93) (lc' := [(6, .int 1), (5, .int 1), (4, .int 4), (3, .int 1), (2, .int 0), (0, .ref 0), (1, .ref 22)]) (stk' := [.int 1, .int (g 13), .ref 0, .int 105]) (mem' := fm g tp bt a b) (fun _ _ _ => rfl) ?_
    try rw [h13]
    refine fe_s 3 (pc' := 96) (lc' := [(6, .int 1), (5, .int 1), (4, .int 4), (3, .int 1), (2, .int 0), (0, .ref 0), (1, .ref 22)]) (stk' := [.int (((nI F) + 1) - 1), .ref 0, .int 105]) (mem' := fm g tp bt a b) (fun _ _ _ => rfl) ?_
    rw [show (((nI F) + 1) - 1 : Int32) = nI ((F + 1) - 1) from by simp only [show (1 : Int32) = nI 1 from rfl, tg_sub2 (x := F + 1) (y := 1) (by omega), nI_add, fm_mul]]
    refine fe_ivV (fr_byteAt (S := S) (k := (F + 1) - 1) (g := g) (tp := tp) (bt := bt) (a := a) (b := b) h11 (by omega) (by omega)) (by omega) (by rfl) (by rfl) (by rfl) (by rfl) (by rfl) (by rfl) ?_
    rcases fm_byte_or a S ((F + 1) - 1) with ⟨e4, q5⟩ | ⟨q5, n3, qn3, e4⟩
    · rw [e4]
      refine fe_s 1 (pc' := cond (fx_cb .ne 105 (-1)) 106 102) (lc' := [(6, .int 1), (5, .int 1), (4, .int 4), (3, .int 1), (2, .int 0), (0, .ref 0), (1, .ref 22)]) (stk' := []) (mem' := fm g tp bt a b) (fun _ _ _ => rfl) ?_
      rw [show (fx_cb .ne 105 (-1)) = true from by decide]
      dsimp only [cond]
      refine fe_s 1 (pc' := 107) (lc' := [(6, .int 1), (5, .int 1), (4, .int 4), (3, .int 1), (2, .int 0), (0, .ref 0), (1, .ref 22)]) (stk' := [.int 0]) (mem' := fm g tp bt a b) (fun _ _ _ => rfl) ?_
      refine fe_w (lc' := [(6, .int 1), (5, .int 1), (4, .int 4), (3, .int 1), (2, .int 0), (0, .ref 0), (1, .ref 22)]) ⟨rfl, rfl, rfl, rfl, rfl, rfl, rfl, trivial⟩ (by show List.Nodup [6, 5, 4, 3, 2, 0, 1]; decide) (by show List.Nodup [6, 5, 4, 3, 2, 0, 1]; decide) ?_
      exact fail _ _
    · rw [e4]
      refine fe_s 1 (pc' := cond (fx_cb .ne 105 (nI n3)) 106 102) (lc' := [(6, .int 1), (5, .int 1), (4, .int 4), (3, .int 1), (2, .int 0), (0, .ref 0), (1, .ref 22)]) (stk' := []) (mem' := fm g tp bt a b) (fun _ _ _ => rfl) ?_
      by_cases h6 : 105 = n3
      · rw [show (fx_cb .ne 105 (nI n3)) = false from cb_neF (a := 105) (b := n3) (by omega) (by omega) (by omega)]
        dsimp only [cond]
        refine fe_s 2 (pc' := 107) (lc' := [(6, .int 1), (5, .int 1), (4, .int 4), (3, .int 1), (2, .int 0), (0, .ref 0), (1, .ref 22)]) (stk' := [.int 1]) (mem' := fm g tp bt a b) (fun _ _ _ => rfl) ?_
        refine fe_s 4 (pc' := 70) (lc' := [(6, .int (1 + 1)), (5, .int 1), (4, .int 4), (3, .int 1), (2, .int 0), (0, .ref 0), (1, .ref 22)]) (stk' := [.int (1 + 1)]) (mem' := fm g tp bt a b) (fun _ _ _ => rfl) ?_
        rw [show (1 + 1 : Int32) = 2 from rfl]
        refine fe_s 1 (pc' := 72) (lc' := [(6, .int 2), (5, .int 1), (4, .int 4), (3, .int 1), (2, .int 0), (0, .ref 0), (1, .ref 22)]) (stk' := [.int 4, .int 2]) (mem' := fm g tp bt a b) (fun _ _ _ => rfl) ?_
        refine fe_s 1 (pc' := cond (fx_cb .ge 2 4) 115 75) (lc' := [(6, .int 2), (5, .int 1), (4, .int 4), (3, .int 1), (2, .int 0), (0, .ref 0), (1, .ref 22)]) (stk' := []) (mem' := fm g tp bt a b) (fun _ _ _ => rfl) ?_
        rw [show (fx_cb .ge 2 4) = false from by decide]
        dsimp only [cond]
        refine fe_s 1 (pc' := 77) (lc' := [(6, .int 2), (5, .int 1), (4, .int 4), (3, .int 1), (2, .int 0), (0, .ref 0), (1, .ref 22)]) (stk' := [.int 1]) (mem' := fm g tp bt a b) (fun _ _ _ => rfl) ?_
        refine fe_s 1 (pc' := cond (fx_cb .eq 1 0) 115 80) (lc' := [(6, .int 2), (5, .int 1), (4, .int 4), (3, .int 1), (2, .int 0), (0, .ref 0), (1, .ref 22)]) (stk' := []) (mem' := fm g tp bt a b) (fun _ _ _ => rfl) ?_
        rw [show (fx_cb .eq 1 0) = false from by decide]
        dsimp only [cond]
        refine fe_s 2 (pc' := 83) (lc' := [(6, .int 2), (5, .int 1), (4, .int 4), (3, .int 1), (2, .int 0), (0, .ref 0), (1, .ref 22)]) (stk' := [.int 2, .ref 22]) (mem' := fm g tp bt a b) (fun _ _ _ => rfl) ?_
        refine fe_chr (i := 2) (by omega) (by rfl) (by rfl) ⟨by rfl, by rfl⟩ (by rfl) ?_
        rw [show sk_b.getD 2 0 = 99 from rfl]
        refine fe_s 4 (pc' := 93) (lc' := [(6, .int 2), (5, .int 1), (4, .int 4), (3, .int 1), (2, .int 0), (0, .ref 0), (1, .ref 22)]) (stk' := [.int 2, .int (g 13), .ref 0, .int 99]) (mem' := fm g tp bt a b) (fun _ _ _ => rfl) ?_
        try rw [h13]
        refine fe_s 3 (pc' := 96) (lc' := [(6, .int 2), (5, .int 1), (4, .int 4), (3, .int 1), (2, .int 0), (0, .ref 0), (1, .ref 22)]) (stk' := [.int (((nI F) + 2) - 1), .ref 0, .int 99]) (mem' := fm g tp bt a b) (fun _ _ _ => rfl) ?_
        rw [show (((nI F) + 2) - 1 : Int32) = nI ((F + 2) - 1) from by simp only [show (2 : Int32) = nI 2 from rfl, show (1 : Int32) = nI 1 from rfl, tg_sub2 (x := F + 2) (y := 1) (by omega), nI_add, fm_mul]]
        refine fe_ivV (fr_byteAt (S := S) (k := (F + 2) - 1) (g := g) (tp := tp) (bt := bt) (a := a) (b := b) h11 (by omega) (by omega)) (by omega) (by rfl) (by rfl) (by rfl) (by rfl) (by rfl) (by rfl) ?_
        rcases fm_byte_or a S ((F + 2) - 1) with ⟨e8, q9⟩ | ⟨q9, n7, qn7, e8⟩
        · rw [e8]
          refine fe_s 1 (pc' := cond (fx_cb .ne 99 (-1)) 106 102) (lc' := [(6, .int 2), (5, .int 1), (4, .int 4), (3, .int 1), (2, .int 0), (0, .ref 0), (1, .ref 22)]) (stk' := []) (mem' := fm g tp bt a b) (fun _ _ _ => rfl) ?_
          rw [show (fx_cb .ne 99 (-1)) = true from by decide]
          dsimp only [cond]
          refine fe_s 1 (pc' := 107) (lc' := [(6, .int 2), (5, .int 1), (4, .int 4), (3, .int 1), (2, .int 0), (0, .ref 0), (1, .ref 22)]) (stk' := [.int 0]) (mem' := fm g tp bt a b) (fun _ _ _ => rfl) ?_
          refine fe_w (lc' := [(6, .int 2), (5, .int 1), (4, .int 4), (3, .int 1), (2, .int 0), (0, .ref 0), (1, .ref 22)]) ⟨rfl, rfl, rfl, rfl, rfl, rfl, rfl, trivial⟩ (by show List.Nodup [6, 5, 4, 3, 2, 0, 1]; decide) (by show List.Nodup [6, 5, 4, 3, 2, 0, 1]; decide) ?_
          exact fail _ _
        · rw [e8]
          refine fe_s 1 (pc' := cond (fx_cb .ne 99 (nI n7)) 106 102) (lc' := [(6, .int 2), (5, .int 1), (4, .int 4), (3, .int 1), (2, .int 0), (0, .ref 0), (1, .ref 22)]) (stk' := []) (mem' := fm g tp bt a b) (fun _ _ _ => rfl) ?_
          by_cases h10 : 99 = n7
          · rw [show (fx_cb .ne 99 (nI n7)) = false from cb_neF (a := 99) (b := n7) (by omega) (by omega) (by omega)]
            dsimp only [cond]
            refine fe_s 2 (pc' := 107) (lc' := [(6, .int 2), (5, .int 1), (4, .int 4), (3, .int 1), (2, .int 0), (0, .ref 0), (1, .ref 22)]) (stk' := [.int 1]) (mem' := fm g tp bt a b) (fun _ _ _ => rfl) ?_
            refine fe_s 4 (pc' := 70) (lc' := [(6, .int (2 + 1)), (5, .int 1), (4, .int 4), (3, .int 1), (2, .int 0), (0, .ref 0), (1, .ref 22)]) (stk' := [.int (2 + 1)]) (mem' := fm g tp bt a b) (fun _ _ _ => rfl) ?_
            rw [show (2 + 1 : Int32) = 3 from rfl]
            refine fe_s 1 (pc' := 72) (lc' := [(6, .int 3), (5, .int 1), (4, .int 4), (3, .int 1), (2, .int 0), (0, .ref 0), (1, .ref 22)]) (stk' := [.int 4, .int 3]) (mem' := fm g tp bt a b) (fun _ _ _ => rfl) ?_
            refine fe_s 1 (pc' := cond (fx_cb .ge 3 4) 115 75) (lc' := [(6, .int 3), (5, .int 1), (4, .int 4), (3, .int 1), (2, .int 0), (0, .ref 0), (1, .ref 22)]) (stk' := []) (mem' := fm g tp bt a b) (fun _ _ _ => rfl) ?_
            rw [show (fx_cb .ge 3 4) = false from by decide]
            dsimp only [cond]
            refine fe_s 1 (pc' := 77) (lc' := [(6, .int 3), (5, .int 1), (4, .int 4), (3, .int 1), (2, .int 0), (0, .ref 0), (1, .ref 22)]) (stk' := [.int 1]) (mem' := fm g tp bt a b) (fun _ _ _ => rfl) ?_
            refine fe_s 1 (pc' := cond (fx_cb .eq 1 0) 115 80) (lc' := [(6, .int 3), (5, .int 1), (4, .int 4), (3, .int 1), (2, .int 0), (0, .ref 0), (1, .ref 22)]) (stk' := []) (mem' := fm g tp bt a b) (fun _ _ _ => rfl) ?_
            rw [show (fx_cb .eq 1 0) = false from by decide]
            dsimp only [cond]
            refine fe_s 2 (pc' := 83) (lc' := [(6, .int 3), (5, .int 1), (4, .int 4), (3, .int 1), (2, .int 0), (0, .ref 0), (1, .ref 22)]) (stk' := [.int 3, .ref 22]) (mem' := fm g tp bt a b) (fun _ _ _ => rfl) ?_
            refine fe_chr (i := 3) (by omega) (by rfl) (by rfl) ⟨by rfl, by rfl⟩ (by rfl) ?_
            rw [show sk_b.getD 3 0 = 101 from rfl]
            refine fe_s 4 (pc' := 93) (lc' := [(6, .int 3), (5, .int 1), (4, .int 4), (3, .int 1), (2, .int 0), (0, .ref 0), (1, .ref 22)]) (stk' := [.int 3, .int (g 13), .ref 0, .int 101]) (mem' := fm g tp bt a b) (fun _ _ _ => rfl) ?_
            try rw [h13]
            refine fe_s 3 (pc' := 96) (lc' := [(6, .int 3), (5, .int 1), (4, .int 4), (3, .int 1), (2, .int 0), (0, .ref 0), (1, .ref 22)]) (stk' := [.int (((nI F) + 3) - 1), .ref 0, .int 101]) (mem' := fm g tp bt a b) (fun _ _ _ => rfl) ?_
            rw [show (((nI F) + 3) - 1 : Int32) = nI ((F + 3) - 1) from by simp only [show (3 : Int32) = nI 3 from rfl, show (1 : Int32) = nI 1 from rfl, tg_sub2 (x := F + 3) (y := 1) (by omega), nI_add, fm_mul]]
            refine fe_ivV (fr_byteAt (S := S) (k := (F + 3) - 1) (g := g) (tp := tp) (bt := bt) (a := a) (b := b) h11 (by omega) (by omega)) (by omega) (by rfl) (by rfl) (by rfl) (by rfl) (by rfl) (by rfl) ?_
            rcases fm_byte_or a S ((F + 3) - 1) with ⟨e12, q13⟩ | ⟨q13, n11, qn11, e12⟩
            · rw [e12]
              refine fe_s 1 (pc' := cond (fx_cb .ne 101 (-1)) 106 102) (lc' := [(6, .int 3), (5, .int 1), (4, .int 4), (3, .int 1), (2, .int 0), (0, .ref 0), (1, .ref 22)]) (stk' := []) (mem' := fm g tp bt a b) (fun _ _ _ => rfl) ?_
              rw [show (fx_cb .ne 101 (-1)) = true from by decide]
              dsimp only [cond]
              refine fe_s 1 (pc' := 107) (lc' := [(6, .int 3), (5, .int 1), (4, .int 4), (3, .int 1), (2, .int 0), (0, .ref 0), (1, .ref 22)]) (stk' := [.int 0]) (mem' := fm g tp bt a b) (fun _ _ _ => rfl) ?_
              refine fe_w (lc' := [(6, .int 3), (5, .int 1), (4, .int 4), (3, .int 1), (2, .int 0), (0, .ref 0), (1, .ref 22)]) ⟨rfl, rfl, rfl, rfl, rfl, rfl, rfl, trivial⟩ (by show List.Nodup [6, 5, 4, 3, 2, 0, 1]; decide) (by show List.Nodup [6, 5, 4, 3, 2, 0, 1]; decide) ?_
              exact fail _ _
            · rw [e12]
              refine fe_s 1 (pc' := cond (fx_cb .ne 101 (nI n11)) 106 102) (lc' := [(6, .int 3), (5, .int 1), (4, .int 4), (3, .int 1), (2, .int 0), (0, .ref 0), (1, .ref 22)]) (stk' := []) (mem' := fm g tp bt a b) (fun _ _ _ => rfl) ?_
              by_cases h14 : 101 = n11
              · rw [show (fx_cb .ne 101 (nI n11)) = false from cb_neF (a := 101) (b := n11) (by omega) (by omega) (by omega)]
                dsimp only [cond]
                refine fe_s 2 (pc' := 107) (lc' := [(6, .int 3), (5, .int 1), (4, .int 4), (3, .int 1), (2, .int 0), (0, .ref 0), (1, .ref 22)]) (stk' := [.int 1]) (mem' := fm g tp bt a b) (fun _ _ _ => rfl) ?_
                refine fe_s 4 (pc' := 70) (lc' := [(6, .int (3 + 1)), (5, .int 1), (4, .int 4), (3, .int 1), (2, .int 0), (0, .ref 0), (1, .ref 22)]) (stk' := [.int (3 + 1)]) (mem' := fm g tp bt a b) (fun _ _ _ => rfl) ?_
                rw [show (3 + 1 : Int32) = 4 from rfl]
                refine fe_s 1 (pc' := 72) (lc' := [(6, .int 4), (5, .int 1), (4, .int 4), (3, .int 1), (2, .int 0), (0, .ref 0), (1, .ref 22)]) (stk' := [.int 4, .int 4]) (mem' := fm g tp bt a b) (fun _ _ _ => rfl) ?_
                refine fe_s 1 (pc' := cond (fx_cb .ge 4 4) 115 75) (lc' := [(6, .int 4), (5, .int 1), (4, .int 4), (3, .int 1), (2, .int 0), (0, .ref 0), (1, .ref 22)]) (stk' := []) (mem' := fm g tp bt a b) (fun _ _ _ => rfl) ?_
                rw [show (fx_cb .ge 4 4) = true from by decide]
                dsimp only [cond]
                refine fe_s 1 (pc' := 117) (lc' := [(6, .int 4), (5, .int 1), (4, .int 4), (3, .int 1), (2, .int 0), (0, .ref 0), (1, .ref 22)]) (stk' := [.int 1]) (mem' := fm g tp bt a b) (fun _ _ _ => rfl) ?_
                refine fe_s 1 (pc' := cond (fx_cb .eq 1 0) 122 120) (lc' := [(6, .int 4), (5, .int 1), (4, .int 4), (3, .int 1), (2, .int 0), (0, .ref 0), (1, .ref 22)]) (stk' := []) (mem' := fm g tp bt a b) (fun _ _ _ => rfl) ?_
                rw [show (fx_cb .eq 1 0) = false from by decide]
                dsimp only [cond]
                refine fe_s 1 (pc' := 121) (lc' := [(6, .int 4), (5, .int 1), (4, .int 4), (3, .int 1), (2, .int 0), (0, .ref 0), (1, .ref 22)]) (stk' := [.int 0]) (mem' := fm g tp bt a b) (fun _ _ _ => rfl) ?_
                exact fe_ret ⟨_, Or.inr ⟨0, by omega, rfl⟩, rfl⟩ (by rfl) (by rfl) (by rfl)
              · rw [show (fx_cb .ne 101 (nI n11)) = true from cb_neT (a := 101) (b := n11) (by omega) (by omega) (by omega)]
                dsimp only [cond]
                refine fe_s 1 (pc' := 107) (lc' := [(6, .int 3), (5, .int 1), (4, .int 4), (3, .int 1), (2, .int 0), (0, .ref 0), (1, .ref 22)]) (stk' := [.int 0]) (mem' := fm g tp bt a b) (fun _ _ _ => rfl) ?_
                refine fe_w (lc' := [(6, .int 3), (5, .int 1), (4, .int 4), (3, .int 1), (2, .int 0), (0, .ref 0), (1, .ref 22)]) ⟨rfl, rfl, rfl, rfl, rfl, rfl, rfl, trivial⟩ (by show List.Nodup [6, 5, 4, 3, 2, 0, 1]; decide) (by show List.Nodup [6, 5, 4, 3, 2, 0, 1]; decide) ?_
                exact fail _ _
          · rw [show (fx_cb .ne 99 (nI n7)) = true from cb_neT (a := 99) (b := n7) (by omega) (by omega) (by omega)]
            dsimp only [cond]
            refine fe_s 1 (pc' := 107) (lc' := [(6, .int 2), (5, .int 1), (4, .int 4), (3, .int 1), (2, .int 0), (0, .ref 0), (1, .ref 22)]) (stk' := [.int 0]) (mem' := fm g tp bt a b) (fun _ _ _ => rfl) ?_
            refine fe_w (lc' := [(6, .int 2), (5, .int 1), (4, .int 4), (3, .int 1), (2, .int 0), (0, .ref 0), (1, .ref 22)]) ⟨rfl, rfl, rfl, rfl, rfl, rfl, rfl, trivial⟩ (by show List.Nodup [6, 5, 4, 3, 2, 0, 1]; decide) (by show List.Nodup [6, 5, 4, 3, 2, 0, 1]; decide) ?_
            exact fail _ _
      · rw [show (fx_cb .ne 105 (nI n3)) = true from cb_neT (a := 105) (b := n3) (by omega) (by omega) (by omega)]
        dsimp only [cond]
        refine fe_s 1 (pc' := 107) (lc' := [(6, .int 1), (5, .int 1), (4, .int 4), (3, .int 1), (2, .int 0), (0, .ref 0), (1, .ref 22)]) (stk' := [.int 0]) (mem' := fm g tp bt a b) (fun _ _ _ => rfl) ?_
        refine fe_w (lc' := [(6, .int 1), (5, .int 1), (4, .int 4), (3, .int 1), (2, .int 0), (0, .ref 0), (1, .ref 22)]) ⟨rfl, rfl, rfl, rfl, rfl, rfl, rfl, trivial⟩ (by show List.Nodup [6, 5, 4, 3, 2, 0, 1]; decide) (by show List.Nodup [6, 5, 4, 3, 2, 0, 1]; decide) ?_
        exact fail _ _
  · rw [show (fx_cb .ne 3 (nI (E - F))) = true from cb_neT (a := 3) (b := E - F) (by omega) (by omega) (by omega)]
    dsimp only [cond]
    refine fe_s 4 (pc' := 68) (lc' := [(6, .int 1), (5, .int 0), (4, .int 4), (3, .int 1), (2, .int 0), (0, .ref 0), (1, .ref 22)]) (stk' := []) (mem' := fm g tp bt a b) (fun _ _ _ => rfl) ?_
    refine fe_s 2 (pc' := 72) (lc' := [(6, .int 1), (5, .int 0), (4, .int 4), (3, .int 1), (2, .int 0), (0, .ref 0), (1, .ref 22)]) (stk' := [.int 4, .int 1]) (mem' := fm g tp bt a b) (fun _ _ _ => rfl) ?_
    refine fe_s 1 (pc' := cond (fx_cb .ge 1 4) 115 75) (lc' := [(6, .int 1), (5, .int 0), (4, .int 4), (3, .int 1), (2, .int 0), (0, .ref 0), (1, .ref 22)]) (stk' := []) (mem' := fm g tp bt a b) (fun _ _ _ => rfl) ?_
    rw [show (fx_cb .ge 1 4) = false from by decide]
    dsimp only [cond]
    refine fe_s 1 (pc' := 77) (lc' := [(6, .int 1), (5, .int 0), (4, .int 4), (3, .int 1), (2, .int 0), (0, .ref 0), (1, .ref 22)]) (stk' := [.int 0]) (mem' := fm g tp bt a b) (fun _ _ _ => rfl) ?_
    refine fe_s 1 (pc' := cond (fx_cb .eq 0 0) 115 80) (lc' := [(6, .int 1), (5, .int 0), (4, .int 4), (3, .int 1), (2, .int 0), (0, .ref 0), (1, .ref 22)]) (stk' := []) (mem' := fm g tp bt a b) (fun _ _ _ => rfl) ?_
    rw [show (fx_cb .eq 0 0) = true from by decide]
    dsimp only [cond]
    refine fe_s 1 (pc' := 117) (lc' := [(6, .int 1), (5, .int 0), (4, .int 4), (3, .int 1), (2, .int 0), (0, .ref 0), (1, .ref 22)]) (stk' := [.int 0]) (mem' := fm g tp bt a b) (fun _ _ _ => rfl) ?_
    refine fe_s 1 (pc' := cond (fx_cb .eq 0 0) 122 120) (lc' := [(6, .int 1), (5, .int 0), (4, .int 4), (3, .int 1), (2, .int 0), (0, .ref 0), (1, .ref 22)]) (stk' := []) (mem' := fm g tp bt a b) (fun _ _ _ => rfl) ?_
    rw [show (fx_cb .eq 0 0) = true from by decide]
    dsimp only [cond]
    refine fe_s 4 (pc' := 129) (lc' := [(2, .int (0 + 1)), (6, .int 1), (5, .int 0), (4, .int 4), (3, .int 1), (0, .ref 0), (1, .ref 22)]) (stk' := [.int (4 + 1)]) (mem' := fm g tp bt a b) (fun _ _ _ => rfl) ?_
    rw [show (4 + 1 : Int32) = 5 from rfl]
    rw [show (0 + 1 : Int32) = 1 from rfl]
    refine fe_s 1 (pc' := 130) (lc' := [(3, .int 5), (2, .int 1), (6, .int 1), (5, .int 0), (4, .int 4), (0, .ref 0), (1, .ref 22)]) (stk' := []) (mem' := fm g tp bt a b) (fun _ _ _ => rfl) ?_
    refine fe_s 1 (pc' := fx_to 130 (-116)) (lc' := [(3, .int 5), (2, .int 1), (6, .int 1), (5, .int 0), (4, .int 4), (0, .ref 0), (1, .ref 22)]) (stk' := []) (mem' := fm g tp bt a b) (fun _ _ _ => rfl) ?_
    rw [show fx_to 130 (-116) = 14 from by decide]
    refine fe_w (lc' := [(3, .int 5), (2, .int 1), (0, .ref 0), (1, .ref 22)]) ⟨rfl, rfl, rfl, rfl, trivial⟩ (by show List.Nodup [3, 2, 0, 1]; decide) (by show List.Nodup [3, 2, 6, 5, 4, 0, 1]; decide) ?_
    exact fw_1 hxp
theorem fr_inWords {S E F : Nat} (hxp : fm_xp g S E F) : ∃ (v : Option Value) (mem' : fx_M), fm_FI (fm g tp bt a b) (v, mem') ∧ fr_T 2 226 [.ref 0, .ref 22] (fm g tp bt a b) v mem' := by
  refine fe_meth (F := fm_FI (fm g tp bt a b)) (M := gk_m226) (by rfl) (by rfl) ?_
  refine fe_s 3 (pc' := 5) (lc' := [(0, .ref 0), (1, .ref 22)]) (stk' := [.int 2, .int (g 12)]) (mem' := fm g tp bt a b) (fun _ _ _ => rfl) ?_
  refine fe_s 1 (pc' := cond (fx_cb .eq (g 12) 2) 10 8) (lc' := [(0, .ref 0), (1, .ref 22)]) (stk' := []) (mem' := fm g tp bt a b) (fun _ _ _ => rfl) ?_
  cases h15 : fx_cb .eq (g 12) 2
  · refine fe_s 1 (pc' := 9) (lc' := [(0, .ref 0), (1, .ref 22)]) (stk' := [.int (-1)]) (mem' := fm g tp bt a b) (fun _ _ _ => rfl) ?_
    exact fe_ret ⟨_, Or.inl rfl, rfl⟩ (by rfl) (by rfl) (by rfl)
  · refine fe_s 4 (pc' := 14) (lc' := [(3, .int 1), (2, .int 0), (0, .ref 0), (1, .ref 22)]) (stk' := []) (mem' := fm g tp bt a b) (fun _ _ _ => rfl) ?_
    refine fe_w (lc' := [(3, .int 1), (2, .int 0), (0, .ref 0), (1, .ref 22)]) ⟨rfl, rfl, rfl, rfl, trivial⟩ (by show List.Nodup [3, 2, 0, 1]; decide) (by show List.Nodup [3, 2, 0, 1]; decide) ?_
    exact fw_0 hxp
end FIW10
