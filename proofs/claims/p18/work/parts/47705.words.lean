/-! ===== fx: which word it is (5) ===== -/
section FIW5
variable {g : Nat → Int32} {tp bt : Int64} {a : Nat → Nat → Int32} {b : Nat → Nat → Int64}
set_option maxHeartbeats 8000000 in
theorem fw_11 {S E F : Nat} (hxp : fm_xp g S E F) : fe_R 1 gk_m226 14 [(3, .int 63), (2, .int 11), (0, .ref 0), (1, .ref 22)] [] (fm g tp bt a b) (fm_FI (fm g tp bt a b)) := by
  obtain ⟨h11, hS9, h14, hES, h13, hFE, -, -, -⟩ := id hxp
  have fail : ∀ (x z : Int32), fe_R 1 gk_m226 107 [(6, .int x), (5, .int z), (4, .int 67), (3, .int 63), (2, .int 11), (0, .ref 0), (1, .ref 22)] [.int 0] (fm g tp bt a b) (fm_FI (fm g tp bt a b)) := by
    intro x z
    refine fe_s 4 (pc' := 70) (lc' := [(6, .int (x + 1)), (5, .int 0), (4, .int 67), (3, .int 63), (2, .int 11), (0, .ref 0), (1, .ref 22)]) (stk' := [.int (x + 1)]) (mem' := fm g tp bt a b) (fun _ _ _ => rfl) ?_
    refine fe_s 1 (pc' := 72) (lc' := [(6, .int (x + 1)), (5, .int 0), (4, .int 67), (3, .int 63), (2, .int 11), (0, .ref 0), (1, .ref 22)]) (stk' := [.int 67, .int (x + 1)]) (mem' := fm g tp bt a b) (fun _ _ _ => rfl) ?_
    refine fe_s 1 (pc' := cond (fx_cb .ge (x + 1) 67) 115 75) (lc' := [(6, .int (x + 1)), (5, .int 0), (4, .int 67), (3, .int 63), (2, .int 11), (0, .ref 0), (1, .ref 22)]) (stk' := []) (mem' := fm g tp bt a b) (fun _ _ _ => rfl) ?_
    cases h1 : fx_cb .ge (x + 1) 67
    · refine fe_s 1 (pc' := 77) (lc' := [(6, .int (x + 1)), (5, .int 0), (4, .int 67), (3, .int 63), (2, .int 11), (0, .ref 0), (1, .ref 22)]) (stk' := [.int 0]) (mem' := fm g tp bt a b) (fun _ _ _ => rfl) ?_
      refine fe_s 1 (pc' := cond (fx_cb .eq 0 0) 115 80) (lc' := [(6, .int (x + 1)), (5, .int 0), (4, .int 67), (3, .int 63), (2, .int 11), (0, .ref 0), (1, .ref 22)]) (stk' := []) (mem' := fm g tp bt a b) (fun _ _ _ => rfl) ?_
      rw [show (fx_cb .eq 0 0) = true from by decide]
      dsimp only [cond]
      refine fe_s 1 (pc' := 117) (lc' := [(6, .int (x + 1)), (5, .int 0), (4, .int 67), (3, .int 63), (2, .int 11), (0, .ref 0), (1, .ref 22)]) (stk' := [.int 0]) (mem' := fm g tp bt a b) (fun _ _ _ => rfl) ?_
      refine fe_s 1 (pc' := cond (fx_cb .eq 0 0) 122 120) (lc' := [(6, .int (x + 1)), (5, .int 0), (4, .int 67), (3, .int 63), (2, .int 11), (0, .ref 0), (1, .ref 22)]) (stk' := []) (mem' := fm g tp bt a b) (fun _ _ _ => rfl) ?_
      rw [show (fx_cb .eq 0 0) = true from by decide]
      dsimp only [cond]
      refine fe_s 4 (pc' := 129) (lc' := [(2, .int (11 + 1)), (6, .int (x + 1)), (5, .int 0), (4, .int 67), (3, .int 63), (0, .ref 0), (1, .ref 22)]) (stk' := [.int (67 + 1)]) (mem' := fm g tp bt a b) (fun _ _ _ => rfl) ?_
      rw [show (67 + 1 : Int32) = 68 from rfl]
      rw [show (11 + 1 : Int32) = 12 from rfl]
      refine fe_s 1 (pc' := 130) (lc' := [(3, .int 68), (2, .int 12), (6, .int (x + 1)), (5, .int 0), (4, .int 67), (0, .ref 0), (1, .ref 22)]) (stk' := []) (mem' := fm g tp bt a b) (fun _ _ _ => rfl) ?_
      refine fe_s 1 (pc' := fx_to 130 (-116)) (lc' := [(3, .int 68), (2, .int 12), (6, .int (x + 1)), (5, .int 0), (4, .int 67), (0, .ref 0), (1, .ref 22)]) (stk' := []) (mem' := fm g tp bt a b) (fun _ _ _ => rfl) ?_
      rw [show fx_to 130 (-116) = 14 from by decide]
      refine fe_w (lc' := [(3, .int 68), (2, .int 12), (0, .ref 0), (1, .ref 22)]) ⟨rfl, rfl, rfl, rfl, trivial⟩ (by show List.Nodup [3, 2, 0, 1]; decide) (by show List.Nodup [3, 2, 6, 5, 4, 0, 1]; decide) ?_
      exact fw_12 hxp
    · refine fe_s 1 (pc' := 117) (lc' := [(6, .int (x + 1)), (5, .int 0), (4, .int 67), (3, .int 63), (2, .int 11), (0, .ref 0), (1, .ref 22)]) (stk' := [.int 0]) (mem' := fm g tp bt a b) (fun _ _ _ => rfl) ?_
      refine fe_s 1 (pc' := cond (fx_cb .eq 0 0) 122 120) (lc' := [(6, .int (x + 1)), (5, .int 0), (4, .int 67), (3, .int 63), (2, .int 11), (0, .ref 0), (1, .ref 22)]) (stk' := []) (mem' := fm g tp bt a b) (fun _ _ _ => rfl) ?_
      rw [show (fx_cb .eq 0 0) = true from by decide]
      dsimp only [cond]
      refine fe_s 4 (pc' := 129) (lc' := [(2, .int (11 + 1)), (6, .int (x + 1)), (5, .int 0), (4, .int 67), (3, .int 63), (0, .ref 0), (1, .ref 22)]) (stk' := [.int (67 + 1)]) (mem' := fm g tp bt a b) (fun _ _ _ => rfl) ?_
      rw [show (67 + 1 : Int32) = 68 from rfl]
      rw [show (11 + 1 : Int32) = 12 from rfl]
      refine fe_s 1 (pc' := 130) (lc' := [(3, .int 68), (2, .int 12), (6, .int (x + 1)), (5, .int 0), (4, .int 67), (0, .ref 0), (1, .ref 22)]) (stk' := []) (mem' := fm g tp bt a b) (fun _ _ _ => rfl) ?_
      refine fe_s 1 (pc' := fx_to 130 (-116)) (lc' := [(3, .int 68), (2, .int 12), (6, .int (x + 1)), (5, .int 0), (4, .int 67), (0, .ref 0), (1, .ref 22)]) (stk' := []) (mem' := fm g tp bt a b) (fun _ _ _ => rfl) ?_
      rw [show fx_to 130 (-116) = 14 from by decide]
      refine fe_w (lc' := [(3, .int 68), (2, .int 12), (0, .ref 0), (1, .ref 22)]) ⟨rfl, rfl, rfl, rfl, trivial⟩ (by show List.Nodup [3, 2, 0, 1]; decide) (by show List.Nodup [3, 2, 6, 5, 4, 0, 1]; decide) ?_
      exact fw_12 hxp
  refine fe_s 2 (pc' := 16) (lc' := [(3, .int 63), (2, .int 11), (0, .ref 0), (1, .ref 22)]) (stk' := [.ref 22, .int 63]) (mem' := fm g tp bt a b) (fun _ _ _ => rfl) ?_
  refine fe_s 1 (pc' := 19) (lc' := [(3, .int 63), (2, .int 11), (0, .ref 0), (1, .ref 22)]) (stk' := [.int 117, .int 63]) (mem' := fm g tp bt a b) (fun _ _ _ => rfl) ?_
  refine fe_s 1 (pc' := cond (fx_cb .ge 63 117) 133 22) (lc' := [(3, .int 63), (2, .int 11), (0, .ref 0), (1, .ref 22)]) (stk' := []) (mem' := fm g tp bt a b) (fun _ _ _ => rfl) ?_
  rw [show (fx_cb .ge 63 117) = false from by decide]
  dsimp only [cond]
  refine fe_s 4 (pc' := 28) (lc' := [(4, .int 63), (3, .int 63), (2, .int 11), (0, .ref 0), (1, .ref 22)]) (stk' := [.int 63, .ref 22]) (mem' := fm g tp bt a b) (fun _ _ _ => rfl) ?_
  refine fe_chr (i := 63) (by omega) (by rfl) (by rfl) ⟨by rfl, by rfl⟩ (by rfl) ?_
  rw [show sk_b.getD 63 0 = 115 from rfl]
  refine fe_s 1 (pc' := 33) (lc' := [(4, .int 63), (3, .int 63), (2, .int 11), (0, .ref 0), (1, .ref 22)]) (stk' := [.int 32, .int 115]) (mem' := fm g tp bt a b) (fun _ _ _ => rfl) ?_
  refine fe_s 1 (pc' := cond (fx_cb .eq 115 32) 42 36) (lc' := [(4, .int 63), (3, .int 63), (2, .int 11), (0, .ref 0), (1, .ref 22)]) (stk' := []) (mem' := fm g tp bt a b) (fun _ _ _ => rfl) ?_
  rw [show (fx_cb .eq 115 32) = false from by decide]
  dsimp only [cond]
  refine fe_s 4 (pc' := 28) (lc' := [(4, .int (63 + 1)), (3, .int 63), (2, .int 11), (0, .ref 0), (1, .ref 22)]) (stk' := [.int (63 + 1), .ref 22]) (mem' := fm g tp bt a b) (fun _ _ _ => rfl) ?_
  rw [show (63 + 1 : Int32) = 64 from rfl]
  refine fe_chr (i := 64) (by omega) (by rfl) (by rfl) ⟨by rfl, by rfl⟩ (by rfl) ?_
  rw [show sk_b.getD 64 0 = 101 from rfl]
  refine fe_s 1 (pc' := 33) (lc' := [(4, .int 64), (3, .int 63), (2, .int 11), (0, .ref 0), (1, .ref 22)]) (stk' := [.int 32, .int 101]) (mem' := fm g tp bt a b) (fun _ _ _ => rfl) ?_
  refine fe_s 1 (pc' := cond (fx_cb .eq 101 32) 42 36) (lc' := [(4, .int 64), (3, .int 63), (2, .int 11), (0, .ref 0), (1, .ref 22)]) (stk' := []) (mem' := fm g tp bt a b) (fun _ _ _ => rfl) ?_
  rw [show (fx_cb .eq 101 32) = false from by decide]
  dsimp only [cond]
  refine fe_s 4 (pc' := 28) (lc' := [(4, .int (64 + 1)), (3, .int 63), (2, .int 11), (0, .ref 0), (1, .ref 22)]) (stk' := [.int (64 + 1), .ref 22]) (mem' := fm g tp bt a b) (fun _ _ _ => rfl) ?_
  rw [show (64 + 1 : Int32) = 65 from rfl]
  refine fe_chr (i := 65) (by omega) (by rfl) (by rfl) ⟨by rfl, by rfl⟩ (by rfl) ?_
  rw [show sk_b.getD 65 0 = 110 from rfl]
  refine fe_s 1 (pc' := 33) (lc' := [(4, .int 65), (3, .int 63), (2, .int 11), (0, .ref 0), (1, .ref 22)]) (stk' := [.int 32, .int 110]) (mem' := fm g tp bt a b) (fun _ _ _ => rfl) ?_
  refine fe_s 1 (pc' := cond (fx_cb .eq 110 32) 42 36) (lc' := [(4, .int 65), (3, .int 63), (2, .int 11), (0, .ref 0), (1, .ref 22)]) (stk' := []) (mem' := fm g tp bt a b) (fun _ _ _ => rfl) ?_
  rw [show (fx_cb .eq 110 32) = false from by decide]
  dsimp only [cond]
  refine fe_s 4 (pc' := 28) (lc' := [(4, .int (65 + 1)), (3, .int 63), (2, .int 11), (0, .ref 0), (1, .ref 22)]) (stk' := [.int (65 + 1), .ref 22]) (mem' := fm g tp bt a b) (fun _ _ _ => rfl) ?_
  rw [show (65 + 1 : Int32) = 66 from rfl]
  refine fe_chr (i := 66) (by omega) (by rfl) (by rfl) ⟨by rfl, by rfl⟩ (by rfl) ?_
  rw [show sk_b.getD 66 0 = 100 from rfl]
  refine fe_s 1 (pc' := 33) (lc' := [(4, .int 66), (3, .int 63), (2, .int 11), (0, .ref 0), (1, .ref 22)]) (stk' := [.int 32, .int 100]) (mem' := fm g tp bt a b) (fun _ _ _ => rfl) ?_
  refine fe_s 1 (pc' := cond (fx_cb .eq 100 32) 42 36) (lc' := [(4, .int 66), (3, .int 63), (2, .int 11), (0, .ref 0), (1, .ref 22)]) (stk' := []) (mem' := fm g tp bt a b) (fun _ _ _ => rfl) ?_
  rw [show (fx_cb .eq 100 32) = false from by decide]
  dsimp only [cond]
  refine fe_s 4 (pc' := 28) (lc' := [(4, .int (66 + 1)), (3, .int 63), (2, .int 11), (0, .ref 0), (1, .ref 22)]) (stk' := [.int (66 + 1), .ref 22]) (mem' := fm g tp bt a b) (fun _ _ _ => rfl) ?_
  rw [show (66 + 1 : Int32) = 67 from rfl]
  refine fe_chr (i := 67) (by omega) (by rfl) (by rfl) ⟨by rfl, by rfl⟩ (by rfl) ?_
  rw [show sk_b.getD 67 0 = 32 from rfl]
  refine fe_s 1 (pc' := 33) (lc' := [(4, .int 67), (3, .int 63), (2, .int 11), (0, .ref 0), (1, .ref 22)]) (stk' := [.int 32, .int 32]) (mem' := fm g tp bt a b) (fun _ _ _ => rfl) ?_
  refine fe_s 1 (pc' := cond (fx_cb .eq 32 32) 42 36) (lc' := [(4, .int 67), (3, .int 63), (2, .int 11), (0, .ref 0), (1, .ref 22)]) (stk' := []) (mem' := fm g tp bt a b) (fun _ _ _ => rfl) ?_
  rw [show (fx_cb .eq 32 32) = true from by decide]
  dsimp only [cond]
  refine fe_s 4 (pc' := 47) (lc' := [(4, .int 67), (3, .int 63), (2, .int 11), (0, .ref 0), (1, .ref 22)]) (stk' := [.ref 0, .int (67 - 63)]) (mem' := fm g tp bt a b) (fun _ _ _ => rfl) ?_
  rw [show (67 - 63 : Int32) = 4 from rfl]
  refine fe_s 4 (pc' := 55) (lc' := [(4, .int 67), (3, .int 63), (2, .int 11), (0, .ref 0), (1, .ref 22)]) (stk' := [.int ((g 14) - (g 13)), .int 4]) (mem' := fm g tp bt a b) (fun _ _ _ => rfl) ?_
  try rw [h14]
  try rw [h13]
  rw [show ((nI E) - (nI F) : Int32) = nI (E - F) from by simp only [tg_sub2 (x := E) (y := F) (by omega), nI_add, fm_mul]]
  refine fe_s 1 (pc' := cond (fx_cb .ne 4 (nI (E - F))) 62 58) (lc' := [(4, .int 67), (3, .int 63), (2, .int 11), (0, .ref 0), (1, .ref 22)]) (stk' := []) (mem' := fm g tp bt a b) (fun _ _ _ => rfl) ?_
  by_cases h2 : 4 = (E - F)
  · rw [show (fx_cb .ne 4 (nI (E - F))) = false from cb_neF (a := 4) (b := E - F) (by omega) (by omega) (by omega)]
    dsimp only [cond]
    refine fe_s 4 (pc' := 66) (lc' := [(5, .int 1), (4, .int 67), (3, .int 63), (2, .int 11), (0, .ref 0), (1, .ref 22)]) (stk' := [.int 63]) (mem' := fm g tp bt a b) (fun _ _ _ => rfl) ?_
    refine fe_s 3 (pc' := 72) (lc' := [(6, .int 63), (5, .int 1), (4, .int 67), (3, .int 63), (2, .int 11), (0, .ref 0), (1, .ref 22)]) (stk' := [.int 67, .int 63]) (mem' := fm g tp bt a b) (fun _ _ _ => rfl) ?_
    refine fe_s 1 (pc' := cond (fx_cb .ge 63 67) 115 75) (lc' := [(6, .int 63), (5, .int 1), (4, .int 67), (3, .int 63), (2, .int 11), (0, .ref 0), (1, .ref 22)]) (stk' := []) (mem' := fm g tp bt a b) (fun _ _ _ => rfl) ?_
    rw [show (fx_cb .ge 63 67) = false from by decide]
    dsimp only [cond]
    refine fe_s 1 (pc' := 77) (lc' := [(6, .int 63), (5, .int 1), (4, .int 67), (3, .int 63), (2, .int 11), (0, .ref 0), (1, .ref 22)]) (stk' := [.int 1]) (mem' := fm g tp bt a b) (fun _ _ _ => rfl) ?_
    refine fe_s 1 (pc' := cond (fx_cb .eq 1 0) 115 80) (lc' := [(6, .int 63), (5, .int 1), (4, .int 67), (3, .int 63), (2, .int 11), (0, .ref 0), (1, .ref 22)]) (stk' := []) (mem' := fm g tp bt a b) (fun _ _ _ => rfl) ?_
    rw [show (fx_cb .eq 1 0) = false from by decide]
    dsimp only [cond]
    refine fe_s 2 (pc' := 83) (lc' := [(6, .int 63), (5, .int 1), (4, .int 67), (3, .int 63), (2, .int 11), (0, .ref 0), (1, .ref 22)]) (stk' := [.int 63, .ref 22]) (mem' := fm g tp bt a b) (fun _ _ _ => rfl) ?_
    refine fe_chr (i := 63) (by omega) (by rfl) (by rfl) ⟨by rfl, by rfl⟩ (by rfl) ?_
    rw [show sk_b.getD 63 0 = 115 from rfl]
    refine fe_s 4 (pc' := 93) (lc' := [(6, .int 63), (5, .int 1), (4, .int 67), (3, .int 63), (2, .int 11), (0, .ref 0), (1, .ref 22)]) (stk' := [.int 63, .int (g 13), .ref 0, .int 115]) (mem' := fm g tp bt a b) (fun _ _ _ => rfl) ?_
    try rw [h13]
    refine fe_s 3 (pc' := 96) (lc' := [(6, .int 63), (5, .int 1), (4, .int 67), (3, .int 63), (2, .int 11), (0, .ref 0), (1, .ref 22)]) (stk' := [.int (((nI F) + 63) - 63), .ref 0, .int 115]) (mem' := fm g tp bt a b) (fun _ _ _ => rfl) ?_
    rw [show (((nI F) + 63) - 63 : Int32) = nI ((F + 63) - 63) from by simp only [show (63 : Int32) = nI 63 from rfl, tg_sub2 (x := F + 63) (y := 63) (by omega), nI_add, fm_mul]]
    refine fe_ivV (fr_byteAt (S := S) (k := (F + 63) - 63) (g := g) (tp := tp) (bt := bt) (a := a) (b := b) h11 (by omega) (by omega)) (by omega) (by rfl) (by rfl) (by rfl) (by rfl) (by rfl) (by rfl) ?_
    rcases fm_byte_or a S ((F + 63) - 63) with ⟨e4, q5⟩ | ⟨q5, n3, qn3, e4⟩
    · rw [e4]
      refine fe_s 1 (pc' := cond (fx_cb .ne 115 (-1)) 106 102) (lc' := [(6, .int 63), (5, .int 1), (4, .int 67), (3, .int 63), (2, .int 11), (0, .ref 0), (1, .ref 22)]) (stk' := []) (mem' := fm g tp bt a b) (fun _ _ _ => rfl) ?_
      rw [show (fx_cb .ne 115 (-1)) = true from by decide]
      dsimp only [cond]
      refine fe_s 1 (pc' := 107) (lc' := [(6, .int 63), (5, .int 1), (4, .int 67), (3, .int 63), (2, .int 11), (0, .ref 0), (1, .ref 22)]) (stk' := [.int 0]) (mem' := fm g tp bt a b) (fun _ _ _ => rfl) ?_
      refine fe_w (lc' := [(6, .int 63), (5, .int 1), (4, .int 67), (3, .int 63), (2, .int 11), (0, .ref 0), (1, .ref 22)]) ⟨rfl, rfl, rfl, rfl, rfl, rfl, rfl, trivial⟩ (by show List.Nodup [6, 5, 4, 3, 2, 0, 1]; decide) (by show List.Nodup [6, 5, 4, 3, 2, 0, 1]; decide) ?_
      exact fail _ _
    · rw [e4]
      refine fe_s 1 (pc' := cond (fx_cb .ne 115 (nI n3)) 106 102) (lc' := [(6, .int 63), (5, .int 1), (4, .int 67), (3, .int 63), (2, .int 11), (0, .ref 0), (1, .ref 22)]) (stk' := []) (mem' := fm g tp bt a b) (fun _ _ _ => rfl) ?_
      by_cases h6 : 115 = n3
      · rw [show (fx_cb .ne 115 (nI n3)) = false from cb_neF (a := 115) (b := n3) (by omega) (by omega) (by omega)]
        dsimp only [cond]
        refine fe_s 2 (pc' := 107) (lc' := [(6, .int 63), (5, .int 1), (4, .int 67), (3, .int 63), (2, .int 11), (0, .ref 0), (1, .ref 22)]) (stk' := [.int 1]) (mem' := fm g tp bt a b) (fun _ _ _ => rfl) ?_
        refine fe_s 4 (pc' := 70) (lc' := [(6, .int (63 + 1)), (5, .int 1), (4, .int 67), (3, .int 63), (2, .int 11), (0, .ref 0), (1, .ref 22)]) (stk' := [.int (63 + 1)]) (mem' := fm g tp bt a b) (fun _ _ _ => rfl) ?_
        rw [show (63 + 1 : Int32) = 64 from rfl]
        refine fe_s 1 (pc' := 72) (lc' := [(6, .int 64), (5, .int 1), (4, .int 67), (3, .int 63), (2, .int 11), (0, .ref 0), (1, .ref 22)]) (stk' := [.int 67, .int 64]) (mem' := fm g tp bt a b) (fun _ _ _ => rfl) ?_
        refine fe_s 1 (pc' := cond (fx_cb .ge 64 67) 115 75) (lc' := [(6, .int 64), (5, .int 1), (4, .int 67), (3, .int 63), (2, .int 11), (0, .ref 0), (1, .ref 22)]) (stk' := []) (mem' := fm g tp bt a b) (fun _ _ _ => rfl) ?_
        rw [show (fx_cb .ge 64 67) = false from by decide]
        dsimp only [cond]
        refine fe_s 1 (pc' := 77) (lc' := [(6, .int 64), (5, .int 1), (4, .int 67), (3, .int 63), (2, .int 11), (0, .ref 0), (1, .ref 22)]) (stk' := [.int 1]) (mem' := fm g tp bt a b) (fun _ _ _ => rfl) ?_
        refine fe_s 1 (pc' := cond (fx_cb .eq 1 0) 115 80) (lc' := [(6, .int 64), (5, .int 1), (4, .int 67), (3, .int 63), (2, .int 11), (0, .ref 0), (1, .ref 22)]) (stk' := []) (mem' := fm g tp bt a b) (fun _ _ _ => rfl) ?_
        rw [show (fx_cb .eq 1 0) = false from by decide]
        dsimp only [cond]
        refine fe_s 2 (pc' := 83) (lc' := [(6, .int 64), (5, .int 1), (4, .int 67), (3, .int 63), (2, .int 11), (0, .ref 0), (1, .ref 22)]) (stk' := [.int 64, .ref 22]) (mem' := fm g tp bt a b) (fun _ _ _ => rfl) ?_
        refine fe_chr (i := 64) (by omega) (by rfl) (by rfl) ⟨by rfl, by rfl⟩ (by rfl) ?_
        rw [show sk_b.getD 64 0 = 101 from rfl]
        refine fe_s 4 (pc' := 93) (lc' := [(6, .int 64), (5, .int 1), (4, .int 67), (3, .int 63), (2, .int 11), (0, .ref 0), (1, .ref 22)]) (stk' := [.int 64, .int (g 13), .ref 0, .int 101]) (mem' := fm g tp bt a b) (fun _ _ _ => rfl) ?_
        try rw [h13]
        refine fe_s 3 (pc' := 96) (lc' := [(6, .int 64), (5, .int 1), (4, .int 67), (3, .int 63), (2, .int 11), (0, .ref 0), (1, .ref 22)]) (stk' := [.int (((nI F) + 64) - 63), .ref 0, .int 101]) (mem' := fm g tp bt a b) (fun _ _ _ => rfl) ?_
        rw [show (((nI F) + 64) - 63 : Int32) = nI ((F + 64) - 63) from by simp only [show (64 : Int32) = nI 64 from rfl, show (63 : Int32) = nI 63 from rfl, tg_sub2 (x := F + 64) (y := 63) (by omega), nI_add, fm_mul]]
        refine fe_ivV (fr_byteAt (S := S) (k := (F + 64) - 63) (g := g) (tp := tp) (bt := bt) (a := a) (b := b) h11 (by omega) (by omega)) (by omega) (by rfl) (by rfl) (by rfl) (by rfl) (by rfl) (by rfl) ?_
        rcases fm_byte_or a S ((F + 64) - 63) with ⟨e8, q9⟩ | ⟨q9, n7, qn7, e8⟩
        · rw [e8]
          refine fe_s 1 (pc' := cond (fx_cb .ne 101 (-1)) 106 102) (lc' := [(6, .int 64), (5, .int 1), (4, .int 67), (3, .int 63), (2, .int 11), (0, .ref 0), (1, .ref 22)]) (stk' := []) (mem' := fm g tp bt a b) (fun _ _ _ => rfl) ?_
          rw [show (fx_cb .ne 101 (-1)) = true from by decide]
          dsimp only [cond]
          refine fe_s 1 (pc' := 107) (lc' := [(6, .int 64), (5, .int 1), (4, .int 67), (3, .int 63), (2, .int 11), (0, .ref 0), (1, .ref 22)]) (stk' := [.int 0]) (mem' := fm g tp bt a b) (fun _ _ _ => rfl) ?_
          refine fe_w (lc' := [(6, .int 64), (5, .int 1), (4, .int 67), (3, .int 63), (2, .int 11), (0, .ref 0), (1, .ref 22)]) ⟨rfl, rfl, rfl, rfl, rfl, rfl, rfl, trivial⟩ (by show List.Nodup [6, 5, 4, 3, 2, 0, 1]; decide) (by show List.Nodup [6, 5, 4, 3, 2, 0, 1]; decide) ?_
          exact fail _ _
        · rw [e8]
          refine fe_s 1 (pc' := cond (fx_cb .ne 101 (nI n7)) 106 102) (lc' := [(6, .int 64), (5, .int 1), (4, .int 67), (3, .int 63), (2, .int 11), (0, .ref 0), (1, .ref 22)]) (stk' := []) (mem' := fm g tp bt a b) (fun _ _ _ => rfl) ?_
          by_cases h10 : 101 = n7
          · rw [show (fx_cb .ne 101 (nI n7)) = false from cb_neF (a := 101) (b := n7) (by omega) (by omega) (by omega)]
            dsimp only [cond]
            refine fe_s 2 (pc' := 107) (lc' := [(6, .int 64), (5, .int 1), (4, .int 67), (3, .int 63), (2, .int 11), (0, .ref 0), (1, .ref 22)]) (stk' := [.int 1]) (mem' := fm g tp bt a b) (fun _ _ _ => rfl) ?_
            refine fe_s 4 (pc' := 70) (lc' := [(6, .int (64 + 1)), (5, .int 1), (4, .int 67), (3, .int 63), (2, .int 11), (0, .ref 0), (1, .ref 22)]) (stk' := [.int (64 + 1)]) (mem' := fm g tp bt a b) (fun _ _ _ => rfl) ?_
            rw [show (64 + 1 : Int32) = 65 from rfl]
            refine fe_s 1 (pc' := 72) (lc' := [(6, .int 65), (5, .int 1), (4, .int 67), (3, .int 63), (2, .int 11), (0, .ref 0), (1, .ref 22)]) (stk' := [.int 67, .int 65]) (mem' := fm g tp bt a b) (fun _ _ _ => rfl) ?_
            refine fe_s 1 (pc' := cond (fx_cb .ge 65 67) 115 75) (lc' := [(6, .int 65), (5, .int 1), (4, .int 67), (3, .int 63), (2, .int 11), (0, .ref 0), (1, .ref 22)]) (stk' := []) (mem' := fm g tp bt a b) (fun _ _ _ => rfl) ?_
            rw [show (fx_cb .ge 65 67) = false from by decide]
            dsimp only [cond]
            refine fe_s 1 (pc' := 77) (lc' := [(6, .int 65), (5, .int 1), (4, .int 67), (3, .int 63), (2, .int 11), (0, .ref 0), (1, .ref 22)]) (stk' := [.int 1]) (mem' := fm g tp bt a b) (fun _ _ _ => rfl) ?_
            refine fe_s 1 (pc' := cond (fx_cb .eq 1 0) 115 80) (lc' := [(6, .int 65), (5, .int 1), (4, .int 67), (3, .int 63), (2, .int 11), (0, .ref 0), (1, .ref 22)]) (stk' := []) (mem' := fm g tp bt a b) (fun _ _ _ => rfl) ?_
            rw [show (fx_cb .eq 1 0) = false from by decide]
            dsimp only [cond]
            refine fe_s 2 (pc' := 83) (lc' := [(6, .int 65), (5, .int 1), (4, .int 67), (3, .int 63), (2, .int 11), (0, .ref 0), (1, .ref 22)]) (stk' := [.int 65, .ref 22]) (mem' := fm g tp bt a b) (fun _ _ _ => rfl) ?_
            refine fe_chr (i := 65) (by omega) (by rfl) (by rfl) ⟨by rfl, by rfl⟩ (by rfl) ?_
            rw [show sk_b.getD 65 0 = 110 from rfl]
            refine fe_s 4 (pc' := 93) (lc' := [(6, .int 65), (5, .int 1), (4, .int 67), (3, .int 63), (2, .int 11), (0, .ref 0), (1, .ref 22)]) (stk' := [.int 65, .int (g 13), .ref 0, .int 110]) (mem' := fm g tp bt a b) (fun _ _ _ => rfl) ?_
            try rw [h13]
            refine fe_s 3 (pc' := 96) (lc' := [(6, .int 65), (5, .int 1), (4, .int 67), (3, .int 63), (2, .int 11), (0, .ref 0), (1, .ref 22)]) (stk' := [.int (((nI F) + 65) - 63), .ref 0, .int 110]) (mem' := fm g tp bt a b) (fun _ _ _ => rfl) ?_
            rw [show (((nI F) + 65) - 63 : Int32) = nI ((F + 65) - 63) from by simp only [show (65 : Int32) = nI 65 from rfl, show (63 : Int32) = nI 63 from rfl, tg_sub2 (x := F + 65) (y := 63) (by omega), nI_add, fm_mul]]
            refine fe_ivV (fr_byteAt (S := S) (k := (F + 65) - 63) (g := g) (tp := tp) (bt := bt) (a := a) (b := b) h11 (by omega) (by omega)) (by omega) (by rfl) (by rfl) (by rfl) (by rfl) (by rfl) (by rfl) ?_
            rcases fm_byte_or a S ((F + 65) - 63) with ⟨e12, q13⟩ | ⟨q13, n11, qn11, e12⟩
            · rw [e12]
              refine fe_s 1 (pc' := cond (fx_cb .ne 110 (-1)) 106 102) (lc' := [(6, .int 65), (5, .int 1), (4, .int 67), (3, .int 63), (2, .int 11), (0, .ref 0), (1, .ref 22)]) (stk' := []) (mem' := fm g tp bt a b) (fun _ _ _ => rfl) ?_
              rw [show (fx_cb .ne 110 (-1)) = true from by decide]
              dsimp only [cond]
              refine fe_s 1 (pc' := 107) (lc' := [(6, .int 65), (5, .int 1), (4, .int 67), (3, .int 63), (2, .int 11), (0, .ref 0), (1, .ref 22)]) (stk' := [.int 0]) (mem' := fm g tp bt a b) (fun _ _ _ => rfl) ?_
              refine fe_w (lc' := [(6, .int 65), (5, .int 1), (4, .int 67), (3, .int 63), (2, .int 11), (0, .ref 0), (1, .ref 22)]) ⟨rfl, rfl, rfl, rfl, rfl, rfl, rfl, trivial⟩ (by show List.Nodup [6, 5, 4, 3, 2, 0, 1]; decide) (by show List.Nodup [6, 5, 4, 3, 2, 0, 1]; decide) ?_
              exact fail _ _
            · rw [e12]
              refine fe_s 1 (pc' := cond (fx_cb .ne 110 (nI n11)) 106 102) (lc' := [(6, .int 65), (5, .int 1), (4, .int 67), (3, .int 63), (2, .int 11), (0, .ref 0), (1, .ref 22)]) (stk' := []) (mem' := fm g tp bt a b) (fun _ _ _ => rfl) ?_
              by_cases h14 : 110 = n11
              · rw [show (fx_cb .ne 110 (nI n11)) = false from cb_neF (a := 110) (b := n11) (by omega) (by omega) (by omega)]
                dsimp only [cond]
                refine fe_s 2 (pc' := 107) (lc' := [(6, .int 65), (5, .int 1), (4, .int 67), (3, .int 63), (2, .int 11), (0, .ref 0), (1, .ref 22)]) (stk' := [.int 1]) (mem' := fm g tp bt a b) (fun _ _ _ => rfl) ?_
                refine fe_s 4 (pc' := 70) (lc' := [(6, .int (65 + 1)), (5, .int 1), (4, .int 67), (3, .int 63), (2, .int 11), (0, .ref 0), (1, .ref 22)]) (stk' := [.int (65 + 1)]) (mem' := fm g tp bt a b) (fun _ _ _ => rfl) ?_
                rw [show (65 + 1 : Int32) = 66 from rfl]
                refine fe_s 1 (pc' := 72) (lc' := [(6, .int 66), (5, .int 1), (4, .int 67), (3, .int 63), (2, .int 11), (0, .ref 0), (1, .ref 22)]) (stk' := [.int 67, .int 66]) (mem' := fm g tp bt a b) (fun _ _ _ => rfl) ?_
                refine fe_s 1 (pc' := cond (fx_cb .ge 66 67) 115 75) (lc' := [(6, .int 66), (5, .int 1), (4, .int 67), (3, .int 63), (2, .int 11), (0, .ref 0), (1, .ref 22)]) (stk' := []) (mem' := fm g tp bt a b) (fun _ _ _ => rfl) ?_
                rw [show (fx_cb .ge 66 67) = false from by decide]
                dsimp only [cond]
                refine fe_s 1 (pc' := 77) (lc' := [(6, .int 66), (5, .int 1), (4, .int 67), (3, .int 63), (2, .int 11), (0, .ref 0), (1, .ref 22)]) (stk' := [.int 1]) (mem' := fm g tp bt a b) (fun _ _ _ => rfl) ?_
                refine fe_s 1 (pc' := cond (fx_cb .eq 1 0) 115 80) (lc' := [(6, .int 66), (5, .int 1), (4, .int 67), (3, .int 63), (2, .int 11), (0, .ref 0), (1, .ref 22)]) (stk' := []) (mem' := fm g tp bt a b) (fun _ _ _ => rfl) ?_
                rw [show (fx_cb .eq 1 0) = false from by decide]
                dsimp only [cond]
                refine fe_s 2 (pc' := 83) (lc' := [(6, .int 66), (5, .int 1), (4, .int 67), (3, .int 63), (2, .int 11), (0, .ref 0), (1, .ref 22)]) (stk' := [.int 66, .ref 22]) (mem' := fm g tp bt a b) (fun _ _ _ => rfl) ?_
                refine fe_chr (i := 66) (by omega) (by rfl) (by rfl) ⟨by rfl, by rfl⟩ (by rfl) ?_
                rw [show sk_b.getD 66 0 = 100 from rfl]
                refine fe_s 4 (pc' := 93) (lc' := [(6, .int 66), (5, .int 1), (4, .int 67), (3, .int 63), (2, .int 11), (0, .ref 0), (1, .ref 22)]) (stk' := [.int 66, .int (g 13), .ref 0, .int 100]) (mem' := fm g tp bt a b) (fun _ _ _ => rfl) ?_
                try rw [h13]
                refine fe_s 3 (pc' := 96) (lc' := [(6, .int 66), (5, .int 1), (4, .int 67), (3, .int 63), (2, .int 11), (0, .ref 0), (1, .ref 22)]) (stk' := [.int (((nI F) + 66) - 63), .ref 0, .int 100]) (mem' := fm g tp bt a b) (fun _ _ _ => rfl) ?_
                rw [show (((nI F) + 66) - 63 : Int32) = nI ((F + 66) - 63) from by simp only [show (66 : Int32) = nI 66 from rfl, show (63 : Int32) = nI 63 from rfl, tg_sub2 (x := F + 66) (y := 63) (by omega), nI_add, fm_mul]]
                refine fe_ivV (fr_byteAt (S := S) (k := (F + 66) - 63) (g := g) (tp := tp) (bt := bt) (a := a) (b := b) h11 (by omega) (by omega)) (by omega) (by rfl) (by rfl) (by rfl) (by rfl) (by rfl) (by rfl) ?_
                rcases fm_byte_or a S ((F + 66) - 63) with ⟨e16, q17⟩ | ⟨q17, n15, qn15, e16⟩
                · rw [e16]
                  refine fe_s 1 (pc' := cond (fx_cb .ne 100 (-1)) 106 102) (lc' := [(6, .int 66), (5, .int 1), (4, .int 67), (3, .int 63), (2, .int 11), (0, .ref 0), (1, .ref 22)]) (stk' := []) (mem' := fm g tp bt a b) (fun _ _ _ => rfl) ?_
                  rw [show (fx_cb .ne 100 (-1)) = true from by decide]
                  dsimp only [cond]
                  refine fe_s 1 (pc' := 107) (lc' := [(6, .int 66), (5, .int 1), (4, .int 67), (3, .int 63), (2, .int 11), (0, .ref 0), (1, .ref 22)]) (stk' := [.int 0]) (mem' := fm g tp bt a b) (fun _ _ _ => rfl) ?_
                  refine fe_w (lc' := [(6, .int 66), (5, .int 1), (4, .int 67), (3, .int 63), (2, .int 11), (0, .ref 0), (1, .ref 22)]) ⟨rfl, rfl, rfl, rfl, rfl, rfl, rfl, trivial⟩ (by show List.Nodup [6, 5, 4, 3, 2, 0, 1]; decide) (by show List.Nodup [6, 5, 4, 3, 2, 0, 1]; decide) ?_
                  exact fail _ _
                · rw [e16]
                  refine fe_s 1 (pc' := cond (fx_cb .ne 100 (nI n15)) 106 102) (lc' := [(6, .int 66), (5, .int 1), (4, .int 67), (3, .int 63), (2, .int 11), (0, .ref 0), (1, .ref 22)]) (stk' := []) (mem' := fm g tp bt a b) (fun _ _ _ => rfl) ?_
                  by_cases h18 : 100 = n15
                  · rw [show (fx_cb .ne 100 (nI n15)) = false from cb_neF (a := 100) (b := n15) (by omega) (by omega) (by omega)]
                    dsimp only [cond]
                    refine fe_s 2 (pc' := 107) (lc' := [(6, .int 66), (5, .int 1), (4, .int 67), (3, .int 63), (2, .int 11), (0, .ref 0), (1, .ref 22)]) (stk' := [.int 1]) (mem' := fm g tp bt a b) (fun _ _ _ => rfl) ?_
                    refine fe_s 4 (pc' := 70) (lc' := [(6, .int (66 + 1)), (5, .int 1), (4, .int 67), (3, .int 63), (2, .int 11), (0, .ref 0), (1, .ref 22)]) (stk' := [.int (66 + 1)]) (mem' := fm g tp bt a b) (fun _ _ _ => rfl) ?_
                    rw [show (66 + 1 : Int32) = 67 from rfl]
                    refine fe_s 1 (pc' := 72) (lc' := [(6, .int 67), (5, .int 1), (4, .int 67), (3, .int 63), (2, .int 11), (0, .ref 0), (1, .ref 22)]) (stk' := [.int 67, .int 67]) (mem' := fm g tp bt a b) (fun _ _ _ => rfl) ?_
                    refine fe_s 1 (pc' := cond (fx_cb .ge 67 67) 115 75) (lc' := [(6, .int 67), (5, .int 1), (4, .int 67), (3, .int 63), (2, .int 11), (0, .ref 0), (1, .ref 22)]) (stk' := []) (mem' := fm g tp bt a b) (fun _ _ _ => rfl) ?_
                    rw [show (fx_cb .ge 67 67) = true from by decide]
                    dsimp only [cond]
                    refine fe_s 1 (pc' := 117) (lc' := [(6, .int 67), (5, .int 1), (4, .int 67), (3, .int 63), (2, .int 11), (0, .ref 0), (1, .ref 22)]) (stk' := [.int 1]) (mem' := fm g tp bt a b) (fun _ _ _ => rfl) ?_
                    refine fe_s 1 (pc' := cond (fx_cb .eq 1 0) 122 120) (lc' := [(6, .int 67), (5, .int 1), (4, .int 67), (3, .int 63), (2, .int 11), (0, .ref 0), (1, .ref 22)]) (stk' := []) (mem' := fm g tp bt a b) (fun _ _ _ => rfl) ?_
                    rw [show (fx_cb .eq 1 0) = false from by decide]
                    dsimp only [cond]
                    refine fe_s 1 (pc' := 121) (lc' := [(6, .int 67), (5, .int 1), (4, .int 67), (3, .int 63), (2, .int 11), (0, .ref 0), (1, .ref 22)]) (stk' := [.int 11]) (mem' := fm g tp bt a b) (fun _ _ _ => rfl) ?_
                    exact fe_ret ⟨_, Or.inr ⟨11, by omega, rfl⟩, rfl⟩ (by rfl) (by rfl) (by rfl)
                  · rw [show (fx_cb .ne 100 (nI n15)) = true from cb_neT (a := 100) (b := n15) (by omega) (by omega) (by omega)]
                    dsimp only [cond]
                    refine fe_s 1 (pc' := 107) (lc' := [(6, .int 66), (5, .int 1), (4, .int 67), (3, .int 63), (2, .int 11), (0, .ref 0), (1, .ref 22)]) (stk' := [.int 0]) (mem' := fm g tp bt a b) (fun _ _ _ => rfl) ?_
                    refine fe_w (lc' := [(6, .int 66), (5, .int 1), (4, .int 67), (3, .int 63), (2, .int 11), (0, .ref 0), (1, .ref 22)]) ⟨rfl, rfl, rfl, rfl, rfl, rfl, rfl, trivial⟩ (by show List.Nodup [6, 5, 4, 3, 2, 0, 1]; decide) (by show List.Nodup [6, 5, 4, 3, 2, 0, 1]; decide) ?_
                    exact fail _ _
              · rw [show (fx_cb .ne 110 (nI n11)) = true from cb_neT (a := 110) (b := n11) (by omega) (by omega) (by omega)]
                dsimp only [cond]
                refine fe_s 1 (pc' := 107) (lc' := [(6, .int 65), (5, .int 1), (4, .int 67), (3, .int 63), (2, .int 11), (0, .ref 0), (1, .ref 22)]) (stk' := [.int 0]) (mem' := fm g tp bt a b) (fun _ _ _ => rfl) ?_
                refine fe_w (lc' := [(6, .int 65), (5, .int 1), (4, .int 67), (3, .int 63), (2, .int 11), (0, .ref 0), (1, .ref 22)]) ⟨rfl, rfl, rfl, rfl, rfl, rfl, rfl, trivial⟩ (by show List.Nodup [6, 5, 4, 3, 2, 0, 1]; decide) (by show List.Nodup [6, 5, 4, 3, 2, 0, 1]; decide) ?_
                exact fail _ _
          · rw [show (fx_cb .ne 101 (nI n7)) = true from cb_neT (a := 101) (b := n7) (by omega) (by omega) (by omega)]
            dsimp only [cond]
            refine fe_s 1 (pc' := 107) (lc' := [(6, .int 64), (5, .int 1), (4, .int 67), (3, .int 63), (2, .int 11), (0, .ref 0), (1, .ref 22)]) (stk' := [.int 0]) (mem' := fm g tp bt a b) (fun _ _ _ => rfl) ?_
            refine fe_w (lc' := [(6, .int 64), (5, .int 1), (4, .int 67), (3, .int 63), (2, .int 11), (0, .ref 0), (1, .ref 22)]) ⟨rfl, rfl, rfl, rfl, rfl, rfl, rfl, trivial⟩ (by show List.Nodup [6, 5, 4, 3, 2, 0, 1]; decide) (by show List.Nodup [6, 5, 4, 3, 2, 0, 1]; decide) ?_
            exact fail _ _
      · rw [show (fx_cb .ne 115 (nI n3)) = true from cb_neT (a := 115) (b := n3) (by omega) (by omega) (by omega)]
        dsimp only [cond]
        refine fe_s 1 (pc' := 107) (lc' := [(6, .int 63), (5, .int 1), (4, .int 67), (3, .int 63), (2, .int 11), (0, .ref 0), (1, .ref 22)]) (stk' := [.int 0]) (mem' := fm g tp bt a b) (fun _ _ _ => rfl) ?_
        refine fe_w (lc' := [(6, .int 63), (5, .int 1), (4, .int 67), (3, .int 63), (2, .int 11), (0, .ref 0), (1, .ref 22)]) ⟨rfl, rfl, rfl, rfl, rfl, rfl, rfl, trivial⟩ (by show List.Nodup [6, 5, 4, 3, 2, 0, 1]; decide) (by show List.Nodup [6, 5, 4, 3, 2, 0, 1]; decide) ?_
        exact fail _ _
  · rw [show (fx_cb .ne 4 (nI (E - F))) = true from cb_neT (a := 4) (b := E - F) (by omega) (by omega) (by omega)]
    dsimp only [cond]
    refine fe_s 4 (pc' := 68) (lc' := [(6, .int 63), (5, .int 0), (4, .int 67), (3, .int 63), (2, .int 11), (0, .ref 0), (1, .ref 22)]) (stk' := []) (mem' := fm g tp bt a b) (fun _ _ _ => rfl) ?_
    refine fe_s 2 (pc' := 72) (lc' := [(6, .int 63), (5, .int 0), (4, .int 67), (3, .int 63), (2, .int 11), (0, .ref 0), (1, .ref 22)]) (stk' := [.int 67, .int 63]) (mem' := fm g tp bt a b) (fun _ _ _ => rfl) ?_
    refine fe_s 1 (pc' := cond (fx_cb .ge 63 67) 115 75) (lc' := [(6, .int 63), (5, .int 0), (4, .int 67), (3, .int 63), (2, .int 11), (0, .ref 0), (1, .ref 22)]) (stk' := []) (mem' := fm g tp bt a b) (fun _ _ _ => rfl) ?_
    rw [show (fx_cb .ge 63 67) = false from by decide]
    dsimp only [cond]
    refine fe_s 1 (pc' := 77) (lc' := [(6, .int 63), (5, .int 0), (4, .int 67), (3, .int 63), (2, .int 11), (0, .ref 0), (1, .ref 22)]) (stk' := [.int 0]) (mem' := fm g tp bt a b) (fun _ _ _ => rfl) ?_
    refine fe_s 1 (pc' := cond (fx_cb .eq 0 0) 115 80) (lc' := [(6, .int 63), (5, .int 0), (4, .int 67), (3, .int 63), (2, .int 11), (0, .ref 0), (1, .ref 22)]) (stk' := []) (mem' := fm g tp bt a b) (fun _ _ _ => rfl) ?_
    rw [show (fx_cb .eq 0 0) = true from by decide]
    dsimp only [cond]
    refine fe_s 1 (pc' := 117) (lc' := [(6, .int 63), (5, .int 0), (4, .int 67), (3, .int 63), (2, .int 11), (0, .ref 0), (1, .ref 22)]) (stk' := [.int 0]) (mem' := fm g tp bt a b) (fun _ _ _ => rfl) ?_
    refine fe_s 1 (pc' := cond (fx_cb .eq 0 0) 122 120) (lc' := [(6, .int 63), (5, .int 0), (4, .int 67), (3, .int 63), (2, .int 11), (0, .ref 0), (1, .ref 22)]) (stk' := []) (mem' := fm g tp bt a b) (fun _ _ _ => rfl) ?_
    rw [show (fx_cb .eq 0 0) = true from by decide]
    dsimp only [cond]
    refine fe_s 4 (pc' := 129) (lc' := [(2, .int (11 + 1)), (6, .int 63), (5, .int 0), (4, .int 67), (3, .int 63), (0, .ref 0), (1, .ref 22)]) (stk' := [.int (67 + 1)]) (mem' := fm g tp bt a b) (fun _ _ _ => rfl) ?_
    rw [show (67 + 1 : Int32) = 68 from rfl]
    rw [show (11 + 1 : Int32) = 12 from rfl]
    refine fe_s 1 (pc' := 130) (lc' := [(3, .int 68), (2, .int 12), (6, .int 63), (5, .int 0), (4, .int 67), (0, .ref 0), (1, .ref 22)]) (stk' := []) (mem' := fm g tp bt a b) (fun _ _ _ => rfl) ?_
    refine fe_s 1 (pc' := fx_to 130 (-116)) (lc' := [(3, .int 68), (2, .int 12), (6, .int 63), (5, .int 0), (4, .int 67), (0, .ref 0), (1, .ref 22)]) (stk' := []) (mem' := fm g tp bt a b) (fun _ _ _ => rfl) ?_
    rw [show fx_to 130 (-116) = 14 from by decide]
    refine fe_w (lc' := [(3, .int 68), (2, .int 12), (0, .ref 0), (1, .ref 22)]) ⟨rfl, rfl, rfl, rfl, trivial⟩ (by show List.Nodup [3, 2, 0, 1]; decide) (by show List.Nodup [3, 2, 6, 5, 4, 0, 1]; decide) ?_
    exact fw_12 hxp
set_option maxHeartbeats 8000000 in
theorem fw_10 {S E F : Nat} (hxp : fm_xp g S E F) : fe_R 1 gk_m226 14 [(3, .int 60), (2, .int 10), (0, .ref 0), (1, .ref 22)] [] (fm g tp bt a b) (fm_FI (fm g tp bt a b)) := by
  obtain ⟨h11, hS9, h14, hES, h13, hFE, -, -, -⟩ := id hxp
  have fail : ∀ (x z : Int32), fe_R 1 gk_m226 107 [(6, .int x), (5, .int z), (4, .int 62), (3, .int 60), (2, .int 10), (0, .ref 0), (1, .ref 22)] [.int 0] (fm g tp bt a b) (fm_FI (fm g tp bt a b)) := by
    intro x z
    refine fe_s 4 (pc' := 70) (lc' := [(6, .int (x + 1)), (5, .int 0), (4, .int 62), (3, .int 60), (2, .int 10), (0, .ref 0), (1, .ref 22)]) (stk' := [.int (x + 1)]) (mem' := fm g tp bt a b) (fun _ _ _ => rfl) ?_
    refine fe_s 1 (pc' := 72) (lc' := [(6, .int (x + 1)), (5, .int 0), (4, .int 62), (3, .int 60), (2, .int 10), (0, .ref 0), (1, .ref 22)]) (stk' := [.int 62, .int (x + 1)]) (mem' := fm g tp bt a b) (fun _ _ _ => rfl) ?_
    refine fe_s 1 (pc' := cond (fx_cb .ge (x + 1) 62) 115 75) (lc' := [(6, .int (x + 1)), (5, .int 0), (4, .int 62), (3, .int 60), (2, .int 10), (0, .ref 0), (1, .ref 22)]) (stk' := []) (mem' := fm g tp bt a b) (fun _ _ _ => rfl) ?_
    cases h1 : fx_cb .ge (x + 1) 62
    · refine fe_s 1 (pc' := 77) (lc' := [(6, .int (x + 1)), (5, .int 0), (4, .int 62), (3, .int 60), (2, .int 10), (0, .ref 0), (1, .ref 22)]) (stk' := [.int 0]) (mem' := fm g tp bt a b) (fun _ _ _ => rfl) ?_
      refine fe_s 1 (pc' := cond (fx_cb .eq 0 0) 115 80) (lc' := [(6, .int (x + 1)), (5, .int 0), (4, .int 62), (3, .int 60), (2, .int 10), (0, .ref 0), (1, .ref 22)]) (stk' := []) (mem' := fm g tp bt a b) (fun _ _ _ => rfl) ?_
      rw [show (fx_cb .eq 0 0) = true from by decide]
      dsimp only [cond]
      refine fe_s 1 (pc' := 117) (lc' := [(6, .int (x + 1)), (5, .int 0), (4, .int 62), (3, .int 60), (2, .int 10), (0, .ref 0), (1, .ref 22)]) (stk' := [.int 0]) (mem' := fm g tp bt a b) (fun _ _ _ => rfl) ?_
      refine fe_s 1 (pc' := cond (fx_cb .eq 0 0) 122 120) (lc' := [(6, .int (x + 1)), (5, .int 0), (4, .int 62), (3, .int 60), (2, .int 10), (0, .ref 0), (1, .ref 22)]) (stk' := []) (mem' := fm g tp bt a b) (fun _ _ _ => rfl) ?_
      rw [show (fx_cb .eq 0 0) = true from by decide]
      dsimp only [cond]
      refine fe_s 4 (pc' := 129) (lc' := [(2, .int (10 + 1)), (6, .int (x + 1)), (5, .int 0), (4, .int 62), (3, .int 60), (0, .ref 0), (1, .ref 22)]) (stk' := [.int (62 + 1)]) (mem' := fm g tp bt a b) (fun _ _ _ => rfl) ?_
      rw [show (62 + 1 : Int32) = 63 from rfl]
      rw [show (10 + 1 : Int32) = 11 from rfl]
      refine fe_s 1 (pc' := 130) (lc' := [(3, .int 63), (2, .int 11), (6, .int (x + 1)), (5, .int 0), (4, .int 62), (0, .ref 0), (1, .ref 22)]) (stk' := []) (mem' := fm g tp bt a b) (fun _ _ _ => rfl) ?_
      refine fe_s 1 (pc' := fx_to 130 (-116)) (lc' := [(3, .int 63), (2, .int 11), (6, .int (x + 1)), (5, .int 0), (4, .int 62), (0, .ref 0), (1, .ref 22)]) (stk' := []) (mem' := fm g tp bt a b) (fun _ _ _ => rfl) ?_
      rw [show fx_to 130 (-116) = 14 from by decide]
      refine fe_w (lc' := [(3, .int 63), (2, .int 11), (0, .ref 0), (1, .ref 22)]) ⟨rfl, rfl, rfl, rfl, trivial⟩ (by show List.Nodup [3, 2, 0, 1]; decide) (by show List.Nodup [3, 2, 6, 5, 4, 0, 1]; decide) ?_
      exact fw_11 hxp
    · refine fe_s 1 (pc' := 117) (lc' := [(6, .int (x + 1)), (5, .int 0), (4, .int 62), (3, .int 60), (2, .int 10), (0, .ref 0), (1, .ref 22)]) (stk' := [.int 0]) (mem' := fm g tp bt a b) (fun _ _ _ => rfl) ?_
      refine fe_s 1 (pc' := cond (fx_cb .eq 0 0) 122 120) (lc' := [(6, .int (x + 1)), (5, .int 0), (4, .int 62), (3, .int 60), (2, .int 10), (0, .ref 0), (1, .ref 22)]) (stk' := []) (mem' := fm g tp bt a b) (fun _ _ _ => rfl) ?_
      rw [show (fx_cb .eq 0 0) = true from by decide]
      dsimp only [cond]
      refine fe_s 4 (pc' := 129) (lc' := [(2, .int (10 + 1)), (6, .int (x + 1)), (5, .int 0), (4, .int 62), (3, .int 60), (0, .ref 0), (1, .ref 22)]) (stk' := [.int (62 + 1)]) (mem' := fm g tp bt a b) (fun _ _ _ => rfl) ?_
      rw [show (62 + 1 : Int32) = 63 from rfl]
      rw [show (10 + 1 : Int32) = 11 from rfl]
      refine fe_s 1 (pc' := 130) (lc' := [(3, .int 63), (2, .int 11), (6, .int (x + 1)), (5, .int 0), (4, .int 62), (0, .ref 0), (1, .ref 22)]) (stk' := []) (mem' := fm g tp bt a b) (fun _ _ _ => rfl) ?_
      refine fe_s 1 (pc' := fx_to 130 (-116)) (lc' := [(3, .int 63), (2, .int 11), (6, .int (x + 1)), (5, .int 0), (4, .int 62), (0, .ref 0), (1, .ref 22)]) (stk' := []) (mem' := fm g tp bt a b) (fun _ _ _ => rfl) ?_
      rw [show fx_to 130 (-116) = 14 from by decide]
      refine fe_w (lc' := [(3, .int 63), (2, .int 11), (0, .ref 0), (1, .ref 22)]) ⟨rfl, rfl, rfl, rfl, trivial⟩ (by show List.Nodup [3, 2, 0, 1]; decide) (by show List.Nodup [3, 2, 6, 5, 4, 0, 1]; decide) ?_
      exact fw_11 hxp
  refine fe_s 2 (pc' := 16) (lc' := [(3, .int 60), (2, .int 10), (0, .ref 0), (1, .ref 22)]) (stk' := [.ref 22, .int 60]) (mem' := fm g tp bt a b) (fun _ _ _ => rfl) ?_
  refine fe_s 1 (pc' := 19) (lc' := [(3, .int 60), (2, .int 10), (0, .ref 0), (1, .ref 22)]) (stk' := [.int 117, .int 60]) (mem' := fm g tp bt a b) (fun _ _ _ => rfl) ?_
  refine fe_s 1 (pc' := cond (fx_cb .ge 60 117) 133 22) (lc' := [(3, .int 60), (2, .int 10), (0, .ref 0), (1, .ref 22)]) (stk' := []) (mem' := fm g tp bt a b) (fun _ _ _ => rfl) ?_
  rw [show (fx_cb .ge 60 117) = false from by decide]
  dsimp only [cond]
  refine fe_s 4 (pc' := 28) (lc' := [(4, .int 60), (3, .int 60), (2, .int 10), (0, .ref 0), (1, .ref 22)]) (stk' := [.int 60, .ref 22]) (mem' := fm g tp bt a b) (fun _ _ _ => rfl) ?_
  refine fe_chr (i := 60) (by omega) (by rfl) (by rfl) ⟨by rfl, by rfl⟩ (by rfl) ?_
  rw [show sk_b.getD 60 0 = 97 from rfl]
  refine fe_s 1 (pc' := 33) (lc' := [(4, .int 60), (3, .int 60), (2, .int 10), (0, .ref 0), (1, .ref 22)]) (stk' := [.int 32, .int 97]) (mem' := fm g tp bt a b) (fun _ _ _ => rfl) ?_
  refine fe_s 1 (pc' := cond (fx_cb .eq 97 32) 42 36) (lc' := [(4, .int 60), (3, .int 60), (2, .int 10), (0, .ref 0), (1, .ref 22)]) (stk' := []) (mem' := fm g tp bt a b) (fun _ _ _ => rfl) ?_
  rw [show (fx_cb .eq 97 32) = false from by decide]
  dsimp only [cond]
  refine fe_s 4 (pc' := 28) (lc' := [(4, .int (60 + 1)), (3, .int 60), (2, .int 10), (0, .ref 0), (1, .ref 22)]) (stk' := [.int (60 + 1), .ref 22]) (mem' := fm g tp bt a b) (fun _ _ _ => rfl) ?_
  rw [show (60 + 1 : Int32) = 61 from rfl]
  refine fe_chr (i := 61) (by omega) (by rfl) (by rfl) ⟨by rfl, by rfl⟩ (by rfl) ?_
  rw [show sk_b.getD 61 0 = 116 from rfl]
  refine fe_s 1 (pc' := 33) (lc' := [(4, .int 61), (3, .int 60), (2, .int 10), (0, .ref 0), (1, .ref 22)]) (stk' := [.int 32, .int 116]) (mem' := fm g tp bt a b) (fun _ _ _ => rfl) ?_
  refine fe_s 1 (pc' := cond (fx_cb .eq 116 32) 42 36) (lc' := [(4, .int 61), (3, .int 60), (2, .int 10), (0, .ref 0), (1, .ref 22)]) (stk' := []) (mem' := fm g tp bt a b) (fun _ _ _ => rfl) ?_
  rw [show (fx_cb .eq 116 32) = false from by decide]
  dsimp only [cond]
  refine fe_s 4 (pc' := 28) (lc' := [(4, .int (61 + 1)), (3, .int 60), (2, .int 10), (0, .ref 0), (1, .ref 22)]) (stk' := [.int (61 + 1), .ref 22]) (mem' := fm g tp bt a b) (fun _ _ _ => rfl) ?_
  rw [show (61 + 1 : Int32) = 62 from rfl]
  refine fe_chr (i := 62) (by omega) (by rfl) (by rfl) ⟨by rfl, by rfl⟩ (by rfl) ?_
  rw [show sk_b.getD 62 0 = 32 from rfl]
  refine fe_s 1 (pc' := 33) (lc' := [(4, .int 62), (3, .int 60), (2, .int 10), (0, .ref 0), (1, .ref 22)]) (stk' := [.int 32, .int 32]) (mem' := fm g tp bt a b) (fun _ _ _ => rfl) ?_
  refine fe_s 1 (pc' := cond (fx_cb .eq 32 32) 42 36) (lc' := [(4, .int 62), (3, .int 60), (2, .int 10), (0, .ref 0), (1, .ref 22)]) (stk' := []) (mem' := fm g tp bt a b) (fun _ _ _ => rfl) ?_
  rw [show (fx_cb .eq 32 32) = true from by decide]
  dsimp only [cond]
  refine fe_s 4 (pc' := 47) (lc' := [(4, .int 62), (3, .int 60), (2, .int 10), (0, .ref 0), (1, .ref 22)]) (stk' := [.ref 0, .int (62 - 60)]) (mem' := fm g tp bt a b) (fun _ _ _ => rfl) ?_
  rw [show (62 - 60 : Int32) = 2 from rfl]
  refine fe_s 4 (pc' := 55) (lc' := [(4, .int 62), (3, .int 60), (2, .int 10), (0, .ref 0), (1, .ref 22)]) (stk' := [.int ((g 14) - (g 13)), .int 2]) (mem' := fm g tp bt a b) (fun _ _ _ => rfl) ?_
  try rw [h14]
  try rw [h13]
  rw [show ((nI E) - (nI F) : Int32) = nI (E - F) from by simp only [tg_sub2 (x := E) (y := F) (by omega), nI_add, fm_mul]]
  refine fe_s 1 (pc' := cond (fx_cb .ne 2 (nI (E - F))) 62 58) (lc' := [(4, .int 62), (3, .int 60), (2, .int 10), (0, .ref 0), (1, .ref 22)]) (stk' := []) (mem' := fm g tp bt a b) (fun _ _ _ => rfl) ?_
  by_cases h2 : 2 = (E - F)
  · rw [show (fx_cb .ne 2 (nI (E - F))) = false from cb_neF (a := 2) (b := E - F) (by omega) (by omega) (by omega)]
    dsimp only [cond]
    refine fe_s 4 (pc' := 66) (lc' := [(5, .int 1), (4, .int 62), (3, .int 60), (2, .int 10), (0, .ref 0), (1, .ref 22)]) (stk' := [.int 60]) (mem' := fm g tp bt a b) (fun _ _ _ => rfl) ?_
    refine fe_s 3 (pc' := 72) (lc' := [(6, .int 60), (5, .int 1), (4, .int 62), (3, .int 60), (2, .int 10), (0, .ref 0), (1, .ref 22)]) (stk' := [.int 62, .int 60]) (mem' := fm g tp bt a b) (fun _ _ _ => rfl) ?_
    refine fe_s 1 (pc' := cond (fx_cb .ge 60 62) 115 75) (lc' := [(6, .int 60), (5, .int 1), (4, .int 62), (3, .int 60), (2, .int 10), (0, .ref 0), (1, .ref 22)]) (stk' := []) (mem' := fm g tp bt a b) (fun _ _ _ => rfl) ?_
    rw [show (fx_cb .ge 60 62) = false from by decide]
    dsimp only [cond]
    refine fe_s 1 (pc' := 77) (lc' := [(6, .int 60), (5, .int 1), (4, .int 62), (3, .int 60), (2, .int 10), (0, .ref 0), (1, .ref 22)]) (stk' := [.int 1]) (mem' := fm g tp bt a b) (fun _ _ _ => rfl) ?_
    refine fe_s 1 (pc' := cond (fx_cb .eq 1 0) 115 80) (lc' := [(6, .int 60), (5, .int 1), (4, .int 62), (3, .int 60), (2, .int 10), (0, .ref 0), (1, .ref 22)]) (stk' := []) (mem' := fm g tp bt a b) (fun _ _ _ => rfl) ?_
    rw [show (fx_cb .eq 1 0) = false from by decide]
    dsimp only [cond]
    refine fe_s 2 (pc' := 83) (lc' := [(6, .int 60), (5, .int 1), (4, .int 62), (3, .int 60), (2, .int 10), (0, .ref 0), (1, .ref 22)]) (stk' := [.int 60, .ref 22]) (mem' := fm g tp bt a b) (fun _ _ _ => rfl) ?_
    refine fe_chr (i := 60) (by omega) (by rfl) (by rfl) ⟨by rfl, by rfl⟩ (by rfl) ?_
    rw [show sk_b.getD 60 0 = 97 from rfl]
    refine fe_s 4 (pc' := 93) (lc' := [(6, .int 60), (5, .int 1), (4, .int 62), (3, .int 60), (2, .int 10), (0, .ref 0), (1, .ref 22)]) (stk' := [.int 60, .int (g 13), .ref 0, .int 97]) (mem' := fm g tp bt a b) (fun _ _ _ => rfl) ?_
    try rw [h13]
    refine fe_s 3 (pc' := 96) (lc' := [(6, .int 60), (5, .int 1), (4, .int 62), (3, .int 60), (2, .int 10), (0, .ref 0), (1, .ref 22)]) (stk' := [.int (((nI F) + 60) - 60), .ref 0, .int 97]) (mem' := fm g tp bt a b) (fun _ _ _ => rfl) ?_
    rw [show (((nI F) + 60) - 60 : Int32) = nI ((F + 60) - 60) from by simp only [show (60 : Int32) = nI 60 from rfl, tg_sub2 (x := F + 60) (y := 60) (by omega), nI_add, fm_mul]]
    refine fe_ivV (fr_byteAt (S := S) (k := (F + 60) - 60) (g := g) (tp := tp) (bt := bt) (a := a) (b := b) h11 (by omega) (by omega)) (by omega) (by rfl) (by rfl) (by rfl) (by rfl) (by rfl) (by rfl) ?_
    rcases fm_byte_or a S ((F + 60) - 60) with ⟨e4, q5⟩ | ⟨q5, n3, qn3, e4⟩
    · rw [e4]
      refine fe_s 1 (pc' := cond (fx_cb .ne 97 (-1)) 106 102) (lc' := [(6, .int 60), (5, .int 1), (4, .int 62), (3, .int 60), (2, .int 10), (0, .ref 0), (1, .ref 22)]) (stk' := []) (mem' := fm g tp bt a b) (fun _ _ _ => rfl) ?_
      rw [show (fx_cb .ne 97 (-1)) = true from by decide]
      dsimp only [cond]
      refine fe_s 1 (pc' := 107) (lc' := [(6, .int 60), (5, .int 1), (4, .int 62), (3, .int 60), (2, .int 10), (0, .ref 0), (1, .ref 22)]) (stk' := [.int 0]) (mem' := fm g tp bt a b) (fun _ _ _ => rfl) ?_
      refine fe_w (lc' := [(6, .int 60), (5, .int 1), (4, .int 62), (3, .int 60), (2, .int 10), (0, .ref 0), (1, .ref 22)]) ⟨rfl, rfl, rfl, rfl, rfl, rfl, rfl, trivial⟩ (by show List.Nodup [6, 5, 4, 3, 2, 0, 1]; decide) (by show List.Nodup [6, 5, 4, 3, 2, 0, 1]; decide) ?_
      exact fail _ _
    · rw [e4]
      refine fe_s 1 (pc' := cond (fx_cb .ne 97 (nI n3)) 106 102) (lc' := [(6, .int 60), (5, .int 1), (4, .int 62), (3, .int 60), (2, .int 10), (0, .ref 0), (1, .ref 22)]) (stk' := []) (mem' := fm g tp bt a b) (fun _ _ _ => rfl) ?_
      by_cases h6 : 97 = n3
      · rw [show (fx_cb .ne 97 (nI n3)) = false from cb_neF (a := 97) (b := n3) (by omega) (by omega) (by omega)]
        dsimp only [cond]
        refine fe_s 2 (pc' := 107) (lc' := [(6, .int 60), (5, .int 1), (4, .int 62), (3, .int 60), (2, .int 10), (0, .ref 0), (1, .ref 22)]) (stk' := [.int 1]) (mem' := fm g tp bt a b) (fun _ _ _ => rfl) ?_
        refine fe_s 4 (pc' := 70) (lc' := [(6, .int (60 + 1)), (5, .int 1), (4, .int 62), (3, .int 60), (2, .int 10), (0, .ref 0), (1, .ref 22)]) (stk' := [.int (60 + 1)]) (mem' := fm g tp bt a b) (fun _ _ _ => rfl) ?_
        rw [show (60 + 1 : Int32) = 61 from rfl]
        refine fe_s 1 (pc' := 72) (lc' := [(6, .int 61), (5, .int 1), (4, .int 62), (3, .int 60), (2, .int 10), (0, .ref 0), (1, .ref 22)]) (stk' := [.int 62, .int 61]) (mem' := fm g tp bt a b) (fun _ _ _ => rfl) ?_
        refine fe_s 1 (pc' := cond (fx_cb .ge 61 62) 115 75) (lc' := [(6, .int 61), (5, .int 1), (4, .int 62), (3, .int 60), (2, .int 10), (0, .ref 0), (1, .ref 22)]) (stk' := []) (mem' := fm g tp bt a b) (fun _ _ _ => rfl) ?_
        rw [show (fx_cb .ge 61 62) = false from by decide]
        dsimp only [cond]
        refine fe_s 1 (pc' := 77) (lc' := [(6, .int 61), (5, .int 1), (4, .int 62), (3, .int 60), (2, .int 10), (0, .ref 0), (1, .ref 22)]) (stk' := [.int 1]) (mem' := fm g tp bt a b) (fun _ _ _ => rfl) ?_
        refine fe_s 1 (pc' := cond (fx_cb .eq 1 0) 115 80) (lc' := [(6, .int 61), (5, .int 1), (4, .int 62), (3, .int 60), (2, .int 10), (0, .ref 0), (1, .ref 22)]) (stk' := []) (mem' := fm g tp bt a b) (fun _ _ _ => rfl) ?_
        rw [show (fx_cb .eq 1 0) = false from by decide]
        dsimp only [cond]
        refine fe_s 2 (pc' := 83) (lc' := [(6, .int 61), (5, .int 1), (4, .int 62), (3, .int 60), (2, .int 10), (0, .ref 0), (1, .ref 22)]) (stk' := [.int 61, .ref 22]) (mem' := fm g tp bt a b) (fun _ _ _ => rfl) ?_
        refine fe_chr (i := 61) (by omega) (by rfl) (by rfl) ⟨by rfl, by rfl⟩ (by rfl) ?_
        rw [show sk_b.getD 61 0 = 116 from rfl]
        refine fe_s 4 (pc' := 93) (lc' := [(6, .int 61), (5, .int 1), (4, .int 62), (3, .int 60), (2, .int 10), (0, .ref 0), (1, .ref 22)]) (stk' := [.int 61, .int (g 13), .ref 0, .int 116]) (mem' := fm g tp bt a b) (fun _ _ _ => rfl) ?_
        try rw [h13]
        refine fe_s 3 (pc' := 96) (lc' := [(6, .int 61), (5, .int 1), (4, .int 62), (3, .int 60), (2, .int 10), (0, .ref 0), (1, .ref 22)]) (stk' := [.int (((nI F) + 61) - 60), .ref 0, .int 116]) (mem' := fm g tp bt a b) (fun _ _ _ => rfl) ?_
        rw [show (((nI F) + 61) - 60 : Int32) = nI ((F + 61) - 60) from by simp only [show (61 : Int32) = nI 61 from rfl, show (60 : Int32) = nI 60 from rfl, tg_sub2 (x := F + 61) (y := 60) (by omega), nI_add, fm_mul]]
        refine fe_ivV (fr_byteAt (S := S) (k := (F + 61) - 60) (g := g) (tp := tp) (bt := bt) (a := a) (b := b) h11 (by omega) (by omega)) (by omega) (by rfl) (by rfl) (by rfl) (by rfl) (by rfl) (by rfl) ?_
        rcases fm_byte_or a S ((F + 61) - 60) with ⟨e8, q9⟩ | ⟨q9, n7, qn7, e8⟩
        · rw [e8]
          refine fe_s 1 (pc' := cond (fx_cb .ne 116 (-1)) 106 102) (lc' := [(6, .int 61), (5, .int 1), (4, .int 62), (3, .int 60), (2, .int 10), (0, .ref 0), (1, .ref 22)]) (stk' := []) (mem' := fm g tp bt a b) (fun _ _ _ => rfl) ?_
          rw [show (fx_cb .ne 116 (-1)) = true from by decide]
          dsimp only [cond]
          refine fe_s 1 (pc' := 107) (lc' := [(6, .int 61), (5, .int 1), (4, .int 62), (3, .int 60), (2, .int 10), (0, .ref 0), (1, .ref 22)]) (stk' := [.int 0]) (mem' := fm g tp bt a b) (fun _ _ _ => rfl) ?_
          refine fe_w (lc' := [(6, .int 61), (5, .int 1), (4, .int 62), (3, .int 60), (2, .int 10), (0, .ref 0), (1, .ref 22)]) ⟨rfl, rfl, rfl, rfl, rfl, rfl, rfl, trivial⟩ (by show List.Nodup [6, 5, 4, 3, 2, 0, 1]; decide) (by show List.Nodup [6, 5, 4, 3, 2, 0, 1]; decide) ?_
          exact fail _ _
        · rw [e8]
          refine fe_s 1 (pc' := cond (fx_cb .ne 116 (nI n7)) 106 102) (lc' := [(6, .int 61), (5, .int 1), (4, .int 62), (3, .int 60), (2, .int 10), (0, .ref 0), (1, .ref 22)]) (stk' := []) (mem' := fm g tp bt a b) (fun _ _ _ => rfl) ?_
          by_cases h10 : 116 = n7
          · rw [show (fx_cb .ne 116 (nI n7)) = false from cb_neF (a := 116) (b := n7) (by omega) (by omega) (by omega)]
            dsimp only [cond]
            refine fe_s 2 (pc' := 107) (lc' := [(6, .int 61), (5, .int 1), (4, .int 62), (3, .int 60), (2, .int 10), (0, .ref 0), (1, .ref 22)]) (stk' := [.int 1]) (mem' := fm g tp bt a b) (fun _ _ _ => rfl) ?_
            refine fe_s 4 (pc' := 70) (lc' := [(6, .int (61 + 1)), (5, .int 1), (4, .int 62), (3, .int 60), (2, .int 10), (0, .ref 0), (1, .ref 22)]) (stk' := [.int (61 + 1)]) (mem' := fm g tp bt a b) (fun _ _ _ => rfl) ?_
            rw [show (61 + 1 : Int32) = 62 from rfl]
            refine fe_s 1 (pc' := 72) (lc' := [(6, .int 62), (5, .int 1), (4, .int 62), (3, .int 60), (2, .int 10), (0, .ref 0), (1, .ref 22)]) (stk' := [.int 62, .int 62]) (mem' := fm g tp bt a b) (fun _ _ _ => rfl) ?_
            refine fe_s 1 (pc' := cond (fx_cb .ge 62 62) 115 75) (lc' := [(6, .int 62), (5, .int 1), (4, .int 62), (3, .int 60), (2, .int 10), (0, .ref 0), (1, .ref 22)]) (stk' := []) (mem' := fm g tp bt a b) (fun _ _ _ => rfl) ?_
            rw [show (fx_cb .ge 62 62) = true from by decide]
            dsimp only [cond]
            refine fe_s 1 (pc' := 117) (lc' := [(6, .int 62), (5, .int 1), (4, .int 62), (3, .int 60), (2, .int 10), (0, .ref 0), (1, .ref 22)]) (stk' := [.int 1]) (mem' := fm g tp bt a b) (fun _ _ _ => rfl) ?_
            refine fe_s 1 (pc' := cond (fx_cb .eq 1 0) 122 120) (lc' := [(6, .int 62), (5, .int 1), (4, .int 62), (3, .int 60), (2, .int 10), (0, .ref 0), (1, .ref 22)]) (stk' := []) (mem' := fm g tp bt a b) (fun _ _ _ => rfl) ?_
            rw [show (fx_cb .eq 1 0) = false from by decide]
            dsimp only [cond]
            refine fe_s 1 (pc' := 121) (lc' := [(6, .int 62), (5, .int 1), (4, .int 62), (3, .int 60), (2, .int 10), (0, .ref 0), (1, .ref 22)]) (stk' := [.int 10]) (mem' := fm g tp bt a b) (fun _ _ _ => rfl) ?_
            exact fe_ret ⟨_, Or.inr ⟨10, by omega, rfl⟩, rfl⟩ (by rfl) (by rfl) (by rfl)
          · rw [show (fx_cb .ne 116 (nI n7)) = true from cb_neT (a := 116) (b := n7) (by omega) (by omega) (by omega)]
            dsimp only [cond]
            refine fe_s 1 (pc' := 107) (lc' := [(6, .int 61), (5, .int 1), (4, .int 62), (3, .int 60), (2, .int 10), (0, .ref 0), (1, .ref 22)]) (stk' := [.int 0]) (mem' := fm g tp bt a b) (fun _ _ _ => rfl) ?_
            refine fe_w (lc' := [(6, .int 61), (5, .int 1), (4, .int 62), (3, .int 60), (2, .int 10), (0, .ref 0), (1, .ref 22)]) ⟨rfl, rfl, rfl, rfl, rfl, rfl, rfl, trivial⟩ (by show List.Nodup [6, 5, 4, 3, 2, 0, 1]; decide) (by show List.Nodup [6, 5, 4, 3, 2, 0, 1]; decide) ?_
            exact fail _ _
      · rw [show (fx_cb .ne 97 (nI n3)) = true from cb_neT (a := 97) (b := n3) (by omega) (by omega) (by omega)]
        dsimp only [cond]
        refine fe_s 1 (pc' := 107) (lc' := [(6, .int 60), (5, .int 1), (4, .int 62), (3, .int 60), (2, .int 10), (0, .ref 0), (1, .ref 22)]) (stk' := [.int 0]) (mem' := fm g tp bt a b) (fun _ _ _ => rfl) ?_
        refine fe_w (lc' := [(6, .int 60), (5, .int 1), (4, .int 62), (3, .int 60), (2, .int 10), (0, .ref 0), (1, .ref 22)]) ⟨rfl, rfl, rfl, rfl, rfl, rfl, rfl, trivial⟩ (by show List.Nodup [6, 5, 4, 3, 2, 0, 1]; decide) (by show List.Nodup [6, 5, 4, 3, 2, 0, 1]; decide) ?_
        exact fail _ _
  · rw [show (fx_cb .ne 2 (nI (E - F))) = true from cb_neT (a := 2) (b := E - F) (by omega) (by omega) (by omega)]
    dsimp only [cond]
    refine fe_s 4 (pc' := 68) (lc' := [(6, .int 60), (5, .int 0), (4, .int 62), (3, .int 60), (2, .int 10), (0, .ref 0), (1, .ref 22)]) (stk' := []) (mem' := fm g tp bt a b) (fun _ _ _ => rfl) ?_
    refine fe_s 2 (pc' := 72) (lc' := [(6, .int 60), (5, .int 0), (4, .int 62), (3, .int 60), (2, .int 10), (0, .ref 0), (1, .ref 22)]) (stk' := [.int 62, .int 60]) (mem' := fm g tp bt a b) (fun _ _ _ => rfl) ?_
    refine fe_s 1 (pc' := cond (fx_cb .ge 60 62) 115 75) (lc' := [(6, .int 60), (5, .int 0), (4, .int 62), (3, .int 60), (2, .int 10), (0, .ref 0), (1, .ref 22)]) (stk' := []) (mem' := fm g tp bt a b) (fun _ _ _ => rfl) ?_
    rw [show (fx_cb .ge 60 62) = false from by decide]
    dsimp only [cond]
    refine fe_s 1 (pc' := 77) (lc' := [(6, .int 60), (5, .int 0), (4, .int 62), (3, .int 60), (2, .int 10), (0, .ref 0), (1, .ref 22)]) (stk' := [.int 0]) (mem' := fm g tp bt a b) (fun _ _ _ => rfl) ?_
    refine fe_s 1 (pc' := cond (fx_cb .eq 0 0) 115 80) (lc' := [(6, .int 60), (5, .int 0), (4, .int 62), (3, .int 60), (2, .int 10), (0, .ref 0), (1, .ref 22)]) (stk' := []) (mem' := fm g tp bt a b) (fun _ _ _ => rfl) ?_
    rw [show (fx_cb .eq 0 0) = true from by decide]
    dsimp only [cond]
    refine fe_s 1 (pc' := 117) (lc' := [(6, .int 60), (5, .int 0), (4, .int 62), (3, .int 60), (2, .int 10), (0, .ref 0), (1, .ref 22)]) (stk' := [.int 0]) (mem' := fm g tp bt a b) (fun _ _ _ => rfl) ?_
    refine fe_s 1 (pc' := cond (fx_cb .eq 0 0) 122 120) (lc' := [(6, .int 60), (5, .int 0), (4, .int 62), (3, .int 60), (2, .int 10), (0, .ref 0), (1, .ref 22)]) (stk' := []) (mem' := fm g tp bt a b) (fun _ _ _ => rfl) ?_
    rw [show (fx_cb .eq 0 0) = true from by decide]
    dsimp only [cond]
    refine fe_s 4 (pc' := 129) (lc' := [(2, .int (10 + 1)), (6, .int 60), (5, .int 0), (4, .int 62), (3, .int 60), (0, .ref 0), (1, .ref 22)]) (stk' := [.int (62 + 1)]) (mem' := fm g tp bt a b) (fun _ _ _ => rfl) ?_
    rw [show (62 + 1 : Int32) = 63 from rfl]
    rw [show (10 + 1 : Int32) = 11 from rfl]
    refine fe_s 1 (pc' := 130) (lc' := [(3, .int 63), (2, .int 11), (6, .int 60), (5, .int 0), (4, .int 62), (0, .ref 0), (1, .ref 22)]) (stk' := []) (mem' := fm g tp bt a b) (fun _ _ _ => rfl) ?_
    refine fe_s 1 (pc' := fx_to 130 (-116)) (lc' := [(3, .int 63), (2, .int 11), (6, .int 60), (5, .int 0), (4, .int 62), (0, .ref 0), (1, .ref 22)]) (stk' := []) (mem' := fm g tp bt a b) (fun _ _ _ => rfl) ?_
    rw [show fx_to 130 (-116) = 14 from by decide]
    refine fe_w (lc' := [(3, .int 63), (2, .int 11), (0, .ref 0), (1, .ref 22)]) ⟨rfl, rfl, rfl, rfl, trivial⟩ (by show List.Nodup [3, 2, 0, 1]; decide) (by show List.Nodup [3, 2, 6, 5, 4, 0, 1]; decide) ?_
    exact fw_11 hxp
end FIW5
