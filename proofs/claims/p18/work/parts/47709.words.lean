/-! ===== fx: which word it is (9) ===== -/
section FIW9
variable {g : Nat → Int32} {tp bt : Int64} {a : Nat → Nat → Int32} {b : Nat → Nat → Int64}
set_option maxHeartbeats 8000000 in
theorem fw_3 {S E F : Nat} (hxp : fm_xp g S E F) : fe_R 1 gk_m226 14 [(3, .int 15), (2, .int 3), (0, .ref 0), (1, .ref 22)] [] (fm g tp bt a b) (fm_FI (fm g tp bt a b)) := by
  obtain ⟨h11, hS9, h14, hES, h13, hFE, -, -, -⟩ := id hxp
  have fail : ∀ (x z : Int32), fe_R 1 gk_m226 107 [(6, .int x), (5, .int z), (4, .int 21), (3, .int 15), (2, .int 3), (0, .ref 0), (1, .ref 22)] [.int 0] (fm g tp bt a b) (fm_FI (fm g tp bt a b)) := by
    intro x z
    refine fe_s 4 (pc' := 70) (lc' := [(6, .int (x + 1)), (5, .int 0), (4, .int 21), (3, .int 15), (2, .int 3), (0, .ref 0), (1, .ref 22)]) (stk' := [.int (x + 1)]) (mem' := fm g tp bt a b) (fun _ _ _ => rfl) ?_
    refine fe_s 1 (pc' := 72) (lc' := [(6, .int (x + 1)), (5, .int 0), (4, .int 21), (3, .int 15), (2, .int 3), (0, .ref 0), (1, .ref 22)]) (stk' := [.int 21, .int (x + 1)]) (mem' := fm g tp bt a b) (fun _ _ _ => rfl) ?_
    refine fe_s 1 (pc' := cond (fx_cb .ge (x + 1) 21) 115 75) (lc' := [(6, .int (x + 1)), (5, .int 0), (4, .int 21), (3, .int 15), (2, .int 3), (0, .ref 0), (1, .ref 22)]) (stk' := []) (mem' := fm g tp bt a b) (fun _ _ _ => rfl) ?_
    cases h1 : fx_cb .ge (x + 1) 21
    · refine fe_s 1 (pc' := 77) (lc' := [(6, .int (x + 1)), (5, .int 0), (4, .int 21), (3, .int 15), (2, .int 3), (0, .ref 0), (1, .ref 22)]) (stk' := [.int 0]) (mem' := fm g tp bt a b) (fun _ _ _ => rfl) ?_
      refine fe_s 1 (pc' := cond (fx_cb .eq 0 0) 115 80) (lc' := [(6, .int (x + 1)), (5, .int 0), (4, .int 21), (3, .int 15), (2, .int 3), (0, .ref 0), (1, .ref 22)]) (stk' := []) (mem' := fm g tp bt a b) (fun _ _ _ => rfl) ?_
      rw [show (fx_cb .eq 0 0) = true from by decide]
      dsimp only [cond]
      refine fe_s 1 (pc' := 117) (lc' := [(6, .int (x + 1)), (5, .int 0), (4, .int 21), (3, .int 15), (2, .int 3), (0, .ref 0), (1, .ref 22)]) (stk' := [.int 0]) (mem' := fm g tp bt a b) (fun _ _ _ => rfl) ?_
      refine fe_s 1 (pc' := cond (fx_cb .eq 0 0) 122 120) (lc' := [(6, .int (x + 1)), (5, .int 0), (4, .int 21), (3, .int 15), (2, .int 3), (0, .ref 0), (1, .ref 22)]) (stk' := []) (mem' := fm g tp bt a b) (fun _ _ _ => rfl) ?_
      rw [show (fx_cb .eq 0 0) = true from by decide]
      dsimp only [cond]
      refine fe_s 4 (pc' := 129) (lc' := [(2, .int (3 + 1)), (6, .int (x + 1)), (5, .int 0), (4, .int 21), (3, .int 15), (0, .ref 0), (1, .ref 22)]) (stk' := [.int (21 + 1)]) (mem' := fm g tp bt a b) (fun _ _ _ => rfl) ?_
      rw [show (3 + 1 : Int32) = 4 from rfl]
      rw [show (21 + 1 : Int32) = 22 from rfl]
      refine fe_s 1 (pc' := 130) (lc' := [(3, .int 22), (2, .int 4), (6, .int (x + 1)), (5, .int 0), (4, .int 21), (0, .ref 0), (1, .ref 22)]) (stk' := []) (mem' := fm g tp bt a b) (fun _ _ _ => rfl) ?_
      refine fe_s 1 (pc' := fx_to 130 (-116)) (lc' := [(3, .int 22), (2, .int 4), (6, .int (x + 1)), (5, .int 0), (4, .int 21), (0, .ref 0), (1, .ref 22)]) (stk' := []) (mem' := fm g tp bt a b) (fun _ _ _ => rfl) ?_
      rw [show fx_to 130 (-116) = 14 from by decide]
      refine fe_w (lc' := [(3, .int 22), (2, .int 4), (0, .ref 0), (1, .ref 22)]) ⟨rfl, rfl, rfl, rfl, trivial⟩ (by show List.Nodup [3, 2, 0, 1]; decide) (by show List.Nodup [3, 2, 6, 5, 4, 0, 1]; decide) ?_
      exact fw_4 hxp
    · refine fe_s 1 (pc' := 117) (lc' := [(6, .int (x + 1)), (5, .int 0), (4, .int 21), (3, .int 15), (2, .int 3), (0, .ref 0), (1, .ref 22)]) (stk' := [.int 0]) (mem' := fm g tp bt a b) (fun _ _ _ => rfl) ?_
      refine fe_s 1 (pc' := cond (fx_cb .eq 0 0) 122 120) (lc' := [(6, .int (x + 1)), (5, .int 0), (4, .int 21), (3, .int 15), (2, .int 3), (0, .ref 0), (1, .ref 22)]) (stk' := []) (mem' := fm g tp bt a b) (fun _ _ _ => rfl) ?_
      rw [show (fx_cb .eq 0 0) = true from by decide]
      dsimp only [cond]
      refine fe_s 4 (pc' := 129) (lc' := [(2, .int (3 + 1)), (6, .int (x + 1)), (5, .int 0), (4, .int 21), (3, .int 15), (0, .ref 0), (1, .ref 22)]) (stk' := [.int (21 + 1)]) (mem' := fm g tp bt a b) (fun _ _ _ => rfl) ?_
      rw [show (3 + 1 : Int32) = 4 from rfl]
      rw [show (21 + 1 : Int32) = 22 from rfl]
      refine fe_s 1 (pc' := 130) (lc' := [(3, .int 22), (2, .int 4), (6, .int (x + 1)), (5, .int 0), (4, .int 21), (0, .ref 0), (1, .ref 22)]) (stk' := []) (mem' := fm g tp bt a b) (fun _ _ _ => rfl) ?_
      refine fe_s 1 (pc' := fx_to 130 (-116)) (lc' := [(3, .int 22), (2, .int 4), (6, .int (x + 1)), (5, .int 0), (4, .int 21), (0, .ref 0), (1, .ref 22)]) (stk' := []) (mem' := fm g tp bt a b) (fun _ _ _ => rfl) ?_
      rw [show fx_to 130 (-116) = 14 from by decide]
      refine fe_w (lc' := [(3, .int 22), (2, .int 4), (0, .ref 0), (1, .ref 22)]) ⟨rfl, rfl, rfl, rfl, trivial⟩ (by show List.Nodup [3, 2, 0, 1]; decide) (by show List.Nodup [3, 2, 6, 5, 4, 0, 1]; decide) ?_
      exact fw_4 hxp
  refine fe_s 2 (pc' := 16) (lc' := [(3, .int 15), (2, .int 3), (0, .ref 0), (1, .ref 22)]) (stk' := [.ref 22, .int 15]) (mem' := fm g tp bt a b) (fun _ _ _ => rfl) ?_
  refine fe_s 1 (pc' := 19) (lc' := [(3, .int 15), (2, .int 3), (0, .ref 0), (1, .ref 22)]) (stk' := [.int 117, .int 15]) (mem' := fm g tp bt a b) (fun _ _ _ => rfl) ?_
  refine fe_s 1 (pc' := cond (fx_cb .ge 15 117) 133 22) (lc' := [(3, .int 15), (2, .int 3), (0, .ref 0), (1, .ref 22)]) (stk' := []) (mem' := fm g tp bt a b) (fun _ _ _ => rfl) ?_
  rw [show (fx_cb .ge 15 117) = false from by decide]
  dsimp only [cond]
  refine fe_s 4 (pc' := 28) (lc' := [(4, .int 15), (3, .int 15), (2, .int 3), (0, .ref 0), (1, .ref 22)]) (stk' := [.int 15, .ref 22]) (mem' := fm g tp bt a b) (fun _ _ _ => rfl) ?_
  refine fe_chr (i := 15) (by omega) (by rfl) (by rfl) ⟨by rfl, by rfl⟩ (by rfl) ?_
  rw [show sk_b.getD 15 0 = 98 from rfl]
  refine fe_s 1 (pc' := 33) (lc' := [(4, .int 15), (3, .int 15), (2, .int 3), (0, .ref 0), (1, .ref 22)]) (stk' := [.int 32, .int 98]) (mem' := fm g tp bt a b) (fun _ _ _ => rfl) ?_
  refine fe_s 1 (pc' := cond (fx_cb .eq 98 32) 42 36) (lc' := [(4, .int 15), (3, .int 15), (2, .int 3), (0, .ref 0), (1, .ref 22)]) (stk' := []) (mem' := fm g tp bt a b) (fun _ _ _ => rfl) ?_
  rw [show (fx_cb .eq 98 32) = false from by decide]
  dsimp only [cond]
  refine fe_s 4 (pc' := 28) (lc' := [(4, .int (15 + 1)), (3, .int 15), (2, .int 3), (0, .ref 0), (1, .ref 22)]) (stk' := [.int (15 + 1), .ref 22]) (mem' := fm g tp bt a b) (fun _ _ _ => rfl) ?_
  rw [show (15 + 1 : Int32) = 16 from rfl]
  refine fe_chr (i := 16) (by omega) (by rfl) (by rfl) ⟨by rfl, by rfl⟩ (by rfl) ?_
  rw [show sk_b.getD 16 0 = 101 from rfl]
  refine fe_s 1 (pc' := 33) (lc' := [(4, .int 16), (3, .int 15), (2, .int 3), (0, .ref 0), (1, .ref 22)]) (stk' := [.int 32, .int 101]) (mem' := fm g tp bt a b) (fun _ _ _ => rfl) ?_
  refine fe_s 1 (pc' := cond (fx_cb .eq 101 32) 42 36) (lc' := [(4, .int 16), (3, .int 15), (2, .int 3), (0, .ref 0), (1, .ref 22)]) (stk' := []) (mem' := fm g tp bt a b) (fun _ _ _ => rfl) ?_
  rw [show (fx_cb .eq 101 32) = false from by decide]
  dsimp only [cond]
  refine fe_s 4 (pc' := 28) (lc' := [(4, .int (16 + 1)), (3, .int 15), (2, .int 3), (0, .ref 0), (1, .ref 22)]) (stk' := [.int (16 + 1), .ref 22]) (mem' := fm g tp bt a b) (fun _ _ _ => rfl) ?_
  rw [show (16 + 1 : Int32) = 17 from rfl]
  refine fe_chr (i := 17) (by omega) (by rfl) (by rfl) ⟨by rfl, by rfl⟩ (by rfl) ?_
  rw [show sk_b.getD 17 0 = 115 from rfl]
  refine fe_s 1 (pc' := 33) (lc' := [(4, .int 17), (3, .int 15), (2, .int 3), (0, .ref 0), (1, .ref 22)]) (stk' := [.int 32, .int 115]) (mem' := fm g tp bt a b) (fun _ _ _ => rfl) ?_
  refine fe_s 1 (pc' := cond (fx_cb .eq 115 32) 42 36) (lc' := [(4, .int 17), (3, .int 15), (2, .int 3), (0, .ref 0), (1, .ref 22)]) (stk' := []) (mem' := fm g tp bt a b) (fun _ _ _ => rfl) ?_
  rw [show (fx_cb .eq 115 32) = false from by decide]
  dsimp only [cond]
  refine fe_s 4 (pc' := 28) (lc' := [(4, .int (17 + 1)), (3, .int 15), (2, .int 3), (0, .ref 0), (1, .ref 22)]) (stk' := [.int (17 + 1), .ref 22]) (mem' := fm g tp bt a b) (fun _ _ _ => rfl) ?_
  rw [show (17 + 1 : Int32) = 18 from rfl]
  refine fe_chr (i := 18) (by omega) (by rfl) (by rfl) ⟨by rfl, by rfl⟩ (by rfl) ?_
  rw [show sk_b.getD 18 0 = 105 from rfl]
  refine fe_s 1 (pc' := 33) (lc' := [(4, .int 18), (3, .int 15), (2, .int 3), (0, .ref 0), (1, .ref 22)]) (stk' := [.int 32, .int 105]) (mem' := fm g tp bt a b) (fun _ _ _ => rfl) ?_
  refine fe_s 1 (pc' := cond (fx_cb .eq 105 32) 42 36) (lc' := [(4, .int 18), (3, .int 15), (2, .int 3), (0, .ref 0), (1, .ref 22)]) (stk' := []) (mem' := fm g tp bt a b) (fun _ _ _ => rfl) ?_
  rw [show (fx_cb .eq 105 32) = false from by decide]
  dsimp only [cond]
  refine fe_s 4 (pc' := 28) (lc' := [(4, .int (18 + 1)), (3, .int 15), (2, .int 3), (0, .ref 0), (1, .ref 22)]) (stk' := [.int (18 + 1), .ref 22]) (mem' := fm g tp bt a b) (fun _ _ _ => rfl) ?_
  rw [show (18 + 1 : Int32) = 19 from rfl]
  refine fe_chr (i := 19) (by omega) (by rfl) (by rfl) ⟨by rfl, by rfl⟩ (by rfl) ?_
  rw [show sk_b.getD 19 0 = 100 from rfl]
  refine fe_s 1 (pc' := 33) (lc' := [(4, .int 19), (3, .int 15), (2, .int 3), (0, .ref 0), (1, .ref 22)]) (stk' := [.int 32, .int 100]) (mem' := fm g tp bt a b) (fun _ _ _ => rfl) ?_
  refine fe_s 1 (pc' := cond (fx_cb .eq 100 32) 42 36) (lc' := [(4, .int 19), (3, .int 15), (2, .int 3), (0, .ref 0), (1, .ref 22)]) (stk' := []) (mem' := fm g tp bt a b) (fun _ _ _ => rfl) ?_
  rw [show (fx_cb .eq 100 32) = false from by decide]
  dsimp only [cond]
  refine fe_s 4 (pc' := 28) (lc' := [(4, .int (19 + 1)), (3, .int 15), (2, .int 3), (0, .ref 0), (1, .ref 22)]) (stk' := [.int (19 + 1), .ref 22]) (mem' := fm g tp bt a b) (fun _ _ _ => rfl) ?_
  rw [show (19 + 1 : Int32) = 20 from rfl]
  refine fe_chr (i := 20) (by omega) (by rfl) (by rfl) ⟨by rfl, by rfl⟩ (by rfl) ?_
  rw [show sk_b.getD 20 0 = 101 from rfl]
  refine fe_s 1 (pc' := 33) (lc' := [(4, .int 20), (3, .int 15), (2, .int 3), (0, .ref 0), (1, .ref 22)]) (stk' := [.int 32, .int 101]) (mem' := fm g tp bt a b) (fun _ _ _ => rfl) ?_
  refine fe_s 1 (pc' := cond (fx_cb .eq 101 32) 42 36) (lc' := [(4, .int 20), (3, .int 15), (2, .int 3), (0, .ref 0), (1, .ref 22)]) (stk' := []) (mem' := fm g tp bt a b) (fun _ _ _ => rfl) ?_
  rw [show (fx_cb .eq 101 32) = false from by decide]
  dsimp only [cond]
  refine fe_s 4 (pc' := 28) (lc' := [(4, .int (20 + 1)), (3, .int 15), (2, .int 3), (0, .ref 0), (1, .ref 22)]) (stk' := [.int (20 + 1), .ref 22]) (mem' := fm g tp bt a b) (fun _ _ _ => rfl) ?_
  rw [show (20 + 1 : Int32) = 21 from rfl]
  refine fe_chr (i := 21) (by omega) (by rfl) (by rfl) ⟨by rfl, by rfl⟩ (by rfl) ?_
  rw [show sk_b.getD 21 0 = 32 from rfl]
  refine fe_s 1 (pc' := 33) (lc' := [(4, .int 21), (3, .int 15), (2, .int 3), (0, .ref 0), (1, .ref 22)]) (stk' := [.int 32, .int 32]) (mem' := fm g tp bt a b) (fun _ _ _ => rfl) ?_
  refine fe_s 1 (pc' := cond (fx_cb .eq 32 32) 42 36) (lc' := [(4, .int 21), (3, .int 15), (2, .int 3), (0, .ref 0), (1, .ref 22)]) (stk' := []) (mem' := fm g tp bt a b) (fun _ _ _ => rfl) ?_
  rw [show (fx_cb .eq 32 32) = true from by decide]
  dsimp only [cond]
  refine fe_s 4 (pc' := 47) (lc' := [(4, .int 21), (3, .int 15), (2, .int 3), (0, .ref 0), (1, .ref 22)]) (stk' := [.ref 0, .int (21 - 15)]) (mem' := fm g tp bt a b) (fun _ _ _ => rfl) ?_
  rw [show (21 - 15 : Int32) = 6 from rfl]
  refine fe_s 4 (pc' := 55) (lc' := [(4, .int 21), (3, .int 15), (2, .int 3), (0, .ref 0), (1, .ref 22)]) (stk' := [.int ((g 14) - (g 13)), .int 6]) (mem' := fm g tp bt a b) (fun _ _ _ => rfl) ?_
  try rw [h14]
  try rw [h13]
  rw [show ((nI E) - (nI F) : Int32) = nI (E - F) from by simp only [tg_sub2 (x := E) (y := F) (by omega), nI_add, fm_mul]]
  refine fe_s 1 (pc' := cond (fx_cb .ne 6 (nI (E - F))) 62 58) (lc' := [(4, .int 21), (3, .int 15), (2, .int 3), (0, .ref 0), (1, .ref 22)]) (stk' := []) (mem' := fm g tp bt a b) (fun _ _ _ => rfl) ?_
  by_cases h2 : 6 = (E - F)
  · rw [show (fx_cb .ne 6 (nI (E - F))) = false from cb_neF (a := 6) (b := E - F) (by omega) (by omega) (by omega)]
    dsimp only [cond]
    refine fe_s 4 (pc' := 66) (lc' := [(5, .int 1), (4, .int 21), (3, .int 15), (2, .int 3), (0, .ref 0), (1, .ref 22)]) (stk' := [.int 15]) (mem' := fm g tp bt a b) (fun _ _ _ => rfl) ?_
    refine fe_s 3 (pc' := 72) (lc' := [(6, .int 15), (5, .int 1), (4, .int 21), (3, .int 15), (2, .int 3), (0, .ref 0), (1, .ref 22)]) (stk' := [.int 21, .int 15]) (mem' := fm g tp bt a b) (fun _ _ _ => rfl) ?_
    refine fe_s 1 (pc' := cond (fx_cb .ge 15 21) 115 75) (lc' := [(6, .int 15), (5, .int 1), (4, .int 21), (3, .int 15), (2, .int 3), (0, .ref 0), (1, .ref 22)]) (stk' := []) (mem' := fm g tp bt a b) (fun _ _ _ => rfl) ?_
    rw [show (fx_cb .ge 15 21) = false from by decide]
    dsimp only [cond]
    refine fe_s 1 (pc' := 77) (lc' := [(6, .int 15), (5, .int 1), (4, .int 21), (3, .int 15), (2, .int 3), (0, .ref 0), (1, .ref 22)]) (stk' := [.int 1]) (mem' := fm g tp bt a b) (fun _ _ _ => rfl) ?_
    refine fe_s 1 (pc' := cond (fx_cb .eq 1 0) 115 80) (lc' := [(6, .int 15), (5, .int 1), (4, .int 21), (3, .int 15), (2, .int 3), (0, .ref 0), (1, .ref 22)]) (stk' := []) (mem' := fm g tp bt a b) (fun _ _ _ => rfl) ?_
    rw [show (fx_cb .eq 1 0) = false from by decide]
    dsimp only [cond]
    refine fe_s 2 (pc' := 83) (lc' := [(6, .int 15), (5, .int 1), (4, .int 21), (3, .int 15), (2, .int 3), (0, .ref 0), (1, .ref 22)]) (stk' := [.int 15, .ref 22]) (mem' := fm g tp bt a b) (fun _ _ _ => rfl) ?_
    refine fe_chr (i := 15) (by omega) (by rfl) (by rfl) ⟨by rfl, by rfl⟩ (by rfl) ?_
    rw [show sk_b.getD 15 0 = 98 from rfl]
    refine fe_s 4 (pc' := 93) (lc' := [(6, .int 15), (5, .int 1), (4, .int 21), (3, .int 15), (2, .int 3), (0, .ref 0), (1, .ref 22)]) (stk' := [.int 15, .int (g 13), .ref 0, .int 98]) (mem' := fm g tp bt a b) (fun _ _ _ => rfl) ?_
    try rw [h13]
    refine fe_s 3 (pc' := 96) (lc' := [(6, .int 15), (5, .int 1), (4, .int 21), (3, .int 15), (2, .int 3), (0, .ref 0), (1, .ref 22)]) (stk' := [.int (((nI F) + 15) - 15), .ref 0, .int 98]) (mem' := fm g tp bt a b) (fun _ _ _ => rfl) ?_
    rw [show (((nI F) + 15) - 15 : Int32) = nI ((F + 15) - 15) from by simp only [show (15 : Int32) = nI 15 from rfl, tg_sub2 (x := F + 15) (y := 15) (by omega), nI_add, fm_mul]]
    refine fe_ivV (fr_byteAt (S := S) (k := (F + 15) - 15) (g := g) (tp := tp) (bt := bt) (a := a) (b := b) h11 (by omega) (by omega)) (by omega) (by rfl) (by rfl) (by rfl) (by rfl) (by rfl) (by rfl) ?_
    rcases fm_byte_or a S ((F + 15) - 15) with ⟨e4, q5⟩ | ⟨q5, n3, qn3, e4⟩
    · rw [e4]
      refine fe_s 1 (pc' := cond (fx_cb .ne 98 (-1)) 106 102) (lc' := [(6, .int 15), (5, .int 1), (4, .int 21), (3, .int 15), (2, .int 3), (0, .ref 0), (1, .ref 22)]) (stk' := []) (mem' := fm g tp bt a b) (fun _ _ _ => rfl) ?_
      rw [show (fx_cb .ne 98 (-1)) = true from by decide]
      dsimp only [cond]
      refine fe_s 1 (pc' := 107) (lc' := [(6, .int 15), (5, .int 1), (4, .int 21), (3, .int 15), (2, .int 3), (0, .ref 0), (1, .ref 22)]) (stk' := [.int 0]) (mem' := fm g tp bt a b) (fun _ _ _ => rfl) ?_
      refine fe_w (lc' := [(6, .int 15), (5, .int 1), (4, .int 21), (3, .int 15), (2, .int 3), (0, .ref 0), (1, .ref 22)]) ⟨rfl, rfl, rfl, rfl, rfl, rfl, rfl, trivial⟩ (by show List.Nodup [6, 5, 4, 3, 2, 0, 1]; decide) (by show List.Nodup [6, 5, 4, 3, 2, 0, 1]; decide) ?_
      exact fail _ _
    · rw [e4]
      refine fe_s 1 (pc' := cond (fx_cb .ne 98 (nI n3)) 106 102) (lc' := [(6, .int 15), (5, .int 1), (4, .int 21), (3, .int 15), (2, .int 3), (0, .ref 0), (1, .ref 22)]) (stk' := []) (mem' := fm g tp bt a b) (fun _ _ _ => rfl) ?_
      by_cases h6 : 98 = n3
      · rw [show (fx_cb .ne 98 (nI n3)) = false from cb_neF (a := 98) (b := n3) (by omega) (by omega) (by omega)]
        dsimp only [cond]
        refine fe_s 2 (pc' := 107) (lc' := [(6, .int 15), (5, .int 1), (4, .int 21), (3, .int 15), (2, .int 3), (0, .ref 0), (1, .ref 22)]) (stk' := [.int 1]) (mem' := fm g tp bt a b) (fun _ _ _ => rfl) ?_
        refine fe_s 4 (pc' := 70) (lc' := [(6, .int (15 + 1)), (5, .int 1), (4, .int 21), (3, .int 15), (2, .int 3), (0, .ref 0), (1, .ref 22)]) (stk' := [.int (15 + 1)]) (mem' := fm g tp bt a b) (fun _ _ _ => rfl) ?_
        rw [show (15 + 1 : Int32) = 16 from rfl]
        refine fe_s 1 (pc' := 72) (lc' := [(6, .int 16), (5, .int 1), (4, .int 21), (3, .int 15), (2, .int 3), (0, .ref 0), (1, .ref 22)]) (stk' := [.int 21, .int 16]) (mem' := fm g tp bt a b) (fun _ _ _ => rfl) ?_
        refine fe_s 1 (pc' := cond (fx_cb .ge 16 21) 115 75) (lc' := [(6, .int 16), (5, .int 1), (4, .int 21), (3, .int 15), (2, .int 3), (0, .ref 0), (1, .ref 22)]) (stk' := []) (mem' := fm g tp bt a b) (fun _ _ _ => rfl) ?_
        rw [show (fx_cb .ge 16 21) = false from by decide]
        dsimp only [cond]
        refine fe_s 1 (pc' := 77) (lc' := [(6, .int 16), (5, .int 1), (4, .int 21), (3, .int 15), (2, .int 3), (0, .ref 0), (1, .ref 22)]) (stk' := [.int 1]) (mem' := fm g tp bt a b) (fun _ _ _ => rfl) ?_
        refine fe_s 1 (pc' := cond (fx_cb .eq 1 0) 115 80) (lc' := [(6, .int 16), (5, .int 1), (4, .int 21), (3, .int 15), (2, .int 3), (0, .ref 0), (1, .ref 22)]) (stk' := []) (mem' := fm g tp bt a b) (fun _ _ _ => rfl) ?_
        rw [show (fx_cb .eq 1 0) = false from by decide]
        dsimp only [cond]
        refine fe_s 2 (pc' := 83) (lc' := [(6, .int 16), (5, .int 1), (4, .int 21), (3, .int 15), (2, .int 3), (0, .ref 0), (1, .ref 22)]) (stk' := [.int 16, .ref 22]) (mem' := fm g tp bt a b) (fun _ _ _ => rfl) ?_
        refine fe_chr (i := 16) (by omega) (by rfl) (by rfl) ⟨by rfl, by rfl⟩ (by rfl) ?_
        rw [show sk_b.getD 16 0 = 101 from rfl]
        refine fe_s 4 (pc' := 93) (lc' := [(6, .int 16), (5, .int 1), (4, .int 21), (3, .int 15), (2, .int 3), (0, .ref 0), (1, .ref 22)]) (stk' := [.int 16, .int (g 13), .ref 0, .int 101]) (mem' := fm g tp bt a b) (fun _ _ _ => rfl) ?_
        try rw [h13]
        refine fe_s 3 (pc' := 96) (lc' := [(6, .int 16), (5, .int 1), (4, .int 21), (3, .int 15), (2, .int 3), (0, .ref 0), (1, .ref 22)]) (stk' := [.int (((nI F) + 16) - 15), .ref 0, .int 101]) (mem' := fm g tp bt a b) (fun _ _ _ => rfl) ?_
        rw [show (((nI F) + 16) - 15 : Int32) = nI ((F + 16) - 15) from by simp only [show (16 : Int32) = nI 16 from rfl, show (15 : Int32) = nI 15 from rfl, tg_sub2 (x := F + 16) (y := 15) (by omega), nI_add, fm_mul]]
        refine fe_ivV (fr_byteAt (S := S) (k := (F + 16) - 15) (g := g) (tp := tp) (bt := bt) (a := a) (b := b) h11 (by omega) (by omega)) (by omega) (by rfl) (by rfl) (by rfl) (by rfl) (by rfl) (by rfl) ?_
        rcases fm_byte_or a S ((F + 16) - 15) with ⟨e8, q9⟩ | ⟨q9, n7, qn7, e8⟩
        · rw [e8]
          refine fe_s 1 (pc' := cond (fx_cb .ne 101 (-1)) 106 102) (lc' := [(6, .int 16), (5, .int 1), (4, .int 21), (3, .int 15), (2, .int 3), (0, .ref 0), (1, .ref 22)]) (stk' := []) (mem' := fm g tp bt a b) (fun _ _ _ => rfl) ?_
          rw [show (fx_cb .ne 101 (-1)) = true from by decide]
          dsimp only [cond]
          refine fe_s 1 (pc' := 107) (lc' := [(6, .int 16), (5, .int 1), (4, .int 21), (3, .int 15), (2, .int 3), (0, .ref 0), (1, .ref 22)]) (stk' := [.int 0]) (mem' := fm g tp bt a b) (fun _ _ _ => rfl) ?_
          refine fe_w (lc' := [(6, .int 16), (5, .int 1), (4, .int 21), (3, .int 15), (2, .int 3), (0, .ref 0), (1, .ref 22)]) ⟨rfl, rfl, rfl, rfl, rfl, rfl, rfl, trivial⟩ (by show List.Nodup [6, 5, 4, 3, 2, 0, 1]; decide) (by show List.Nodup [6, 5, 4, 3, 2, 0, 1]; decide) ?_
          exact fail _ _
        · rw [e8]
          refine fe_s 1 (pc' := cond (fx_cb .ne 101 (nI n7)) 106 102) (lc' := [(6, .int 16), (5, .int 1), (4, .int 21), (3, .int 15), (2, .int 3), (0, .ref 0), (1, .ref 22)]) (stk' := []) (mem' := fm g tp bt a b) (fun _ _ _ => rfl) ?_
          by_cases h10 : 101 = n7
          · rw [show (fx_cb .ne 101 (nI n7)) = false from cb_neF (a := 101) (b := n7) (by omega) (by omega) (by omega)]
            dsimp only [cond]
            refine fe_s 2 (pc' := 107) (lc' := [(6, .int 16), (5, .int 1), (4, .int 21), (3, .int 15), (2, .int 3), (0, .ref 0), (1, .ref 22)]) (stk' := [.int 1]) (mem' := fm g tp bt a b) (fun _ _ _ => rfl) ?_
            refine fe_s 4 (pc' := 70) (lc' := [(6, .int (16 + 1)), (5, .int 1), (4, .int 21), (3, .int 15), (2, .int 3), (0, .ref 0), (1, .ref 22)]) (stk' := [.int (16 + 1)]) (mem' := fm g tp bt a b) (fun _ _ _ => rfl) ?_
            rw [show (16 + 1 : Int32) = 17 from rfl]
            refine fe_s 1 (pc' := 72) (lc' := [(6, .int 17), (5, .int 1), (4, .int 21), (3, .int 15), (2, .int 3), (0, .ref 0), (1, .ref 22)]) (stk' := [.int 21, .int 17]) (mem' := fm g tp bt a b) (fun _ _ _ => rfl) ?_
            refine fe_s 1 (pc' := cond (fx_cb .ge 17 21) 115 75) (lc' := [(6, .int 17), (5, .int 1), (4, .int 21), (3, .int 15), (2, .int 3), (0, .ref 0), (1, .ref 22)]) (stk' := []) (mem' := fm g tp bt a b) (fun _ _ _ => rfl) ?_
            rw [show (fx_cb .ge 17 21) = false from by decide]
            dsimp only [cond]
            refine fe_s 1 (pc' := 77) (lc' := [(6, .int 17), (5, .int 1), (4, .int 21), (3, .int 15), (2, .int 3), (0, .ref 0), (1, .ref 22)]) (stk' := [.int 1]) (mem' := fm g tp bt a b) (fun _ _ _ => rfl) ?_
            refine fe_s 1 (pc' := cond (fx_cb .eq 1 0) 115 80) (lc' := [(6, .int 17), (5, .int 1), (4, .int 21), (3, .int 15), (2, .int 3), (0, .ref 0), (1, .ref 22)]) (stk' := []) (mem' := fm g tp bt a b) (fun _ _ _ => rfl) ?_
            rw [show (fx_cb .eq 1 0) = false from by decide]
            dsimp only [cond]
            refine fe_s 2 (pc' := 83) (lc' := [(6, .int 17), (5, .int 1), (4, .int 21), (3, .int 15), (2, .int 3), (0, .ref 0), (1, .ref 22)]) (stk' := [.int 17, .ref 22]) (mem' := fm g tp bt a b) (fun _ _ _ => rfl) ?_
            refine fe_chr (i := 17) (by omega) (by rfl) (by rfl) ⟨by rfl, by rfl⟩ (by rfl) ?_
            rw [show sk_b.getD 17 0 = 115 from rfl]
            refine fe_s 4 (pc' := 93) (lc' := [(6, .int 17), (5, .int 1), (4, .int 21), (3, .int 15), (2, .int 3), (0, .ref 0), (1, .ref 22)]) (stk' := [.int 17, .int (g 13), .ref 0, .int 115]) (mem' := fm g tp bt a b) (fun _ _ _ => rfl) ?_
            try rw [h13]
            refine fe_s 3 (pc' := 96) (lc' := [(6, .int 17), (5, .int 1), (4, .int 21), (3, .int 15), (2, .int 3), (0, .ref 0), (1, .ref 22)]) (stk' := [.int (((nI F) + 17) - 15), .ref 0, .int 115]) (mem' := fm g tp bt a b) (fun _ _ _ => rfl) ?_
            rw [show (((nI F) + 17) - 15 : Int32) = nI ((F + 17) - 15) from by simp only [show (17 : Int32) = nI 17 from rfl, show (15 : Int32) = nI 15 from rfl, tg_sub2 (x := F + 17) (y := 15) (by omega), nI_add, fm_mul]]
            refine fe_ivV (fr_byteAt (S := S) (k := (F + 17) - 15) (g := g) (tp := tp) (bt := bt) (a := a) (b := b) h11 (by omega) (by omega)) (by omega) (by rfl) (by rfl) (by rfl) (by rfl) (by rfl) (by rfl) ?_
            rcases fm_byte_or a S ((F + 17) - 15) with ⟨e12, q13⟩ | ⟨q13, n11, qn11, e12⟩
            · rw [e12]
              refine fe_s 1 (pc' := cond (fx_cb .ne 115 (-1)) 106 102) (lc' := [(6, .int 17), (5, .int 1), (4, .int 21), (3, .int 15), (2, .int 3), (0, .ref 0), (1, .ref 22)]) (stk' := []) (mem' := fm g tp bt a b) (fun _ _ _ => rfl) ?_
              rw [show (fx_cb .ne 115 (-1)) = true from by decide]
              dsimp only [cond]
              refine fe_s 1 (pc' := 107) (lc' := [(6, .int 17), (5, .int 1), (4, .int 21), (3, .int 15), (2, .int 3), (0, .ref 0), (1, .ref 22)]) (stk' := [.int 0]) (mem' := fm g tp bt a b) (fun _ _ _ => rfl) ?_
              refine fe_w (lc' := [(6, .int 17), (5, .int 1), (4, .int 21), (3, .int 15), (2, .int 3), (0, .ref 0), (1, .ref 22)]) ⟨rfl, rfl, rfl, rfl, rfl, rfl, rfl, trivial⟩ (by show List.Nodup [6, 5, 4, 3, 2, 0, 1]; decide) (by show List.Nodup [6, 5, 4, 3, 2, 0, 1]; decide) ?_
              exact fail _ _
            · rw [e12]
              refine fe_s 1 (pc' := cond (fx_cb .ne 115 (nI n11)) 106 102) (lc' := [(6, .int 17), (5, .int 1), (4, .int 21), (3, .int 15), (2, .int 3), (0, .ref 0), (1, .ref 22)]) (stk' := []) (mem' := fm g tp bt a b) (fun _ _ _ => rfl) ?_
              by_cases h14 : 115 = n11
              · rw [show (fx_cb .ne 115 (nI n11)) = false from cb_neF (a := 115) (b := n11) (by omega) (by omega) (by omega)]
                dsimp only [cond]
                refine fe_s 2 (pc' := 107) (lc' := [(6, .int 17), (5, .int 1), (4, .int 21), (3, .int 15), (2, .int 3), (0, .ref 0), (1, .ref 22)]) (stk' := [.int 1]) (mem' := fm g tp bt a b) (fun _ _ _ => rfl) ?_
                refine fe_s 4 (pc' := 70) (lc' := [(6, .int (17 + 1)), (5, .int 1), (4, .int 21), (3, .int 15), (2, .int 3), (0, .ref 0), (1, .ref 22)]) (stk' := [.int (17 + 1)]) (mem' := fm g tp bt a b) (fun _ _ _ => rfl) ?_
                rw [show (17 + 1 : Int32) = 18 from rfl]
                refine fe_s 1 (pc' := 72) (lc' := [(6, .int 18), (5, .int 1), (4, .int 21), (3, .int 15), (2, .int 3), (0, .ref 0), (1, .ref 22)]) (stk' := [.int 21, .int 18]) (mem' := fm g tp bt a b) (fun _ _ _ => rfl) ?_
                refine fe_s 1 (pc' := cond (fx_cb .ge 18 21) 115 75) (lc' := [(6, .int 18), (5, .int 1), (4, .int 21), (3, .int 15), (2, .int 3), (0, .ref 0), (1, .ref 22)]) (stk' := []) (mem' := fm g tp bt a b) (fun _ _ _ => rfl) ?_
                rw [show (fx_cb .ge 18 21) = false from by decide]
                dsimp only [cond]
                refine fe_s 1 (pc' := 77) (lc' := [(6, .int 18), (5, .int 1), (4, .int 21), (3, .int 15), (2, .int 3), (0, .ref 0), (1, .ref 22)]) (stk' := [.int 1]) (mem' := fm g tp bt a b) (fun _ _ _ => rfl) ?_
                refine fe_s 1 (pc' := cond (fx_cb .eq 1 0) 115 80) (lc' := [(6, .int 18), (5, .int 1), (4, .int 21), (3, .int 15), (2, .int 3), (0, .ref 0), (1, .ref 22)]) (stk' := []) (mem' := fm g tp bt a b) (fun _ _ _ => rfl) ?_
                rw [show (fx_cb .eq 1 0) = false from by decide]
                dsimp only [cond]
                refine fe_s 2 (pc' := 83) (lc' := [(6, .int 18), (5, .int 1), (4, .int 21), (3, .int 15), (2, .int 3), (0, .ref 0), (1, .ref 22)]) (stk' := [.int 18, .ref 22]) (mem' := fm g tp bt a b) (fun _ _ _ => rfl) ?_
                refine fe_chr (i := 18) (by omega) (by rfl) (by rfl) ⟨by rfl, by rfl⟩ (by rfl) ?_
                rw [show sk_b.getD 18 0 = 105 from rfl]
                refine fe_s 4 (pc' := 93) (lc' := [(6, .int 18), (5, .int 1), (4, .int 21), (3, .int 15), (2, .int 3), (0, .ref 0), (1, .ref 22)]) (stk' := [.int 18, .int (g 13), .ref 0, .int 105]) (mem' := fm g tp bt a b) (fun _ _ _ => rfl) ?_
                try rw [h13]
                refine fe_s 3 (pc' := 96) (lc' := [(6, .int 18), (5, .int 1), (4, .int 21), (3, .int 15), (2, .int 3), (0, .ref 0), (1, .ref 22)]) (stk' := [.int (((nI F) + 18) - 15), .ref 0, .int 105]) (mem' := fm g tp bt a b) (fun _ _ _ => rfl) ?_
                rw [show (((nI F) + 18) - 15 : Int32) = nI ((F + 18) - 15) from by simp only [show (18 : Int32) = nI 18 from rfl, show (15 : Int32) = nI 15 from rfl, tg_sub2 (x := F + 18) (y := 15) (by omega), nI_add, fm_mul]]
                refine fe_ivV (fr_byteAt (S := S) (k := (F + 18) - 15) (g := g) (tp := tp) (bt := bt) (a := a) (b := b) h11 (by omega) (by omega)) (by omega) (by rfl) (by rfl) (by rfl) (by rfl) (by rfl) (by rfl) ?_
                rcases fm_byte_or a S ((F + 18) - 15) with ⟨e16, q17⟩ | ⟨q17, n15, qn15, e16⟩
                · rw [e16]
                  refine fe_s 1 (pc' := cond (fx_cb .ne 105 (-1)) 106 102) (lc' := [(6, .int 18), (5, .int 1), (4, .int 21), (3, .int 15), (2, .int 3), (0, .ref 0), (1, .ref 22)]) (stk' := []) (mem' := fm g tp bt a b) (fun _ _ _ => rfl) ?_
                  rw [show (fx_cb .ne 105 (-1)) = true from by decide]
                  dsimp only [cond]
                  refine fe_s 1 (pc' := 107) (lc' := [(6, .int 18), (5, .int 1), (4, .int 21), (3, .int 15), (2, .int 3), (0, .ref 0), (1, .ref 22)]) (stk' := [.int 0]) (mem' := fm g tp bt a b) (fun _ _ _ => rfl) ?_
                  refine fe_w (lc' := [(6, .int 18), (5, .int 1), (4, .int 21), (3, .int 15), (2, .int 3), (0, .ref 0), (1, .ref 22)]) ⟨rfl, rfl, rfl, rfl, rfl, rfl, rfl, trivial⟩ (by show List.Nodup [6, 5, 4, 3, 2, 0, 1]; decide) (by show List.Nodup [6, 5, 4, 3, 2, 0, 1]; decide) ?_
                  exact fail _ _
                · rw [e16]
                  refine fe_s 1 (pc' := cond (fx_cb .ne 105 (nI n15)) 106 102) (lc' := [(6, .int 18), (5, .int 1), (4, .int 21), (3, .int 15), (2, .int 3), (0, .ref 0), (1, .ref 22)]) (stk' := []) (mem' := fm g tp bt a b) (fun _ _ _ => rfl) ?_
                  by_cases h18 : 105 = n15
                  · rw [show (fx_cb .ne 105 (nI n15)) = false from cb_neF (a := 105) (b := n15) (by omega) (by omega) (by omega)]
                    dsimp only [cond]
                    refine fe_s 2 (pc' := 107) (lc' := [(6, .int 18), (5, .int 1), (4, .int 21), (3, .int 15), (2, .int 3), (0, .ref 0), (1, .ref 22)]) (stk' := [.int 1]) (mem' := fm g tp bt a b) (fun _ _ _ => rfl) ?_
                    refine fe_s 4 (pc' := 70) (lc' := [(6, .int (18 + 1)), (5, .int 1), (4, .int 21), (3, .int 15), (2, .int 3), (0, .ref 0), (1, .ref 22)]) (stk' := [.int (18 + 1)]) (mem' := fm g tp bt a b) (fun _ _ _ => rfl) ?_
                    rw [show (18 + 1 : Int32) = 19 from rfl]
                    refine fe_s 1 (pc' := 72) (lc' := [(6, .int 19), (5, .int 1), (4, .int 21), (3, .int 15), (2, .int 3), (0, .ref 0), (1, .ref 22)]) (stk' := [.int 21, .int 19]) (mem' := fm g tp bt a b) (fun _ _ _ => rfl) ?_
                    refine fe_s 1 (pc' := cond (fx_cb .ge 19 21) 115 75) (lc' := [(6, .int 19), (5, .int 1), (4, .int 21), (3, .int 15), (2, .int 3), (0, .ref 0), (1, .ref 22)]) (stk' := []) (mem' := fm g tp bt a b) (fun _ _ _ => rfl) ?_
                    rw [show (fx_cb .ge 19 21) = false from by decide]
                    dsimp only [cond]
                    refine fe_s 1 (pc' := 77) (lc' := [(6, .int 19), (5, .int 1), (4, .int 21), (3, .int 15), (2, .int 3), (0, .ref 0), (1, .ref 22)]) (stk' := [.int 1]) (mem' := fm g tp bt a b) (fun _ _ _ => rfl) ?_
                    refine fe_s 1 (pc' := cond (fx_cb .eq 1 0) 115 80) (lc' := [(6, .int 19), (5, .int 1), (4, .int 21), (3, .int 15), (2, .int 3), (0, .ref 0), (1, .ref 22)]) (stk' := []) (mem' := fm g tp bt a b) (fun _ _ _ => rfl) ?_
                    rw [show (fx_cb .eq 1 0) = false from by decide]
                    dsimp only [cond]
                    refine fe_s 2 (pc' := 83) (lc' := [(6, .int 19), (5, .int 1), (4, .int 21), (3, .int 15), (2, .int 3), (0, .ref 0), (1, .ref 22)]) (stk' := [.int 19, .ref 22]) (mem' := fm g tp bt a b) (fun _ _ _ => rfl) ?_
                    refine fe_chr (i := 19) (by omega) (by rfl) (by rfl) ⟨by rfl, by rfl⟩ (by rfl) ?_
                    rw [show sk_b.getD 19 0 = 100 from rfl]
                    refine fe_s 4 (pc' := 93) (lc' := [(6, .int 19), (5, .int 1), (4, .int 21), (3, .int 15), (2, .int 3), (0, .ref 0), (1, .ref 22)]) (stk' := [.int 19, .int (g 13), .ref 0, .int 100]) (mem' := fm g tp bt a b) (fun _ _ _ => rfl) ?_
                    try rw [h13]
                    refine fe_s 3 (pc' := 96) (lc' := [(6, .int 19), (5, .int 1), (4, .int 21), (3, .int 15), (2, .int 3), (0, .ref 0), (1, .ref 22)]) (stk' := [.int (((nI F) + 19) - 15), .ref 0, .int 100]) (mem' := fm g tp bt a b) (fun _ _ _ => rfl) ?_
                    rw [show (((nI F) + 19) - 15 : Int32) = nI ((F + 19) - 15) from by simp only [show (19 : Int32) = nI 19 from rfl, show (15 : Int32) = nI 15 from rfl, tg_sub2 (x := F + 19) (y := 15) (by omega), nI_add, fm_mul]]
                    refine fe_ivV (fr_byteAt (S := S) (k := (F + 19) - 15) (g := g) (tp := tp) (bt := bt) (a := a) (b := b) h11 (by omega) (by omega)) (by omega) (by rfl) (by rfl) (by rfl) (by rfl) (by rfl) (by rfl) ?_
                    rcases fm_byte_or a S ((F + 19) - 15) with ⟨e20, q21⟩ | ⟨q21, n19, qn19, e20⟩
                    · rw [e20]
                      refine fe_s 1 (pc' := cond (fx_cb .ne 100 (-1)) 106 102) (lc' := [(6, .int 19), (5, .int 1), (4, .int 21), (3, .int 15), (2, .int 3), (0, .ref 0), (1, .ref 22)]) (stk' := []) (mem' := fm g tp bt a b) (fun _ _ _ => rfl) ?_
                      rw [show (fx_cb .ne 100 (-1)) = true from by decide]
                      dsimp only [cond]
                      refine fe_s 1 (pc' := 107) (lc' := [(6, .int 19), (5, .int 1), (4, .int 21), (3, .int 15), (2, .int 3), (0, .ref 0), (1, .ref 22)]) (stk' := [.int 0]) (mem' := fm g tp bt a b) (fun _ _ _ => rfl) ?_
                      refine fe_w (lc' := [(6, .int 19), (5, .int 1), (4, .int 21), (3, .int 15), (2, .int 3), (0, .ref 0), (1, .ref 22)]) ⟨rfl, rfl, rfl, rfl, rfl, rfl, rfl, trivial⟩ (by show List.Nodup [6, 5, 4, 3, 2, 0, 1]; decide) (by show List.Nodup [6, 5, 4, 3, 2, 0, 1]; decide) ?_
                      exact fail _ _
                    · rw [e20]
                      refine fe_s 1 (pc' := cond (fx_cb .ne 100 (nI n19)) 106 102) (lc' := [(6, .int 19), (5, .int 1), (4, .int 21), (3, .int 15), (2, .int 3), (0, .ref 0), (1, .ref 22)]) (stk' := []) (mem' := fm g tp bt a b) (fun _ _ _ => rfl) ?_
                      by_cases h22 : 100 = n19
                      · rw [show (fx_cb .ne 100 (nI n19)) = false from cb_neF (a := 100) (b := n19) (by omega) (by omega) (by omega)]
                        dsimp only [cond]
                        refine fe_s 2 (pc' := 107) (lc' := [(6, .int 19), (5, .int 1), (4, .int 21), (3, .int 15), (2, .int 3), (0, .ref 0), (1, .ref 22)]) (stk' := [.int 1]) (mem' := fm g tp bt a b) (fun _ _ _ => rfl) ?_
                        refine fe_s 4 (pc' := 70) (lc' := [(6, .int (19 + 1)), (5, .int 1), (4, .int 21), (3, .int 15), (2, .int 3), (0, .ref 0), (1, .ref 22)]) (stk' := [.int (19 + 1)]) (mem' := fm g tp bt a b) (fun _ _ _ => rfl) ?_
                        rw [show (19 + 1 : Int32) = 20 from rfl]
                        refine fe_s 1 (pc' := 72) (lc' := [(6, .int 20), (5, .int 1), (4, .int 21), (3, .int 15), (2, .int 3), (0, .ref 0), (1, .ref 22)]) (stk' := [.int 21, .int 20]) (mem' := fm g tp bt a b) (fun _ _ _ => rfl) ?_
                        refine fe_s 1 (pc' := cond (fx_cb .ge 20 21) 115 75) (lc' := [(6, .int 20), (5, .int 1), (4, .int 21), (3, .int 15), (2, .int 3), (0, .ref 0), (1, .ref 22)]) (stk' := []) (mem' := fm g tp bt a b) (fun _ _ _ => rfl) ?_
                        rw [show (fx_cb .ge 20 21) = false from by decide]
                        dsimp only [cond]
                        refine fe_s 1 (pc' := 77) (lc' := [(6, .int 20), (5, .int 1), (4, .int 21), (3, .int 15), (2, .int 3), (0, .ref 0), (1, .ref 22)]) (stk' := [.int 1]) (mem' := fm g tp bt a b) (fun _ _ _ => rfl) ?_
                        refine fe_s 1 (pc' := cond (fx_cb .eq 1 0) 115 80) (lc' := [(6, .int 20), (5, .int 1), (4, .int 21), (3, .int 15), (2, .int 3), (0, .ref 0), (1, .ref 22)]) (stk' := []) (mem' := fm g tp bt a b) (fun _ _ _ => rfl) ?_
                        rw [show (fx_cb .eq 1 0) = false from by decide]
                        dsimp only [cond]
                        refine fe_s 2 (pc' := 83) (lc' := [(6, .int 20), (5, .int 1), (4, .int 21), (3, .int 15), (2, .int 3), (0, .ref 0), (1, .ref 22)]) (stk' := [.int 20, .ref 22]) (mem' := fm g tp bt a b) (fun _ _ _ => rfl) ?_
                        refine fe_chr (i := 20) (by omega) (by rfl) (by rfl) ⟨by rfl, by rfl⟩ (by rfl) ?_
                        rw [show sk_b.getD 20 0 = 101 from rfl]
                        refine fe_s 4 (pc' := 93) (lc' := [(6, .int 20), (5, .int 1), (4, .int 21), (3, .int 15), (2, .int 3), (0, .ref 0), (1, .ref 22)]) (stk' := [.int 20, .int (g 13), .ref 0, .int 101]) (mem' := fm g tp bt a b) (fun _ _ _ => rfl) ?_
                        try rw [h13]
                        refine fe_s 3 (pc' := 96) (lc' := [(6, .int 20), (5, .int 1), (4, .int 21), (3, .int 15), (2, .int 3), (0, .ref 0), (1, .ref 22)]) (stk' := [.int (((nI F) + 20) - 15), .ref 0, .int 101]) (mem' := fm g tp bt a b) (fun _ _ _ => rfl) ?_
                        rw [show (((nI F) + 20) - 15 : Int32) = nI ((F + 20) - 15) from by simp only [show (20 : Int32) = nI 20 from rfl, show (15 : Int32) = nI 15 from rfl, tg_sub2 (x := F + 20) (y := 15) (by omega), nI_add, fm_mul]]
                        refine fe_ivV (fr_byteAt (S := S) (k := (F + 20) - 15) (g := g) (tp := tp) (bt := bt) (a := a) (b := b) h11 (by omega) (by omega)) (by omega) (by rfl) (by rfl) (by rfl) (by rfl) (by rfl) (by rfl) ?_
                        rcases fm_byte_or a S ((F + 20) - 15) with ⟨e24, q25⟩ | ⟨q25, n23, qn23, e24⟩
                        · rw [e24]
                          refine fe_s 1 (pc' := cond (fx_cb .ne 101 (-1)) 106 102) (lc' := [(6, .int 20), (5, .int 1), (4, .int 21), (3, .int 15), (2, .int 3), (0, .ref 0), (1, .ref 22)]) (stk' := []) (mem' := fm g tp bt a b) (fun _ _ _ => rfl) ?_
                          rw [show (fx_cb .ne 101 (-1)) = true from by decide]
                          dsimp only [cond]
                          refine fe_s 1 (pc' := 107) (lc' := [(6, .int 20), (5, .int 1), (4, .int 21), (3, .int 15), (2, .int 3), (0, .ref 0), (1, .ref 22)]) (stk' := [.int 0]) (mem' := fm g tp bt a b) (fun _ _ _ => rfl) ?_
                          refine fe_w (lc' := [(6, .int 20), (5, .int 1), (4, .int 21), (3, .int 15), (2, .int 3), (0, .ref 0), (1, .ref 22)]) ⟨rfl, rfl, rfl, rfl, rfl, rfl, rfl, trivial⟩ (by show List.Nodup [6, 5, 4, 3, 2, 0, 1]; decide) (by show List.Nodup [6, 5, 4, 3, 2, 0, 1]; decide) ?_
                          exact fail _ _
                        · rw [e24]
                          refine fe_s 1 (pc' := cond (fx_cb .ne 101 (nI n23)) 106 102) (lc' := [(6, .int 20), (5, .int 1), (4, .int 21), (3, .int 15), (2, .int 3), (0, .ref 0), (1, .ref 22)]) (stk' := []) (mem' := fm g tp bt a b) (fun _ _ _ => rfl) ?_
                          by_cases h26 : 101 = n23
                          · rw [show (fx_cb .ne 101 (nI n23)) = false from cb_neF (a := 101) (b := n23) (by omega) (by omega) (by omega)]
                            dsimp only [cond]
                            refine fe_s 2 (pc' := 107) (lc' := [(6, .int 20), (5, .int 1), (4, .int 21), (3, .int 15), (2, .int 3), (0, .ref 0), (1, .ref 22)]) (stk' := [.int 1]) (mem' := fm g tp bt a b) (fun _ _ _ => rfl) ?_
                            refine fe_s 4 (pc' := 70) (lc' := [(6, .int (20 + 1)), (5, .int 1), (4, .int 21), (3, .int 15), (2, .int 3), (0, .ref 0), (1, .ref 22)]) (stk' := [.int (20 + 1)]) (mem' := fm g tp bt a b) (fun _ _ _ => rfl) ?_
                            rw [show (20 + 1 : Int32) = 21 from rfl]
                            refine fe_s 1 (pc' := 72) (lc' := [(6, .int 21), (5, .int 1), (4, .int 21), (3, .int 15), (2, .int 3), (0, .ref 0), (1, .ref 22)]) (stk' := [.int 21, .int 21]) (mem' := fm g tp bt a b) (fun _ _ _ => rfl) ?_
                            refine fe_s 1 (pc' := cond (fx_cb .ge 21 21) 115 75) (lc' := [(6, .int 21), (5, .int 1), (4, .int 21), (3, .int 15), (2, .int 3), (0, .ref 0), (1, .ref 22)]) (stk' := []) (mem' := fm g tp bt a b) (fun _ _ _ => rfl) ?_
                            rw [show (fx_cb .ge 21 21) = true from by decide]
                            dsimp only [cond]
                            refine fe_s 1 (pc' := 117) (lc' := [(6, .int 21), (5, .int 1), (4, .int 21), (3, .int 15), (2, .int 3), (0, .ref 0), (1, .ref 22)]) (stk' := [.int 1]) (mem' := fm g tp bt a b) (fun _ _ _ => rfl) ?_
                            refine fe_s 1 (pc' := cond (fx_cb .eq 1 0) 122 120) (lc' := [(6, .int 21), (5, .int 1), (4, .int 21), (3, .int 15), (2, .int 3), (0, .ref 0), (1, .ref 22)]) (stk' := []) (mem' := fm g tp bt a b) (fun _ _ _ => rfl) ?_
                            rw [show (fx_cb .eq 1 0) = false from by decide]
                            dsimp only [cond]
                            refine fe_s 1 (pc' := 121) (lc' := [(6, .int 21), (5, .int 1), (4, .int 21), (3, .int 15), (2, .int 3), (0, .ref 0), (1, .ref 22)]) (stk' := [.int 3]) (mem' := fm g tp bt a b) (fun _ _ _ => rfl) ?_
                            exact fe_ret ⟨_, Or.inr ⟨3, by omega, rfl⟩, rfl⟩ (by rfl) (by rfl) (by rfl)
                          · rw [show (fx_cb .ne 101 (nI n23)) = true from cb_neT (a := 101) (b := n23) (by omega) (by omega) (by omega)]
                            dsimp only [cond]
                            refine fe_s 1 (pc' := 107) (lc' := [(6, .int 20), (5, .int 1), (4, .int 21), (3, .int 15), (2, .int 3), (0, .ref 0), (1, .ref 22)]) (stk' := [.int 0]) (mem' := fm g tp bt a b) (fun _ _ _ => rfl) ?_
                            refine fe_w (lc' := [(6, .int 20), (5, .int 1), (4, .int 21), (3, .int 15), (2, .int 3), (0, .ref 0), (1, .ref 22)]) ⟨rfl, rfl, rfl, rfl, rfl, rfl, rfl, trivial⟩ (by show List.Nodup [6, 5, 4, 3, 2, 0, 1]; decide) (by show List.Nodup [6, 5, 4, 3, 2, 0, 1]; decide) ?_
                            exact fail _ _
                      · rw [show (fx_cb .ne 100 (nI n19)) = true from cb_neT (a := 100) (b := n19) (by omega) (by omega) (by omega)]
                        dsimp only [cond]
                        refine fe_s 1 (pc' := 107) (lc' := [(6, .int 19), (5, .int 1), (4, .int 21), (3, .int 15), (2, .int 3), (0, .ref 0), (1, .ref 22)]) (stk' := [.int 0]) (mem' := fm g tp bt a b) (fun _ _ _ => rfl) ?_
                        refine fe_w (lc' := [(6, .int 19), (5, .int 1), (4, .int 21), (3, .int 15), (2, .int 3), (0, .ref 0), (1, .ref 22)]) ⟨rfl, rfl, rfl, rfl, rfl, rfl, rfl, trivial⟩ (by show List.Nodup [6, 5, 4, 3, 2, 0, 1]; decide) (by show List.Nodup [6, 5, 4, 3, 2, 0, 1]; decide) ?_
                        exact fail _ _
                  · rw [show (fx_cb .ne 105 (nI n15)) = true from cb_neT (a := 105) (b := n15) (by omega) (by omega) (by omega)]
                    dsimp only [cond]
                    refine fe_s 1 (pc' := 107) (lc' := [(6, .int 18), (5, .int 1), (4, .int 21), (3, .int 15), (2, .int 3), (0, .ref 0), (1, .ref 22)]) (stk' := [.int 0]) (mem' := fm g tp bt a b) (fun _ _ _ => rfl) ?_
                    refine fe_w (lc' := [(6, .int 18), (5, .int 1), (4, .int 21), (3, .int 15), (2, .int 3), (0, .ref 0), (1, .ref 22)]) ⟨rfl, rfl, rfl, rfl, rfl, rfl, rfl, trivial⟩ (by show List.Nodup [6, 5, 4, 3, 2, 0, 1]; decide) (by show List.Nodup [6, 5, 4, 3, 2, 0, 1]; decide) ?_
                    exact fail _ _
              · rw [show (fx_cb .ne 115 (nI n11)) = true from cb_neT (a := 115) (b := n11) (by omega) (by omega) (by omega)]
                dsimp only [cond]
                refine fe_s 1 (pc' := 107) (lc' := [(6, .int 17), (5, .int 1), (4, .int 21), (3, .int 15), (2, .int 3), (0, .ref 0), (1, .ref 22)]) (stk' := [.int 0]) (mem' := fm g tp bt a b) (fun _ _ _ => rfl) ?_
                refine fe_w (lc' := [(6, .int 17), (5, .int 1), (4, .int 21), (3, .int 15), (2, .int 3), (0, .ref 0), (1, .ref 22)]) ⟨rfl, rfl, rfl, rfl, rfl, rfl, rfl, trivial⟩ (by show List.Nodup [6, 5, 4, 3, 2, 0, 1]; decide) (by show List.Nodup [6, 5, 4, 3, 2, 0, 1]; decide) ?_
                exact fail _ _
          · rw [show (fx_cb .ne 101 (nI n7)) = true from cb_neT (a := 101) (b := n7) (by omega) (by omega) (by omega)]
            dsimp only [cond]
            refine fe_s 1 (pc' := 107) (lc' := [(6, .int 16), (5, .int 1), (4, .int 21), (3, .int 15), (2, .int 3), (0, .ref 0), (1, .ref 22)]) (stk' := [.int 0]) (mem' := fm g tp bt a b) (fun _ _ _ => rfl) ?_
            refine fe_w (lc' := [(6, .int 16), (5, .int 1), (4, .int 21), (3, .int 15), (2, .int 3), (0, .ref 0), (1, .ref 22)]) ⟨rfl, rfl, rfl, rfl, rfl, rfl, rfl, trivial⟩ (by show List.Nodup [6, 5, 4, 3, 2, 0, 1]; decide) (by show List.Nodup [6, 5, 4, 3, 2, 0, 1]; decide) ?_
            exact fail _ _
      · rw [show (fx_cb .ne 98 (nI n3)) = true from cb_neT (a := 98) (b := n3) (by omega) (by omega) (by omega)]
        dsimp only [cond]
        refine fe_s 1 (pc' := 107) (lc' := [(6, .int 15), (5, .int 1), (4, .int 21), (3, .int 15), (2, .int 3), (0, .ref 0), (1, .ref 22)]) (stk' := [.int 0]) (mem' := fm g tp bt a b) (fun _ _ _ => rfl) ?_
        refine fe_w (lc' := [(6, .int 15), (5, .int 1), (4, .int 21), (3, .int 15), (2, .int 3), (0, .ref 0), (1, .ref 22)]) ⟨rfl, rfl, rfl, rfl, rfl, rfl, rfl, trivial⟩ (by show List.Nodup [6, 5, 4, 3, 2, 0, 1]; decide) (by show List.Nodup [6, 5, 4, 3, 2, 0, 1]; decide) ?_
        exact fail _ _
  · rw [show (fx_cb .ne 6 (nI (E - F))) = true from cb_neT (a := 6) (b := E - F) (by omega) (by omega) (by omega)]
    dsimp only [cond]
    refine fe_s 4 (pc' := 68) (lc' := [(6, .int 15), (5, .int 0), (4, .int 21), (3, .int 15), (2, .int 3), (0, .ref 0), (1, .ref 22)]) (stk' := []) (mem' := fm g tp bt a b) (fun _ _ _ => rfl) ?_
    refine fe_s 2 (pc' := 72) (lc' := [(6, .int 15), (5, .int 0), (4, .int 21), (3, .int 15), (2, .int 3), (0, .ref 0), (1, .ref 22)]) (stk' := [.int 21, .int 15]) (mem' := fm g tp bt a b) (fun _ _ _ => rfl) ?_
    refine fe_s 1 (pc' := cond (fx_cb .ge 15 21) 115 75) (lc' := [(6, .int 15), (5, .int 0), (4, .int 21), (3, .int 15), (2, .int 3), (0, .ref 0), (1, .ref 22)]) (stk' := []) (mem' := fm g tp bt a b) (fun _ _ _ => rfl) ?_
    rw [show (fx_cb .ge 15 21) = false from by decide]
    dsimp only [cond]
    refine fe_s 1 (pc' := 77) (lc' := [(6, .int 15), (5, .int 0), (4, .int 21), (3, .int 15), (2, .int 3), (0, .ref 0), (1, .ref 22)]) (stk' := [.int 0]) (mem' := fm g tp bt a b) (fun _ _ _ => rfl) ?_
    refine fe_s 1 (pc' := cond (fx_cb .eq 0 0) 115 80) (lc' := [(6, .int 15), (5, .int 0), (4, .int 21), (3, .int 15), (2, .int 3), (0, .ref 0), (1, .ref 22)]) (stk' := []) (mem' := fm g tp bt a b) (fun _ _ _ => rfl) ?_
    rw [show (fx_cb .eq 0 0) = true from by decide]
    dsimp only [cond]
    refine fe_s 1 (pc' := 117) (lc' := [(6, .int 15), (5, .int 0), (4, .int 21), (3, .int 15), (2, .int 3), (0, .ref 0), (1, .ref 22)]) (stk' := [.int 0]) (mem' := fm g tp bt a b) (fun _ _ _ => rfl) ?_
    refine fe_s 1 (pc' := cond (fx_cb .eq 0 0) 122 120) (lc' := [(6, .int 15), (5, .int 0), (4, .int 21), (3, .int 15), (2, .int 3), (0, .ref 0), (1, .ref 22)]) (stk' := []) (mem' := fm g tp bt a b) (fun _ _ _ => rfl) ?_
    rw [show (fx_cb .eq 0 0) = true from by decide]
    dsimp only [cond]
    refine fe_s 4 (pc' := 129) (lc' := [(2, .int (3 + 1)), (6, .int 15), (5, .int 0), (4, .int 21), (3, .int 15), (0, .ref 0), (1, .ref 22)]) (stk' := [.int (21 + 1)]) (mem' := fm g tp bt a b) (fun _ _ _ => rfl) ?_
    rw [show (3 + 1 : Int32) = 4 from rfl]
    rw [show (21 + 1 : Int32) = 22 from rfl]
    refine fe_s 1 (pc' := 130) (lc' := [(3, .int 22), (2, .int 4), (6, .int 15), (5, .int 0), (4, .int 21), (0, .ref 0), (1, .ref 22)]) (stk' := []) (mem' := fm g tp bt a b) (fun _ _ _ => rfl) ?_
    refine fe_s 1 (pc' := fx_to 130 (-116)) (lc' := [(3, .int 22), (2, .int 4), (6, .int 15), (5, .int 0), (4, .int 21), (0, .ref 0), (1, .ref 22)]) (stk' := []) (mem' := fm g tp bt a b) (fun _ _ _ => rfl) ?_
    rw [show fx_to 130 (-116) = 14 from by decide]
    refine fe_w (lc' := [(3, .int 22), (2, .int 4), (0, .ref 0), (1, .ref 22)]) ⟨rfl, rfl, rfl, rfl, trivial⟩ (by show List.Nodup [3, 2, 0, 1]; decide) (by show List.Nodup [3, 2, 6, 5, 4, 0, 1]; decide) ?_
    exact fw_4 hxp
set_option maxHeartbeats 8000000 in
theorem fw_2 {S E F : Nat} (hxp : fm_xp g S E F) : fe_R 1 gk_m226 14 [(3, .int 11), (2, .int 2), (0, .ref 0), (1, .ref 22)] [] (fm g tp bt a b) (fm_FI (fm g tp bt a b)) := by
  obtain ⟨h11, hS9, h14, hES, h13, hFE, -, -, -⟩ := id hxp
  have fail : ∀ (x z : Int32), fe_R 1 gk_m226 107 [(6, .int x), (5, .int z), (4, .int 14), (3, .int 11), (2, .int 2), (0, .ref 0), (1, .ref 22)] [.int 0] (fm g tp bt a b) (fm_FI (fm g tp bt a b)) := by
    intro x z
    refine fe_s 4 (pc' := 70) (lc' := [(6, .int (x + 1)), (5, .int 0), (4, .int 14), (3, .int 11), (2, .int 2), (0, .ref 0), (1, .ref 22)]) (stk' := [.int (x + 1)]) (mem' := fm g tp bt a b) (fun _ _ _ => rfl) ?_
    refine fe_s 1 (pc' := 72) (lc' := [(6, .int (x + 1)), (5, .int 0), (4, .int 14), (3, .int 11), (2, .int 2), (0, .ref 0), (1, .ref 22)]) (stk' := [.int 14, .int (x + 1)]) (mem' := fm g tp bt a b) (fun _ _ _ => rfl) ?_
    refine fe_s 1 (pc' := cond (fx_cb .ge (x + 1) 14) 115 75) (lc' := [(6, .int (x + 1)), (5, .int 0), (4, .int 14), (3, .int 11), (2, .int 2), (0, .ref 0), (1, .ref 22)]) (stk' := []) (mem' := fm g tp bt a b) (fun _ _ _ => rfl) ?_
    cases h1 : fx_cb .ge (x + 1) 14
    · refine fe_s 1 (pc' := 77) (lc' := [(6, .int (x + 1)), (5, .int 0), (4, .int 14), (3, .int 11), (2, .int 2), (0, .ref 0), (1, .ref 22)]) (stk' := [.int 0]) (mem' := fm g tp bt a b) (fun _ _ _ => rfl) ?_
      refine fe_s 1 (pc' := cond (fx_cb .eq 0 0) 115 80) (lc' := [(6, .int (x + 1)), (5, .int 0), (4, .int 14), (3, .int 11), (2, .int 2), (0, .ref 0), (1, .ref 22)]) (stk' := []) (mem' := fm g tp bt a b) (fun _ _ _ => rfl) ?_
      rw [show (fx_cb .eq 0 0) = true from by decide]
      dsimp only [cond]
      refine fe_s 1 (pc' := 117) (lc' := [(6, .int (x + 1)), (5, .int 0), (4, .int 14), (3, .int 11), (2, .int 2), (0, .ref 0), (1, .ref 22)]) (stk' := [.int 0]) (mem' := fm g tp bt a b) (fun _ _ _ => rfl) ?_
      refine fe_s 1 (pc' := cond (fx_cb .eq 0 0) 122 120) (lc' := [(6, .int (x + 1)), (5, .int 0), (4, .int 14), (3, .int 11), (2, .int 2), (0, .ref 0), (1, .ref 22)]) (stk' := []) (mem' := fm g tp bt a b) (fun _ _ _ => rfl) ?_
      rw [show (fx_cb .eq 0 0) = true from by decide]
      dsimp only [cond]
      refine fe_s 4 (pc' := 129) (lc' := [(2, .int (2 + 1)), (6, .int (x + 1)), (5, .int 0), (4, .int 14), (3, .int 11), (0, .ref 0), (1, .ref 22)]) (stk' := [.int (14 + 1)]) (mem' := fm g tp bt a b) (fun _ _ _ => rfl) ?_
      rw [show (2 + 1 : Int32) = 3 from rfl]
      rw [show (14 + 1 : Int32) = 15 from rfl]
      refine fe_s 1 (pc' := 130) (lc' := [(3, .int 15), (2, .int 3), (6, .int (x + 1)), (5, .int 0), (4, .int 14), (0, .ref 0), (1, .ref 22)]) (stk' := []) (mem' := fm g tp bt a b) (fun _ _ _ => rfl) ?_
      refine fe_s 1 (pc' := fx_to 130 (-116)) (lc' := [(3, .int 15), (2, .int 3), (6, .int (x + 1)), (5, .int 0), (4, .int 14), (0, .ref 0), (1, .ref 22)]) (stk' := []) (mem' := fm g tp bt a b) (fun _ _ _ => rfl) ?_
      rw [show fx_to 130 (-116) = 14 from by decide]
      refine fe_w (lc' := [(3, .int 15), (2, .int 3), (0, .ref 0), (1, .ref 22)]) ⟨rfl, rfl, rfl, rfl, trivial⟩ (by show List.Nodup [3, 2, 0, 1]; decide) (by show List.Nodup [3, 2, 6, 5, 4, 0, 1]; decide) ?_
      exact fw_3 hxp
    · refine fe_s 1 (pc' := 117) (lc' := [(6, .int (x + 1)), (5, .int 0), (4, .int 14), (3, .int 11), (2, .int 2), (0, .ref 0), (1, .ref 22)]) (stk' := [.int 0]) (mem' := fm g tp bt a b) (fun _ _ _ => rfl) ?_
      refine fe_s 1 (pc' := cond (fx_cb .eq 0 0) 122 120) (lc' := [(6, .int (x + 1)), (5, .int 0), (4, .int 14), (3, .int 11), (2, .int 2), (0, .ref 0), (1, .ref 22)]) (stk' := []) (mem' := fm g tp bt a b) (fun _ _ _ => rfl) ?_
      rw [show (fx_cb .eq 0 0) = true from by decide]
      dsimp only [cond]
      refine fe_s 4 (pc' := 129) (lc' := [(2, .int (2 + 1)), (6, .int (x + 1)), (5, .int 0), (4, .int 14), (3, .int 11), (0, .ref 0), (1, .ref 22)]) (stk' := [.int (14 + 1)]) (mem' := fm g tp bt a b) (fun _ _ _ => rfl) ?_
      rw [show (2 + 1 : Int32) = 3 from rfl]
      rw [show (14 + 1 : Int32) = 15 from rfl]
      refine fe_s 1 (pc' := 130) (lc' := [(3, .int 15), (2, .int 3), (6, .int (x + 1)), (5, .int 0), (4, .int 14), (0, .ref 0), (1, .ref 22)]) (stk' := []) (mem' := fm g tp bt a b) (fun _ _ _ => rfl) ?_
      refine fe_s 1 (pc' := fx_to 130 (-116)) (lc' := [(3, .int 15), (2, .int 3), (6, .int (x + 1)), (5, .int 0), (4, .int 14), (0, .ref 0), (1, .ref 22)]) (stk' := []) (mem' := fm g tp bt a b) (fun _ _ _ => rfl) ?_
      rw [show fx_to 130 (-116) = 14 from by decide]
      refine fe_w (lc' := [(3, .int 15), (2, .int 3), (0, .ref 0), (1, .ref 22)]) ⟨rfl, rfl, rfl, rfl, trivial⟩ (by show List.Nodup [3, 2, 0, 1]; decide) (by show List.Nodup [3, 2, 6, 5, 4, 0, 1]; decide) ?_
      exact fw_3 hxp
  refine fe_s 2 (pc' := 16) (lc' := [(3, .int 11), (2, .int 2), (0, .ref 0), (1, .ref 22)]) (stk' := [.ref 22, .int 11]) (mem' := fm g tp bt a b) (fun _ _ _ => rfl) ?_
  refine fe_s 1 (pc' := 19) (lc' := [(3, .int 11), (2, .int 2), (0, .ref 0), (1, .ref 22)]) (stk' := [.int 117, .int 11]) (mem' := fm g tp bt a b) (fun _ _ _ => rfl) ?_
  refine fe_s 1 (pc' := cond (fx_cb .ge 11 117) 133 22) (lc' := [(3, .int 11), (2, .int 2), (0, .ref 0), (1, .ref 22)]) (stk' := []) (mem' := fm g tp bt a b) (fun _ _ _ => rfl) ?_
  rw [show (fx_cb .ge 11 117) = false from by decide]
  dsimp only [cond]
  refine fe_s 4 (pc' := 28) (lc' := [(4, .int 11), (3, .int 11), (2, .int 2), (0, .ref 0), (1, .ref 22)]) (stk' := [.int 11, .ref 22]) (mem' := fm g tp bt a b) (fun _ _ _ => rfl) ?_
  refine fe_chr (i := 11) (by omega) (by rfl) (by rfl) ⟨by rfl, by rfl⟩ (by rfl) ?_
  rw [show sk_b.getD 11 0 = 119 from rfl]
  refine fe_s 1 (pc' := 33) (lc' := [(4, .int 11), (3, .int 11), (2, .int 2), (0, .ref 0), (1, .ref 22)]) (stk' := [.int 32, .int 119]) (mem' := fm g tp bt a b) (fun _ _ _ => rfl) ?_
  refine fe_s 1 (pc' := cond (fx_cb .eq 119 32) 42 36) (lc' := [(4, .int 11), (3, .int 11), (2, .int 2), (0, .ref 0), (1, .ref 22)]) (stk' := []) (mem' := fm g tp bt a b) (fun _ _ _ => rfl) ?_
  rw [show (fx_cb .eq 119 32) = false from by decide]
  dsimp only [cond]
  refine fe_s 4 (pc' := 28) (lc' := [(4, .int (11 + 1)), (3, .int 11), (2, .int 2), (0, .ref 0), (1, .ref 22)]) (stk' := [.int (11 + 1), .ref 22]) (mem' := fm g tp bt a b) (fun _ _ _ => rfl) ?_
  rw [show (11 + 1 : Int32) = 12 from rfl]
  refine fe_chr (i := 12) (by omega) (by rfl) (by rfl) ⟨by rfl, by rfl⟩ (by rfl) ?_
  rw [show sk_b.getD 12 0 = 97 from rfl]
  refine fe_s 1 (pc' := 33) (lc' := [(4, .int 12), (3, .int 11), (2, .int 2), (0, .ref 0), (1, .ref 22)]) (stk' := [.int 32, .int 97]) (mem' := fm g tp bt a b) (fun _ _ _ => rfl) ?_
  refine fe_s 1 (pc' := cond (fx_cb .eq 97 32) 42 36) (lc' := [(4, .int 12), (3, .int 11), (2, .int 2), (0, .ref 0), (1, .ref 22)]) (stk' := []) (mem' := fm g tp bt a b) (fun _ _ _ => rfl) ?_
  rw [show (fx_cb .eq 97 32) = false from by decide]
  dsimp only [cond]
  refine fe_s 4 (pc' := 28) (lc' := [(4, .int (12 + 1)), (3, .int 11), (2, .int 2), (0, .ref 0), (1, .ref 22)]) (stk' := [.int (12 + 1), .ref 22]) (mem' := fm g tp bt a b) (fun _ _ _ => rfl) ?_
  rw [show (12 + 1 : Int32) = 13 from rfl]
  refine fe_chr (i := 13) (by omega) (by rfl) (by rfl) ⟨by rfl, by rfl⟩ (by rfl) ?_
  rw [show sk_b.getD 13 0 = 121 from rfl]
  refine fe_s 1 (pc' := 33) (lc' := [(4, .int 13), (3, .int 11), (2, .int 2), (0, .ref 0), (1, .ref 22)]) (stk' := [.int 32, .int 121]) (mem' := fm g tp bt a b) (fun _ _ _ => rfl) ?_
  refine fe_s 1 (pc' := cond (fx_cb .eq 121 32) 42 36) (lc' := [(4, .int 13), (3, .int 11), (2, .int 2), (0, .ref 0), (1, .ref 22)]) (stk' := []) (mem' := fm g tp bt a b) (fun _ _ _ => rfl) ?_
  rw [show (fx_cb .eq 121 32) = false from by decide]
  dsimp only [cond]
  refine fe_s 4 (pc' := 28) (lc' := [(4, .int (13 + 1)), (3, .int 11), (2, .int 2), (0, .ref 0), (1, .ref 22)]) (stk' := [.int (13 + 1), .ref 22]) (mem' := fm g tp bt a b) (fun _ _ _ => rfl) ?_
  rw [show (13 + 1 : Int32) = 14 from rfl]
  refine fe_chr (i := 14) (by omega) (by rfl) (by rfl) ⟨by rfl, by rfl⟩ (by rfl) ?_
  rw [show sk_b.getD 14 0 = 32 from rfl]
  refine fe_s 1 (pc' := 33) (lc' := [(4, .int 14), (3, .int 11), (2, .int 2), (0, .ref 0), (1, .ref 22)]) (stk' := [.int 32, .int 32]) (mem' := fm g tp bt a b) (fun _ _ _ => rfl) ?_
  refine fe_s 1 (pc' := cond (fx_cb .eq 32 32) 42 36) (lc' := [(4, .int 14), (3, .int 11), (2, .int 2), (0, .ref 0), (1, .ref 22)]) (stk' := []) (mem' := fm g tp bt a b) (fun _ _ _ => rfl) ?_
  rw [show (fx_cb .eq 32 32) = true from by decide]
  dsimp only [cond]
  refine fe_s 4 (pc' := 47) (lc' := [(4, .int 14), (3, .int 11), (2, .int 2), (0, .ref 0), (1, .ref 22)]) (stk' := [.ref 0, .int (14 - 11)]) (mem' := fm g tp bt a b) (fun _ _ _ => rfl) ?_
  rw [show (14 - 11 : Int32) = 3 from rfl]
  refine fe_s 4 (pc' := 55) (lc' := [(4, .int 14), (3, .int 11), (2, .int 2), (0, .ref 0), (1, .ref 22)]) (stk' := [.int ((g 14) - (g 13)), .int 3]) (mem' := fm g tp bt a b) (fun _ _ _ => rfl) ?_
  try rw [h14]
  try rw [h13]
  rw [show ((nI E) - (nI F) : Int32) = nI (E - F) from by simp only [tg_sub2 (x := E) (y := F) (by omega), nI_add, fm_mul]]
  refine fe_s 1 (pc' := cond (fx_cb .ne 3 (nI (E - F))) 62 58) (lc' := [(4, .int 14), (3, .int 11), (2, .int 2), (0, .ref 0), (1, .ref 22)]) (stk' := []) (mem' := fm g tp bt a b) (fun _ _ _ => rfl) ?_
  by_cases h2 : 3 = (E - F)
  · rw [show (fx_cb .ne 3 (nI (E - F))) = false from cb_neF (a := 3) (b := E - F) (by omega) (by omega) (by omega)]
    dsimp only [cond]
    refine fe_s 4 (pc' := 66) (lc' := [(5, .int 1), (4, .int 14), (3, .int 11), (2, .int 2), (0, .ref 0), (1, .ref 22)]) (stk' := [.int 11]) (mem' := fm g tp bt a b) (fun _ _ _ => rfl) ?_
    refine fe_s 3 (pc' := 72) (lc' := [(6, .int 11), (5, .int 1), (4, .int 14), (3, .int 11), (2, .int 2), (0, .ref 0), (1, .ref 22)]) (stk' := [.int 14, .int 11]) (mem' := fm g tp bt a b) (fun _ _ _ => rfl) ?_
    refine fe_s 1 (pc' := cond (fx_cb .ge 11 14) 115 75) (lc' := [(6, .int 11), (5, .int 1), (4, .int 14), (3, .int 11), (2, .int 2), (0, .ref 0), (1, .ref 22)]) (stk' := []) (mem' := fm g tp bt a b) (fun _ _ _ => rfl) ?_
    rw [show (fx_cb .ge 11 14) = false from by decide]
    dsimp only [cond]
    refine fe_s 1 (pc' := 77) (lc' := [(6, .int 11), (5, .int 1), (4, .int 14), (3, .int 11), (2, .int 2), (0, .ref 0), (1, .ref 22)]) (stk' := [.int 1]) (mem' := fm g tp bt a b) (fun _ _ _ => rfl) ?_
    refine fe_s 1 (pc' := cond (fx_cb .eq 1 0) 115 80) (lc' := [(6, .int 11), (5, .int 1), (4, .int 14), (3, .int 11), (2, .int 2), (0, .ref 0), (1, .ref 22)]) (stk' := []) (mem' := fm g tp bt a b) (fun _ _ _ => rfl) ?_
    rw [show (fx_cb .eq 1 0) = false from by decide]
    dsimp only [cond]
    refine fe_s 2 (pc' := 83) (lc' := [(6, .int 11), (5, .int 1), (4, .int 14), (3, .int 11), (2, .int 2), (0, .ref 0), (1, .ref 22)]) (stk' := [.int 11, .ref 22]) (mem' := fm g tp bt a b) (fun _ _ _ => rfl) ?_
    refine fe_chr (i := 11) (by omega) (by rfl) (by rfl) ⟨by rfl, by rfl⟩ (by rfl) ?_
    rw [show sk_b.getD 11 0 = 119 from rfl]
    refine fe_s 4 (pc' := 93) (lc' := [(6, .int 11), (5, .int 1), (4, .int 14), (3, .int 11), (2, .int 2), (0, .ref 0), (1, .ref 22)]) (stk' := [.int 11, .int (g 13), .ref 0, .int 119]) (mem' := fm g tp bt a b) (fun _ _ _ => rfl) ?_
    try rw [h13]
    refine fe_s 3 (pc' := 96) (lc' := [(6, .int 11), (5, .int 1), (4, .int 14), (3, .int 11), (2, .int 2), (0, .ref 0), (1, .ref 22)]) (stk' := [.int (((nI F) + 11) - 11), .ref 0, .int 119]) (mem' := fm g tp bt a b) (fun _ _ _ => rfl) ?_
    rw [show (((nI F) + 11) - 11 : Int32) = nI ((F + 11) - 11) from by simp only [show (11 : Int32) = nI 11 from rfl, tg_sub2 (x := F + 11) (y := 11) (by omega), nI_add, fm_mul]]
    refine fe_ivV (fr_byteAt (S := S) (k := (F + 11) - 11) (g := g) (tp := tp) (bt := bt) (a := a) (b := b) h11 (by omega) (by omega)) (by omega) (by rfl) (by rfl) (by rfl) (by rfl) (by rfl) (by rfl) ?_
    rcases fm_byte_or a S ((F + 11) - 11) with ⟨e4, q5⟩ | ⟨q5, n3, qn3, e4⟩
    · rw [e4]
      refine fe_s 1 (pc' := cond (fx_cb .ne 119 (-1)) 106 102) (lc' := [(6, .int 11), (5, .int 1), (4, .int 14), (3, .int 11), (2, .int 2), (0, .ref 0), (1, .ref 22)]) (stk' := []) (mem' := fm g tp bt a b) (fun _ _ _ => rfl) ?_
      rw [show (fx_cb .ne 119 (-1)) = true from by decide]
      dsimp only [cond]
      refine fe_s 1 (pc' := 107) (lc' := [(6, .int 11), (5, .int 1), (4, .int 14), (3, .int 11), (2, .int 2), (0, .ref 0), (1, .ref 22)]) (stk' := [.int 0]) (mem' := fm g tp bt a b) (fun _ _ _ => rfl) ?_
      refine fe_w (lc' := [(6, .int 11), (5, .int 1), (4, .int 14), (3, .int 11), (2, .int 2), (0, .ref 0), (1, .ref 22)]) ⟨rfl, rfl, rfl, rfl, rfl, rfl, rfl, trivial⟩ (by show List.Nodup [6, 5, 4, 3, 2, 0, 1]; decide) (by show List.Nodup [6, 5, 4, 3, 2, 0, 1]; decide) ?_
      exact fail _ _
    · rw [e4]
      refine fe_s 1 (pc' := cond (fx_cb .ne 119 (nI n3)) 106 102) (lc' := [(6, .int 11), (5, .int 1), (4, .int 14), (3, .int 11), (2, .int 2), (0, .ref 0), (1, .ref 22)]) (stk' := []) (mem' := fm g tp bt a b) (fun _ _ _ => rfl) ?_
      by_cases h6 : 119 = n3
      · rw [show (fx_cb .ne 119 (nI n3)) = false from cb_neF (a := 119) (b := n3) (by omega) (by omega) (by omega)]
        dsimp only [cond]
        refine fe_s 2 (pc' := 107) (lc' := [(6, .int 11), (5, .int 1), (4, .int 14), (3, .int 11), (2, .int 2), (0, .ref 0), (1, .ref 22)]) (stk' := [.int 1]) (mem' := fm g tp bt a b) (fun _ _ _ => rfl) ?_
        refine fe_s 4 (pc' := 70) (lc' := [(6, .int (11 + 1)), (5, .int 1), (4, .int 14), (3, .int 11), (2, .int 2), (0, .ref 0), (1, .ref 22)]) (stk' := [.int (11 + 1)]) (mem' := fm g tp bt a b) (fun _ _ _ => rfl) ?_
        rw [show (11 + 1 : Int32) = 12 from rfl]
        refine fe_s 1 (pc' := 72) (lc' := [(6, .int 12), (5, .int 1), (4, .int 14), (3, .int 11), (2, .int 2), (0, .ref 0), (1, .ref 22)]) (stk' := [.int 14, .int 12]) (mem' := fm g tp bt a b) (fun _ _ _ => rfl) ?_
        refine fe_s 1 (pc' := cond (fx_cb .ge 12 14) 115 75) (lc' := [(6, .int 12), (5, .int 1), (4, .int 14), (3, .int 11), (2, .int 2), (0, .ref 0), (1, .ref 22)]) (stk' := []) (mem' := fm g tp bt a b) (fun _ _ _ => rfl) ?_
        rw [show (fx_cb .ge 12 14) = false from by decide]
        dsimp only [cond]
        refine fe_s 1 (pc' := 77) (lc' := [(6, .int 12), (5, .int 1), (4, .int 14), (3, .int 11), (2, .int 2), (0, .ref 0), (1, .ref 22)]) (stk' := [.int 1]) (mem' := fm g tp bt a b) (fun _ _ _ => rfl) ?_
        refine fe_s 1 (pc' := cond (fx_cb .eq 1 0) 115 80) (lc' := [(6, .int 12), (5, .int 1), (4, .int 14), (3, .int 11), (2, .int 2), (0, .ref 0), (1, .ref 22)]) (stk' := []) (mem' := fm g tp bt a b) (fun _ _ _ => rfl) ?_
        rw [show (fx_cb .eq 1 0) = false from by decide]
        dsimp only [cond]
        refine fe_s 2 (pc' := 83) (lc' := [(6, .int 12), (5, .int 1), (4, .int 14), (3, .int 11), (2, .int 2), (0, .ref 0), (1, .ref 22)]) (stk' := [.int 12, .ref 22]) (mem' := fm g tp bt a b) (fun _ _ _ => rfl) ?_
        refine fe_chr (i := 12) (by omega) (by rfl) (by rfl) ⟨by rfl, by rfl⟩ (by rfl) ?_
        rw [show sk_b.getD 12 0 = 97 from rfl]
        refine fe_s 4 (pc' := 93) (lc' := [(6, .int 12), (5, .int 1), (4, .int 14), (3, .int 11), (2, .int 2), (0, .ref 0), (1, .ref 22)]) (stk' := [.int 12, .int (g 13), .ref 0, .int 97]) (mem' := fm g tp bt a b) (fun _ _ _ => rfl) ?_
        try rw [h13]
        refine fe_s 3 (pc' := 96) (lc' := [(6, .int 12), (5, .int 1), (4, .int 14), (3, .int 11), (2, .int 2), (0, .ref 0), (1, .ref 22)]) (stk' := [.int (((nI F) + 12) - 11), .ref 0, .int 97]) (mem' := fm g tp bt a b) (fun _ _ _ => rfl) ?_
        rw [show (((nI F) + 12) - 11 : Int32) = nI ((F + 12) - 11) from by simp only [show (12 : Int32) = nI 12 from rfl, show (11 : Int32) = nI 11 from rfl, tg_sub2 (x := F + 12) (y := 11) (by omega), nI_add, fm_mul]]
        refine fe_ivV (fr_byteAt (S := S) (k := (F + 12) - 11) (g := g) (tp := tp) (bt := bt) (a := a) (b := b) h11 (by omega) (by omega)) (by omega) (by rfl) (by rfl) (by rfl) (by rfl) (by rfl) (by rfl) ?_
        rcases fm_byte_or a S ((F + 12) - 11) with ⟨e8, q9⟩ | ⟨q9, n7, qn7, e8⟩
        · rw [e8]
          refine fe_s 1 (pc' := cond (fx_cb .ne 97 (-1)) 106 102) (lc' := [(6, .int 12), (5, .int 1), (4, .int 14), (3, .int 11), (2, .int 2), (0, .ref 0), (1, .ref 22)]) (stk' := []) (mem' := fm g tp bt a b) (fun _ _ _ => rfl) ?_
          rw [show (fx_cb .ne 97 (-1)) = true from by decide]
          dsimp only [cond]
          refine fe_s 1 (pc' := 107) (lc' := [(6, .int 12), (5, .int 1), (4, .int 14), (3, .int 11), (2, .int 2), (0, .ref 0), (1, .ref 22)]) (stk' := [.int 0]) (mem' := fm g tp bt a b) (fun _ _ _ => rfl) ?_
          refine fe_w (lc' := [(6, .int 12), (5, .int 1), (4, .int 14), (3, .int 11), (2, .int 2), (0, .ref 0), (1, .ref 22)]) ⟨rfl, rfl, rfl, rfl, rfl, rfl, rfl, trivial⟩ (by show List.Nodup [6, 5, 4, 3, 2, 0, 1]; decide) (by show List.Nodup [6, 5, 4, 3, 2, 0, 1]; decide) ?_
          exact fail _ _
        · rw [e8]
          refine fe_s 1 (pc' := cond (fx_cb .ne 97 (nI n7)) 106 102) (lc' := [(6, .int 12), (5, .int 1), (4, .int 14), (3, .int 11), (2, .int 2), (0, .ref 0), (1, .ref 22)]) (stk' := []) (mem' := fm g tp bt a b) (fun _ _ _ => rfl) ?_
          by_cases h10 : 97 = n7
          · rw [show (fx_cb .ne 97 (nI n7)) = false from cb_neF (a := 97) (b := n7) (by omega) (by omega) (by omega)]
            dsimp only [cond]
            refine fe_s 2 (pc' := 107) (lc' := [(6, .int 12), (5, .int 1), (4, .int 14), (3, .int 11), (2, .int 2), (0, .ref 0), (1, .ref 22)]) (stk' := [.int 1]) (mem' := fm g tp bt a b) (fun _ _ _ => rfl) ?_
            refine fe_s 4 (pc' := 70) (lc' := [(6, .int (12 + 1)), (5, .int 1), (4, .int 14), (3, .int 11), (2, .int 2), (0, .ref 0), (1, .ref 22)]) (stk' := [.int (12 + 1)]) (mem' := fm g tp bt a b) (fun _ _ _ => rfl) ?_
            rw [show (12 + 1 : Int32) = 13 from rfl]
            refine fe_s 1 (pc' := 72) (lc' := [(6, .int 13), (5, .int 1), (4, .int 14), (3, .int 11), (2, .int 2), (0, .ref 0), (1, .ref 22)]) (stk' := [.int 14, .int 13]) (mem' := fm g tp bt a b) (fun _ _ _ => rfl) ?_
            refine fe_s 1 (pc' := cond (fx_cb .ge 13 14) 115 75) (lc' := [(6, .int 13), (5, .int 1), (4, .int 14), (3, .int 11), (2, .int 2), (0, .ref 0), (1, .ref 22)]) (stk' := []) (mem' := fm g tp bt a b) (fun _ _ _ => rfl) ?_
            rw [show (fx_cb .ge 13 14) = false from by decide]
            dsimp only [cond]
            refine fe_s 1 (pc' := 77) (lc' := [(6, .int 13), (5, .int 1), (4, .int 14), (3, .int 11), (2, .int 2), (0, .ref 0), (1, .ref 22)]) (stk' := [.int 1]) (mem' := fm g tp bt a b) (fun _ _ _ => rfl) ?_
            refine fe_s 1 (pc' := cond (fx_cb .eq 1 0) 115 80) (lc' := [(6, .int 13), (5, .int 1), (4, .int 14), (3, .int 11), (2, .int 2), (0, .ref 0), (1, .ref 22)]) (stk' := []) (mem' := fm g tp bt a b) (fun _ _ _ => rfl) ?_
            rw [show (fx_cb .eq 1 0) = false from by decide]
            dsimp only [cond]
            refine fe_s 2 (pc' := 83) (lc' := [(6, .int 13), (5, .int 1), (4, .int 14), (3, .int 11), (2, .int 2), (0, .ref 0), (1, .ref 22)]) (stk' := [.int 13, .ref 22]) (mem' := fm g tp bt a b) (fun _ _ _ => rfl) ?_
            refine fe_chr (i := 13) (by omega) (by rfl) (by rfl) ⟨by rfl, by rfl⟩ (by rfl) ?_
            rw [show sk_b.getD 13 0 = 121 from rfl]
            refine fe_s 4 (pc' := 93) (lc' := [(6, .int 13), (5, .int 1), (4, .int 14), (3, .int 11), (2, .int 2), (0, .ref 0), (1, .ref 22)]) (stk' := [.int 13, .int (g 13), .ref 0, .int 121]) (mem' := fm g tp bt a b) (fun _ _ _ => rfl) ?_
            try rw [h13]
            refine fe_s 3 (pc' := 96) (lc' := [(6, .int 13), (5, .int 1), (4, .int 14), (3, .int 11), (2, .int 2), (0, .ref 0), (1, .ref 22)]) (stk' := [.int (((nI F) + 13) - 11), .ref 0, .int 121]) (mem' := fm g tp bt a b) (fun _ _ _ => rfl) ?_
            rw [show (((nI F) + 13) - 11 : Int32) = nI ((F + 13) - 11) from by simp only [show (13 : Int32) = nI 13 from rfl, show (11 : Int32) = nI 11 from rfl, tg_sub2 (x := F + 13) (y := 11) (by omega), nI_add, fm_mul]]
            refine fe_ivV (fr_byteAt (S := S) (k := (F + 13) - 11) (g := g) (tp := tp) (bt := bt) (a := a) (b := b) h11 (by omega) (by omega)) (by omega) (by rfl) (by rfl) (by rfl) (by rfl) (by rfl) (by rfl) ?_
            rcases fm_byte_or a S ((F + 13) - 11) with ⟨e12, q13⟩ | ⟨q13, n11, qn11, e12⟩
            · rw [e12]
              refine fe_s 1 (pc' := cond (fx_cb .ne 121 (-1)) 106 102) (lc' := [(6, .int 13), (5, .int 1), (4, .int 14), (3, .int 11), (2, .int 2), (0, .ref 0), (1, .ref 22)]) (stk' := []) (mem' := fm g tp bt a b) (fun _ _ _ => rfl) ?_
              rw [show (fx_cb .ne 121 (-1)) = true from by decide]
              dsimp only [cond]
              refine fe_s 1 (pc' := 107) (lc' := [(6, .int 13), (5, .int 1), (4, .int 14), (3, .int 11), (2, .int 2), (0, .ref 0), (1, .ref 22)]) (stk' := [.int 0]) (mem' := fm g tp bt a b) (fun _ _ _ => rfl) ?_
              refine fe_w (lc' := [(6, .int 13), (5, .int 1), (4, .int 14), (3, .int 11), (2, .int 2), (0, .ref 0), (1, .ref 22)]) ⟨rfl, rfl, rfl, rfl, rfl, rfl, rfl, trivial⟩ (by show List.Nodup [6, 5, 4, 3, 2, 0, 1]; decide) (by show List.Nodup [6, 5, 4, 3, 2, 0, 1]; decide) ?_
              exact fail _ _
            · rw [e12]
              refine fe_s 1 (pc' := cond (fx_cb .ne 121 (nI n11)) 106 102) (lc' := [(6, .int 13), (5, .int 1), (4, .int 14), (3, .int 11), (2, .int 2), (0, .ref 0), (1, .ref 22)]) (stk' := []) (mem' := fm g tp bt a b) (fun _ _ _ => rfl) ?_
              by_cases h14 : 121 = n11
              · rw [show (fx_cb .ne 121 (nI n11)) = false from cb_neF (a := 121) (b := n11) (by omega) (by omega) (by omega)]
                dsimp only [cond]
                refine fe_s 2 (pc' := 107) (lc' := [(6, .int 13), (5, .int 1), (4, .int 14), (3, .int 11), (2, .int 2), (0, .ref 0), (1, .ref 22)]) (stk' := [.int 1]) (mem' := fm g tp bt a b) (fun _ _ _ => rfl) ?_
                refine fe_s 4 (pc' := 70) (lc' := [(6, .int (13 + 1)), (5, .int 1), (4, .int 14), (3, .int 11), (2, .int 2), (0, .ref 0), (1, .ref 22)]) (stk' := [.int (13 + 1)]) (mem' := fm g tp bt a b) (fun _ _ _ => rfl) ?_
                rw [show (13 + 1 : Int32) = 14 from rfl]
                refine fe_s 1 (pc' := 72) (lc' := [(6, .int 14), (5, .int 1), (4, .int 14), (3, .int 11), (2, .int 2), (0, .ref 0), (1, .ref 22)]) (stk' := [.int 14, .int 14]) (mem' := fm g tp bt a b) (fun _ _ _ => rfl) ?_
                refine fe_s 1 (pc' := cond (fx_cb .ge 14 14) 115 75) (lc' := [(6, .int 14), (5, .int 1), (4, .int 14), (3, .int 11), (2, .int 2), (0, .ref 0), (1, .ref 22)]) (stk' := []) (mem' := fm g tp bt a b) (fun _ _ _ => rfl) ?_
                rw [show (fx_cb .ge 14 14) = true from by decide]
                dsimp only [cond]
                refine fe_s 1 (pc' := 117) (lc' := [(6, .int 14), (5, .int 1), (4, .int 14), (3, .int 11), (2, .int 2), (0, .ref 0), (1, .ref 22)]) (stk' := [.int 1]) (mem' := fm g tp bt a b) (fun _ _ _ => rfl) ?_
                refine fe_s 1 (pc' := cond (fx_cb .eq 1 0) 122 120) (lc' := [(6, .int 14), (5, .int 1), (4, .int 14), (3, .int 11), (2, .int 2), (0, .ref 0), (1, .ref 22)]) (stk' := []) (mem' := fm g tp bt a b) (fun _ _ _ => rfl) ?_
                rw [show (fx_cb .eq 1 0) = false from by decide]
                dsimp only [cond]
                refine fe_s 1 (pc' := 121) (lc' := [(6, .int 14), (5, .int 1), (4, .int 14), (3, .int 11), (2, .int 2), (0, .ref 0), (1, .ref 22)]) (stk' := [.int 2]) (mem' := fm g tp bt a b) (fun _ _ _ => rfl) ?_
                exact fe_ret ⟨_, Or.inr ⟨2, by omega, rfl⟩, rfl⟩ (by rfl) (by rfl) (by rfl)
              · rw [show (fx_cb .ne 121 (nI n11)) = true from cb_neT (a := 121) (b := n11) (by omega) (by omega) (by omega)]
                dsimp only [cond]
                refine fe_s 1 (pc' := 107) (lc' := [(6, .int 13), (5, .int 1), (4, .int 14), (3, .int 11), (2, .int 2), (0, .ref 0), (1, .ref 22)]) (stk' := [.int 0]) (mem' := fm g tp bt a b) (fun _ _ _ => rfl) ?_
                refine fe_w (lc' := [(6, .int 13), (5, .int 1), (4, .int 14), (3, .int 11), (2, .int 2), (0, .ref 0), (1, .ref 22)]) ⟨rfl, rfl, rfl, rfl, rfl, rfl, rfl, trivial⟩ (by show List.Nodup [6, 5, 4, 3, 2, 0, 1]; decide) (by show List.Nodup [6, 5, 4, 3, 2, 0, 1]; decide) ?_
                exact fail _ _
          · rw [show (fx_cb .ne 97 (nI n7)) = true from cb_neT (a := 97) (b := n7) (by omega) (by omega) (by omega)]
            dsimp only [cond]
            refine fe_s 1 (pc' := 107) (lc' := [(6, .int 12), (5, .int 1), (4, .int 14), (3, .int 11), (2, .int 2), (0, .ref 0), (1, .ref 22)]) (stk' := [.int 0]) (mem' := fm g tp bt a b) (fun _ _ _ => rfl) ?_
            refine fe_w (lc' := [(6, .int 12), (5, .int 1), (4, .int 14), (3, .int 11), (2, .int 2), (0, .ref 0), (1, .ref 22)]) ⟨rfl, rfl, rfl, rfl, rfl, rfl, rfl, trivial⟩ (by show List.Nodup [6, 5, 4, 3, 2, 0, 1]; decide) (by show List.Nodup [6, 5, 4, 3, 2, 0, 1]; decide) ?_
            exact fail _ _
      · rw [show (fx_cb .ne 119 (nI n3)) = true from cb_neT (a := 119) (b := n3) (by omega) (by omega) (by omega)]
        dsimp only [cond]
        refine fe_s 1 (pc' := 107) (lc' := [(6, .int 11), (5, .int 1), (4, .int 14), (3, .int 11), (2, .int 2), (0, .ref 0), (1, .ref 22)]) (stk' := [.int 0]) (mem' := fm g tp bt a b) (fun _ _ _ => rfl) ?_
        refine fe_w (lc' := [(6, .int 11), (5, .int 1), (4, .int 14), (3, .int 11), (2, .int 2), (0, .ref 0), (1, .ref 22)]) ⟨rfl, rfl, rfl, rfl, rfl, rfl, rfl, trivial⟩ (by show List.Nodup [6, 5, 4, 3, 2, 0, 1]; decide) (by show List.Nodup [6, 5, 4, 3, 2, 0, 1]; decide) ?_
        exact fail _ _
  · rw [show (fx_cb .ne 3 (nI (E - F))) = true from cb_neT (a := 3) (b := E - F) (by omega) (by omega) (by omega)]
    dsimp only [cond]
    refine fe_s 4 (pc' := 68) (lc' := [(6, .int 11), (5, .int 0), (4, .int 14), (3, .int 11), (2, .int 2), (0, .ref 0), (1, .ref 22)]) (stk' := []) (mem' := fm g tp bt a b) (fun _ _ _ => rfl) ?_
    refine fe_s 2 (pc' := 72) (lc' := [(6, .int 11), (5, .int 0), (4, .int 14), (3, .int 11), (2, .int 2), (0, .ref 0), (1, .ref 22)]) (stk' := [.int 14, .int 11]) (mem' := fm g tp bt a b) (fun _ _ _ => rfl) ?_
    refine fe_s 1 (pc' := cond (fx_cb .ge 11 14) 115 75) (lc' := [(6, .int 11), (5, .int 0), (4, .int 14), (3, .int 11), (2, .int 2), (0, .ref 0), (1, .ref 22)]) (stk' := []) (mem' := fm g tp bt a b) (fun _ _ _ => rfl) ?_
    rw [show (fx_cb .ge 11 14) = false from by decide]
    dsimp only [cond]
    refine fe_s 1 (pc' := 77) (lc' := [(6, .int 11), (5, .int 0), (4, .int 14), (3, .int 11), (2, .int 2), (0, .ref 0), (1, .ref 22)]) (stk' := [.int 0]) (mem' := fm g tp bt a b) (fun _ _ _ => rfl) ?_
    refine fe_s 1 (pc' := cond (fx_cb .eq 0 0) 115 80) (lc' := [(6, .int 11), (5, .int 0), (4, .int 14), (3, .int 11), (2, .int 2), (0, .ref 0), (1, .ref 22)]) (stk' := []) (mem' := fm g tp bt a b) (fun _ _ _ => rfl) ?_
    rw [show (fx_cb .eq 0 0) = true from by decide]
    dsimp only [cond]
    refine fe_s 1 (pc' := 117) (lc' := [(6, .int 11), (5, .int 0), (4, .int 14), (3, .int 11), (2, .int 2), (0, .ref 0), (1, .ref 22)]) (stk' := [.int 0]) (mem' := fm g tp bt a b) (fun _ _ _ => rfl) ?_
    refine fe_s 1 (pc' := cond (fx_cb .eq 0 0) 122 120) (lc' := [(6, .int 11), (5, .int 0), (4, .int 14), (3, .int 11), (2, .int 2), (0, .ref 0), (1, .ref 22)]) (stk' := []) (mem' := fm g tp bt a b) (fun _ _ _ => rfl) ?_
    rw [show (fx_cb .eq 0 0) = true from by decide]
    dsimp only [cond]
    refine fe_s 4 (pc' := 129) (lc' := [(2, .int (2 + 1)), (6, .int 11), (5, .int 0), (4, .int 14), (3, .int 11), (0, .ref 0), (1, .ref 22)]) (stk' := [.int (14 + 1)]) (mem' := fm g tp bt a b) (fun _ _ _ => rfl) ?_
    rw [show (2 + 1 : Int32) = 3 from rfl]
    rw [show (14 + 1 : Int32) = 15 from rfl]
    refine fe_s 1 (pc' := 130) (lc' := [(3, .int 15), (2, .int 3), (6, .int 11), (5, .int 0), (4, .int 14), (0, .ref 0), (1, .ref 22)]) (stk' := []) (mem' := fm g tp bt a b) (fun _ _ _ => rfl) ?_
    refine fe_s 1 (pc' := fx_to 130 (-116)) (lc' := [(3, .int 15), (2, .int 3), (6, .int 11), (5, .int 0), (4, .int 14), (0, .ref 0), (1, .ref 22)]) (stk' := []) (mem' := fm g tp bt a b) (fun _ _ _ => rfl) ?_
    rw [show fx_to 130 (-116) = 14 from by decide]
    refine fe_w (lc' := [(3, .int 15), (2, .int 3), (0, .ref 0), (1, .ref 22)]) ⟨rfl, rfl, rfl, rfl, trivial⟩ (by show List.Nodup [3, 2, 0, 1]; decide) (by show List.Nodup [3, 2, 6, 5, 4, 0, 1]; decide) ?_
    exact fw_3 hxp
end FIW9
