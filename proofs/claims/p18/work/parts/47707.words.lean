/-! ===== fx: which word it is (7) ===== -/
section FIW7
variable {g : Nat → Int32} {tp bt : Int64} {a : Nat → Nat → Int32} {b : Nat → Nat → Int64}
set_option maxHeartbeats 8000000 in
theorem fw_7 {S E F : Nat} (hxp : fm_xp g S E F) : fe_R 1 gk_m226 14 [(3, .int 40), (2, .int 7), (0, .ref 0), (1, .ref 22)] [] (fm g tp bt a b) (fm_FI (fm g tp bt a b)) := by
  obtain ⟨h11, hS9, h14, hES, h13, hFE, -, -, -⟩ := id hxp
  have fail : ∀ (x z : Int32), fe_R 1 gk_m226 107 [(6, .int x), (5, .int z), (4, .int 46), (3, .int 40), (2, .int 7), (0, .ref 0), (1, .ref 22)] [.int 0] (fm g tp bt a b) (fm_FI (fm g tp bt a b)) := by
    intro x z
    refine fe_s 4 (pc' := 70) (lc' := [(6, .int (x + 1)), (5, .int 0), (4, .int 46), (3, .int 40), (2, .int 7), (0, .ref 0), (1, .ref 22)]) (stk' := [.int (x + 1)]) (mem' := fm g tp bt a b) (fun _ _ _ => rfl) ?_
    refine fe_s 1 (pc' := 72) (lc' := [(6, .int (x + 1)), (5, .int 0), (4, .int 46), (3, .int 40), (2, .int 7), (0, .ref 0), (1, .ref 22)]) (stk' := [.int 46, .int (x + 1)]) (mem' := fm g tp bt a b) (fun _ _ _ => rfl) ?_
    refine fe_s 1 (pc' := cond (fx_cb .ge (x + 1) 46) 115 75) (lc' := [(6, .int (x + 1)), (5, .int 0), (4, .int 46), (3, .int 40), (2, .int 7), (0, .ref 0), (1, .ref 22)]) (stk' := []) (mem' := fm g tp bt a b) (fun _ _ _ => rfl) ?_
    cases h1 : fx_cb .ge (x + 1) 46
    · refine fe_s 1 (pc' := 77) (lc' := [(6, .int (x + 1)), (5, .int 0), (4, .int 46), (3, .int 40), (2, .int 7), (0, .ref 0), (1, .ref 22)]) (stk' := [.int 0]) (mem' := fm g tp bt a b) (fun _ _ _ => rfl) ?_
      refine fe_s 1 (pc' := cond (fx_cb .eq 0 0) 115 80) (lc' := [(6, .int (x + 1)), (5, .int 0), (4, .int 46), (3, .int 40), (2, .int 7), (0, .ref 0), (1, .ref 22)]) (stk' := []) (mem' := fm g tp bt a b) (fun _ _ _ => rfl) ?_
      rw [show (fx_cb .eq 0 0) = true from by decide]
      dsimp only [cond]
      refine fe_s 1 (pc' := 117) (lc' := [(6, .int (x + 1)), (5, .int 0), (4, .int 46), (3, .int 40), (2, .int 7), (0, .ref 0), (1, .ref 22)]) (stk' := [.int 0]) (mem' := fm g tp bt a b) (fun _ _ _ => rfl) ?_
      refine fe_s 1 (pc' := cond (fx_cb .eq 0 0) 122 120) (lc' := [(6, .int (x + 1)), (5, .int 0), (4, .int 46), (3, .int 40), (2, .int 7), (0, .ref 0), (1, .ref 22)]) (stk' := []) (mem' := fm g tp bt a b) (fun _ _ _ => rfl) ?_
      rw [show (fx_cb .eq 0 0) = true from by decide]
      dsimp only [cond]
      refine fe_s 4 (pc' := 129) (lc' := [(2, .int (7 + 1)), (6, .int (x + 1)), (5, .int 0), (4, .int 46), (3, .int 40), (0, .ref 0), (1, .ref 22)]) (stk' := [.int (46 + 1)]) (mem' := fm g tp bt a b) (fun _ _ _ => rfl) ?_
      rw [show (7 + 1 : Int32) = 8 from rfl]
      rw [show (46 + 1 : Int32) = 47 from rfl]
      refine fe_s 1 (pc' := 130) (lc' := [(3, .int 47), (2, .int 8), (6, .int (x + 1)), (5, .int 0), (4, .int 46), (0, .ref 0), (1, .ref 22)]) (stk' := []) (mem' := fm g tp bt a b) (fun _ _ _ => rfl) ?_
      refine fe_s 1 (pc' := fx_to 130 (-116)) (lc' := [(3, .int 47), (2, .int 8), (6, .int (x + 1)), (5, .int 0), (4, .int 46), (0, .ref 0), (1, .ref 22)]) (stk' := []) (mem' := fm g tp bt a b) (fun _ _ _ => rfl) ?_
      rw [show fx_to 130 (-116) = 14 from by decide]
      refine fe_w (lc' := [(3, .int 47), (2, .int 8), (0, .ref 0), (1, .ref 22)]) ⟨rfl, rfl, rfl, rfl, trivial⟩ (by show List.Nodup [3, 2, 0, 1]; decide) (by show List.Nodup [3, 2, 6, 5, 4, 0, 1]; decide) ?_
      exact fw_8 hxp
    · refine fe_s 1 (pc' := 117) (lc' := [(6, .int (x + 1)), (5, .int 0), (4, .int 46), (3, .int 40), (2, .int 7), (0, .ref 0), (1, .ref 22)]) (stk' := [.int 0]) (mem' := fm g tp bt a b) (fun _ _ _ => rfl) ?_
      refine fe_s 1 (pc' := cond (fx_cb .eq 0 0) 122 120) (lc' := [(6, .int (x + 1)), (5, .int 0), (4, .int 46), (3, .int 40), (2, .int 7), (0, .ref 0), (1, .ref 22)]) (stk' := []) (mem' := fm g tp bt a b) (fun _ _ _ => rfl) ?_
      rw [show (fx_cb .eq 0 0) = true from by decide]
      dsimp only [cond]
      refine fe_s 4 (pc' := 129) (lc' := [(2, .int (7 + 1)), (6, .int (x + 1)), (5, .int 0), (4, .int 46), (3, .int 40), (0, .ref 0), (1, .ref 22)]) (stk' := [.int (46 + 1)]) (mem' := fm g tp bt a b) (fun _ _ _ => rfl) ?_
      rw [show (7 + 1 : Int32) = 8 from rfl]
      rw [show (46 + 1 : Int32) = 47 from rfl]
      refine fe_s 1 (pc' := 130) (lc' := [(3, .int 47), (2, .int 8), (6, .int (x + 1)), (5, .int 0), (4, .int 46), (0, .ref 0), (1, .ref 22)]) (stk' := []) (mem' := fm g tp bt a b) (fun _ _ _ => rfl) ?_
      refine fe_s 1 (pc' := fx_to 130 (-116)) (lc' := [(3, .int 47), (2, .int 8), (6, .int (x + 1)), (5, .int 0), (4, .int 46), (0, .ref 0), (1, .ref 22)]) (stk' := []) (mem' := fm g tp bt a b) (fun _ _ _ => rfl) ?_
      rw [show fx_to 130 (-116) = 14 from by decide]
      refine fe_w (lc' := [(3, .int 47), (2, .int 8), (0, .ref 0), (1, .ref 22)]) ⟨rfl, rfl, rfl, rfl, trivial⟩ (by show List.Nodup [3, 2, 0, 1]; decide) (by show List.Nodup [3, 2, 6, 5, 4, 0, 1]; decide) ?_
      exact fw_8 hxp
  refine fe_s 2 (pc' := 16) (lc' := [(3, .int 40), (2, .int 7), (0, .ref 0), (1, .ref 22)]) (stk' := [.ref 22, .int 40]) (mem' := fm g tp bt a b) (fun _ _ _ => rfl) ?_
  refine fe_s 1 (pc' := 19) (lc' := [(3, .int 40), (2, .int 7), (0, .ref 0), (1, .ref 22)]) (stk' := [.int 117, .int 40]) (mem' := fm g tp bt a b) (fun _ _ _ => rfl) ?_
  refine fe_s 1 (pc' := cond (fx_cb .ge 40 117) 133 22) (lc' := [(3, .int 40), (2, .int 7), (0, .ref 0), (1, .ref 22)]) (stk' := []) (mem' := fm g tp bt a b) (fun _ _ _ => rfl) ?_
  rw [show (fx_cb .ge 40 117) = false from by decide]
  dsimp only [cond]
  refine fe_s 4 (pc' := 28) (lc' := [(4, .int 40), (3, .int 40), (2, .int 7), (0, .ref 0), (1, .ref 22)]) (stk' := [.int 40, .ref 22]) (mem' := fm g tp bt a b) (fun _ _ _ => rfl) ?_
  refine fe_chr (i := 40) (by omega) (by rfl) (by rfl) ⟨by rfl, by rfl⟩ (by rfl) ?_
  rw [show sk_b.getD 40 0 = 98 from rfl]
  refine fe_s 1 (pc' := 33) (lc' := [(4, .int 40), (3, .int 40), (2, .int 7), (0, .ref 0), (1, .ref 22)]) (stk' := [.int 32, .int 98]) (mem' := fm g tp bt a b) (fun _ _ _ => rfl) ?_
  refine fe_s 1 (pc' := cond (fx_cb .eq 98 32) 42 36) (lc' := [(4, .int 40), (3, .int 40), (2, .int 7), (0, .ref 0), (1, .ref 22)]) (stk' := []) (mem' := fm g tp bt a b) (fun _ _ _ => rfl) ?_
  rw [show (fx_cb .eq 98 32) = false from by decide]
  dsimp only [cond]
  refine fe_s 4 (pc' := 28) (lc' := [(4, .int (40 + 1)), (3, .int 40), (2, .int 7), (0, .ref 0), (1, .ref 22)]) (stk' := [.int (40 + 1), .ref 22]) (mem' := fm g tp bt a b) (fun _ _ _ => rfl) ?_
  rw [show (40 + 1 : Int32) = 41 from rfl]
  refine fe_chr (i := 41) (by omega) (by rfl) (by rfl) ⟨by rfl, by rfl⟩ (by rfl) ?_
  rw [show sk_b.getD 41 0 = 101 from rfl]
  refine fe_s 1 (pc' := 33) (lc' := [(4, .int 41), (3, .int 40), (2, .int 7), (0, .ref 0), (1, .ref 22)]) (stk' := [.int 32, .int 101]) (mem' := fm g tp bt a b) (fun _ _ _ => rfl) ?_
  refine fe_s 1 (pc' := cond (fx_cb .eq 101 32) 42 36) (lc' := [(4, .int 41), (3, .int 40), (2, .int 7), (0, .ref 0), (1, .ref 22)]) (stk' := []) (mem' := fm g tp bt a b) (fun _ _ _ => rfl) ?_
  rw [show (fx_cb .eq 101 32) = false from by decide]
  dsimp only [cond]
  refine fe_s 4 (pc' := 28) (lc' := [(4, .int (41 + 1)), (3, .int 40), (2, .int 7), (0, .ref 0), (1, .ref 22)]) (stk' := [.int (41 + 1), .ref 22]) (mem' := fm g tp bt a b) (fun _ _ _ => rfl) ?_
  rw [show (41 + 1 : Int32) = 42 from rfl]
  refine fe_chr (i := 42) (by omega) (by rfl) (by rfl) ⟨by rfl, by rfl⟩ (by rfl) ?_
  rw [show sk_b.getD 42 0 = 116 from rfl]
  refine fe_s 1 (pc' := 33) (lc' := [(4, .int 42), (3, .int 40), (2, .int 7), (0, .ref 0), (1, .ref 22)]) (stk' := [.int 32, .int 116]) (mem' := fm g tp bt a b) (fun _ _ _ => rfl) ?_
  refine fe_s 1 (pc' := cond (fx_cb .eq 116 32) 42 36) (lc' := [(4, .int 42), (3, .int 40), (2, .int 7), (0, .ref 0), (1, .ref 22)]) (stk' := []) (mem' := fm g tp bt a b) (fun _ _ _ => rfl) ?_
  rw [show (fx_cb .eq 116 32) = false from by decide]
  dsimp only [cond]
  refine fe_s 4 (pc' := 28) (lc' := [(4, .int (42 + 1)), (3, .int 40), (2, .int 7), (0, .ref 0), (1, .ref 22)]) (stk' := [.int (42 + 1), .ref 22]) (mem' := fm g tp bt a b) (fun _ _ _ => rfl) ?_
  rw [show (42 + 1 : Int32) = 43 from rfl]
  refine fe_chr (i := 43) (by omega) (by rfl) (by rfl) ⟨by rfl, by rfl⟩ (by rfl) ?_
  rw [show sk_b.getD 43 0 = 116 from rfl]
  refine fe_s 1 (pc' := 33) (lc' := [(4, .int 43), (3, .int 40), (2, .int 7), (0, .ref 0), (1, .ref 22)]) (stk' := [.int 32, .int 116]) (mem' := fm g tp bt a b) (fun _ _ _ => rfl) ?_
  refine fe_s 1 (pc' := cond (fx_cb .eq 116 32) 42 36) (lc' := [(4, .int 43), (3, .int 40), (2, .int 7), (0, .ref 0), (1, .ref 22)]) (stk' := []) (mem' := fm g tp bt a b) (fun _ _ _ => rfl) ?_
  rw [show (fx_cb .eq 116 32) = false from by decide]
  dsimp only [cond]
  refine fe_s 4 (pc' := 28) (lc' := [(4, .int (43 + 1)), (3, .int 40), (2, .int 7), (0, .ref 0), (1, .ref 22)]) (stk' := [.int (43 + 1), .ref 22]) (mem' := fm g tp bt a b) (fun _ _ _ => rfl) ?_
  rw [show (43 + 1 : Int32) = 44 from rfl]
  refine fe_chr (i := 44) (by omega) (by rfl) (by rfl) ⟨by rfl, by rfl⟩ (by rfl) ?_
  rw [show sk_b.getD 44 0 = 101 from rfl]
  refine fe_s 1 (pc' := 33) (lc' := [(4, .int 44), (3, .int 40), (2, .int 7), (0, .ref 0), (1, .ref 22)]) (stk' := [.int 32, .int 101]) (mem' := fm g tp bt a b) (fun _ _ _ => rfl) ?_
  refine fe_s 1 (pc' := cond (fx_cb .eq 101 32) 42 36) (lc' := [(4, .int 44), (3, .int 40), (2, .int 7), (0, .ref 0), (1, .ref 22)]) (stk' := []) (mem' := fm g tp bt a b) (fun _ _ _ => rfl) ?_
  rw [show (fx_cb .eq 101 32) = false from by decide]
  dsimp only [cond]
  refine fe_s 4 (pc' := 28) (lc' := [(4, .int (44 + 1)), (3, .int 40), (2, .int 7), (0, .ref 0), (1, .ref 22)]) (stk' := [.int (44 + 1), .ref 22]) (mem' := fm g tp bt a b) (fun _ _ _ => rfl) ?_
  rw [show (44 + 1 : Int32) = 45 from rfl]
  refine fe_chr (i := 45) (by omega) (by rfl) (by rfl) ⟨by rfl, by rfl⟩ (by rfl) ?_
  rw [show sk_b.getD 45 0 = 114 from rfl]
  refine fe_s 1 (pc' := 33) (lc' := [(4, .int 45), (3, .int 40), (2, .int 7), (0, .ref 0), (1, .ref 22)]) (stk' := [.int 32, .int 114]) (mem' := fm g tp bt a b) (fun _ _ _ => rfl) ?_
  refine fe_s 1 (pc' := cond (fx_cb .eq 114 32) 42 36) (lc' := [(4, .int 45), (3, .int 40), (2, .int 7), (0, .ref 0), (1, .ref 22)]) (stk' := []) (mem' := fm g tp bt a b) (fun _ _ _ => rfl) ?_
  rw [show (fx_cb .eq 114 32) = false from by decide]
  dsimp only [cond]
  refine fe_s 4 (pc' := 28) (lc' := [(4, .int (45 + 1)), (3, .int 40), (2, .int 7), (0, .ref 0), (1, .ref 22)]) (stk' := [.int (45 + 1), .ref 22]) (mem' := fm g tp bt a b) (fun _ _ _ => rfl) ?_
  rw [show (45 + 1 : Int32) = 46 from rfl]
  refine fe_chr (i := 46) (by omega) (by rfl) (by rfl) ⟨by rfl, by rfl⟩ (by rfl) ?_
  rw [show sk_b.getD 46 0 = 32 from rfl]
  refine fe_s 1 (pc' := 33) (lc' := [(4, .int 46), (3, .int 40), (2, .int 7), (0, .ref 0), (1, .ref 22)]) (stk' := [.int 32, .int 32]) (mem' := fm g tp bt a b) (fun _ _ _ => rfl) ?_
  refine fe_s 1 (pc' := cond (fx_cb .eq 32 32) 42 36) (lc' := [(4, .int 46), (3, .int 40), (2, .int 7), (0, .ref 0), (1, .ref 22)]) (stk' := []) (mem' := fm g tp bt a b) (fun _ _ _ => rfl) ?_
  rw [show (fx_cb .eq 32 32) = true from by decide]
  dsimp only [cond]
  refine fe_s 4 (pc' := 47) (lc' := [(4, .int 46), (3, .int 40), (2, .int 7), (0, .ref 0), (1, .ref 22)]) (stk' := [.ref 0, .int (46 - 40)]) (mem' := fm g tp bt a b) (fun _ _ _ => rfl) ?_
  rw [show (46 - 40 : Int32) = 6 from rfl]
  refine fe_s 4 (pc' := 55) (lc' := [(4, .int 46), (3, .int 40), (2, .int 7), (0, .ref 0), (1, .ref 22)]) (stk' := [.int ((g 14) - (g 13)), .int 6]) (mem' := fm g tp bt a b) (fun _ _ _ => rfl) ?_
  try rw [h14]
  try rw [h13]
  rw [show ((nI E) - (nI F) : Int32) = nI (E - F) from by simp only [tg_sub2 (x := E) (y := F) (by omega), nI_add, fm_mul]]
  refine fe_s 1 (pc' := cond (fx_cb .ne 6 (nI (E - F))) 62 58) (lc' := [(4, .int 46), (3, .int 40), (2, .int 7), (0, .ref 0), (1, .ref 22)]) (stk' := []) (mem' := fm g tp bt a b) (fun _ _ _ => rfl) ?_
  by_cases h2 : 6 = (E - F)
  · rw [show (fx_cb .ne 6 (nI (E - F))) = false from cb_neF (a := 6) (b := E - F) (by omega) (by omega) (by omega)]
    dsimp only [cond]
    refine fe_s 4 (pc' := 66) (lc' := [(5, .int 1), (4, .int 46), (3, .int 40), (2, .int 7), (0, .ref 0), (1, .ref 22)]) (stk' := [.int 40]) (mem' := fm g tp bt a b) (fun _ _ _ => rfl) ?_
    refine fe_s 3 (pc' := 72) (lc' := [(6, .int 40), (5, .int 1), (4, .int 46), (3, .int 40), (2, .int 7), (0, .ref 0), (1, .ref 22)]) (stk' := [.int 46, .int 40]) (mem' := fm g tp bt a b) (fun _ _ _ => rfl) ?_
    refine fe_s 1 (pc' := cond (fx_cb .ge 40 46) 115 75) (lc' := [(6, .int 40), (5, .int 1), (4, .int 46), (3, .int 40), (2, .int 7), (0, .ref 0), (1, .ref 22)]) (stk' := []) (mem' := fm g tp bt a b) (fun _ _ _ => rfl) ?_
    rw [show (fx_cb .ge 40 46) = false from by decide]
    dsimp only [cond]
    refine fe_s 1 (pc' := 77) (lc' := [(6, .int 40), (5, .int 1), (4, .int 46), (3, .int 40), (2, .int 7), (0, .ref 0), (1, .ref 22)]) (stk' := [.int 1]) (mem' := fm g tp bt a b) (fun _ _ _ => rfl) ?_
    refine fe_s 1 (pc' := cond (fx_cb .eq 1 0) 115 80) (lc' := [(6, .int 40), (5, .int 1), (4, .int 46), (3, .int 40), (2, .int 7), (0, .ref 0), (1, .ref 22)]) (stk' := []) (mem' := fm g tp bt a b) (fun _ _ _ => rfl) ?_
    rw [show (fx_cb .eq 1 0) = false from by decide]
    dsimp only [cond]
    refine fe_s 2 (pc' := 83) (lc' := [(6, .int 40), (5, .int 1), (4, .int 46), (3, .int 40), (2, .int 7), (0, .ref 0), (1, .ref 22)]) (stk' := [.int 40, .ref 22]) (mem' := fm g tp bt a b) (fun _ _ _ => rfl) ?_
    refine fe_chr (i := 40) (by omega) (by rfl) (by rfl) ⟨by rfl, by rfl⟩ (by rfl) ?_
    rw [show sk_b.getD 40 0 = 98 from rfl]
    refine fe_s 4 (pc' := 93) (lc' := [(6, .int 40), (5, .int 1), (4, .int 46), (3, .int 40), (2, .int 7), (0, .ref 0), (1, .ref 22)]) (stk' := [.int 40, .int (g 13), .ref 0, .int 98]) (mem' := fm g tp bt a b) (fun _ _ _ => rfl) ?_
    try rw [h13]
    refine fe_s 3 (pc' := 96) (lc' := [(6, .int 40), (5, .int 1), (4, .int 46), (3, .int 40), (2, .int 7), (0, .ref 0), (1, .ref 22)]) (stk' := [.int (((nI F) + 40) - 40), .ref 0, .int 98]) (mem' := fm g tp bt a b) (fun _ _ _ => rfl) ?_
    rw [show (((nI F) + 40) - 40 : Int32) = nI ((F + 40) - 40) from by simp only [show (40 : Int32) = nI 40 from rfl, tg_sub2 (x := F + 40) (y := 40) (by omega), nI_add, fm_mul]]
    refine fe_ivV (fr_byteAt (S := S) (k := (F + 40) - 40) (g := g) (tp := tp) (bt := bt) (a := a) (b := b) h11 (by omega) (by omega)) (by omega) (by rfl) (by rfl) (by rfl) (by rfl) (by rfl) (by rfl) ?_
    rcases fm_byte_or a S ((F + 40) - 40) with ⟨e4, q5⟩ | ⟨q5, n3, qn3, e4⟩
    · rw [e4]
      refine fe_s 1 (pc' := cond (fx_cb .ne 98 (-1)) 106 102) (lc' := [(6, .int 40), (5, .int 1), (4, .int 46), (3, .int 40), (2, .int 7), (0, .ref 0), (1, .ref 22)]) (stk' := []) (mem' := fm g tp bt a b) (fun _ _ _ => rfl) ?_
      rw [show (fx_cb .ne 98 (-1)) = true from by decide]
      dsimp only [cond]
      refine fe_s 1 (pc' := 107) (lc' := [(6, .int 40), (5, .int 1), (4, .int 46), (3, .int 40), (2, .int 7), (0, .ref 0), (1, .ref 22)]) (stk' := [.int 0]) (mem' := fm g tp bt a b) (fun _ _ _ => rfl) ?_
      refine fe_w (lc' := [(6, .int 40), (5, .int 1), (4, .int 46), (3, .int 40), (2, .int 7), (0, .ref 0), (1, .ref 22)]) ⟨rfl, rfl, rfl, rfl, rfl, rfl, rfl, trivial⟩ (by show List.Nodup [6, 5, 4, 3, 2, 0, 1]; decide) (by show List.Nodup [6, 5, 4, 3, 2, 0, 1]; decide) ?_
      exact fail _ _
    · rw [e4]
      refine fe_s 1 (pc' := cond (fx_cb .ne 98 (nI n3)) 106 102) (lc' := [(6, .int 40), (5, .int 1), (4, .int 46), (3, .int 40), (2, .int 7), (0, .ref 0), (1, .ref 22)]) (stk' := []) (mem' := fm g tp bt a b) (fun _ _ _ => rfl) ?_
      by_cases h6 : 98 = n3
      · rw [show (fx_cb .ne 98 (nI n3)) = false from cb_neF (a := 98) (b := n3) (by omega) (by omega) (by omega)]
        dsimp only [cond]
        refine fe_s 2 (pc' := 107) (lc' := [(6, .int 40), (5, .int 1), (4, .int 46), (3, .int 40), (2, .int 7), (0, .ref 0), (1, .ref 22)]) (stk' := [.int 1]) (mem' := fm g tp bt a b) (fun _ _ _ => rfl) ?_
        refine fe_s 4 (pc' := 70) (lc' := [(6, .int (40 + 1)), (5, .int 1), (4, .int 46), (3, .int 40), (2, .int 7), (0, .ref 0), (1, .ref 22)]) (stk' := [.int (40 + 1)]) (mem' := fm g tp bt a b) (fun _ _ _ => rfl) ?_
        rw [show (40 + 1 : Int32) = 41 from rfl]
        refine fe_s 1 (pc' := 72) (lc' := [(6, .int 41), (5, .int 1), (4, .int 46), (3, .int 40), (2, .int 7), (0, .ref 0), (1, .ref 22)]) (stk' := [.int 46, .int 41]) (mem' := fm g tp bt a b) (fun _ _ _ => rfl) ?_
        refine fe_s 1 (pc' := cond (fx_cb .ge 41 46) 115 75) (lc' := [(6, .int 41), (5, .int 1), (4, .int 46), (3, .int 40), (2, .int 7), (0, .ref 0), (1, .ref 22)]) (stk' := []) (mem' := fm g tp bt a b) (fun _ _ _ => rfl) ?_
        rw [show (fx_cb .ge 41 46) = false from by decide]
        dsimp only [cond]
        refine fe_s 1 (pc' := 77) (lc' := [(6, .int 41), (5, .int 1), (4, .int 46), (3, .int 40), (2, .int 7), (0, .ref 0), (1, .ref 22)]) (stk' := [.int 1]) (mem' := fm g tp bt a b) (fun _ _ _ => rfl) ?_
        refine fe_s 1 (pc' := cond (fx_cb .eq 1 0) 115 80) (lc' := [(6, .int 41), (5, .int 1), (4, .int 46), (3, .int 40), (2, .int 7), (0, .ref 0), (1, .ref 22)]) (stk' := []) (mem' := fm g tp bt a b) (fun _ _ _ => rfl) ?_
        rw [show (fx_cb .eq 1 0) = false from by decide]
        dsimp only [cond]
        refine fe_s 2 (pc' := 83) (lc' := [(6, .int 41), (5, .int 1), (4, .int 46), (3, .int 40), (2, .int 7), (0, .ref 0), (1, .ref 22)]) (stk' := [.int 41, .ref 22]) (mem' := fm g tp bt a b) (fun _ _ _ => rfl) ?_
        refine fe_chr (i := 41) (by omega) (by rfl) (by rfl) ⟨by rfl, by rfl⟩ (by rfl) ?_
        rw [show sk_b.getD 41 0 = 101 from rfl]
        refine fe_s 4 (pc' := 93) (lc' := [(6, .int 41), (5, .int 1), (4, .int 46), (3, .int 40), (2, .int 7), (0, .ref 0), (1, .ref 22)]) (stk' := [.int 41, .int (g 13), .ref 0, .int 101]) (mem' := fm g tp bt a b) (fun _ _ _ => rfl) ?_
        try rw [h13]
        refine fe_s 3 (pc' := 96) (lc' := [(6, .int 41), (5, .int 1), (4, .int 46), (3, .int 40), (2, .int 7), (0, .ref 0), (1, .ref 22)]) (stk' := [.int (((nI F) + 41) - 40), .ref 0, .int 101]) (mem' := fm g tp bt a b) (fun _ _ _ => rfl) ?_
        rw [show (((nI F) + 41) - 40 : Int32) = nI ((F + 41) - 40) from by simp only [show (41 : Int32) = nI 41 from rfl, show (40 : Int32) = nI 40 from rfl, tg_sub2 (x := F + 41) (y := 40) (by omega), nI_add, fm_mul]]
        refine fe_ivV (fr_byteAt (S := S) (k := (F + 41) - 40) (g := g) (tp := tp) (bt := bt) (a := a) (b := b) h11 (by omega) (by omega)) (by omega) (by rfl) (by rfl) (by rfl) (by rfl) (by rfl) (by rfl) ?_
        rcases fm_byte_or a S ((F + 41) - 40) with ⟨e8, q9⟩ | ⟨q9, n7, qn7, e8⟩
        · rw [e8]
          refine fe_s 1 (pc' := cond (fx_cb .ne 101 (-1)) 106 102) (lc' := [(6, .int 41), (5, .int 1), (4, .int 46), (3, .int 40), (2, .int 7), (0, .ref 0), (1, .ref 22)]) (stk' := []) (mem' := fm g tp bt a b) (fun _ _ _ => rfl) ?_
          rw [show (fx_cb .ne 101 (-1)) = true from by decide]
          dsimp only [cond]
          refine fe_s 1 (pc' := 107) (lc' := [(6, .int 41), (5, .int 1), (4, .int 46), (3, .int 40), (2, .int 7), (0, .ref 0), (1, .ref 22)]) (stk' := [.int 0]) (mem' := fm g tp bt a b) (fun _ _ _ => rfl) ?_
          refine fe_w (lc' := [(6, .int 41), (5, .int 1), (4, .int 46), (3, .int 40), (2, .int 7), (0, .ref 0), (1, .ref 22)]) ⟨rfl, rfl, rfl, rfl, rfl, rfl, rfl, trivial⟩ (by show List.Nodup [6, 5, 4, 3, 2, 0, 1]; decide) (by show List.Nodup [6, 5, 4, 3, 2, 0, 1]; decide) ?_
          exact fail _ _
        · rw [e8]
          refine fe_s 1 (pc' := cond (fx_cb .ne 101 (nI n7)) 106 102) (lc' := [(6, .int 41), (5, .int 1), (4, .int 46), (3, .int 40), (2, .int 7), (0, .ref 0), (1, .ref 22)]) (stk' := []) (mem' := fm g tp bt a b) (fun _ _ _ => rfl) ?_
          by_cases h10 : 101 = n7
          · rw [show (fx_cb .ne 101 (nI n7)) = false from cb_neF (a := 101) (b := n7) (by omega) (by omega) (by omega)]
            dsimp only [cond]
            refine fe_s 2 (pc' := 107) (lc' := [(6, .int 41), (5, .int 1), (4, .int 46), (3, .int 40), (2, .int 7), (0, .ref 0), (1, .ref 22)]) (stk' := [.int 1]) (mem' := fm g tp bt a b) (fun _ _ _ => rfl) ?_
            refine fe_s 4 (pc' := 70) (lc' := [(6, .int (41 + 1)), (5, .int 1), (4, .int 46), (3, .int 40), (2, .int 7), (0, .ref 0), (1, .ref 22)]) (stk' := [.int (41 + 1)]) (mem' := fm g tp bt a b) (fun _ _ _ => rfl) ?_
            rw [show (41 + 1 : Int32) = 42 from rfl]
            refine fe_s 1 (pc' := 72) (lc' := [(6, .int 42), (5, .int 1), (4, .int 46), (3, .int 40), (2, .int 7), (0, .ref 0), (1, .ref 22)]) (stk' := [.int 46, .int 42]) (mem' := fm g tp bt a b) (fun _ _ _ => rfl) ?_
            refine fe_s 1 (pc' := cond (fx_cb .ge 42 46) 115 75) (lc' := [(6, .int 42), (5, .int 1), (4, .int 46), (3, .int 40), (2, .int 7), (0, .ref 0), (1, .ref 22)]) (stk' := []) (mem' := fm g tp bt a b) (fun _ _ _ => rfl) ?_
            rw [show (fx_cb .ge 42 46) = false from by decide]
            dsimp only [cond]
            refine fe_s 1 (pc' := 77) (lc' := [(6, .int 42), (5, .int 1), (4, .int 46), (3, .int 40), (2, .int 7), (0, .ref 0), (1, .ref 22)]) (stk' := [.int 1]) (mem' := fm g tp bt a b) (fun _ _ _ => rfl) ?_
            refine fe_s 1 (pc' := cond (fx_cb .eq 1 0) 115 80) (lc' := [(6, .int 42), (5, .int 1), (4, .int 46), (3, .int 40), (2, .int 7), (0, .ref 0), (1, .ref 22)]) (stk' := []) (mem' := fm g tp bt a b) (fun _ _ _ => rfl) ?_
            rw [show (fx_cb .eq 1 0) = false from by decide]
            dsimp only [cond]
            refine fe_s 2 (pc' := 83) (lc' := [(6, .int 42), (5, .int 1), (4, .int 46), (3, .int 40), (2, .int 7), (0, .ref 0), (1, .ref 22)]) (stk' := [.int 42, .ref 22]) (mem' := fm g tp bt a b) (fun _ _ _ => rfl) ?_
            refine fe_chr (i := 42) (by omega) (by rfl) (by rfl) ⟨by rfl, by rfl⟩ (by rfl) ?_
            rw [show sk_b.getD 42 0 = 116 from rfl]
            refine fe_s 4 (pc' := 93) (lc' := [(6, .int 42), (5, .int 1), (4, .int 46), (3, .int 40), (2, .int 7), (0, .ref 0), (1, .ref 22)]) (stk' := [.int 42, .int (g 13), .ref 0, .int 116]) (mem' := fm g tp bt a b) (fun _ _ _ => rfl) ?_
            try rw [h13]
            refine fe_s 3 (pc' := 96) (lc' := [(6, .int 42), (5, .int 1), (4, .int 46), (3, .int 40), (2, .int 7), (0, .ref 0), (1, .ref 22)]) (stk' := [.int (((nI F) + 42) - 40), .ref 0, .int 116]) (mem' := fm g tp bt a b) (fun _ _ _ => rfl) ?_
            rw [show (((nI F) + 42) - 40 : Int32) = nI ((F + 42) - 40) from by simp only [show (42 : Int32) = nI 42 from rfl, show (40 : Int32) = nI 40 from rfl, tg_sub2 (x := F + 42) (y := 40) (by omega), nI_add, fm_mul]]
            refine fe_ivV (fr_byteAt (S := S) (k := (F + 42) - 40) (g := g) (tp := tp) (bt := bt) (a := a) (b := b) h11 (by omega) (by omega)) (by omega) (by rfl) (by rfl) (by rfl) (by rfl) (by rfl) (by rfl) ?_
            rcases fm_byte_or a S ((F + 42) - 40) with ⟨e12, q13⟩ | ⟨q13, n11, qn11, e12⟩
            · rw [e12]
              refine fe_s 1 (pc' := cond (fx_cb .ne 116 (-1)) 106 102) (lc' := [(6, .int 42), (5, .int 1), (4, .int 46), (3, .int 40), (2, .int 7), (0, .ref 0), (1, .ref 22)]) (stk' := []) (mem' := fm g tp bt a b) (fun _ _ _ => rfl) ?_
              rw [show (fx_cb .ne 116 (-1)) = true from by decide]
              dsimp only [cond]
              refine fe_s 1 (pc' := 107) (lc' := [(6, .int 42), (5, .int 1), (4, .int 46), (3, .int 40), (2, .int 7), (0, .ref 0), (1, .ref 22)]) (stk' := [.int 0]) (mem' := fm g tp bt a b) (fun _ _ _ => rfl) ?_
              refine fe_w (lc' := [(6, .int 42), (5, .int 1), (4, .int 46), (3, .int 40), (2, .int 7), (0, .ref 0), (1, .ref 22)]) ⟨rfl, rfl, rfl, rfl, rfl, rfl, rfl, trivial⟩ (by show List.Nodup [6, 5, 4, 3, 2, 0, 1]; decide) (by show List.Nodup [6, 5, 4, 3, 2, 0, 1]; decide) ?_
              exact fail _ _
            · rw [e12]
              refine fe_s 1 (pc' := cond (fx_cb .ne 116 (nI n11)) 106 102) (lc' := [(6, .int 42), (5, .int 1), (4, .int 46), (3, .int 40), (2, .int 7), (0, .ref 0), (1, .ref 22)]) (stk' := []) (mem' := fm g tp bt a b) (fun _ _ _ => rfl) ?_
              by_cases h14 : 116 = n11
              · rw [show (fx_cb .ne 116 (nI n11)) = false from cb_neF (a := 116) (b := n11) (by omega) (by omega) (by omega)]
                dsimp only [cond]
                refine fe_s 2 (pc' := 107) (lc' := [(6, .int 42), (5, .int 1), (4, .int 46), (3, .int 40), (2, .int 7), (0, .ref 0), (1, .ref 22)]) (stk' := [.int 1]) (mem' := fm g tp bt a b) (fun _ _ _ => rfl) ?_
                refine fe_s 4 (pc' := 70) (lc' := [(6, .int (42 + 1)), (5, .int 1), (4, .int 46), (3, .int 40), (2, .int 7), (0, .ref 0), (1, .ref 22)]) (stk' := [.int (42 + 1)]) (mem' := fm g tp bt a b) (fun _ _ _ => rfl) ?_
                rw [show (42 + 1 : Int32) = 43 from rfl]
                refine fe_s 1 (pc' := 72) (lc' := [(6, .int 43), (5, .int 1), (4, .int 46), (3, .int 40), (2, .int 7), (0, .ref 0), (1, .ref 22)]) (stk' := [.int 46, .int 43]) (mem' := fm g tp bt a b) (fun _ _ _ => rfl) ?_
                refine fe_s 1 (pc' := cond (fx_cb .ge 43 46) 115 75) (lc' := [(6, .int 43), (5, .int 1), (4, .int 46), (3, .int 40), (2, .int 7), (0, .ref 0), (1, .ref 22)]) (stk' := []) (mem' := fm g tp bt a b) (fun _ _ _ => rfl) ?_
                rw [show (fx_cb .ge 43 46) = false from by decide]
                dsimp only [cond]
                refine fe_s 1 (pc' := 77) (lc' := [(6, .int 43), (5, .int 1), (4, .int 46), (3, .int 40), (2, .int 7), (0, .ref 0), (1, .ref 22)]) (stk' := [.int 1]) (mem' := fm g tp bt a b) (fun _ _ _ => rfl) ?_
                refine fe_s 1 (pc' := cond (fx_cb .eq 1 0) 115 80) (lc' := [(6, .int 43), (5, .int 1), (4, .int 46), (3, .int 40), (2, .int 7), (0, .ref 0), (1, .ref 22)]) (stk' := []) (mem' := fm g tp bt a b) (fun _ _ _ => rfl) ?_
                rw [show (fx_cb .eq 1 0) = false from by decide]
                dsimp only [cond]
                refine fe_s 2 (pc' := 83) (lc' := [(6, .int 43), (5, .int 1), (4, .int 46), (3, .int 40), (2, .int 7), (0, .ref 0), (1, .ref 22)]) (stk' := [.int 43, .ref 22]) (mem' := fm g tp bt a b) (fun _ _ _ => rfl) ?_
                refine fe_chr (i := 43) (by omega) (by rfl) (by rfl) ⟨by rfl, by rfl⟩ (by rfl) ?_
                rw [show sk_b.getD 43 0 = 116 from rfl]
                refine fe_s 4 (pc' := 93) (lc' := [(6, .int 43), (5, .int 1), (4, .int 46), (3, .int 40), (2, .int 7), (0, .ref 0), (1, .ref 22)]) (stk' := [.int 43, .int (g 13), .ref 0, .int 116]) (mem' := fm g tp bt a b) (fun _ _ _ => rfl) ?_
                try rw [h13]
                refine fe_s 3 (pc' := 96) (lc' := [(6, .int 43), (5, .int 1), (4, .int 46), (3, .int 40), (2, .int 7), (0, .ref 0), (1, .ref 22)]) (stk' := [.int (((nI F) + 43) - 40), .ref 0, .int 116]) (mem' := fm g tp bt a b) (fun _ _ _ => rfl) ?_
                rw [show (((nI F) + 43) - 40 : Int32) = nI ((F + 43) - 40) from by simp only [show (43 : Int32) = nI 43 from rfl, show (40 : Int32) = nI 40 from rfl, tg_sub2 (x := F + 43) (y := 40) (by omega), nI_add, fm_mul]]
                refine fe_ivV (fr_byteAt (S := S) (k := (F + 43) - 40) (g := g) (tp := tp) (bt := bt) (a := a) (b := b) h11 (by omega) (by omega)) (by omega) (by rfl) (by rfl) (by rfl) (by rfl) (by rfl) (by rfl) ?_
                rcases fm_byte_or a S ((F + 43) - 40) with ⟨e16, q17⟩ | ⟨q17, n15, qn15, e16⟩
                · rw [e16]
                  refine fe_s 1 (pc' := cond (fx_cb .ne 116 (-1)) 106 102) (lc' := [(6, .int 43), (5, .int 1), (4, .int 46), (3, .int 40), (2, .int 7), (0, .ref 0), (1, .ref 22)]) (stk' := []) (mem' := fm g tp bt a b) (fun _ _ _ => rfl) ?_
                  rw [show (fx_cb .ne 116 (-1)) = true from by decide]
                  dsimp only [cond]
                  refine fe_s 1 (pc' := 107) (lc' := [(6, .int 43), (5, .int 1), (4, .int 46), (3, .int 40), (2, .int 7), (0, .ref 0), (1, .ref 22)]) (stk' := [.int 0]) (mem' := fm g tp bt a b) (fun _ _ _ => rfl) ?_
                  refine fe_w (lc' := [(6, .int 43), (5, .int 1), (4, .int 46), (3, .int 40), (2, .int 7), (0, .ref 0), (1, .ref 22)]) ⟨rfl, rfl, rfl, rfl, rfl, rfl, rfl, trivial⟩ (by show List.Nodup [6, 5, 4, 3, 2, 0, 1]; decide) (by show List.Nodup [6, 5, 4, 3, 2, 0, 1]; decide) ?_
                  exact fail _ _
                · rw [e16]
                  refine fe_s 1 (pc' := cond (fx_cb .ne 116 (nI n15)) 106 102) (lc' := [(6, .int 43), (5, .int 1), (4, .int 46), (3, .int 40), (2, .int 7), (0, .ref 0), (1, .ref 22)]) (stk' := []) (mem' := fm g tp bt a b) (fun _ _ _ => rfl) ?_
                  by_cases h18 : 116 = n15
                  · rw [show (fx_cb .ne 116 (nI n15)) = false from cb_neF (a := 116) (b := n15) (by omega) (by omega) (by omega)]
                    dsimp only [cond]
                    refine fe_s 2 (pc' := 107) (lc' := [(6, .int 43), (5, .int 1), (4, .int 46), (3, .int 40), (2, .int 7), (0, .ref 0), (1, .ref 22)]) (stk' := [.int 1]) (mem' := fm g tp bt a b) (fun _ _ _ => rfl) ?_
                    refine fe_s 4 (pc' := 70) (lc' := [(6, .int (43 + 1)), (5, .int 1), (4, .int 46), (3, .int 40), (2, .int 7), (0, .ref 0), (1, .ref 22)]) (stk' := [.int (43 + 1)]) (mem' := fm g tp bt a b) (fun _ _ _ => rfl) ?_
                    rw [show (43 + 1 : Int32) = 44 from rfl]
                    refine fe_s 1 (pc' := 72) (lc' := [(6, .int 44), (5, .int 1), (4, .int 46), (3, .int 40), (2, .int 7), (0, .ref 0), (1, .ref 22)]) (stk' := [.int 46, .int 44]) (mem' := fm g tp bt a b) (fun _ _ _ => rfl) ?_
                    refine fe_s 1 (pc' := cond (fx_cb .ge 44 46) 115 75) (lc' := [(6, .int 44), (5, .int 1), (4, .int 46), (3, .int 40), (2, .int 7), (0, .ref 0), (1, .ref 22)]) (stk' := []) (mem' := fm g tp bt a b) (fun _ _ _ => rfl) ?_
                    rw [show (fx_cb .ge 44 46) = false from by decide]
                    dsimp only [cond]
                    refine fe_s 1 (pc' := 77) (lc' := [(6, .int 44), (5, .int 1), (4, .int 46), (3, .int 40), (2, .int 7), (0, .ref 0), (1, .ref 22)]) (stk' := [.int 1]) (mem' := fm g tp bt a b) (fun _ _ _ => rfl) ?_
                    refine fe_s 1 (pc' := cond (fx_cb .eq 1 0) 115 80) (lc' := [(6, .int 44), (5, .int 1), (4, .int 46), (3, .int 40), (2, .int 7), (0, .ref 0), (1, .ref 22)]) (stk' := []) (mem' := fm g tp bt a b) (fun _ _ _ => rfl) ?_
                    rw [show (fx_cb .eq 1 0) = false from by decide]
                    dsimp only [cond]
                    refine fe_s 2 (pc' := 83) (lc' := [(6, .int 44), (5, .int 1), (4, .int 46), (3, .int 40), (2, .int 7), (0, .ref 0), (1, .ref 22)]) (stk' := [.int 44, .ref 22]) (mem' := fm g tp bt a b) (fun _ _ _ => rfl) ?_
                    refine fe_chr (i := 44) (by omega) (by rfl) (by rfl) ⟨by rfl, by rfl⟩ (by rfl) ?_
                    rw [show sk_b.getD 44 0 = 101 from rfl]
                    refine fe_s 4 (pc' := 93) (lc' := [(6, .int 44), (5, .int 1), (4, .int 46), (3, .int 40), (2, .int 7), (0, .ref 0), (1, .ref 22)]) (stk' := [.int 44, .int (g 13), .ref 0, .int 101]) (mem' := fm g tp bt a b) (fun _ _ _ => rfl) ?_
                    try rw [h13]
                    refine fe_s 3 (pc' := 96) (lc' := [(6, .int 44), (5, .int 1), (4, .int 46), (3, .int 40), (2, .int 7), (0, .ref 0), (1, .ref 22)]) (stk' := [.int (((nI F) + 44) - 40), .ref 0, .int 101]) (mem' := fm g tp bt a b) (fun _ _ _ => rfl) ?_
                    rw [show (((nI F) + 44) - 40 : Int32) = nI ((F + 44) - 40) from by simp only [show (44 : Int32) = nI 44 from rfl, show (40 : Int32) = nI 40 from rfl, tg_sub2 (x := F + 44) (y := 40) (by omega), nI_add, fm_mul]]
                    refine fe_ivV (fr_byteAt (S := S) (k := (F + 44) - 40) (g := g) (tp := tp) (bt := bt) (a := a) (b := b) h11 (by omega) (by omega)) (by omega) (by rfl) (by rfl) (by rfl) (by rfl) (by rfl) (by rfl) ?_
                    rcases fm_byte_or a S ((F + 44) - 40) with ⟨e20, q21⟩ | ⟨q21, n19, qn19, e20⟩
                    · rw [e20]
                      refine fe_s 1 (pc' := cond (fx_cb .ne 101 (-1)) 106 102) (lc' := [(6, .int 44), (5, .int 1), (4, .int 46), (3, .int 40), (2, .int 7), (0, .ref 0), (1, .ref 22)]) (stk' := []) (mem' := fm g tp bt a b) (fun _ _ _ => rfl) ?_
                      rw [show (fx_cb .ne 101 (-1)) = true from by decide]
                      dsimp only [cond]
                      refine fe_s 1 (pc' := 107) (lc' := [(6, .int 44), (5, .int 1), (4, .int 46), (3, .int 40), (2, .int 7), (0, .ref 0), (1, .ref 22)]) (stk' := [.int 0]) (mem' := fm g tp bt a b) (fun _ _ _ => rfl) ?_
                      refine fe_w (lc' := [(6, .int 44), (5, .int 1), (4, .int 46), (3, .int 40), (2, .int 7), (0, .ref 0), (1, .ref 22)]) ⟨rfl, rfl, rfl, rfl, rfl, rfl, rfl, trivial⟩ (by show List.Nodup [6, 5, 4, 3, 2, 0, 1]; decide) (by show List.Nodup [6, 5, 4, 3, 2, 0, 1]; decide) ?_
                      exact fail _ _
                    · rw [e20]
                      refine fe_s 1 (pc' := cond (fx_cb .ne 101 (nI n19)) 106 102) (lc' := [(6, .int 44), (5, .int 1), (4, .int 46), (3, .int 40), (2, .int 7), (0, .ref 0), (1, .ref 22)]) (stk' := []) (mem' := fm g tp bt a b) (fun _ _ _ => rfl) ?_
                      by_cases h22 : 101 = n19
                      · rw [show (fx_cb .ne 101 (nI n19)) = false from cb_neF (a := 101) (b := n19) (by omega) (by omega) (by omega)]
                        dsimp only [cond]
                        refine fe_s 2 (pc' := 107) (lc' := [(6, .int 44), (5, .int 1), (4, .int 46), (3, .int 40), (2, .int 7), (0, .ref 0), (1, .ref 22)]) (stk' := [.int 1]) (mem' := fm g tp bt a b) (fun _ _ _ => rfl) ?_
                        refine fe_s 4 (pc' := 70) (lc' := [(6, .int (44 + 1)), (5, .int 1), (4, .int 46), (3, .int 40), (2, .int 7), (0, .ref 0), (1, .ref 22)]) (stk' := [.int (44 + 1)]) (mem' := fm g tp bt a b) (fun _ _ _ => rfl) ?_
                        rw [show (44 + 1 : Int32) = 45 from rfl]
                        refine fe_s 1 (pc' := 72) (lc' := [(6, .int 45), (5, .int 1), (4, .int 46), (3, .int 40), (2, .int 7), (0, .ref 0), (1, .ref 22)]) (stk' := [.int 46, .int 45]) (mem' := fm g tp bt a b) (fun _ _ _ => rfl) ?_
                        refine fe_s 1 (pc' := cond (fx_cb .ge 45 46) 115 75) (lc' := [(6, .int 45), (5, .int 1), (4, .int 46), (3, .int 40), (2, .int 7), (0, .ref 0), (1, .ref 22)]) (stk' := []) (mem' := fm g tp bt a b) (fun _ _ _ => rfl) ?_
                        rw [show (fx_cb .ge 45 46) = false from by decide]
                        dsimp only [cond]
                        refine fe_s 1 (pc' := 77) (lc' := [(6, .int 45), (5, .int 1), (4, .int 46), (3, .int 40), (2, .int 7), (0, .ref 0), (1, .ref 22)]) (stk' := [.int 1]) (mem' := fm g tp bt a b) (fun _ _ _ => rfl) ?_
                        refine fe_s 1 (pc' := cond (fx_cb .eq 1 0) 115 80) (lc' := [(6, .int 45), (5, .int 1), (4, .int 46), (3, .int 40), (2, .int 7), (0, .ref 0), (1, .ref 22)]) (stk' := []) (mem' := fm g tp bt a b) (fun _ _ _ => rfl) ?_
                        rw [show (fx_cb .eq 1 0) = false from by decide]
                        dsimp only [cond]
                        refine fe_s 2 (pc' := 83) (lc' := [(6, .int 45), (5, .int 1), (4, .int 46), (3, .int 40), (2, .int 7), (0, .ref 0), (1, .ref 22)]) (stk' := [.int 45, .ref 22]) (mem' := fm g tp bt a b) (fun _ _ _ => rfl) ?_
                        refine fe_chr (i := 45) (by omega) (by rfl) (by rfl) ⟨by rfl, by rfl⟩ (by rfl) ?_
                        rw [show sk_b.getD 45 0 = 114 from rfl]
                        refine fe_s 4 (pc' := 93) (lc' := [(6, .int 45), (5, .int 1), (4, .int 46), (3, .int 40), (2, .int 7), (0, .ref 0), (1, .ref 22)]) (stk' := [.int 45, .int (g 13), .ref 0, .int 114]) (mem' := fm g tp bt a b) (fun _ _ _ => rfl) ?_
                        try rw [h13]
                        refine fe_s 3 (pc' := 96) (lc' := [(6, .int 45), (5, .int 1), (4, .int 46), (3, .int 40), (2, .int 7), (0, .ref 0), (1, .ref 22)]) (stk' := [.int (((nI F) + 45) - 40), .ref 0, .int 114]) (mem' := fm g tp bt a b) (fun _ _ _ => rfl) ?_
                        rw [show (((nI F) + 45) - 40 : Int32) = nI ((F + 45) - 40) from by simp only [show (45 : Int32) = nI 45 from rfl, show (40 : Int32) = nI 40 from rfl, tg_sub2 (x := F + 45) (y := 40) (by omega), nI_add, fm_mul]]
                        refine fe_ivV (fr_byteAt (S := S) (k := (F + 45) - 40) (g := g) (tp := tp) (bt := bt) (a := a) (b := b) h11 (by omega) (by omega)) (by omega) (by rfl) (by rfl) (by rfl) (by rfl) (by rfl) (by rfl) ?_
                        rcases fm_byte_or a S ((F + 45) - 40) with ⟨e24, q25⟩ | ⟨q25, n23, qn23, e24⟩
                        · rw [e24]
                          refine fe_s 1 (pc' := cond (fx_cb .ne 114 (-1)) 106 102) (lc' := [(6, .int 45), (5, .int 1), (4, .int 46), (3, .int 40), (2, .int 7), (0, .ref 0), (1, .ref 22)]) (stk' := []) (mem' := fm g tp bt a b) (fun _ _ _ => rfl) ?_
                          rw [show (fx_cb .ne 114 (-1)) = true from by decide]
                          dsimp only [cond]
                          refine fe_s 1 (pc' := 107) (lc' := [(6, .int 45), (5, .int 1), (4, .int 46), (3, .int 40), (2, .int 7), (0, .ref 0), (1, .ref 22)]) (stk' := [.int 0]) (mem' := fm g tp bt a b) (fun _ _ _ => rfl) ?_
                          refine fe_w (lc' := [(6, .int 45), (5, .int 1), (4, .int 46), (3, .int 40), (2, .int 7), (0, .ref 0), (1, .ref 22)]) ⟨rfl, rfl, rfl, rfl, rfl, rfl, rfl, trivial⟩ (by show List.Nodup [6, 5, 4, 3, 2, 0, 1]; decide) (by show List.Nodup [6, 5, 4, 3, 2, 0, 1]; decide) ?_
                          exact fail _ _
                        · rw [e24]
                          refine fe_s 1 (pc' := cond (fx_cb .ne 114 (nI n23)) 106 102) (lc' := [(6, .int 45), (5, .int 1), (4, .int 46), (3, .int 40), (2, .int 7), (0, .ref 0), (1, .ref 22)]) (stk' := []) (mem' := fm g tp bt a b) (fun _ _ _ => rfl) ?_
                          by_cases h26 : 114 = n23
                          · rw [show (fx_cb .ne 114 (nI n23)) = false from cb_neF (a := 114) (b := n23) (by omega) (by omega) (by omega)]
                            dsimp only [cond]
                            refine fe_s 2 (pc' := 107) (lc' := [(6, .int 45), (5, .int 1), (4, .int 46), (3, .int 40), (2, .int 7), (0, .ref 0), (1, .ref 22)]) (stk' := [.int 1]) (mem' := fm g tp bt a b) (fun _ _ _ => rfl) ?_
                            refine fe_s 4 (pc' := 70) (lc' := [(6, .int (45 + 1)), (5, .int 1), (4, .int 46), (3, .int 40), (2, .int 7), (0, .ref 0), (1, .ref 22)]) (stk' := [.int (45 + 1)]) (mem' := fm g tp bt a b) (fun _ _ _ => rfl) ?_
                            rw [show (45 + 1 : Int32) = 46 from rfl]
                            refine fe_s 1 (pc' := 72) (lc' := [(6, .int 46), (5, .int 1), (4, .int 46), (3, .int 40), (2, .int 7), (0, .ref 0), (1, .ref 22)]) (stk' := [.int 46, .int 46]) (mem' := fm g tp bt a b) (fun _ _ _ => rfl) ?_
                            refine fe_s 1 (pc' := cond (fx_cb .ge 46 46) 115 75) (lc' := [(6, .int 46), (5, .int 1), (4, .int 46), (3, .int 40), (2, .int 7), (0, .ref 0), (1, .ref 22)]) (stk' := []) (mem' := fm g tp bt a b) (fun _ _ _ => rfl) ?_
                            rw [show (fx_cb .ge 46 46) = true from by decide]
                            dsimp only [cond]
                            refine fe_s 1 (pc' := 117) (lc' := [(6, .int 46), (5, .int 1), (4, .int 46), (3, .int 40), (2, .int 7), (0, .ref 0), (1, .ref 22)]) (stk' := [.int 1]) (mem' := fm g tp bt a b) (fun _ _ _ => rfl) ?_
                            refine fe_s 1 (pc' := cond (fx_cb .eq 1 0) 122 120) (lc' := [(6, .int 46), (5, .int 1), (4, .int 46), (3, .int 40), (2, .int 7), (0, .ref 0), (1, .ref 22)]) (stk' := []) (mem' := fm g tp bt a b) (fun _ _ _ => rfl) ?_
                            rw [show (fx_cb .eq 1 0) = false from by decide]
                            dsimp only [cond]
                            refine fe_s 1 (pc' := 121) (lc' := [(6, .int 46), (5, .int 1), (4, .int 46), (3, .int 40), (2, .int 7), (0, .ref 0), (1, .ref 22)]) (stk' := [.int 7]) (mem' := fm g tp bt a b) (fun _ _ _ => rfl) ?_
                            exact fe_ret ⟨_, Or.inr ⟨7, by omega, rfl⟩, rfl⟩ (by rfl) (by rfl) (by rfl)
                          · rw [show (fx_cb .ne 114 (nI n23)) = true from cb_neT (a := 114) (b := n23) (by omega) (by omega) (by omega)]
                            dsimp only [cond]
                            refine fe_s 1 (pc' := 107) (lc' := [(6, .int 45), (5, .int 1), (4, .int 46), (3, .int 40), (2, .int 7), (0, .ref 0), (1, .ref 22)]) (stk' := [.int 0]) (mem' := fm g tp bt a b) (fun _ _ _ => rfl) ?_
                            refine fe_w (lc' := [(6, .int 45), (5, .int 1), (4, .int 46), (3, .int 40), (2, .int 7), (0, .ref 0), (1, .ref 22)]) ⟨rfl, rfl, rfl, rfl, rfl, rfl, rfl, trivial⟩ (by show List.Nodup [6, 5, 4, 3, 2, 0, 1]; decide) (by show List.Nodup [6, 5, 4, 3, 2, 0, 1]; decide) ?_
                            exact fail _ _
                      · rw [show (fx_cb .ne 101 (nI n19)) = true from cb_neT (a := 101) (b := n19) (by omega) (by omega) (by omega)]
                        dsimp only [cond]
                        refine fe_s 1 (pc' := 107) (lc' := [(6, .int 44), (5, .int 1), (4, .int 46), (3, .int 40), (2, .int 7), (0, .ref 0), (1, .ref 22)]) (stk' := [.int 0]) (mem' := fm g tp bt a b) (fun _ _ _ => rfl) ?_
                        refine fe_w (lc' := [(6, .int 44), (5, .int 1), (4, .int 46), (3, .int 40), (2, .int 7), (0, .ref 0), (1, .ref 22)]) ⟨rfl, rfl, rfl, rfl, rfl, rfl, rfl, trivial⟩ (by show List.Nodup [6, 5, 4, 3, 2, 0, 1]; decide) (by show List.Nodup [6, 5, 4, 3, 2, 0, 1]; decide) ?_
                        exact fail _ _
                  · rw [show (fx_cb .ne 116 (nI n15)) = true from cb_neT (a := 116) (b := n15) (by omega) (by omega) (by omega)]
                    dsimp only [cond]
                    refine fe_s 1 (pc' := 107) (lc' := [(6, .int 43), (5, .int 1), (4, .int 46), (3, .int 40), (2, .int 7), (0, .ref 0), (1, .ref 22)]) (stk' := [.int 0]) (mem' := fm g tp bt a b) (fun _ _ _ => rfl) ?_
                    refine fe_w (lc' := [(6, .int 43), (5, .int 1), (4, .int 46), (3, .int 40), (2, .int 7), (0, .ref 0), (1, .ref 22)]) ⟨rfl, rfl, rfl, rfl, rfl, rfl, rfl, trivial⟩ (by show List.Nodup [6, 5, 4, 3, 2, 0, 1]; decide) (by show List.Nodup [6, 5, 4, 3, 2, 0, 1]; decide) ?_
                    exact fail _ _
              · rw [show (fx_cb .ne 116 (nI n11)) = true from cb_neT (a := 116) (b := n11) (by omega) (by omega) (by omega)]
                dsimp only [cond]
                refine fe_s 1 (pc' := 107) (lc' := [(6, .int 42), (5, .int 1), (4, .int 46), (3, .int 40), (2, .int 7), (0, .ref 0), (1, .ref 22)]) (stk' := [.int 0]) (mem' := fm g tp bt a b) (fun _ _ _ => rfl) ?_
                refine fe_w (lc' := [(6, .int 42), (5, .int 1), (4, .int 46), (3, .int 40), (2, .int 7), (0, .ref 0), (1, .ref 22)]) ⟨rfl, rfl, rfl, rfl, rfl, rfl, rfl, trivial⟩ (by show List.Nodup [6, 5, 4, 3, 2, 0, 1]; decide) (by show List.Nodup [6, 5, 4, 3, 2, 0, 1]; decide) ?_
                exact fail _ _
          · rw [show (fx_cb .ne 101 (nI n7)) = true from cb_neT (a := 101) (b := n7) (by omega) (by omega) (by omega)]
            dsimp only [cond]
            refine fe_s 1 (pc' := 107) (lc' := [(6, .int 41), (5, .int 1), (4, .int 46), (3, .int 40), (2, .int 7), (0, .ref 0), (1, .ref 22)]) (stk' := [.int 0]) (mem' := fm g tp bt a b) (fun _ _ _ => rfl) ?_
            refine fe_w (lc' := [(6, .int 41), (5, .int 1), (4, .int 46), (3, .int 40), (2, .int 7), (0, .ref 0), (1, .ref 22)]) ⟨rfl, rfl, rfl, rfl, rfl, rfl, rfl, trivial⟩ (by show List.Nodup [6, 5, 4, 3, 2, 0, 1]; decide) (by show List.Nodup [6, 5, 4, 3, 2, 0, 1]; decide) ?_
            exact fail _ _
      · rw [show (fx_cb .ne 98 (nI n3)) = true from cb_neT (a := 98) (b := n3) (by omega) (by omega) (by omega)]
        dsimp only [cond]
        refine fe_s 1 (pc' := 107) (lc' := [(6, .int 40), (5, .int 1), (4, .int 46), (3, .int 40), (2, .int 7), (0, .ref 0), (1, .ref 22)]) (stk' := [.int 0]) (mem' := fm g tp bt a b) (fun _ _ _ => rfl) ?_
        refine fe_w (lc' := [(6, .int 40), (5, .int 1), (4, .int 46), (3, .int 40), (2, .int 7), (0, .ref 0), (1, .ref 22)]) ⟨rfl, rfl, rfl, rfl, rfl, rfl, rfl, trivial⟩ (by show List.Nodup [6, 5, 4, 3, 2, 0, 1]; decide) (by show List.Nodup [6, 5, 4, 3, 2, 0, 1]; decide) ?_
        exact fail _ _
  · rw [show (fx_cb .ne 6 (nI (E - F))) = true from cb_neT (a := 6) (b := E - F) (by omega) (by omega) (by omega)]
    dsimp only [cond]
    refine fe_s 4 (pc' := 68) (lc' := [(6, .int 40), (5, .int 0), (4, .int 46), (3, .int 40), (2, .int 7), (0, .ref 0), (1, .ref 22)]) (stk' := []) (mem' := fm g tp bt a b) (fun _ _ _ => rfl) ?_
    refine fe_s 2 (pc' := 72) (lc' := [(6, .int 40), (5, .int 0), (4, .int 46), (3, .int 40), (2, .int 7), (0, .ref 0), (1, .ref 22)]) (stk' := [.int 46, .int 40]) (mem' := fm g tp bt a b) (fun _ _ _ => rfl) ?_
    refine fe_s 1 (pc' := cond (fx_cb .ge 40 46) 115 75) (lc' := [(6, .int 40), (5, .int 0), (4, .int 46), (3, .int 40), (2, .int 7), (0, .ref 0), (1, .ref 22)]) (stk' := []) (mem' := fm g tp bt a b) (fun _ _ _ => rfl) ?_
    rw [show (fx_cb .ge 40 46) = false from by decide]
    dsimp only [cond]
    refine fe_s 1 (pc' := 77) (lc' := [(6, .int 40), (5, .int 0), (4, .int 46), (3, .int 40), (2, .int 7), (0, .ref 0), (1, .ref 22)]) (stk' := [.int 0]) (mem' := fm g tp bt a b) (fun _ _ _ => rfl) ?_
    refine fe_s 1 (pc' := cond (fx_cb .eq 0 0) 115 80) (lc' := [(6, .int 40), (5, .int 0), (4, .int 46), (3, .int 40), (2, .int 7), (0, .ref 0), (1, .ref 22)]) (stk' := []) (mem' := fm g tp bt a b) (fun _ _ _ => rfl) ?_
    rw [show (fx_cb .eq 0 0) = true from by decide]
    dsimp only [cond]
    refine fe_s 1 (pc' := 117) (lc' := [(6, .int 40), (5, .int 0), (4, .int 46), (3, .int 40), (2, .int 7), (0, .ref 0), (1, .ref 22)]) (stk' := [.int 0]) (mem' := fm g tp bt a b) (fun _ _ _ => rfl) ?_
    refine fe_s 1 (pc' := cond (fx_cb .eq 0 0) 122 120) (lc' := [(6, .int 40), (5, .int 0), (4, .int 46), (3, .int 40), (2, .int 7), (0, .ref 0), (1, .ref 22)]) (stk' := []) (mem' := fm g tp bt a b) (fun _ _ _ => rfl) ?_
    rw [show (fx_cb .eq 0 0) = true from by decide]
    dsimp only [cond]
    refine fe_s 4 (pc' := 129) (lc' := [(2, .int (7 + 1)), (6, .int 40), (5, .int 0), (4, .int 46), (3, .int 40), (0, .ref 0), (1, .ref 22)]) (stk' := [.int (46 + 1)]) (mem' := fm g tp bt a b) (fun _ _ _ => rfl) ?_
    rw [show (7 + 1 : Int32) = 8 from rfl]
    rw [show (46 + 1 : Int32) = 47 from rfl]
    refine fe_s 1 (pc' := 130) (lc' := [(3, .int 47), (2, .int 8), (6, .int 40), (5, .int 0), (4, .int 46), (0, .ref 0), (1, .ref 22)]) (stk' := []) (mem' := fm g tp bt a b) (fun _ _ _ => rfl) ?_
    refine fe_s 1 (pc' := fx_to 130 (-116)) (lc' := [(3, .int 47), (2, .int 8), (6, .int 40), (5, .int 0), (4, .int 46), (0, .ref 0), (1, .ref 22)]) (stk' := []) (mem' := fm g tp bt a b) (fun _ _ _ => rfl) ?_
    rw [show fx_to 130 (-116) = 14 from by decide]
    refine fe_w (lc' := [(3, .int 47), (2, .int 8), (0, .ref 0), (1, .ref 22)]) ⟨rfl, rfl, rfl, rfl, trivial⟩ (by show List.Nodup [3, 2, 0, 1]; decide) (by show List.Nodup [3, 2, 6, 5, 4, 0, 1]; decide) ?_
    exact fw_8 hxp
set_option maxHeartbeats 8000000 in
theorem fw_6 {S E F : Nat} (hxp : fm_xp g S E F) : fe_R 1 gk_m226 14 [(3, .int 35), (2, .int 6), (0, .ref 0), (1, .ref 22)] [] (fm g tp bt a b) (fm_FI (fm g tp bt a b)) := by
  obtain ⟨h11, hS9, h14, hES, h13, hFE, -, -, -⟩ := id hxp
  have fail : ∀ (x z : Int32), fe_R 1 gk_m226 107 [(6, .int x), (5, .int z), (4, .int 39), (3, .int 35), (2, .int 6), (0, .ref 0), (1, .ref 22)] [.int 0] (fm g tp bt a b) (fm_FI (fm g tp bt a b)) := by
    intro x z
    refine fe_s 4 (pc' := 70) (lc' := [(6, .int (x + 1)), (5, .int 0), (4, .int 39), (3, .int 35), (2, .int 6), (0, .ref 0), (1, .ref 22)]) (stk' := [.int (x + 1)]) (mem' := fm g tp bt a b) (fun _ _ _ => rfl) ?_
    refine fe_s 1 (pc' := 72) (lc' := [(6, .int (x + 1)), (5, .int 0), (4, .int 39), (3, .int 35), (2, .int 6), (0, .ref 0), (1, .ref 22)]) (stk' := [.int 39, .int (x + 1)]) (mem' := fm g tp bt a b) (fun _ _ _ => rfl) ?_
    refine fe_s 1 (pc' := cond (fx_cb .ge (x + 1) 39) 115 75) (lc' := [(6, .int (x + 1)), (5, .int 0), (4, .int 39), (3, .int 35), (2, .int 6), (0, .ref 0), (1, .ref 22)]) (stk' := []) (mem' := fm g tp bt a b) (fun _ _ _ => rfl) ?_
    cases h1 : fx_cb .ge (x + 1) 39
    · refine fe_s 1 (pc' := 77) (lc' := [(6, .int (x + 1)), (5, .int 0), (4, .int 39), (3, .int 35), (2, .int 6), (0, .ref 0), (1, .ref 22)]) (stk' := [.int 0]) (mem' := fm g tp bt a b) (fun _ _ _ => rfl) ?_
      refine fe_s 1 (pc' := cond (fx_cb .eq 0 0) 115 80) (lc' := [(6, .int (x + 1)), (5, .int 0), (4, .int 39), (3, .int 35), (2, .int 6), (0, .ref 0), (1, .ref 22)]) (stk' := []) (mem' := fm g tp bt a b) (fun _ _ _ => rfl) ?_
      rw [show (fx_cb .eq 0 0) = true from by decide]
      dsimp only [cond]
      refine fe_s 1 (pc' := 117) (lc' := [(6, .int (x + 1)), (5, .int 0), (4, .int 39), (3, .int 35), (2, .int 6), (0, .ref 0), (1, .ref 22)]) (stk' := [.int 0]) (mem' := fm g tp bt a b) (fun _ _ _ => rfl) ?_
      refine fe_s 1 (pc' := cond (fx_cb .eq 0 0) 122 120) (lc' := [(6, .int (x + 1)), (5, .int 0), (4, .int 39), (3, .int 35), (2, .int 6), (0, .ref 0), (1, .ref 22)]) (stk' := []) (mem' := fm g tp bt a b) (fun _ _ _ => rfl) ?_
      rw [show (fx_cb .eq 0 0) = true from by decide]
      dsimp only [cond]
      refine fe_s 4 (pc' := 129) (lc' := [(2, .int (6 + 1)), (6, .int (x + 1)), (5, .int 0), (4, .int 39), (3, .int 35), (0, .ref 0), (1, .ref 22)]) (stk' := [.int (39 + 1)]) (mem' := fm g tp bt a b) (fun _ _ _ => rfl) ?_
      rw [show (6 + 1 : Int32) = 7 from rfl]
      rw [show (39 + 1 : Int32) = 40 from rfl]
      refine fe_s 1 (pc' := 130) (lc' := [(3, .int 40), (2, .int 7), (6, .int (x + 1)), (5, .int 0), (4, .int 39), (0, .ref 0), (1, .ref 22)]) (stk' := []) (mem' := fm g tp bt a b) (fun _ _ _ => rfl) ?_
      refine fe_s 1 (pc' := fx_to 130 (-116)) (lc' := [(3, .int 40), (2, .int 7), (6, .int (x + 1)), (5, .int 0), (4, .int 39), (0, .ref 0), (1, .ref 22)]) (stk' := []) (mem' := fm g tp bt a b) (fun _ _ _ => rfl) ?_
      rw [show fx_to 130 (-116) = 14 from by decide]
      refine fe_w (lc' := [(3, .int 40), (2, .int 7), (0, .ref 0), (1, .ref 22)]) ⟨rfl, rfl, rfl, rfl, trivial⟩ (by show List.Nodup [3, 2, 0, 1]; decide) (by show List.Nodup [3, 2, 6, 5, 4, 0, 1]; decide) ?_
      exact fw_7 hxp
    · refine fe_s 1 (pc' := 117) (lc' := [(6, .int (x + 1)), (5, .int 0), (4, .int 39), (3, .int 35), (2, .int 6), (0, .ref 0), (1, .ref 22)]) (stk' := [.int 0]) (mem' := fm g tp bt a b) (fun _ _ _ => rfl) ?_
      refine fe_s 1 (pc' := cond (fx_cb .eq 0 0) 122 120) (lc' := [(6, .int (x + 1)), (5, .int 0), (4, .int 39), (3, .int 35), (2, .int 6), (0, .ref 0), (1, .ref 22)]) (stk' := []) (mem' := fm g tp bt a b) (fun _ _ _ => rfl) ?_
      rw [show (fx_cb .eq 0 0) = true from by decide]
      dsimp only [cond]
      refine fe_s 4 (pc' := 129) (lc' := [(2, .int (6 + 1)), (6, .int (x + 1)), (5, .int 0), (4, .int 39), (3, .int 35), (0, .ref 0), (1, .ref 22)]) (stk' := [.int (39 + 1)]) (mem' := fm g tp bt a b) (fun _ _ _ => rfl) ?_
      rw [show (6 + 1 : Int32) = 7 from rfl]
      rw [show (39 + 1 : Int32) = 40 from rfl]
      refine fe_s 1 (pc' := 130) (lc' := [(3, .int 40), (2, .int 7), (6, .int (x + 1)), (5, .int 0), (4, .int 39), (0, .ref 0), (1, .ref 22)]) (stk' := []) (mem' := fm g tp bt a b) (fun _ _ _ => rfl) ?_
      refine fe_s 1 (pc' := fx_to 130 (-116)) (lc' := [(3, .int 40), (2, .int 7), (6, .int (x + 1)), (5, .int 0), (4, .int 39), (0, .ref 0), (1, .ref 22)]) (stk' := []) (mem' := fm g tp bt a b) (fun _ _ _ => rfl) ?_
      rw [show fx_to 130 (-116) = 14 from by decide]
      refine fe_w (lc' := [(3, .int 40), (2, .int 7), (0, .ref 0), (1, .ref 22)]) ⟨rfl, rfl, rfl, rfl, trivial⟩ (by show List.Nodup [3, 2, 0, 1]; decide) (by show List.Nodup [3, 2, 6, 5, 4, 0, 1]; decide) ?_
      exact fw_7 hxp
  refine fe_s 2 (pc' := 16) (lc' := [(3, .int 35), (2, .int 6), (0, .ref 0), (1, .ref 22)]) (stk' := [.ref 22, .int 35]) (mem' := fm g tp bt a b) (fun _ _ _ => rfl) ?_
  refine fe_s 1 (pc' := 19) (lc' := [(3, .int 35), (2, .int 6), (0, .ref 0), (1, .ref 22)]) (stk' := [.int 117, .int 35]) (mem' := fm g tp bt a b) (fun _ _ _ => rfl) ?_
  refine fe_s 1 (pc' := cond (fx_cb .ge 35 117) 133 22) (lc' := [(3, .int 35), (2, .int 6), (0, .ref 0), (1, .ref 22)]) (stk' := []) (mem' := fm g tp bt a b) (fun _ _ _ => rfl) ?_
  rw [show (fx_cb .ge 35 117) = false from by decide]
  dsimp only [cond]
  refine fe_s 4 (pc' := 28) (lc' := [(4, .int 35), (3, .int 35), (2, .int 6), (0, .ref 0), (1, .ref 22)]) (stk' := [.int 35, .ref 22]) (mem' := fm g tp bt a b) (fun _ _ _ => rfl) ?_
  refine fe_chr (i := 35) (by omega) (by rfl) (by rfl) ⟨by rfl, by rfl⟩ (by rfl) ?_
  rw [show sk_b.getD 35 0 = 104 from rfl]
  refine fe_s 1 (pc' := 33) (lc' := [(4, .int 35), (3, .int 35), (2, .int 6), (0, .ref 0), (1, .ref 22)]) (stk' := [.int 32, .int 104]) (mem' := fm g tp bt a b) (fun _ _ _ => rfl) ?_
  refine fe_s 1 (pc' := cond (fx_cb .eq 104 32) 42 36) (lc' := [(4, .int 35), (3, .int 35), (2, .int 6), (0, .ref 0), (1, .ref 22)]) (stk' := []) (mem' := fm g tp bt a b) (fun _ _ _ => rfl) ?_
  rw [show (fx_cb .eq 104 32) = false from by decide]
  dsimp only [cond]
  refine fe_s 4 (pc' := 28) (lc' := [(4, .int (35 + 1)), (3, .int 35), (2, .int 6), (0, .ref 0), (1, .ref 22)]) (stk' := [.int (35 + 1), .ref 22]) (mem' := fm g tp bt a b) (fun _ _ _ => rfl) ?_
  rw [show (35 + 1 : Int32) = 36 from rfl]
  refine fe_chr (i := 36) (by omega) (by rfl) (by rfl) ⟨by rfl, by rfl⟩ (by rfl) ?_
  rw [show sk_b.getD 36 0 = 111 from rfl]
  refine fe_s 1 (pc' := 33) (lc' := [(4, .int 36), (3, .int 35), (2, .int 6), (0, .ref 0), (1, .ref 22)]) (stk' := [.int 32, .int 111]) (mem' := fm g tp bt a b) (fun _ _ _ => rfl) ?_
  refine fe_s 1 (pc' := cond (fx_cb .eq 111 32) 42 36) (lc' := [(4, .int 36), (3, .int 35), (2, .int 6), (0, .ref 0), (1, .ref 22)]) (stk' := []) (mem' := fm g tp bt a b) (fun _ _ _ => rfl) ?_
  rw [show (fx_cb .eq 111 32) = false from by decide]
  dsimp only [cond]
  refine fe_s 4 (pc' := 28) (lc' := [(4, .int (36 + 1)), (3, .int 35), (2, .int 6), (0, .ref 0), (1, .ref 22)]) (stk' := [.int (36 + 1), .ref 22]) (mem' := fm g tp bt a b) (fun _ _ _ => rfl) ?_
  rw [show (36 + 1 : Int32) = 37 from rfl]
  refine fe_chr (i := 37) (by omega) (by rfl) (by rfl) ⟨by rfl, by rfl⟩ (by rfl) ?_
  rw [show sk_b.getD 37 0 = 117 from rfl]
  refine fe_s 1 (pc' := 33) (lc' := [(4, .int 37), (3, .int 35), (2, .int 6), (0, .ref 0), (1, .ref 22)]) (stk' := [.int 32, .int 117]) (mem' := fm g tp bt a b) (fun _ _ _ => rfl) ?_
  refine fe_s 1 (pc' := cond (fx_cb .eq 117 32) 42 36) (lc' := [(4, .int 37), (3, .int 35), (2, .int 6), (0, .ref 0), (1, .ref 22)]) (stk' := []) (mem' := fm g tp bt a b) (fun _ _ _ => rfl) ?_
  rw [show (fx_cb .eq 117 32) = false from by decide]
  dsimp only [cond]
  refine fe_s 4 (pc' := 28) (lc' := [(4, .int (37 + 1)), (3, .int 35), (2, .int 6), (0, .ref 0), (1, .ref 22)]) (stk' := [.int (37 + 1), .ref 22]) (mem' := fm g tp bt a b) (fun _ _ _ => rfl) ?_
  rw [show (37 + 1 : Int32) = 38 from rfl]
  refine fe_chr (i := 38) (by omega) (by rfl) (by rfl) ⟨by rfl, by rfl⟩ (by rfl) ?_
  rw [show sk_b.getD 38 0 = 114 from rfl]
  refine fe_s 1 (pc' := 33) (lc' := [(4, .int 38), (3, .int 35), (2, .int 6), (0, .ref 0), (1, .ref 22)]) (stk' := [.int 32, .int 114]) (mem' := fm g tp bt a b) (fun _ _ _ => rfl) ?_
  refine fe_s 1 (pc' := cond (fx_cb .eq 114 32) 42 36) (lc' := [(4, .int 38), (3, .int 35), (2, .int 6), (0, .ref 0), (1, .ref 22)]) (stk' := []) (mem' := fm g tp bt a b) (fun _ _ _ => rfl) ?_
  rw [show (fx_cb .eq 114 32) = false from by decide]
  dsimp only [cond]
  refine fe_s 4 (pc' := 28) (lc' := [(4, .int (38 + 1)), (3, .int 35), (2, .int 6), (0, .ref 0), (1, .ref 22)]) (stk' := [.int (38 + 1), .ref 22]) (mem' := fm g tp bt a b) (fun _ _ _ => rfl) ?_
  rw [show (38 + 1 : Int32) = 39 from rfl]
  refine fe_chr (i := 39) (by omega) (by rfl) (by rfl) ⟨by rfl, by rfl⟩ (by rfl) ?_
  rw [show sk_b.getD 39 0 = 32 from rfl]
  refine fe_s 1 (pc' := 33) (lc' := [(4, .int 39), (3, .int 35), (2, .int 6), (0, .ref 0), (1, .ref 22)]) (stk' := [.int 32, .int 32]) (mem' := fm g tp bt a b) (fun _ _ _ => rfl) ?_
  refine fe_s 1 (pc' := cond (fx_cb .eq 32 32) 42 36) (lc' := [(4, .int 39), (3, .int 35), (2, .int 6), (0, .ref 0), (1, .ref 22)]) (stk' := []) (mem' := fm g tp bt a b) (fun _ _ _ => rfl) ?_
  rw [show (fx_cb .eq 32 32) = true from by decide]
  dsimp only [cond]
  refine fe_s 4 (pc' := 47) (lc' := [(4, .int 39), (3, .int 35), (2, .int 6), (0, .ref 0), (1, .ref 22)]) (stk' := [.ref 0, .int (39 - 35)]) (mem' := fm g tp bt a b) (fun _ _ _ => rfl) ?_
  rw [show (39 - 35 : Int32) = 4 from rfl]
  refine fe_s 4 (pc' := 55) (lc' := [(4, .int 39), (3, .int 35), (2, .int 6), (0, .ref 0), (1, .ref 22)]) (stk' := [.int ((g 14) - (g 13)), .int 4]) (mem' := fm g tp bt a b) (fun _ _ _ => rfl) ?_
  try rw [h14]
  try rw [h13]
  rw [show ((nI E) - (nI F) : Int32) = nI (E - F) from by simp only [tg_sub2 (x := E) (y := F) (by omega), nI_add, fm_mul]]
  refine fe_s 1 (pc' := cond (fx_cb .ne 4 (nI (E - F))) 62 58) (lc' := [(4, .int 39), (3, .int 35), (2, .int 6), (0, .ref 0), (1, .ref 22)]) (stk' := []) (mem' := fm g tp bt a b) (fun _ _ _ => rfl) ?_
  by_cases h2 : 4 = (E - F)
  · rw [show (fx_cb .ne 4 (nI (E - F))) = false from cb_neF (a := 4) (b := E - F) (by omega) (by omega) (by omega)]
    dsimp only [cond]
    refine fe_s 4 (pc' := 66) (lc' := [(5, .int 1), (4, .int 39), (3, .int 35), (2, .int 6), (0, .ref 0), (1, .ref 22)]) (stk' := [.int 35]) (mem' := fm g tp bt a b) (fun _ _ _ => rfl) ?_
    refine fe_s 3 (pc' := 72) (lc' := [(6, .int 35), (5, .int 1), (4, .int 39), (3, .int 35), (2, .int 6), (0, .ref 0), (1, .ref 22)]) (stk' := [.int 39, .int 35]) (mem' := fm g tp bt a b) (fun _ _ _ => rfl) ?_
    refine fe_s 1 (pc' := cond (fx_cb .ge 35 39) 115 75) (lc' := [(6, .int 35), (5, .int 1), (4, .int 39), (3, .int 35), (2, .int 6), (0, .ref 0), (1, .ref 22)]) (stk' := []) (mem' := fm g tp bt a b) (fun _ _ _ => rfl) ?_
    rw [show (fx_cb .ge 35 39) = false from by decide]
    dsimp only [cond]
    refine fe_s 1 (pc' := 77) (lc' := [(6, .int 35), (5, .int 1), (4, .int 39), (3, .int 35), (2, .int 6), (0, .ref 0), (1, .ref 22)]) (stk' := [.int 1]) (mem' := fm g tp bt a b) (fun _ _ _ => rfl) ?_
    refine fe_s 1 (pc' := cond (fx_cb .eq 1 0) 115 80) (lc' := [(6, .int 35), (5, .int 1), (4, .int 39), (3, .int 35), (2, .int 6), (0, .ref 0), (1, .ref 22)]) (stk' := []) (mem' := fm g tp bt a b) (fun _ _ _ => rfl) ?_
    rw [show (fx_cb .eq 1 0) = false from by decide]
    dsimp only [cond]
    refine fe_s 2 (pc' := 83) (lc' := [(6, .int 35), (5, .int 1), (4, .int 39), (3, .int 35), (2, .int 6), (0, .ref 0), (1, .ref 22)]) (stk' := [.int 35, .ref 22]) (mem' := fm g tp bt a b) (fun _ _ _ => rfl) ?_
    refine fe_chr (i := 35) (by omega) (by rfl) (by rfl) ⟨by rfl, by rfl⟩ (by rfl) ?_
    rw [show sk_b.getD 35 0 = 104 from rfl]
    refine fe_s 4 (pc' := 93) (lc' := [(6, .int 35), (5, .int 1), (4, .int 39), (3, .int 35), (2, .int 6), (0, .ref 0), (1, .ref 22)]) (stk' := [.int 35, .int (g 13), .ref 0, .int 104]) (mem' := fm g tp bt a b) (fun _ _ _ => rfl) ?_
    try rw [h13]
    refine fe_s 3 (pc' := 96) (lc' := [(6, .int 35), (5, .int 1), (4, .int 39), (3, .int 35), (2, .int 6), (0, .ref 0), (1, .ref 22)]) (stk' := [.int (((nI F) + 35) - 35), .ref 0, .int 104]) (mem' := fm g tp bt a b) (fun _ _ _ => rfl) ?_
    rw [show (((nI F) + 35) - 35 : Int32) = nI ((F + 35) - 35) from by simp only [show (35 : Int32) = nI 35 from rfl, tg_sub2 (x := F + 35) (y := 35) (by omega), nI_add, fm_mul]]
    refine fe_ivV (fr_byteAt (S := S) (k := (F + 35) - 35) (g := g) (tp := tp) (bt := bt) (a := a) (b := b) h11 (by omega) (by omega)) (by omega) (by rfl) (by rfl) (by rfl) (by rfl) (by rfl) (by rfl) ?_
    rcases fm_byte_or a S ((F + 35) - 35) with ⟨e4, q5⟩ | ⟨q5, n3, qn3, e4⟩
    · rw [e4]
      refine fe_s 1 (pc' := cond (fx_cb .ne 104 (-1)) 106 102) (lc' := [(6, .int 35), (5, .int 1), (4, .int 39), (3, .int 35), (2, .int 6), (0, .ref 0), (1, .ref 22)]) (stk' := []) (mem' := fm g tp bt a b) (fun _ _ _ => rfl) ?_
      rw [show (fx_cb .ne 104 (-1)) = true from by decide]
      dsimp only [cond]
      refine fe_s 1 (pc' := 107) (lc' := [(6, .int 35), (5, .int 1), (4, .int 39), (3, .int 35), (2, .int 6), (0, .ref 0), (1, .ref 22)]) (stk' := [.int 0]) (mem' := fm g tp bt a b) (fun _ _ _ => rfl) ?_
      refine fe_w (lc' := [(6, .int 35), (5, .int 1), (4, .int 39), (3, .int 35), (2, .int 6), (0, .ref 0), (1, .ref 22)]) ⟨rfl, rfl, rfl, rfl, rfl, rfl, rfl, trivial⟩ (by show List.Nodup [6, 5, 4, 3, 2, 0, 1]; decide) (by show List.Nodup [6, 5, 4, 3, 2, 0, 1]; decide) ?_
      exact fail _ _
    · rw [e4]
      refine fe_s 1 (pc' := cond (fx_cb .ne 104 (nI n3)) 106 102) (lc' := [(6, .int 35), (5, .int 1), (4, .int 39), (3, .int 35), (2, .int 6), (0, .ref 0), (1, .ref 22)]) (stk' := []) (mem' := fm g tp bt a b) (fun _ _ _ => rfl) ?_
      by_cases h6 : 104 = n3
      · rw [show (fx_cb .ne 104 (nI n3)) = false from cb_neF (a := 104) (b := n3) (by omega) (by omega) (by omega)]
        dsimp only [cond]
        refine fe_s 2 (pc' := 107) (lc' := [(6, .int 35), (5, .int 1), (4, .int 39), (3, .int 35), (2, .int 6), (0, .ref 0), (1, .ref 22)]) (stk' := [.int 1]) (mem' := fm g tp bt a b) (fun _ _ _ => rfl) ?_
        refine fe_s 4 (pc' := 70) (lc' := [(6, .int (35 + 1)), (5, .int 1), (4, .int 39), (3, .int 35), (2, .int 6), (0, .ref 0), (1, .ref 22)]) (stk' := [.int (35 + 1)]) (mem' := fm g tp bt a b) (fun _ _ _ => rfl) ?_
        rw [show (35 + 1 : Int32) = 36 from rfl]
        refine fe_s 1 (pc' := 72) (lc' := [(6, .int 36), (5, .int 1), (4, .int 39), (3, .int 35), (2, .int 6), (0, .ref 0), (1, .ref 22)]) (stk' := [.int 39, .int 36]) (mem' := fm g tp bt a b) (fun _ _ _ => rfl) ?_
        refine fe_s 1 (pc' := cond (fx_cb .ge 36 39) 115 75) (lc' := [(6, .int 36), (5, .int 1), (4, .int 39), (3, .int 35), (2, .int 6), (0, .ref 0), (1, .ref 22)]) (stk' := []) (mem' := fm g tp bt a b) (fun _ _ _ => rfl) ?_
        rw [show (fx_cb .ge 36 39) = false from by decide]
        dsimp only [cond]
        refine fe_s 1 (pc' := 77) (lc' := [(6, .int 36), (5, .int 1), (4, .int 39), (3, .int 35), (2, .int 6), (0, .ref 0), (1, .ref 22)]) (stk' := [.int 1]) (mem' := fm g tp bt a b) (fun _ _ _ => rfl) ?_
        refine fe_s 1 (pc' := cond (fx_cb .eq 1 0) 115 80) (lc' := [(6, .int 36), (5, .int 1), (4, .int 39), (3, .int 35), (2, .int 6), (0, .ref 0), (1, .ref 22)]) (stk' := []) (mem' := fm g tp bt a b) (fun _ _ _ => rfl) ?_
        rw [show (fx_cb .eq 1 0) = false from by decide]
        dsimp only [cond]
        refine fe_s 2 (pc' := 83) (lc' := [(6, .int 36), (5, .int 1), (4, .int 39), (3, .int 35), (2, .int 6), (0, .ref 0), (1, .ref 22)]) (stk' := [.int 36, .ref 22]) (mem' := fm g tp bt a b) (fun _ _ _ => rfl) ?_
        refine fe_chr (i := 36) (by omega) (by rfl) (by rfl) ⟨by rfl, by rfl⟩ (by rfl) ?_
        rw [show sk_b.getD 36 0 = 111 from rfl]
        refine fe_s 4 (pc' := 93) (lc' := [(6, .int 36), (5, .int 1), (4, .int 39), (3, .int 35), (2, .int 6), (0, .ref 0), (1, .ref 22)]) (stk' := [.int 36, .int (g 13), .ref 0, .int 111]) (mem' := fm g tp bt a b) (fun _ _ _ => rfl) ?_
        try rw [h13]
        refine fe_s 3 (pc' := 96) (lc' := [(6, .int 36), (5, .int 1), (4, .int 39), (3, .int 35), (2, .int 6), (0, .ref 0), (1, .ref 22)]) (stk' := [.int (((nI F) + 36) - 35), .ref 0, .int 111]) (mem' := fm g tp bt a b) (fun _ _ _ => rfl) ?_
        rw [show (((nI F) + 36) - 35 : Int32) = nI ((F + 36) - 35) from by simp only [show (36 : Int32) = nI 36 from rfl, show (35 : Int32) = nI 35 from rfl, tg_sub2 (x := F + 36) (y := 35) (by omega), nI_add, fm_mul]]
        refine fe_ivV (fr_byteAt (S := S) (k := (F + 36) - 35) (g := g) (tp := tp) (bt := bt) (a := a) (b := b) h11 (by omega) (by omega)) (by omega) (by rfl) (by rfl) (by rfl) (by rfl) (by rfl) (by rfl) ?_
        rcases fm_byte_or a S ((F + 36) - 35) with ⟨e8, q9⟩ | ⟨q9, n7, qn7, e8⟩
        · rw [e8]
          refine fe_s 1 (pc' := cond (fx_cb .ne 111 (-1)) 106 102) (lc' := [(6, .int 36), (5, .int 1), (4, .int 39), (3, .int 35), (2, .int 6), (0, .ref 0), (1, .ref 22)]) (stk' := []) (mem' := fm g tp bt a b) (fun _ _ _ => rfl) ?_
          rw [show (fx_cb .ne 111 (-1)) = true from by decide]
          dsimp only [cond]
          refine fe_s 1 (pc' := 107) (lc' := [(6, .int 36), (5, .int 1), (4, .int 39), (3, .int 35), (2, .int 6), (0, .ref 0), (1, .ref 22)]) (stk' := [.int 0]) (mem' := fm g tp bt a b) (fun _ _ _ => rfl) ?_
          refine fe_w (lc' := [(6, .int 36), (5, .int 1), (4, .int 39), (3, .int 35), (2, .int 6), (0, .ref 0), (1, .ref 22)]) ⟨rfl, rfl, rfl, rfl, rfl, rfl, rfl, trivial⟩ (by show List.Nodup [6, 5, 4, 3, 2, 0, 1]; decide) (by show List.Nodup [6, 5, 4, 3, 2, 0, 1]; decide) ?_
          exact fail _ _
        · rw [e8]
          refine fe_s 1 (pc' := cond (fx_cb .ne 111 (nI n7)) 106 102) (lc' := [(6, .int 36), (5, .int 1), (4, .int 39), (3, .int 35), (2, .int 6), (0, .ref 0), (1, .ref 22)]) (stk' := []) (mem' := fm g tp bt a b) (fun _ _ _ => rfl) ?_
          by_cases h10 : 111 = n7
          · rw [show (fx_cb .ne 111 (nI n7)) = false from cb_neF (a := 111) (b := n7) (by omega) (by omega) (by omega)]
            dsimp only [cond]
            refine fe_s 2 (pc' := 107) (lc' := [(6, .int 36), (5, .int 1), (4, .int 39), (3, .int 35), (2, .int 6), (0, .ref 0), (1, .ref 22)]) (stk' := [.int 1]) (mem' := fm g tp bt a b) (fun _ _ _ => rfl) ?_
            refine fe_s 4 (pc' := 70) (lc' := [(6, .int (36 + 1)), (5, .int 1), (4, .int 39), (3, .int 35), (2, .int 6), (0, .ref 0), (1, .ref 22)]) (stk' := [.int (36 + 1)]) (mem' := fm g tp bt a b) (fun _ _ _ => rfl) ?_
            rw [show (36 + 1 : Int32) = 37 from rfl]
            refine fe_s 1 (pc' := 72) (lc' := [(6, .int 37), (5, .int 1), (4, .int 39), (3, .int 35), (2, .int 6), (0, .ref 0), (1, .ref 22)]) (stk' := [.int 39, .int 37]) (mem' := fm g tp bt a b) (fun _ _ _ => rfl) ?_
            refine fe_s 1 (pc' := cond (fx_cb .ge 37 39) 115 75) (lc' := [(6, .int 37), (5, .int 1), (4, .int 39), (3, .int 35), (2, .int 6), (0, .ref 0), (1, .ref 22)]) (stk' := []) (mem' := fm g tp bt a b) (fun _ _ _ => rfl) ?_
            rw [show (fx_cb .ge 37 39) = false from by decide]
            dsimp only [cond]
            refine fe_s 1 (pc' := 77) (lc' := [(6, .int 37), (5, .int 1), (4, .int 39), (3, .int 35), (2, .int 6), (0, .ref 0), (1, .ref 22)]) (stk' := [.int 1]) (mem' := fm g tp bt a b) (fun _ _ _ => rfl) ?_
            refine fe_s 1 (pc' := cond (fx_cb .eq 1 0) 115 80) (lc' := [(6, .int 37), (5, .int 1), (4, .int 39), (3, .int 35), (2, .int 6), (0, .ref 0), (1, .ref 22)]) (stk' := []) (mem' := fm g tp bt a b) (fun _ _ _ => rfl) ?_
            rw [show (fx_cb .eq 1 0) = false from by decide]
            dsimp only [cond]
            refine fe_s 2 (pc' := 83) (lc' := [(6, .int 37), (5, .int 1), (4, .int 39), (3, .int 35), (2, .int 6), (0, .ref 0), (1, .ref 22)]) (stk' := [.int 37, .ref 22]) (mem' := fm g tp bt a b) (fun _ _ _ => rfl) ?_
            refine fe_chr (i := 37) (by omega) (by rfl) (by rfl) ⟨by rfl, by rfl⟩ (by rfl) ?_
            rw [show sk_b.getD 37 0 = 117 from rfl]
            refine fe_s 4 (pc' := 93) (lc' := [(6, .int 37), (5, .int 1), (4, .int 39), (3, .int 35), (2, .int 6), (0, .ref 0), (1, .ref 22)]) (stk' := [.int 37, .int (g 13), .ref 0, .int 117]) (mem' := fm g tp bt a b) (fun _ _ _ => rfl) ?_
            try rw [h13]
            refine fe_s 3 (pc' := 96) (lc' := [(6, .int 37), (5, .int 1), (4, .int 39), (3, .int 35), (2, .int 6), (0, .ref 0), (1, .ref 22)]) (stk' := [.int (((nI F) + 37) - 35), .ref 0, .int 117]) (mem' := fm g tp bt a b) (fun _ _ _ => rfl) ?_
            rw [show (((nI F) + 37) - 35 : Int32) = nI ((F + 37) - 35) from by simp only [show (37 : Int32) = nI 37 from rfl, show (35 : Int32) = nI 35 from rfl, tg_sub2 (x := F + 37) (y := 35) (by omega), nI_add, fm_mul]]
            refine fe_ivV (fr_byteAt (S := S) (k := (F + 37) - 35) (g := g) (tp := tp) (bt := bt) (a := a) (b := b) h11 (by omega) (by omega)) (by omega) (by rfl) (by rfl) (by rfl) (by rfl) (by rfl) (by rfl) ?_
            rcases fm_byte_or a S ((F + 37) - 35) with ⟨e12, q13⟩ | ⟨q13, n11, qn11, e12⟩
            · rw [e12]
              refine fe_s 1 (pc' := cond (fx_cb .ne 117 (-1)) 106 102) (lc' := [(6, .int 37), (5, .int 1), (4, .int 39), (3, .int 35), (2, .int 6), (0, .ref 0), (1, .ref 22)]) (stk' := []) (mem' := fm g tp bt a b) (fun _ _ _ => rfl) ?_
              rw [show (fx_cb .ne 117 (-1)) = true from by decide]
              dsimp only [cond]
              refine fe_s 1 (pc' := 107) (lc' := [(6, .int 37), (5, .int 1), (4, .int 39), (3, .int 35), (2, .int 6), (0, .ref 0), (1, .ref 22)]) (stk' := [.int 0]) (mem' := fm g tp bt a b) (fun _ _ _ => rfl) ?_
              refine fe_w (lc' := [(6, .int 37), (5, .int 1), (4, .int 39), (3, .int 35), (2, .int 6), (0, .ref 0), (1, .ref 22)]) ⟨rfl, rfl, rfl, rfl, rfl, rfl, rfl, trivial⟩ (by show List.Nodup [6, 5, 4, 3, 2, 0, 1]; decide) (by show List.Nodup [6, 5, 4, 3, 2, 0, 1]; decide) ?_
              exact fail _ _
            · rw [e12]
              refine fe_s 1 (pc' := cond (fx_cb .ne 117 (nI n11)) 106 102) (lc' := [(6, .int 37), (5, .int 1), (4, .int 39), (3, .int 35), (2, .int 6), (0, .ref 0), (1, .ref 22)]) (stk' := []) (mem' := fm g tp bt a b) (fun _ _ _ => rfl) ?_
              by_cases h14 : 117 = n11
              · rw [show (fx_cb .ne 117 (nI n11)) = false from cb_neF (a := 117) (b := n11) (by omega) (by omega) (by omega)]
                dsimp only [cond]
                refine fe_s 2 (pc' := 107) (lc' := [(6, .int 37), (5, .int 1), (4, .int 39), (3, .int 35), (2, .int 6), (0, .ref 0), (1, .ref 22)]) (stk' := [.int 1]) (mem' := fm g tp bt a b) (fun _ _ _ => rfl) ?_
                refine fe_s 4 (pc' := 70) (lc' := [(6, .int (37 + 1)), (5, .int 1), (4, .int 39), (3, .int 35), (2, .int 6), (0, .ref 0), (1, .ref 22)]) (stk' := [.int (37 + 1)]) (mem' := fm g tp bt a b) (fun _ _ _ => rfl) ?_
                rw [show (37 + 1 : Int32) = 38 from rfl]
                refine fe_s 1 (pc' := 72) (lc' := [(6, .int 38), (5, .int 1), (4, .int 39), (3, .int 35), (2, .int 6), (0, .ref 0), (1, .ref 22)]) (stk' := [.int 39, .int 38]) (mem' := fm g tp bt a b) (fun _ _ _ => rfl) ?_
                refine fe_s 1 (pc' := cond (fx_cb .ge 38 39) 115 75) (lc' := [(6, .int 38), (5, .int 1), (4, .int 39), (3, .int 35), (2, .int 6), (0, .ref 0), (1, .ref 22)]) (stk' := []) (mem' := fm g tp bt a b) (fun _ _ _ => rfl) ?_
                rw [show (fx_cb .ge 38 39) = false from by decide]
                dsimp only [cond]
                refine fe_s 1 (pc' := 77) (lc' := [(6, .int 38), (5, .int 1), (4, .int 39), (3, .int 35), (2, .int 6), (0, .ref 0), (1, .ref 22)]) (stk' := [.int 1]) (mem' := fm g tp bt a b) (fun _ _ _ => rfl) ?_
                refine fe_s 1 (pc' := cond (fx_cb .eq 1 0) 115 80) (lc' := [(6, .int 38), (5, .int 1), (4, .int 39), (3, .int 35), (2, .int 6), (0, .ref 0), (1, .ref 22)]) (stk' := []) (mem' := fm g tp bt a b) (fun _ _ _ => rfl) ?_
                rw [show (fx_cb .eq 1 0) = false from by decide]
                dsimp only [cond]
                refine fe_s 2 (pc' := 83) (lc' := [(6, .int 38), (5, .int 1), (4, .int 39), (3, .int 35), (2, .int 6), (0, .ref 0), (1, .ref 22)]) (stk' := [.int 38, .ref 22]) (mem' := fm g tp bt a b) (fun _ _ _ => rfl) ?_
                refine fe_chr (i := 38) (by omega) (by rfl) (by rfl) ⟨by rfl, by rfl⟩ (by rfl) ?_
                rw [show sk_b.getD 38 0 = 114 from rfl]
                refine fe_s 4 (pc' := 93) (lc' := [(6, .int 38), (5, .int 1), (4, .int 39), (3, .int 35), (2, .int 6), (0, .ref 0), (1, .ref 22)]) (stk' := [.int 38, .int (g 13), .ref 0, .int 114]) (mem' := fm g tp bt a b) (fun _ _ _ => rfl) ?_
                try rw [h13]
                refine fe_s 3 (pc' := 96) (lc' := [(6, .int 38), (5, .int 1), (4, .int 39), (3, .int 35), (2, .int 6), (0, .ref 0), (1, .ref 22)]) (stk' := [.int (((nI F) + 38) - 35), .ref 0, .int 114]) (mem' := fm g tp bt a b) (fun _ _ _ => rfl) ?_
                rw [show (((nI F) + 38) - 35 : Int32) = nI ((F + 38) - 35) from by simp only [show (38 : Int32) = nI 38 from rfl, show (35 : Int32) = nI 35 from rfl, tg_sub2 (x := F + 38) (y := 35) (by omega), nI_add, fm_mul]]
                refine fe_ivV (fr_byteAt (S := S) (k := (F + 38) - 35) (g := g) (tp := tp) (bt := bt) (a := a) (b := b) h11 (by omega) (by omega)) (by omega) (by rfl) (by rfl) (by rfl) (by rfl) (by rfl) (by rfl) ?_
                rcases fm_byte_or a S ((F + 38) - 35) with ⟨e16, q17⟩ | ⟨q17, n15, qn15, e16⟩
                · rw [e16]
                  refine fe_s 1 (pc' := cond (fx_cb .ne 114 (-1)) 106 102) (lc' := [(6, .int 38), (5, .int 1), (4, .int 39), (3, .int 35), (2, .int 6), (0, .ref 0), (1, .ref 22)]) (stk' := []) (mem' := fm g tp bt a b) (fun _ _ _ => rfl) ?_
                  rw [show (fx_cb .ne 114 (-1)) = true from by decide]
                  dsimp only [cond]
                  refine fe_s 1 (pc' := 107) (lc' := [(6, .int 38), (5, .int 1), (4, .int 39), (3, .int 35), (2, .int 6), (0, .ref 0), (1, .ref 22)]) (stk' := [.int 0]) (mem' := fm g tp bt a b) (fun _ _ _ => rfl) ?_
                  refine fe_w (lc' := [(6, .int 38), (5, .int 1), (4, .int 39), (3, .int 35), (2, .int 6), (0, .ref 0), (1, .ref 22)]) ⟨rfl, rfl, rfl, rfl, rfl, rfl, rfl, trivial⟩ (by show List.Nodup [6, 5, 4, 3, 2, 0, 1]; decide) (by show List.Nodup [6, 5, 4, 3, 2, 0, 1]; decide) ?_
                  exact fail _ _
                · rw [e16]
                  refine fe_s 1 (pc' := cond (fx_cb .ne 114 (nI n15)) 106 102) (lc' := [(6, .int 38), (5, .int 1), (4, .int 39), (3, .int 35), (2, .int 6), (0, .ref 0), (1, .ref 22)]) (stk' := []) (mem' := fm g tp bt a b) (fun _ _ _ => rfl) ?_
                  by_cases h18 : 114 = n15
                  · rw [show (fx_cb .ne 114 (nI n15)) = false from cb_neF (a := 114) (b := n15) (by omega) (by omega) (by omega)]
                    dsimp only [cond]
                    refine fe_s 2 (pc' := 107) (lc' := [(6, .int 38), (5, .int 1), (4, .int 39), (3, .int 35), (2, .int 6), (0, .ref 0), (1, .ref 22)]) (stk' := [.int 1]) (mem' := fm g tp bt a b) (fun _ _ _ => rfl) ?_
                    refine fe_s 4 (pc' := 70) (lc' := [(6, .int (38 + 1)), (5, .int 1), (4, .int 39), (3, .int 35), (2, .int 6), (0, .ref 0), (1, .ref 22)]) (stk' := [.int (38 + 1)]) (mem' := fm g tp bt a b) (fun _ _ _ => rfl) ?_
                    rw [show (38 + 1 : Int32) = 39 from rfl]
                    refine fe_s 1 (pc' := 72) (lc' := [(6, .int 39), (5, .int 1), (4, .int 39), (3, .int 35), (2, .int 6), (0, .ref 0), (1, .ref 22)]) (stk' := [.int 39, .int 39]) (mem' := fm g tp bt a b) (fun _ _ _ => rfl) ?_
                    refine fe_s 1 (pc' := cond (fx_cb .ge 39 39) 115 75) (lc' := [(6, .int 39), (5, .int 1), (4, .int 39), (3, .int 35), (2, .int 6), (0, .ref 0), (1, .ref 22)]) (stk' := []) (mem' := fm g tp bt a b) (fun _ _ _ => rfl) ?_
                    rw [show (fx_cb .ge 39 39) = true from by decide]
                    dsimp only [cond]
                    refine fe_s 1 (pc' := 117) (lc' := [(6, .int 39), (5, .int 1), (4, .int 39), (3, .int 35), (2, .int 6), (0, .ref 0), (1, .ref 22)]) (stk' := [.int 1]) (mem' := fm g tp bt a b) (fun _ _ _ => rfl) ?_
                    refine fe_s 1 (pc' := cond (fx_cb .eq 1 0) 122 120) (lc' := [(6, .int 39), (5, .int 1), (4, .int 39), (3, .int 35), (2, .int 6), (0, .ref 0), (1, .ref 22)]) (stk' := []) (mem' := fm g tp bt a b) (fun _ _ _ => rfl) ?_
                    rw [show (fx_cb .eq 1 0) = false from by decide]
                    dsimp only [cond]
                    refine fe_s 1 (pc' := 121) (lc' := [(6, .int 39), (5, .int 1), (4, .int 39), (3, .int 35), (2, .int 6), (0, .ref 0), (1, .ref 22)]) (stk' := [.int 6]) (mem' := fm g tp bt a b) (fun _ _ _ => rfl) ?_
                    exact fe_ret ⟨_, Or.inr ⟨6, by omega, rfl⟩, rfl⟩ (by rfl) (by rfl) (by rfl)
                  · rw [show (fx_cb .ne 114 (nI n15)) = true from cb_neT (a := 114) (b := n15) (by omega) (by omega) (by omega)]
                    dsimp only [cond]
                    refine fe_s 1 (pc' := 107) (lc' := [(6, .int 38), (5, .int 1), (4, .int 39), (3, .int 35), (2, .int 6), (0, .ref 0), (1, .ref 22)]) (stk' := [.int 0]) (mem' := fm g tp bt a b) (fun _ _ _ => rfl) ?_
                    refine fe_w (lc' := [(6, .int 38), (5, .int 1), (4, .int 39), (3, .int 35), (2, .int 6), (0, .ref 0), (1, .ref 22)]) ⟨rfl, rfl, rfl, rfl, rfl, rfl, rfl, trivial⟩ (by show List.Nodup [6, 5, 4, 3, 2, 0, 1]; decide) (by show List.Nodup [6, 5, 4, 3, 2, 0, 1]; decide) ?_
                    exact fail _ _
              · rw [show (fx_cb .ne 117 (nI n11)) = true from cb_neT (a := 117) (b := n11) (by omega) (by omega) (by omega)]
                dsimp only [cond]
                refine fe_s 1 (pc' := 107) (lc' := [(6, .int 37), (5, .int 1), (4, .int 39), (3, .int 35), (2, .int 6), (0, .ref 0), (1, .ref 22)]) (stk' := [.int 0]) (mem' := fm g tp bt a b) (fun _ _ _ => rfl) ?_
                refine fe_w (lc' := [(6, .int 37), (5, .int 1), (4, .int 39), (3, .int 35), (2, .int 6), (0, .ref 0), (1, .ref 22)]) ⟨rfl, rfl, rfl, rfl, rfl, rfl, rfl, trivial⟩ (by show List.Nodup [6, 5, 4, 3, 2, 0, 1]; decide) (by show List.Nodup [6, 5, 4, 3, 2, 0, 1]; decide) ?_
                exact fail _ _
          · rw [show (fx_cb .ne 111 (nI n7)) = true from cb_neT (a := 111) (b := n7) (by omega) (by omega) (by omega)]
            dsimp only [cond]
            refine fe_s 1 (pc' := 107) (lc' := [(6, .int 36), (5, .int 1), (4, .int 39), (3, .int 35), (2, .int 6), (0, .ref 0), (1, .ref 22)]) (stk' := [.int 0]) (mem' := fm g tp bt a b) (fun _ _ _ => rfl) ?_
            refine fe_w (lc' := [(6, .int 36), (5, .int 1), (4, .int 39), (3, .int 35), (2, .int 6), (0, .ref 0), (1, .ref 22)]) ⟨rfl, rfl, rfl, rfl, rfl, rfl, rfl, trivial⟩ (by show List.Nodup [6, 5, 4, 3, 2, 0, 1]; decide) (by show List.Nodup [6, 5, 4, 3, 2, 0, 1]; decide) ?_
            exact fail _ _
      · rw [show (fx_cb .ne 104 (nI n3)) = true from cb_neT (a := 104) (b := n3) (by omega) (by omega) (by omega)]
        dsimp only [cond]
        refine fe_s 1 (pc' := 107) (lc' := [(6, .int 35), (5, .int 1), (4, .int 39), (3, .int 35), (2, .int 6), (0, .ref 0), (1, .ref 22)]) (stk' := [.int 0]) (mem' := fm g tp bt a b) (fun _ _ _ => rfl) ?_
        refine fe_w (lc' := [(6, .int 35), (5, .int 1), (4, .int 39), (3, .int 35), (2, .int 6), (0, .ref 0), (1, .ref 22)]) ⟨rfl, rfl, rfl, rfl, rfl, rfl, rfl, trivial⟩ (by show List.Nodup [6, 5, 4, 3, 2, 0, 1]; decide) (by show List.Nodup [6, 5, 4, 3, 2, 0, 1]; decide) ?_
        exact fail _ _
  · rw [show (fx_cb .ne 4 (nI (E - F))) = true from cb_neT (a := 4) (b := E - F) (by omega) (by omega) (by omega)]
    dsimp only [cond]
    refine fe_s 4 (pc' := 68) (lc' := [(6, .int 35), (5, .int 0), (4, .int 39), (3, .int 35), (2, .int 6), (0, .ref 0), (1, .ref 22)]) (stk' := []) (mem' := fm g tp bt a b) (fun _ _ _ => rfl) ?_
    refine fe_s 2 (pc' := 72) (lc' := [(6, .int 35), (5, .int 0), (4, .int 39), (3, .int 35), (2, .int 6), (0, .ref 0), (1, .ref 22)]) (stk' := [.int 39, .int 35]) (mem' := fm g tp bt a b) (fun _ _ _ => rfl) ?_
    refine fe_s 1 (pc' := cond (fx_cb .ge 35 39) 115 75) (lc' := [(6, .int 35), (5, .int 0), (4, .int 39), (3, .int 35), (2, .int 6), (0, .ref 0), (1, .ref 22)]) (stk' := []) (mem' := fm g tp bt a b) (fun _ _ _ => rfl) ?_
    rw [show (fx_cb .ge 35 39) = false from by decide]
    dsimp only [cond]
    refine fe_s 1 (pc' := 77) (lc' := [(6, .int 35), (5, .int 0), (4, .int 39), (3, .int 35), (2, .int 6), (0, .ref 0), (1, .ref 22)]) (stk' := [.int 0]) (mem' := fm g tp bt a b) (fun _ _ _ => rfl) ?_
    refine fe_s 1 (pc' := cond (fx_cb .eq 0 0) 115 80) (lc' := [(6, .int 35), (5, .int 0), (4, .int 39), (3, .int 35), (2, .int 6), (0, .ref 0), (1, .ref 22)]) (stk' := []) (mem' := fm g tp bt a b) (fun _ _ _ => rfl) ?_
    rw [show (fx_cb .eq 0 0) = true from by decide]
    dsimp only [cond]
    refine fe_s 1 (pc' := 117) (lc' := [(6, .int 35), (5, .int 0), (4, .int 39), (3, .int 35), (2, .int 6), (0, .ref 0), (1, .ref 22)]) (stk' := [.int 0]) (mem' := fm g tp bt a b) (fun _ _ _ => rfl) ?_
    refine fe_s 1 (pc' := cond (fx_cb .eq 0 0) 122 120) (lc' := [(6, .int 35), (5, .int 0), (4, .int 39), (3, .int 35), (2, .int 6), (0, .ref 0), (1, .ref 22)]) (stk' := []) (mem' := fm g tp bt a b) (fun _ _ _ => rfl) ?_
    rw [show (fx_cb .eq 0 0) = true from by decide]
    dsimp only [cond]
    refine fe_s 4 (pc' := 129) (lc' := [(2, .int (6 + 1)), (6, .int 35), (5, .int 0), (4, .int 39), (3, .int 35), (0, .ref 0), (1, .ref 22)]) (stk' := [.int (39 + 1)]) (mem' := fm g tp bt a b) (fun _ _ _ => rfl) ?_
    rw [show (6 + 1 : Int32) = 7 from rfl]
    rw [show (39 + 1 : Int32) = 40 from rfl]
    refine fe_s 1 (pc' := 130) (lc' := [(3, .int 40), (2, .int 7), (6, .int 35), (5, .int 0), (4, .int 39), (0, .ref 0), (1, .ref 22)]) (stk' := []) (mem' := fm g tp bt a b) (fun _ _ _ => rfl) ?_
    refine fe_s 1 (pc' := fx_to 130 (-116)) (lc' := [(3, .int 40), (2, .int 7), (6, .int 35), (5, .int 0), (4, .int 39), (0, .ref 0), (1, .ref 22)]) (stk' := []) (mem' := fm g tp bt a b) (fun _ _ _ => rfl) ?_
    rw [show fx_to 130 (-116) = 14 from by decide]
    refine fe_w (lc' := [(3, .int 40), (2, .int 7), (0, .ref 0), (1, .ref 22)]) ⟨rfl, rfl, rfl, rfl, trivial⟩ (by show List.Nodup [3, 2, 0, 1]; decide) (by show List.Nodup [3, 2, 6, 5, 4, 0, 1]; decide) ?_
    exact fw_7 hxp
end FIW7
