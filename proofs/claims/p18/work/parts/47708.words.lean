/-! ===== fx: which word it is (8) ===== -/
section FIW8
variable {g : Nat → Int32} {tp bt : Int64} {a : Nat → Nat → Int32} {b : Nat → Nat → Int64}
set_option maxHeartbeats 8000000 in
theorem fw_5 {S E F : Nat} (hxp : fm_xp g S E F) : fe_R 1 gk_m226 14 [(3, .int 29), (2, .int 5), (0, .ref 0), (1, .ref 22)] [] (fm g tp bt a b) (fm_FI (fm g tp bt a b)) := by
  obtain ⟨h11, hS9, h14, hES, h13, hFE, -, -, -⟩ := id hxp
  have fail : ∀ (x z : Int32), fe_R 1 gk_m226 107 [(6, .int x), (5, .int z), (4, .int 34), (3, .int 29), (2, .int 5), (0, .ref 0), (1, .ref 22)] [.int 0] (fm g tp bt a b) (fm_FI (fm g tp bt a b)) := by
    intro x z
    refine fe_s 4 (pc' := 70) (lc' := [(6, .int (x + 1)), (5, .int 0), (4, .int 34), (3, .int 29), (2, .int 5), (0, .ref 0), (1, .ref 22)]) (stk' := [.int (x + 1)]) (mem' := fm g tp bt a b) (fun _ _ _ => rfl) ?_
    refine fe_s 1 (pc' := 72) (lc' := [(6, .int (x + 1)), (5, .int 0), (4, .int 34), (3, .int 29), (2, .int 5), (0, .ref 0), (1, .ref 22)]) (stk' := [.int 34, .int (x + 1)]) (mem' := fm g tp bt a b) (fun _ _ _ => rfl) ?_
    refine fe_s 1 (pc' := cond (fx_cb .ge (x + 1) 34) 115 75) (lc' := [(6, .int (x + 1)), (5, .int 0), (4, .int 34), (3, .int 29), (2, .int 5), (0, .ref 0), (1, .ref 22)]) (stk' := []) (mem' := fm g tp bt a b) (fun _ _ _ => rfl) ?_
    cases h1 : fx_cb .ge (x + 1) 34
    · refine fe_s 1 (pc' := 77) (lc' := [(6, .int (x + 1)), (5, .int 0), (4, .int 34), (3, .int 29), (2, .int 5), (0, .ref 0), (1, .ref 22)]) (stk' := [.int 0]) (mem' := fm g tp bt a b) (fun _ _ _ => rfl) ?_
      refine fe_s 1 (pc' := cond (fx_cb .eq 0 0) 115 80) (lc' := [(6, .int (x + 1)), (5, .int 0), (4, .int 34), (3, .int 29), (2, .int 5), (0, .ref 0), (1, .ref 22)]) (stk' := []) (mem' := fm g tp bt a b) (fun _ _ _ => rfl) ?_
      rw [show (fx_cb .eq 0 0) = true from by decide]
      dsimp only [cond]
      refine fe_s 1 (pc' := 117) (lc' := [(6, .int (x + 1)), (5, .int 0), (4, .int 34), (3, .int 29), (2, .int 5), (0, .ref 0), (1, .ref 22)]) (stk' := [.int 0]) (mem' := fm g tp bt a b) (fun _ _ _ => rfl) ?_
      refine fe_s 1 (pc' := cond (fx_cb .eq 0 0) 122 120) (lc' := [(6, .int (x + 1)), (5, .int 0), (4, .int 34), (3, .int 29), (2, .int 5), (0, .ref 0), (1, .ref 22)]) (stk' := []) (mem' := fm g tp bt a b) (fun _ _ _ => rfl) ?_
      rw [show (fx_cb .eq 0 0) = true from by decide]
      dsimp only [cond]
      refine fe_s 4 (pc' := 129) (lc' := [(2, .int (5 + 1)), (6, .int (x + 1)), (5, .int 0), (4, .int 34), (3, .int 29), (0, .ref 0), (1, .ref 22)]) (stk' := [.int (34 + 1)]) (mem' := fm g tp bt a b) (fun _ _ _ => rfl) ?_
      rw [show (5 + 1 : Int32) = 6 from rfl]
      rw [show (34 + 1 : Int32) = 35 from rfl]
      refine fe_s 1 (pc' := 130) (lc' := [(3, .int 35), (2, .int 6), (6, .int (x + 1)), (5, .int 0), (4, .int 34), (0, .ref 0), (1, .ref 22)]) (stk' := []) (mem' := fm g tp bt a b) (fun _ _ _ => rfl) ?_
      refine fe_s 1 (pc' := fx_to 130 (-116)) (lc' := [(3, .int 35), (2, .int 6), (6, .int (x + 1)), (5, .int 0), (4, .int 34), (0, .ref 0), (1, .ref 22)]) (stk' := []) (mem' := fm g tp bt a b) (fun _ _ _ => rfl) ?_
      rw [show fx_to 130 (-116) = 14 from by decide]
      refine fe_w (lc' := [(3, .int 35), (2, .int 6), (0, .ref 0), (1, .ref 22)]) ⟨rfl, rfl, rfl, rfl, trivial⟩ (by show List.Nodup [3, 2, 0, 1]; decide) (by show List.Nodup [3, 2, 6, 5, 4, 0, 1]; decide) ?_
      exact fw_6 hxp
    · refine fe_s 1 (pc' := 117) (lc' := [(6, .int (x + 1)), (5, .int 0), (4, .int 34), (3, .int 29), (2, .int 5), (0, .ref 0), (1, .ref 22)]) (stk' := [.int 0]) (mem' := fm g tp bt a b) (fun _ _ _ => rfl) ?_
      refine fe_s 1 (pc' := cond (fx_cb .eq 0 0) 122 120) (lc' := [(6, .int (x + 1)), (5, .int 0), (4, .int 34), (3, .int 29), (2, .int 5), (0, .ref 0), (1, .ref 22)]) (stk' := []) (mem' := fm g tp bt a b) (fun _ _ _ => rfl) ?_
      rw [show (fx_cb .eq 0 0) = true from by decide]
      dsimp only [cond]
      refine fe_s 4 (pc' := 129) (lc' := [(2, .int (5 + 1)), (6, .int (x + 1)), (5, .int 0), (4, .int 34), (3, .int 29), (0, .ref 0), (1, .ref 22)]) (stk' := [.int (34 + 1)]) (mem' := fm g tp bt a b) (fun _ _ _ => rfl) ?_
      rw [show (5 + 1 : Int32) = 6 from rfl]
      rw [show (34 + 1 : Int32) = 35 from rfl]
      refine fe_s 1 (pc' := 130) (lc' := [(3, .int 35), (2, .int 6), (6, .int (x + 1)), (5, .int 0), (4, .int 34), (0, .ref 0), (1, .ref 22)]) (stk' := []) (mem' := fm g tp bt a b) (fun _ _ _ => rfl) ?_
      refine fe_s 1 (pc' := fx_to 130 (-116)) (lc' := [(3, .int 35), (2, .int 6), (6, .int (x + 1)), (5, .int 0), (4, .int 34), (0, .ref 0), (1, .ref 22)]) (stk' := []) (mem' := fm g tp bt a b) (fun _ _ _ => rfl) ?_
      rw [show fx_to 130 (-116) = 14 from by decide]
      refine fe_w (lc' := [(3, .int 35), (2, .int 6), (0, .ref 0), (1, .ref 22)]) ⟨rfl, rfl, rfl, rfl, trivial⟩ (by show List.Nodup [3, 2, 0, 1]; decide) (by show List.Nodup [3, 2, 6, 5, 4, 0, 1]; decide) ?_
      exact fw_6 hxp
  refine fe_s 2 (pc' := 16) (lc' := [(3, .int 29), (2, .int 5), (0, .ref 0), (1, .ref 22)]) (stk' := [.ref 22, .int 29]) (mem' := fm g tp bt a b) (fun _ _ _ => rfl) ?_
  refine fe_s 1 (pc' := 19) (lc' := [(3, .int 29), (2, .int 5), (0, .ref 0), (1, .ref 22)]) (stk' := [.int 117, .int 29]) (mem' := fm g tp bt a b) (fun _ _ _ => rfl) ?_
  refine fe_s 1 (pc' := cond (fx_cb .ge 29 117) 133 22) (lc' := [(3, .int 29), (2, .int 5), (0, .ref 0), (1, .ref 22)]) (stk' := []) (mem' := fm g tp bt a b) (fun _ _ _ => rfl) ?_
  rw [show (fx_cb .ge 29 117) = false from by decide]
  dsimp only [cond]
  refine fe_s 4 (pc' := 28) (lc' := [(4, .int 29), (3, .int 29), (2, .int 5), (0, .ref 0), (1, .ref 22)]) (stk' := [.int 29, .ref 22]) (mem' := fm g tp bt a b) (fun _ _ _ => rfl) ?_
  refine fe_chr (i := 29) (by omega) (by rfl) (by rfl) ⟨by rfl, by rfl⟩ (by rfl) ?_
  rw [show sk_b.getD 29 0 = 119 from rfl]
  refine fe_s 1 (pc' := 33) (lc' := [(4, .int 29), (3, .int 29), (2, .int 5), (0, .ref 0), (1, .ref 22)]) (stk' := [.int 32, .int 119]) (mem' := fm g tp bt a b) (fun _ _ _ => rfl) ?_
  refine fe_s 1 (pc' := cond (fx_cb .eq 119 32) 42 36) (lc' := [(4, .int 29), (3, .int 29), (2, .int 5), (0, .ref 0), (1, .ref 22)]) (stk' := []) (mem' := fm g tp bt a b) (fun _ _ _ => rfl) ?_
  rw [show (fx_cb .eq 119 32) = false from by decide]
  dsimp only [cond]
  refine fe_s 4 (pc' := 28) (lc' := [(4, .int (29 + 1)), (3, .int 29), (2, .int 5), (0, .ref 0), (1, .ref 22)]) (stk' := [.int (29 + 1), .ref 22]) (mem' := fm g tp bt a b) (fun _ _ _ => rfl) ?_
  rw [show (29 + 1 : Int32) = 30 from rfl]
  refine fe_chr (i := 30) (by omega) (by rfl) (by rfl) ⟨by rfl, by rfl⟩ (by rfl) ?_
  rw [show sk_b.getD 30 0 = 111 from rfl]
  refine fe_s 1 (pc' := 33) (lc' := [(4, .int 30), (3, .int 29), (2, .int 5), (0, .ref 0), (1, .ref 22)]) (stk' := [.int 32, .int 111]) (mem' := fm g tp bt a b) (fun _ _ _ => rfl) ?_
  refine fe_s 1 (pc' := cond (fx_cb .eq 111 32) 42 36) (lc' := [(4, .int 30), (3, .int 29), (2, .int 5), (0, .ref 0), (1, .ref 22)]) (stk' := []) (mem' := fm g tp bt a b) (fun _ _ _ => rfl) ?_
  rw [show (fx_cb .eq 111 32) = false from by decide]
  dsimp only [cond]
  refine fe_s 4 (pc' := 28) (lc' := [(4, .int (30 + 1)), (3, .int 29), (2, .int 5), (0, .ref 0), (1, .ref 22)]) (stk' := [.int (30 + 1), .ref 22]) (mem' := fm g tp bt a b) (fun _ _ _ => rfl) ?_
  rw [show (30 + 1 : Int32) = 31 from rfl]
  refine fe_chr (i := 31) (by omega) (by rfl) (by rfl) ⟨by rfl, by rfl⟩ (by rfl) ?_
  rw [show sk_b.getD 31 0 = 114 from rfl]
  refine fe_s 1 (pc' := 33) (lc' := [(4, .int 31), (3, .int 29), (2, .int 5), (0, .ref 0), (1, .ref 22)]) (stk' := [.int 32, .int 114]) (mem' := fm g tp bt a b) (fun _ _ _ => rfl) ?_
  refine fe_s 1 (pc' := cond (fx_cb .eq 114 32) 42 36) (lc' := [(4, .int 31), (3, .int 29), (2, .int 5), (0, .ref 0), (1, .ref 22)]) (stk' := []) (mem' := fm g tp bt a b) (fun _ _ _ => rfl) ?_
  rw [show (fx_cb .eq 114 32) = false from by decide]
  dsimp only [cond]
  refine fe_s 4 (pc' := 28) (lc' := [(4, .int (31 + 1)), (3, .int 29), (2, .int 5), (0, .ref 0), (1, .ref 22)]) (stk' := [.int (31 + 1), .ref 22]) (mem' := fm g tp bt a b) (fun _ _ _ => rfl) ?_
  rw [show (31 + 1 : Int32) = 32 from rfl]
  refine fe_chr (i := 32) (by omega) (by rfl) (by rfl) ⟨by rfl, by rfl⟩ (by rfl) ?_
  rw [show sk_b.getD 32 0 = 115 from rfl]
  refine fe_s 1 (pc' := 33) (lc' := [(4, .int 32), (3, .int 29), (2, .int 5), (0, .ref 0), (1, .ref 22)]) (stk' := [.int 32, .int 115]) (mem' := fm g tp bt a b) (fun _ _ _ => rfl) ?_
  refine fe_s 1 (pc' := cond (fx_cb .eq 115 32) 42 36) (lc' := [(4, .int 32), (3, .int 29), (2, .int 5), (0, .ref 0), (1, .ref 22)]) (stk' := []) (mem' := fm g tp bt a b) (fun _ _ _ => rfl) ?_
  rw [show (fx_cb .eq 115 32) = false from by decide]
  dsimp only [cond]
  refine fe_s 4 (pc' := 28) (lc' := [(4, .int (32 + 1)), (3, .int 29), (2, .int 5), (0, .ref 0), (1, .ref 22)]) (stk' := [.int (32 + 1), .ref 22]) (mem' := fm g tp bt a b) (fun _ _ _ => rfl) ?_
  rw [show (32 + 1 : Int32) = 33 from rfl]
  refine fe_chr (i := 33) (by omega) (by rfl) (by rfl) ⟨by rfl, by rfl⟩ (by rfl) ?_
  rw [show sk_b.getD 33 0 = 101 from rfl]
  refine fe_s 1 (pc' := 33) (lc' := [(4, .int 33), (3, .int 29), (2, .int 5), (0, .ref 0), (1, .ref 22)]) (stk' := [.int 32, .int 101]) (mem' := fm g tp bt a b) (fun _ _ _ => rfl) ?_
  refine fe_s 1 (pc' := cond (fx_cb .eq 101 32) 42 36) (lc' := [(4, .int 33), (3, .int 29), (2, .int 5), (0, .ref 0), (1, .ref 22)]) (stk' := []) (mem' := fm g tp bt a b) (fun _ _ _ => rfl) ?_
  rw [show (fx_cb .eq 101 32) = false from by decide]
  dsimp only [cond]
  refine fe_s 4 (pc' := 28) (lc' := [(4, .int (33 + 1)), (3, .int 29), (2, .int 5), (0, .ref 0), (1, .ref 22)]) (stk' := [.int (33 + 1), .ref 22]) (mem' := fm g tp bt a b) (fun _ _ _ => rfl) ?_
  rw [show (33 + 1 : Int32) = 34 from rfl]
  refine fe_chr (i := 34) (by omega) (by rfl) (by rfl) ⟨by rfl, by rfl⟩ (by rfl) ?_
  rw [show sk_b.getD 34 0 = 32 from rfl]
  refine fe_s 1 (pc' := 33) (lc' := [(4, .int 34), (3, .int 29), (2, .int 5), (0, .ref 0), (1, .ref 22)]) (stk' := [.int 32, .int 32]) (mem' := fm g tp bt a b) (fun _ _ _ => rfl) ?_
  refine fe_s 1 (pc' := cond (fx_cb .eq 32 32) 42 36) (lc' := [(4, .int 34), (3, .int 29), (2, .int 5), (0, .ref 0), (1, .ref 22)]) (stk' := []) (mem' := fm g tp bt a b) (fun _ _ _ => rfl) ?_
  rw [show (fx_cb .eq 32 32) = true from by decide]
  dsimp only [cond]
  refine fe_s 4 (pc' := 47) (lc' := [(4, .int 34), (3, .int 29), (2, .int 5), (0, .ref 0), (1, .ref 22)]) (stk' := [.ref 0, .int (34 - 29)]) (mem' := fm g tp bt a b) (fun _ _ _ => rfl) ?_
  rw [show (34 - 29 : Int32) = 5 from rfl]
  refine fe_s 4 (pc' := 55) (lc' := [(4, .int 34), (3, .int 29), (2, .int 5), (0, .ref 0), (1, .ref 22)]) (stk' := [.int ((g 14) - (g 13)), .int 5]) (mem' := fm g tp bt a b) (fun _ _ _ => rfl) ?_
  try rw [h14]
  try rw [h13]
  rw [show ((nI E) - (nI F) : Int32) = nI (E - F) from by simp only [tg_sub2 (x := E) (y := F) (by omega), nI_add, fm_mul]]
  refine fe_s 1 (pc' := cond (fx_cb .ne 5 (nI (E - F))) 62 58) (lc' := [(4, .int 34), (3, .int 29), (2, .int 5), (0, .ref 0), (1, .ref 22)]) (stk' := []) (mem' := fm g tp bt a b) (fun _ _ _ => rfl) ?_
  by_cases h2 : 5 = (E - F)
  · rw [show (fx_cb .ne 5 (nI (E - F))) = false from cb_neF (a := 5) (b := E - F) (by omega) (by omega) (by omega)]
    dsimp only [cond]
    refine fe_s 4 (pc' := 66) (lc' := [(5, .int 1), (4, .int 34), (3, .int 29), (2, .int 5), (0, .ref 0), (1, .ref 22)]) (stk' := [.int 29]) (mem' := fm g tp bt a b) (fun _ _ _ => rfl) ?_
    refine fe_s 3 (pc' := 72) (lc' := [(6, .int 29), (5, .int 1), (4, .int 34), (3, .int 29), (2, .int 5), (0, .ref 0), (1, .ref 22)]) (stk' := [.int 34, .int 29]) (mem' := fm g tp bt a b) (fun _ _ _ => rfl) ?_
    refine fe_s 1 (pc' := cond (fx_cb .ge 29 34) 115 75) (lc' := [(6, .int 29), (5, .int 1), (4, .int 34), (3, .int 29), (2, .int 5), (0, .ref 0), (1, .ref 22)]) (stk' := []) (mem' := fm g tp bt a b) (fun _ _ _ => rfl) ?_
    rw [show (fx_cb .ge 29 34) = false from by decide]
    dsimp only [cond]
    refine fe_s 1 (pc' := 77) (lc' := [(6, .int 29), (5, .int 1), (4, .int 34), (3, .int 29), (2, .int 5), (0, .ref 0), (1, .ref 22)]) (stk' := [.int 1]) (mem' := fm g tp bt a b) (fun _ _ _ => rfl) ?_
    refine fe_s 1 (pc' := cond (fx_cb .eq 1 0) 115 80) (lc' := [(6, .int 29), (5, .int 1), (4, .int 34), (3, .int 29), (2, .int 5), (0, .ref 0), (1, .ref 22)]) (stk' := []) (mem' := fm g tp bt a b) (fun _ _ _ => rfl) ?_
    rw [show (fx_cb .eq 1 0) = false from by decide]
    dsimp only [cond]
    refine fe_s 2 (pc' := 83) (lc' := [(6, .int 29), (5, .int 1), (4, .int 34), (3, .int 29), (2, .int 5), (0, .ref 0), (1, .ref 22)]) (stk' := [.int 29, .ref 22]) (mem' := fm g tp bt a b) (fun _ _ _ => rfl) ?_
    refine fe_chr (i := 29) (by omega) (by rfl) (by rfl) ⟨by rfl, by rfl⟩ (by rfl) ?_
    rw [show sk_b.getD 29 0 = 119 from rfl]
    refine fe_s 4 (pc' := 93) (lc' := [(6, .int 29), (5, .int 1), (4, .int 34), (3, .int 29), (2, .int 5), (0, .ref 0), (1, .ref 22)]) (stk' := [.int 29, .int (g 13), .ref 0, .int 119]) (mem' := fm g tp bt a b) (fun _ _ _ => rfl) ?_
    try rw [h13]
    refine fe_s 3 (pc' := 96) (lc' := [(6, .int 29), (5, .int 1), (4, .int 34), (3, .int 29), (2, .int 5), (0, .ref 0), (1, .ref 22)]) (stk' := [.int (((nI F) + 29) - 29), .ref 0, .int 119]) (mem' := fm g tp bt a b) (fun _ _ _ => rfl) ?_
    rw [show (((nI F) + 29) - 29 : Int32) = nI ((F + 29) - 29) from by simp only [show (29 : Int32) = nI 29 from rfl, tg_sub2 (x := F + 29) (y := 29) (by omega), nI_add, fm_mul]]
    refine fe_ivV (fr_byteAt (S := S) (k := (F + 29) - 29) (g := g) (tp := tp) (bt := bt) (a := a) (b := b) h11 (by omega) (by omega)) (by omega) (by rfl) (by rfl) (by rfl) (by rfl) (by rfl) (by rfl) ?_
    rcases fm_byte_or a S ((F + 29) - 29) with ⟨e4, q5⟩ | ⟨q5, n3, qn3, e4⟩
    · rw [e4]
      refine fe_s 1 (pc' := cond (fx_cb .ne 119 (-1)) 106 102) (lc' := [(6, .int 29), (5, .int 1), (4, .int 34), (3, .int 29), (2, .int 5), (0, .ref 0), (1, .ref 22)]) (stk' := []) (mem' := fm g tp bt a b) (fun _ _ _ => rfl) ?_
      rw [show (fx_cb .ne 119 (-1)) = true from by decide]
      dsimp only [cond]
      refine fe_s 1 (pc' := 107) (lc' := [(6, .int 29), (5, .int 1), (4, .int 34), (3, .int 29), (2, .int 5), (0, .ref 0), (1, .ref 22)]) (stk' := [.int 0]) (mem' := fm g tp bt a b) (fun _ _ _ => rfl) ?_
      refine fe_w (lc' := [(6, .int 29), (5, .int 1), (4, .int 34), (3, .int 29), (2, .int 5), (0, .ref 0), (1, .ref 22)]) ⟨rfl, rfl, rfl, rfl, rfl, rfl, rfl, trivial⟩ (by show List.Nodup [6, 5, 4, 3, 2, 0, 1]; decide) (by show List.Nodup [6, 5, 4, 3, 2, 0, 1]; decide) ?_
      exact fail _ _
    · rw [e4]
      refine fe_s 1 (pc' := cond (fx_cb .ne 119 (nI n3)) 106 102) (lc' := [(6, .int 29), (5, .int 1), (4, .int 34), (3, .int 29), (2, .int 5), (0, .ref 0), (1, .ref 22)]) (stk' := []) (mem' := fm g tp bt a b) (fun _ _ _ => rfl) ?_
      by_cases h6 : 119 = n3
      · rw [show (fx_cb .ne 119 (nI n3)) = false from cb_neF (a := 119) (b := n3) (by omega) (by omega) (by omega)]
        dsimp only [cond]
        refine fe_s 2 (pc' := 107) (lc' := [(6, .int 29), (5, .int 1), (4, .int 34), (3, .int 29), (2, .int 5), (0, .ref 0), (1, .ref 22)]) (stk' := [.int 1]) (mem' := fm g tp bt a b) (fun _ _ _ => rfl) ?_
        refine fe_s 4 (pc' := 70) (lc' := [(6, .int (29 + 1)), (5, .int 1), (4, .int 34), (3, .int 29), (2, .int 5), (0, .ref 0), (1, .ref 22)]) (stk' := [.int (29 + 1)]) (mem' := fm g tp bt a b) (fun _ _ _ => rfl) ?_
        rw [show (29 + 1 : Int32) = 30 from rfl]
        refine fe_s 1 (pc' := 72) (lc' := [(6, .int 30), (5, .int 1), (4, .int 34), (3, .int 29), (2, .int 5), (0, .ref 0), (1, .ref 22)]) (stk' := [.int 34, .int 30]) (mem' := fm g tp bt a b) (fun _ _ _ => rfl) ?_
        refine fe_s 1 (pc' := cond (fx_cb .ge 30 34) 115 75) (lc' := [(6, .int 30), (5, .int 1), (4, .int 34), (3, .int 29), (2, .int 5), (0, .ref 0), (1, .ref 22)]) (stk' := []) (mem' := fm g tp bt a b) (fun _ _ _ => rfl) ?_
        rw [show (fx_cb .ge 30 34) = false from by decide]
        dsimp only [cond]
        refine fe_s 1 (pc' := 77) (lc' := [(6, .int 30), (5, .int 1), (4, .int 34), (3, .int 29), (2, .int 5), (0, .ref 0), (1, .ref 22)]) (stk' := [.int 1]) (mem' := fm g tp bt a b) (fun _ _ _ => rfl) ?_
        refine fe_s 1 (pc' := cond (fx_cb .eq 1 0) 115 80) (lc' := [(6, .int 30), (5, .int 1), (4, .int 34), (3, .int 29), (2, .int 5), (0, .ref 0), (1, .ref 22)]) (stk' := []) (mem' := fm g tp bt a b) (fun _ _ _ => rfl) ?_
        rw [show (fx_cb .eq 1 0) = false from by decide]
        dsimp only [cond]
        refine fe_s 2 (pc' := 83) (lc' := [(6, .int 30), (5, .int 1), (4, .int 34), (3, .int 29), (2, .int 5), (0, .ref 0), (1, .ref 22)]) (stk' := [.int 30, .ref 22]) (mem' := fm g tp bt a b) (fun _ _ _ => rfl) ?_
        refine fe_chr (i := 30) (by omega) (by rfl) (by rfl) ⟨by rfl, by rfl⟩ (by rfl) ?_
        rw [show sk_b.getD 30 0 = 111 from rfl]
        refine fe_s 4 (pc' := 93) (lc' := [(6, .int 30), (5, .int 1), (4, .int 34), (3, .int 29), (2, .int 5), (0, .ref 0), (1, .ref 22)]) (stk' := [.int 30, .int (g 13), .ref 0, .int 111]) (mem' := fm g tp bt a b) (fun _ _ _ => rfl) ?_
        try rw [h13]
        refine fe_s 3 (pc' := 96) (lc' := [(6, .int 30), (5, .int 1), (4, .int 34), (3, .int 29), (2, .int 5), (0, .ref 0), (1, .ref 22)]) (stk' := [.int (((nI F) + 30) - 29), .ref 0, .int 111]) (mem' := fm g tp bt a b) (fun _ _ _ => rfl) ?_
        rw [show (((nI F) + 30) - 29 : Int32) = nI ((F + 30) - 29) from by simp only [show (30 : Int32) = nI 30 from rfl, show (29 : Int32) = nI 29 from rfl, tg_sub2 (x := F + 30) (y := 29) (by omega), nI_add, fm_mul]]
        refine fe_ivV (fr_byteAt (S := S) (k := (F + 30) - 29) (g := g) (tp := tp) (bt := bt) (a := a) (b := b) h11 (by omega) (by omega)) (by omega) (by rfl) (by rfl) (by rfl) (by rfl) (by rfl) (by rfl) ?_
        rcases fm_byte_or a S ((F + 30) - 29) with ⟨e8, q9⟩ | ⟨q9, n7, qn7, e8⟩
        · rw [e8]
          refine fe_s 1 (pc' := cond (fx_cb .ne 111 (-1)) 106 102) (lc' := [(6, .int 30), (5, .int 1), (4, .int 34), (3, .int 29), (2, .int 5), (0, .ref 0), (1, .ref 22)]) (stk' := []) (mem' := fm g tp bt a b) (fun _ _ _ => rfl) ?_
          rw [show (fx_cb .ne 111 (-1)) = true from by decide]
          dsimp only [cond]
          refine fe_s 1 (pc' := 107) (lc' := [(6, .int 30), (5, .int 1), (4, .int 34), (3, .int 29), (2, .int 5), (0, .ref 0), (1, .ref 22)]) (stk' := [.int 0]) (mem' := fm g tp bt a b) (fun _ _ _ => rfl) ?_
          refine fe_w (lc' := [(6, .int 30), (5, .int 1), (4, .int 34), (3, .int 29), (2, .int 5), (0, .ref 0), (1, .ref 22)]) ⟨rfl, rfl, rfl, rfl, rfl, rfl, rfl, trivial⟩ (by show List.Nodup [6, 5, 4, 3, 2, 0, 1]; decide) (by show List.Nodup [6, 5, 4, 3, 2, 0, 1]; decide) ?_
          exact fail _ _
        · rw [e8]
          refine fe_s 1 (pc' := cond (fx_cb .ne 111 (nI n7)) 106 102) (lc' := [(6, .int 30), (5, .int 1), (4, .int 34), (3, .int 29), (2, .int 5), (0, .ref 0), (1, .ref 22)]) (stk' := []) (mem' := fm g tp bt a b) (fun _ _ _ => rfl) ?_
          by_cases h10 : 111 = n7
          · rw [show (fx_cb .ne 111 (nI n7)) = false from cb_neF (a := 111) (b := n7) (by omega) (by omega) (by omega)]
            dsimp only [cond]
            refine fe_s 2 (pc' := 107) (lc' := [(6, .int 30), (5, .int 1), (4, .int 34), (3, .int 29), (2, .int 5), (0, .ref 0), (1, .ref 22)]) (stk' := [.int 1]) (mem' := fm g tp bt a b) (fun _ _ _ => rfl) ?_
            refine fe_s 4 (pc' := 70) (lc' := [(6, .int (30 + 1)), (5, .int 1), (4, .int 34), (3, .int 29), (2, .int 5), (0, .ref 0), (1, .ref 22)]) (stk' := [.int (30 + 1)]) (mem' := fm g tp bt a b) (fun _ _ _ => rfl) ?_
            rw [show (30 + 1 : Int32) = 31 from rfl]
            refine fe_s 1 (pc' := 72) (lc' := [(6, .int 31), (5, .int 1), (4, .int 34), (3, .int 29), (2, .int 5), (0, .ref 0), (1, .ref 22)]) (stk' := [.int 34, .int 31]) (mem' := fm g tp bt a b) (fun _ _ _ => rfl) ?_
            refine fe_s 1 (pc' := cond (fx_cb .ge 31 34) 115 75) (lc' := [(6, .int 31), (5, .int 1), (4, .int 34), (3, .int 29), (2, .int 5), (0, .ref 0), (1, .ref 22)]) (stk' := []) (mem' := fm g tp bt a b) (fun _ _ _ => rfl) ?_
            rw [show (fx_cb .ge 31 34) = false from by decide]
            dsimp only [cond]
            refine fe_s 1 (pc' := 77) (lc' := [(6, .int 31), (5, .int 1), (4, .int 34), (3, .int 29), (2, .int 5), (0, .ref 0), (1, .ref 22)]) (stk' := [.int 1]) (mem' := fm g tp bt a b) (fun _ _ _ => rfl) ?_
            refine fe_s 1 (pc' := cond (fx_cb .eq 1 0) 115 80) (lc' := [(6, .int 31), (5, .int 1), (4, .int 34), (3, .int 29), (2, .int 5), (0, .ref 0), (1, .ref 22)]) (stk' := []) (mem' := fm g tp bt a b) (fun _ _ _ => rfl) ?_
            rw [show (fx_cb .eq 1 0) = false from by decide]
            dsimp only [cond]
            refine fe_s 2 (pc' := 83) (lc' := [(6, .int 31), (5, .int 1), (4, .int 34), (3, .int 29), (2, .int 5), (0, .ref 0), (1, .ref 22)]) (stk' := [.int 31, .ref 22]) (mem' := fm g tp bt a b) (fun _ _ _ => rfl) ?_
            refine fe_chr (i := 31) (by omega) (by rfl) (by rfl) ⟨by rfl, by rfl⟩ (by rfl) ?_
            rw [show sk_b.getD 31 0 = 114 from rfl]
            refine fe_s 4 (pc' := 93) (lc' := [(6, .int 31), (5, .int 1), (4, .int 34), (3, .int 29), (2, .int 5), (0, .ref 0), (1, .ref 22)]) (stk' := [.int 31, .int (g 13), .ref 0, .int 114]) (mem' := fm g tp bt a b) (fun _ _ _ => rfl) ?_
            try rw [h13]
            refine fe_s 3 (pc' := 96) (lc' := [(6, .int 31), (5, .int 1), (4, .int 34), (3, .int 29), (2, .int 5), (0, .ref 0), (1, .ref 22)]) (stk' := [.int (((nI F) + 31) - 29), .ref 0, .int 114]) (mem' := fm g tp bt a b) (fun _ _ _ => rfl) ?_
            rw [show (((nI F) + 31) - 29 : Int32) = nI ((F + 31) - 29) from by simp only [show (31 : Int32) = nI 31 from rfl, show (29 : Int32) = nI 29 from rfl, tg_sub2 (x := F + 31) (y := 29) (by omega), nI_add, fm_mul]]
            refine fe_ivV (fr_byteAt (S := S) (k := (F + 31) - 29) (g := g) (tp := tp) (bt := bt) (a := a) (b := b) h11 (by omega) (by omega)) (by omega) (by rfl) (by rfl) (by rfl) (by rfl) (by rfl) (by rfl) ?_
            rcases fm_byte_or a S ((F + 31) - 29) with ⟨e12, q13⟩ | ⟨q13, n11, qn11, e12⟩
            · rw [e12]
              refine fe_s 1 (pc' := cond (fx_cb .ne 114 (-1)) 106 102) (lc' := [(6, .int 31), (5, .int 1), (4, .int 34), (3, .int 29), (2, .int 5), (0, .ref 0), (1, .ref 22)]) (stk' := []) (mem' := fm g tp bt a b) (fun _ _ _ => rfl) ?_
              rw [show (fx_cb .ne 114 (-1)) = true from by decide]
              dsimp only [cond]
              refine fe_s 1 (pc' := 107) (lc' := [(6, .int 31), (5, .int 1), (4, .int 34), (3, .int 29), (2, .int 5), (0, .ref 0), (1, .ref 22)]) (stk' := [.int 0]) (mem' := fm g tp bt a b) (fun _ _ _ => rfl) ?_
              refine fe_w (lc' := [(6, .int 31), (5, .int 1), (4, .int 34), (3, .int 29), (2, .int 5), (0, .ref 0), (1, .ref 22)]) ⟨rfl, rfl, rfl, rfl, rfl, rfl, rfl, trivial⟩ (by show List.Nodup [6, 5, 4, 3, 2, 0, 1]; decide) (by show List.Nodup [6, 5, 4, 3, 2, 0, 1]; decide) ?_
              exact fail _ _
            · rw [e12]
              refine fe_s 1 (pc' := cond (fx_cb .ne 114 (nI n11)) 106 102) (lc' := [(6, .int 31), (5, .int 1), (4, .int 34), (3, .int 29), (2, .int 5), (0, .ref 0), (1, .ref 22)]) (stk' := []) (mem' := fm g tp bt a b) (fun _ _ _ => rfl) ?_
              by_cases h14 : 114 = n11
              · rw [show (fx_cb .ne 114 (nI n11)) = false from cb_neF (a := 114) (b := n11) (by omega) (by omega) (by omega)]
                dsimp only [cond]
                refine fe_s 2 (pc' := 107) (lc' := [(6, .int 31), (5, .int 1), (4, .int 34), (3, .int 29), (2, .int 5), (0, .ref 0), (1, .ref 22)]) (stk' := [.int 1]) (mem' := fm g tp bt a b) (fun _ _ _ => rfl) ?_
                refine fe_s 4 (pc' := 70) (lc' := [(6, .int (31 + 1)), (5, .int 1), (4, .int 34), (3, .int 29), (2, .int 5), (0, .ref 0), (1, .ref 22)]) (stk' := [.int (31 + 1)]) (mem' := fm g tp bt a b) (fun _ _ _ => rfl) ?_
                rw [show (31 + 1 : Int32) = 32 from rfl]
                refine fe_s 1 (pc' := 72) (lc' := [(6, .int 32), (5, .int 1), (4, .int 34), (3, .int 29), (2, .int 5), (0, .ref 0), (1, .ref 22)]) (stk' := [.int 34, .int 32]) (mem' := fm g tp bt a b) (fun _ _ _ => rfl) ?_
                refine fe_s 1 (pc' := cond (fx_cb .ge 32 34) 115 75) (lc' := [(6, .int 32), (5, .int 1), (4, .int 34), (3, .int 29), (2, .int 5), (0, .ref 0), (1, .ref 22)]) (stk' := []) (mem' := fm g tp bt a b) (fun _ _ _ => rfl) ?_
                rw [show (fx_cb .ge 32 34) = false from by decide]
                dsimp only [cond]
                refine fe_s 1 (pc' := 77) (lc' := [(6, .int 32), (5, .int 1), (4, .int 34), (3, .int 29), (2, .int 5), (0, .ref 0), (1, .ref 22)]) (stk' := [.int 1]) (mem' := fm g tp bt a b) (fun _ _ _ => rfl) ?_
                refine fe_s 1 (pc' := cond (fx_cb .eq 1 0) 115 80) (lc' := [(6, .int 32), (5, .int 1), (4, .int 34), (3, .int 29), (2, .int 5), (0, .ref 0), (1, .ref 22)]) (stk' := []) (mem' := fm g tp bt a b) (fun _ _ _ => rfl) ?_
                rw [show (fx_cb .eq 1 0) = false from by decide]
                dsimp only [cond]
                refine fe_s 2 (pc' := 83) (lc' := [(6, .int 32), (5, .int 1), (4, .int 34), (3, .int 29), (2, .int 5), (0, .ref 0), (1, .ref 22)]) (stk' := [.int 32, .ref 22]) (mem' := fm g tp bt a b) (fun _ _ _ => rfl) ?_
                refine fe_chr (i := 32) (by omega) (by rfl) (by rfl) ⟨by rfl, by rfl⟩ (by rfl) ?_
                rw [show sk_b.getD 32 0 = 115 from rfl]
                refine fe_s 4 (pc' := 93) (lc' := [(6, .int 32), (5, .int 1), (4, .int 34), (3, .int 29), (2, .int 5), (0, .ref 0), (1, .ref 22)]) (stk' := [.int 32, .int (g 13), .ref 0, .int 115]) (mem' := fm g tp bt a b) (fun _ _ _ => rfl) ?_
                try rw [h13]
                refine fe_s 3 (pc' := 96) (lc' := [(6, .int 32), (5, .int 1), (4, .int 34), (3, .int 29), (2, .int 5), (0, .ref 0), (1, .ref 22)]) (stk' := [.int (((nI F) + 32) - 29), .ref 0, .int 115]) (mem' := fm g tp bt a b) (fun _ _ _ => rfl) ?_
                rw [show (((nI F) + 32) - 29 : Int32) = nI ((F + 32) - 29) from by simp only [show (32 : Int32) = nI 32 from rfl, show (29 : Int32) = nI 29 from rfl, tg_sub2 (x := F + 32) (y := 29) (by omega), nI_add, fm_mul]]
                refine fe_ivV (fr_byteAt (S := S) (k := (F + 32) - 29) (g := g) (tp := tp) (bt := bt) (a := a) (b := b) h11 (by omega) (by omega)) (by omega) (by rfl) (by rfl) (by rfl) (by rfl) (by rfl) (by rfl) ?_
                rcases fm_byte_or a S ((F + 32) - 29) with ⟨e16, q17⟩ | ⟨q17, n15, qn15, e16⟩
                · rw [e16]
                  refine fe_s 1 (pc' := cond (fx_cb .ne 115 (-1)) 106 102) (lc' := [(6, .int 32), (5, .int 1), (4, .int 34), (3, .int 29), (2, .int 5), (0, .ref 0), (1, .ref 22)]) (stk' := []) (mem' := fm g tp bt a b) (fun _ _ _ => rfl) ?_
                  rw [show (fx_cb .ne 115 (-1)) = true from by decide]
                  dsimp only [cond]
                  refine fe_s 1 (pc' := 107) (lc' := [(6, .int 32), (5, .int 1), (4, .int 34), (3, .int 29), (2, .int 5), (0, .ref 0), (1, .ref 22)]) (stk' := [.int 0]) (mem' := fm g tp bt a b) (fun _ _ _ => rfl) ?_
                  refine fe_w (lc' := [(6, .int 32), (5, .int 1), (4, .int 34), (3, .int 29), (2, .int 5), (0, .ref 0), (1, .ref 22)]) ⟨rfl, rfl, rfl, rfl, rfl, rfl, rfl, trivial⟩ (by show List.Nodup [6, 5, 4, 3, 2, 0, 1]; decide) (by show List.Nodup [6, 5, 4, 3, 2, 0, 1]; decide) ?_
                  exact fail _ _
                · rw [e16]
                  refine fe_s 1 (pc' := cond (fx_cb .ne 115 (nI n15)) 106 102) (lc' := [(6, .int 32), (5, .int 1), (4, .int 34), (3, .int 29), (2, .int 5), (0, .ref 0), (1, .ref 22)]) (stk' := []) (mem' := fm g tp bt a b) (fun _ _ _ => rfl) ?_
                  by_cases h18 : 115 = n15
                  · rw [show (fx_cb .ne 115 (nI n15)) = false from cb_neF (a := 115) (b := n15) (by omega) (by omega) (by omega)]
                    dsimp only [cond]
                    refine fe_s 2 (pc' := 107) (lc' := [(6, .int 32), (5, .int 1), (4, .int 34), (3, .int 29), (2, .int 5), (0, .ref 0), (1, .ref 22)]) (stk' := [.int 1]) (mem' := fm g tp bt a b) (fun _ _ _ => rfl) ?_
                    refine fe_s 4 (pc' := 70) (lc' := [(6, .int (32 + 1)), (5, .int 1), (4, .int 34), (3, .int 29), (2, .int 5), (0, .ref 0), (1, .ref 22)]) (stk' := [.int (32 + 1)]) (mem' := fm g tp bt a b) (fun _ _ _ => rfl) ?_
                    rw [show (32 + 1 : Int32) = 33 from rfl]
                    refine fe_s 1 (pc' := 72) (lc' := [(6, .int 33), (5, .int 1), (4, .int 34), (3, .int 29), (2, .int 5), (0, .ref 0), (1, .ref 22)]) (stk' := [.int 34, .int 33]) (mem' := fm g tp bt a b) (fun _ _ _ => rfl) ?_
                    refine fe_s 1 (pc' := cond (fx_cb .ge 33 34) 115 75) (lc' := [(6, .int 33), (5, .int 1), (4, .int 34), (3, .int 29), (2, .int 5), (0, .ref 0), (1, .ref 22)]) (stk' := []) (mem' := fm g tp bt a b) (fun _ _ _ => rfl) ?_
                    rw [show (fx_cb .ge 33 34) = false from by decide]
                    dsimp only [cond]
                    refine fe_s 1 (pc' := 77) (lc' := [(6, .int 33), (5, .int 1), (4, .int 34), (3, .int 29), (2, .int 5), (0, .ref 0), (1, .ref 22)]) (stk' := [.int 1]) (mem' := fm g tp bt a b) (fun _ _ _ => rfl) ?_
                    refine fe_s 1 (pc' := cond (fx_cb .eq 1 0) 115 80) (lc' := [(6, .int 33), (5, .int 1), (4, .int 34), (3, .int 29), (2, .int 5), (0, .ref 0), (1, .ref 22)]) (stk' := []) (mem' := fm g tp bt a b) (fun _ _ _ => rfl) ?_
                    rw [show (fx_cb .eq 1 0) = false from by decide]
                    dsimp only [cond]
                    refine fe_s 2 (pc' := 83) (lc' := [(6, .int 33), (5, .int 1), (4, .int 34), (3, .int 29), (2, .int 5), (0, .ref 0), (1, .ref 22)]) (stk' := [.int 33, .ref 22]) (mem' := fm g tp bt a b) (fun _ _ _ => rfl) ?_
                    refine fe_chr (i := 33) (by omega) (by rfl) (by rfl) ⟨by rfl, by rfl⟩ (by rfl) ?_
                    rw [show sk_b.getD 33 0 = 101 from rfl]
                    refine fe_s 4 (pc' := 93) (lc' := [(6, .int 33), (5, .int 1), (4, .int 34), (3, .int 29), (2, .int 5), (0, .ref 0), (1, .ref 22)]) (stk' := [.int 33, .int (g 13), .ref 0, .int 101]) (mem' := fm g tp bt a b) (fun _ _ _ => rfl) ?_
                    try rw [h13]
                    refine fe_s 3 (pc' := 96) (lc' := [(6, .int 33), (5, .int 1), (4, .int 34), (3, .int 29), (2, .int 5), (0, .ref 0), (1, .ref 22)]) (stk' := [.int (((nI F) + 33) - 29), .ref 0, .int 101]) (mem' := fm g tp bt a b) (fun _ _ _ => rfl) ?_
                    rw [show (((nI F) + 33) - 29 : Int32) = nI ((F + 33) - 29) from by simp only [show (33 : Int32) = nI 33 from rfl, show (29 : Int32) = nI 29 from rfl, tg_sub2 (x := F + 33) (y := 29) (by omega), nI_add, fm_mul]]
                    refine fe_ivV (fr_byteAt (S := S) (k := (F + 33) - 29) (g := g) (tp := tp) (bt := bt) (a := a) (b := b) h11 (by omega) (by omega)) (by omega) (by rfl) (by rfl) (by rfl) (by rfl) (by rfl) (by rfl) ?_
                    rcases fm_byte_or a S ((F + 33) - 29) with ⟨e20, q21⟩ | ⟨q21, n19, qn19, e20⟩
                    · rw [e20]
                      refine fe_s 1 (pc' := cond (fx_cb .ne 101 (-1)) 106 102) (lc' := [(6, .int 33), (5, .int 1), (4, .int 34), (3, .int 29), (2, .int 5), (0, .ref 0), (1, .ref 22)]) (stk' := []) (mem' := fm g tp bt a b) (fun _ _ _ => rfl) ?_
                      rw [show (fx_cb .ne 101 (-1)) = true from by decide]
                      dsimp only [cond]
                      refine fe_s 1 (pc' := 107) (lc' := [(6, .int 33), (5, .int 1), (4, .int 34), (3, .int 29), (2, .int 5), (0, .ref 0), (1, .ref 22)]) (stk' := [.int 0]) (mem' := fm g tp bt a b) (fun _ _ _ => rfl) ?_
                      refine fe_w (lc' := [(6, .int 33), (5, .int 1), (4, .int 34), (3, .int 29), (2, .int 5), (0, .ref 0), (1, .ref 22)]) ⟨rfl, rfl, rfl, rfl, rfl, rfl, rfl, trivial⟩ (by show List.Nodup [6, 5, 4, 3, 2, 0, 1]; decide) (by show List.Nodup [6, 5, 4, 3, 2, 0, 1]; decide) ?_
                      exact fail _ _
                    · rw [e20]
                      refine fe_s 1 (pc' := cond (fx_cb .ne 101 (nI n19)) 106 102) (lc' := [(6, .int 33), (5, .int 1), (4, .int 34), (3, .int 29), (2, .int 5), (0, .ref 0), (1, .ref 22)]) (stk' := []) (mem' := fm g tp bt a b) (fun _ _ _ => rfl) ?_
                      by_cases h22 : 101 = n19
                      · rw [show (fx_cb .ne 101 (nI n19)) = false from cb_neF (a := 101) (b := n19) (by omega) (by omega) (by omega)]
                        dsimp only [cond]
                        refine fe_s 2 (pc' := 107) (lc' := [(6, .int 33), (5, .int 1), (4, .int 34), (3, .int 29), (2, .int 5), (0, .ref 0), (1, .ref 22)]) (stk' := [.int 1]) (mem' := fm g tp bt a b) (fun _ _ _ => rfl) ?_
                        refine fe_s 4 (pc' := 70) (lc' := [(6, .int (33 + 1)), (5, .int 1), (4, .int 34), (3, .int 29), (2, .int 5), (0, .ref 0), (1, .ref 22)]) (stk' := [.int (33 + 1)]) (mem' := fm g tp bt a b) (fun _ _ _ => rfl) ?_
                        rw [show (33 + 1 : Int32) = 34 from rfl]
                        refine fe_s 1 (pc' := 72) (lc' := [(6, .int 34), (5, .int 1), (4, .int 34), (3, .int 29), (2, .int 5), (0, .ref 0), (1, .ref 22)]) (stk' := [.int 34, .int 34]) (mem' := fm g tp bt a b) (fun _ _ _ => rfl) ?_
                        refine fe_s 1 (pc' := cond (fx_cb .ge 34 34) 115 75) (lc' := [(6, .int 34), (5, .int 1), (4, .int 34), (3, .int 29), (2, .int 5), (0, .ref 0), (1, .ref 22)]) (stk' := []) (mem' := fm g tp bt a b) (fun _ _ _ => rfl) ?_
                        rw [show (fx_cb .ge 34 34) = true from by decide]
                        dsimp only [cond]
                        refine fe_s 1 (pc' := 117) (lc' := [(6, .int 34), (5, .int 1), (4, .int 34), (3, .int 29), (2, .int 5), (0, .ref 0), (1, .ref 22)]) (stk' := [.int 1]) (mem' := fm g tp bt a b) (fun _ _ _ => rfl) ?_
                        refine fe_s 1 (pc' := cond (fx_cb .eq 1 0) 122 120) (lc' := [(6, .int 34), (5, .int 1), (4, .int 34), (3, .int 29), (2, .int 5), (0, .ref 0), (1, .ref 22)]) (stk' := []) (mem' := fm g tp bt a b) (fun _ _ _ => rfl) ?_
                        rw [show (fx_cb .eq 1 0) = false from by decide]
                        dsimp only [cond]
                        refine fe_s 1 (pc' := 121) (lc' := [(6, .int 34), (5, .int 1), (4, .int 34), (3, .int 29), (2, .int 5), (0, .ref 0), (1, .ref 22)]) (stk' := [.int 5]) (mem' := fm g tp bt a b) (fun _ _ _ => rfl) ?_
                        exact fe_ret ⟨_, Or.inr ⟨5, by omega, rfl⟩, rfl⟩ (by rfl) (by rfl) (by rfl)
                      · rw [show (fx_cb .ne 101 (nI n19)) = true from cb_neT (a := 101) (b := n19) (by omega) (by omega) (by omega)]
                        dsimp only [cond]
                        refine fe_s 1 (pc' := 107) (lc' := [(6, .int 33), (5, .int 1), (4, .int 34), (3, .int 29), (2, .int 5), (0, .ref 0), (1, .ref 22)]) (stk' := [.int 0]) (mem' := fm g tp bt a b) (fun _ _ _ => rfl) ?_
                        refine fe_w (lc' := [(6, .int 33), (5, .int 1), (4, .int 34), (3, .int 29), (2, .int 5), (0, .ref 0), (1, .ref 22)]) ⟨rfl, rfl, rfl, rfl, rfl, rfl, rfl, trivial⟩ (by show List.Nodup [6, 5, 4, 3, 2, 0, 1]; decide) (by show List.Nodup [6, 5, 4, 3, 2, 0, 1]; decide) ?_
                        exact fail _ _
                  · rw [show (fx_cb .ne 115 (nI n15)) = true from cb_neT (a := 115) (b := n15) (by omega) (by omega) (by omega)]
                    dsimp only [cond]
                    refine fe_s 1 (pc' := 107) (lc' := [(6, .int 32), (5, .int 1), (4, .int 34), (3, .int 29), (2, .int 5), (0, .ref 0), (1, .ref 22)]) (stk' := [.int 0]) (mem' := fm g tp bt a b) (fun _ _ _ => rfl) ?_
                    refine fe_w (lc' := [(6, .int 32), (5, .int 1), (4, .int 34), (3, .int 29), (2, .int 5), (0, .ref 0), (1, .ref 22)]) ⟨rfl, rfl, rfl, rfl, rfl, rfl, rfl, trivial⟩ (by show List.Nodup [6, 5, 4, 3, 2, 0, 1]; decide) (by show List.Nodup [6, 5, 4, 3, 2, 0, 1]; decide) ?_
                    exact fail _ _
              · rw [show (fx_cb .ne 114 (nI n11)) = true from cb_neT (a := 114) (b := n11) (by omega) (by omega) (by omega)]
                dsimp only [cond]
                refine fe_s 1 (pc' := 107) (lc' := [(6, .int 31), (5, .int 1), (4, .int 34), (3, .int 29), (2, .int 5), (0, .ref 0), (1, .ref 22)]) (stk' := [.int 0]) (mem' := fm g tp bt a b) (fun _ _ _ => rfl) ?_
                refine fe_w (lc' := [(6, .int 31), (5, .int 1), (4, .int 34), (3, .int 29), (2, .int 5), (0, .ref 0), (1, .ref 22)]) ⟨rfl, rfl, rfl, rfl, rfl, rfl, rfl, trivial⟩ (by show List.Nodup [6, 5, 4, 3, 2, 0, 1]; decide) (by show List.Nodup [6, 5, 4, 3, 2, 0, 1]; decide) ?_
                exact fail _ _
          · rw [show (fx_cb .ne 111 (nI n7)) = true from cb_neT (a := 111) (b := n7) (by omega) (by omega) (by omega)]
            dsimp only [cond]
            refine fe_s 1 (pc' := 107) (lc' := [(6, .int 30), (5, .int 1), (4, .int 34), (3, .int 29), (2, .int 5), (0, .ref 0), (1, .ref 22)]) (stk' := [.int 0]) (mem' := fm g tp bt a b) (fun _ _ _ => rfl) ?_
            refine fe_w (lc' := [(6, .int 30), (5, .int 1), (4, .int 34), (3, .int 29), (2, .int 5), (0, .ref 0), (1, .ref 22)]) ⟨rfl, rfl, rfl, rfl, rfl, rfl, rfl, trivial⟩ (by show List.Nodup [6, 5, 4, 3, 2, 0, 1]; decide) (by show List.Nodup [6, 5, 4, 3, 2, 0, 1]; decide) ?_
            exact fail _ _
      · rw [show (fx_cb .ne 119 (nI n3)) = true from cb_neT (a := 119) (b := n3) (by omega) (by omega) (by omega)]
        dsimp only [cond]
        refine fe_s 1 (pc' := 107) (lc' := [(6, .int 29), (5, .int 1), (4, .int 34), (3, .int 29), (2, .int 5), (0, .ref 0), (1, .ref 22)]) (stk' := [.int 0]) (mem' := fm g tp bt a b) (fun _ _ _ => rfl) ?_
        refine fe_w (lc' := [(6, .int 29), (5, .int 1), (4, .int 34), (3, .int 29), (2, .int 5), (0, .ref 0), (1, .ref 22)]) ⟨rfl, rfl, rfl, rfl, rfl, rfl, rfl, trivial⟩ (by show List.Nodup [6, 5, 4, 3, 2, 0, 1]; decide) (by show List.Nodup [6, 5, 4, 3, 2, 0, 1]; decide) ?_
        exact fail _ _
  · rw [show (fx_cb .ne 5 (nI (E - F))) = true from cb_neT (a := 5) (b := E - F) (by omega) (by omega) (by omega)]
    dsimp only [cond]
    refine fe_s 4 (pc' := 68) (lc' := [(6, .int 29), (5, .int 0), (4, .int 34), (3, .int 29), (2, .int 5), (0, .ref 0), (1, .ref 22)]) (stk' := []) (mem' := fm g tp bt a b) (fun _ _ _ => rfl) ?_
    refine fe_s 2 (pc' := 72) (lc' := [(6, .int 29), (5, .int 0), (4, .int 34), (3, .int 29), (2, .int 5), (0, .ref 0), (1, .ref 22)]) (stk' := [.int 34, .int 29]) (mem' := fm g tp bt a b) (fun _ _ _ => rfl) ?_
    refine fe_s 1 (pc' := cond (fx_cb .ge 29 34) 115 75) (lc' := [(6, .int 29), (5, .int 0), (4, .int 34), (3, .int 29), (2, .int 5), (0, .ref 0), (1, .ref 22)]) (stk' := []) (mem' := fm g tp bt a b) (fun _ _ _ => rfl) ?_
    rw [show (fx_cb .ge 29 34) = false from by decide]
    dsimp only [cond]
    refine fe_s 1 (pc' := 77) (lc' := [(6, .int 29), (5, .int 0), (4, .int 34), (3, .int 29), (2, .int 5), (0, .ref 0), (1, .ref 22)]) (stk' := [.int 0]) (mem' := fm g tp bt a b) (fun _ _ _ => rfl) ?_
    refine fe_s 1 (pc' := cond (fx_cb .eq 0 0) 115 80) (lc' := [(6, .int 29), (5, .int 0), (4, .int 34), (3, .int 29), (2, .int 5), (0, .ref 0), (1, .ref 22)]) (stk' := []) (mem' := fm g tp bt a b) (fun _ _ _ => rfl) ?_
    rw [show (fx_cb .eq 0 0) = true from by decide]
    dsimp only [cond]
    refine fe_s 1 (pc' := 117) (lc' := [(6, .int 29), (5, .int 0), (4, .int 34), (3, .int 29), (2, .int 5), (0, .ref 0), (1, .ref 22)]) (stk' := [.int 0]) (mem' := fm g tp bt a b) (fun _ _ _ => rfl) ?_
    refine fe_s 1 (pc' := cond (fx_cb .eq 0 0) 122 120) (lc' := [(6, .int 29), (5, .int 0), (4, .int 34), (3, .int 29), (2, .int 5), (0, .ref 0), (1, .ref 22)]) (stk' := []) (mem' := fm g tp bt a b) (fun _ _ _ => rfl) ?_
    rw [show (fx_cb .eq 0 0) = true from by decide]
    dsimp only [cond]
    refine fe_s 4 (pc' := 129) (lc' := [(2, .int (5 + 1)), (6, .int 29), (5, .int 0), (4, .int 34), (3, .int 29), (0, .ref 0), (1, .ref 22)]) (stk' := [.int (34 + 1)]) (mem' := fm g tp bt a b) (fun _ _ _ => rfl) ?_
    rw [show (5 + 1 : Int32) = 6 from rfl]
    rw [show (34 + 1 : Int32) = 35 from rfl]
    refine fe_s 1 (pc' := 130) (lc' := [(3, .int 35), (2, .int 6), (6, .int 29), (5, .int 0), (4, .int 34), (0, .ref 0), (1, .ref 22)]) (stk' := []) (mem' := fm g tp bt a b) (fun _ _ _ => rfl) ?_
    refine fe_s 1 (pc' := fx_to 130 (-116)) (lc' := [(3, .int 35), (2, .int 6), (6, .int 29), (5, .int 0), (4, .int 34), (0, .ref 0), (1, .ref 22)]) (stk' := []) (mem' := fm g tp bt a b) (fun _ _ _ => rfl) ?_
    rw [show fx_to 130 (-116) = 14 from by decide]
    refine fe_w (lc' := [(3, .int 35), (2, .int 6), (0, .ref 0), (1, .ref 22)]) ⟨rfl, rfl, rfl, rfl, trivial⟩ (by show List.Nodup [3, 2, 0, 1]; decide) (by show List.Nodup [3, 2, 6, 5, 4, 0, 1]; decide) ?_
    exact fw_6 hxp
set_option maxHeartbeats 8000000 in
theorem fw_4 {S E F : Nat} (hxp : fm_xp g S E F) : fe_R 1 gk_m226 14 [(3, .int 22), (2, .int 4), (0, .ref 0), (1, .ref 22)] [] (fm g tp bt a b) (fm_FI (fm g tp bt a b)) := by
  obtain ⟨h11, hS9, h14, hES, h13, hFE, -, -, -⟩ := id hxp
  have fail : ∀ (x z : Int32), fe_R 1 gk_m226 107 [(6, .int x), (5, .int z), (4, .int 28), (3, .int 22), (2, .int 4), (0, .ref 0), (1, .ref 22)] [.int 0] (fm g tp bt a b) (fm_FI (fm g tp bt a b)) := by
    intro x z
    refine fe_s 4 (pc' := 70) (lc' := [(6, .int (x + 1)), (5, .int 0), (4, .int 28), (3, .int 22), (2, .int 4), (0, .ref 0), (1, .ref 22)]) (stk' := [.int (x + 1)]) (mem' := fm g tp bt a b) (fun _ _ _ => rfl) ?_
    refine fe_s 1 (pc' := 72) (lc' := [(6, .int (x + 1)), (5, .int 0), (4, .int 28), (3, .int 22), (2, .int 4), (0, .ref 0), (1, .ref 22)]) (stk' := [.int 28, .int (x + 1)]) (mem' := fm g tp bt a b) (fun _ _ _ => rfl) ?_
    refine fe_s 1 (pc' := cond (fx_cb .ge (x + 1) 28) 115 75) (lc' := [(6, .int (x + 1)), (5, .int 0), (4, .int 28), (3, .int 22), (2, .int 4), (0, .ref 0), (1, .ref 22)]) (stk' := []) (mem' := fm g tp bt a b) (fun _ _ _ => rfl) ?_
    cases h1 : fx_cb .ge (x + 1) 28
    · refine fe_s 1 (pc' := 77) (lc' := [(6, .int (x + 1)), (5, .int 0), (4, .int 28), (3, .int 22), (2, .int 4), (0, .ref 0), (1, .ref 22)]) (stk' := [.int 0]) (mem' := fm g tp bt a b) (fun _ _ _ => rfl) ?_
      refine fe_s 1 (pc' := cond (fx_cb .eq 0 0) 115 80) (lc' := [(6, .int (x + 1)), (5, .int 0), (4, .int 28), (3, .int 22), (2, .int 4), (0, .ref 0), (1, .ref 22)]) (stk' := []) (mem' := fm g tp bt a b) (fun _ _ _ => rfl) ?_
      rw [show (fx_cb .eq 0 0) = true from by decide]
      dsimp only [cond]
      refine fe_s 1 (pc' := 117) (lc' := [(6, .int (x + 1)), (5, .int 0), (4, .int 28), (3, .int 22), (2, .int 4), (0, .ref 0), (1, .ref 22)]) (stk' := [.int 0]) (mem' := fm g tp bt a b) (fun _ _ _ => rfl) ?_
      refine fe_s 1 (pc' := cond (fx_cb .eq 0 0) 122 120) (lc' := [(6, .int (x + 1)), (5, .int 0), (4, .int 28), (3, .int 22), (2, .int 4), (0, .ref 0), (1, .ref 22)]) (stk' := []) (mem' := fm g tp bt a b) (fun _ _ _ => rfl) ?_
      rw [show (fx_cb .eq 0 0) = true from by decide]
      dsimp only [cond]
      refine fe_s 4 (pc' := 129) (lc' := [(2, .int (4 + 1)), (6, .int (x + 1)), (5, .int 0), (4, .int 28), (3, .int 22), (0, .ref 0), (1, .ref 22)]) (stk' := [.int (28 + 1)]) (mem' := fm g tp bt a b) (fun _ _ _ => rfl) ?_
      rw [show (4 + 1 : Int32) = 5 from rfl]
      rw [show (28 + 1 : Int32) = 29 from rfl]
      refine fe_s 1 (pc' := 130) (lc' := [(3, .int 29), (2, .int 5), (6, .int (x + 1)), (5, .int 0), (4, .int 28), (0, .ref 0), (1, .ref 22)]) (stk' := []) (mem' := fm g tp bt a b) (fun _ _ _ => rfl) ?_
      refine fe_s 1 (pc' := fx_to 130 (-116)) (lc' := [(3, .int 29), (2, .int 5), (6, .int (x + 1)), (5, .int 0), (4, .int 28), (0, .ref 0), (1, .ref 22)]) (stk' := []) (mem' := fm g tp bt a b) (fun _ _ _ => rfl) ?_
      rw [show fx_to 130 (-116) = 14 from by decide]
      refine fe_w (lc' := [(3, .int 29), (2, .int 5), (0, .ref 0), (1, .ref 22)]) ⟨rfl, rfl, rfl, rfl, trivial⟩ (by show List.Nodup [3, 2, 0, 1]; decide) (by show List.Nodup [3, 2, 6, 5, 4, 0, 1]; decide) ?_
      exact fw_5 hxp
    · refine fe_s 1 (pc' := 117) (lc' := [(6, .int (x + 1)), (5, .int 0), (4, .int 28), (3, .int 22), (2, .int 4), (0, .ref 0), (1, .ref 22)]) (stk' := [.int 0]) (mem' := fm g tp bt a b) (fun _ _ _ => rfl) ?_
      refine fe_s 1 (pc' := cond (fx_cb .eq 0 0) 122 120) (lc' := [(6, .int (x + 1)), (5, .int 0), (4, .int 28), (3, .int 22), (2, .int 4), (0, .ref 0), (1, .ref 22)]) (stk' := []) (mem' := fm g tp bt a b) (fun _ _ _ => rfl) ?_
      rw [show (fx_cb .eq 0 0) = true from by decide]
      dsimp only [cond]
      refine fe_s 4 (pc' := 129) (lc' := [(2, .int (4 + 1)), (6, .int (x + 1)), (5, .int 0), (4, .int 28), (3, .int 22), (0, .ref 0), (1, .ref 22)]) (stk' := [.int (28 + 1)]) (mem' := fm g tp bt a b) (fun _ _ _ => rfl) ?_
      rw [show (4 + 1 : Int32) = 5 from rfl]
      rw [show (28 + 1 : Int32) = 29 from rfl]
      refine fe_s 1 (pc' := 130) (lc' := [(3, .int 29), (2, .int 5), (6, .int (x + 1)), (5, .int 0), (4, .int 28), (0, .ref 0), (1, .ref 22)]) (stk' := []) (mem' := fm g tp bt a b) (fun _ _ _ => rfl) ?_
      refine fe_s 1 (pc' := fx_to 130 (-116)) (lc' := [(3, .int 29), (2, .int 5), (6, .int (x + 1)), (5, .int 0), (4, .int 28), (0, .ref 0), (1, .ref 22)]) (stk' := []) (mem' := fm g tp bt a b) (fun _ _ _ => rfl) ?_
      rw [show fx_to 130 (-116) = 14 from by decide]
      refine fe_w (lc' := [(3, .int 29), (2, .int 5), (0, .ref 0), (1, .ref 22)]) ⟨rfl, rfl, rfl, rfl, trivial⟩ (by show List.Nodup [3, 2, 0, 1]; decide) (by show List.Nodup [3, 2, 6, 5, 4, 0, 1]; decide) ?_
      exact fw_5 hxp
  refine fe_s 2 (pc' := 16) (lc' := [(3, .int 22), (2, .int 4), (0, .ref 0), (1, .ref 22)]) (stk' := [.ref 22, .int 22]) (mem' := fm g tp bt a b) (fun _ _ _ => rfl) ?_
  refine fe_s 1 (pc' := 19) (lc' := [(3, .int 22), (2, .int 4), (0, .ref 0), (1, .ref 22)]) (stk' := [.int 117, .int 22]) (mem' := fm g tp bt a b) (fun _ _ _ => rfl) ?_
  refine fe_s 1 (pc' := cond (fx_cb .ge 22 117) 133 22) (lc' := [(3, .int 22), (2, .int 4), (0, .ref 0), (1, .ref 22)]) (stk' := []) (mem' := fm g tp bt a b) (fun _ _ _ => rfl) ?_
  rw [show (fx_cb .ge 22 117) = false from by decide]
  dsimp only [cond]
  refine fe_s 4 (pc' := 28) (lc' := [(4, .int 22), (3, .int 22), (2, .int 4), (0, .ref 0), (1, .ref 22)]) (stk' := [.int 22, .ref 22]) (mem' := fm g tp bt a b) (fun _ _ _ => rfl) ?_
  refine fe_chr (i := 22) (by omega) (by rfl) (by rfl) ⟨by rfl, by rfl⟩ (by rfl) ?_
  rw [show sk_b.getD 22 0 = 119 from rfl]
  refine fe_s 1 (pc' := 33) (lc' := [(4, .int 22), (3, .int 22), (2, .int 4), (0, .ref 0), (1, .ref 22)]) (stk' := [.int 32, .int 119]) (mem' := fm g tp bt a b) (fun _ _ _ => rfl) ?_
  refine fe_s 1 (pc' := cond (fx_cb .eq 119 32) 42 36) (lc' := [(4, .int 22), (3, .int 22), (2, .int 4), (0, .ref 0), (1, .ref 22)]) (stk' := []) (mem' := fm g tp bt a b) (fun _ _ _ => rfl) ?_
  rw [show (fx_cb .eq 119 32) = false from by decide]
  dsimp only [cond]
  refine fe_s 4 (pc' := 28) (lc' := [(4, .int (22 + 1)), (3, .int 22), (2, .int 4), (0, .ref 0), (1, .ref 22)]) (stk' := [.int (22 + 1), .ref 22]) (mem' := fm g tp bt a b) (fun _ _ _ => rfl) ?_
  rw [show (22 + 1 : Int32) = 23 from rfl]
  refine fe_chr (i := 23) (by omega) (by rfl) (by rfl) ⟨by rfl, by rfl⟩ (by rfl) ?_
  rw [show sk_b.getD 23 0 = 97 from rfl]
  refine fe_s 1 (pc' := 33) (lc' := [(4, .int 23), (3, .int 22), (2, .int 4), (0, .ref 0), (1, .ref 22)]) (stk' := [.int 32, .int 97]) (mem' := fm g tp bt a b) (fun _ _ _ => rfl) ?_
  refine fe_s 1 (pc' := cond (fx_cb .eq 97 32) 42 36) (lc' := [(4, .int 23), (3, .int 22), (2, .int 4), (0, .ref 0), (1, .ref 22)]) (stk' := []) (mem' := fm g tp bt a b) (fun _ _ _ => rfl) ?_
  rw [show (fx_cb .eq 97 32) = false from by decide]
  dsimp only [cond]
  refine fe_s 4 (pc' := 28) (lc' := [(4, .int (23 + 1)), (3, .int 22), (2, .int 4), (0, .ref 0), (1, .ref 22)]) (stk' := [.int (23 + 1), .ref 22]) (mem' := fm g tp bt a b) (fun _ _ _ => rfl) ?_
  rw [show (23 + 1 : Int32) = 24 from rfl]
  refine fe_chr (i := 24) (by omega) (by rfl) (by rfl) ⟨by rfl, by rfl⟩ (by rfl) ?_
  rw [show sk_b.getD 24 0 = 108 from rfl]
  refine fe_s 1 (pc' := 33) (lc' := [(4, .int 24), (3, .int 22), (2, .int 4), (0, .ref 0), (1, .ref 22)]) (stk' := [.int 32, .int 108]) (mem' := fm g tp bt a b) (fun _ _ _ => rfl) ?_
  refine fe_s 1 (pc' := cond (fx_cb .eq 108 32) 42 36) (lc' := [(4, .int 24), (3, .int 22), (2, .int 4), (0, .ref 0), (1, .ref 22)]) (stk' := []) (mem' := fm g tp bt a b) (fun _ _ _ => rfl) ?_
  rw [show (fx_cb .eq 108 32) = false from by decide]
  dsimp only [cond]
  refine fe_s 4 (pc' := 28) (lc' := [(4, .int (24 + 1)), (3, .int 22), (2, .int 4), (0, .ref 0), (1, .ref 22)]) (stk' := [.int (24 + 1), .ref 22]) (mem' := fm g tp bt a b) (fun _ _ _ => rfl) ?_
  rw [show (24 + 1 : Int32) = 25 from rfl]
  refine fe_chr (i := 25) (by omega) (by rfl) (by rfl) ⟨by rfl, by rfl⟩ (by rfl) ?_
  rw [show sk_b.getD 25 0 = 107 from rfl]
  refine fe_s 1 (pc' := 33) (lc' := [(4, .int 25), (3, .int 22), (2, .int 4), (0, .ref 0), (1, .ref 22)]) (stk' := [.int 32, .int 107]) (mem' := fm g tp bt a b) (fun _ _ _ => rfl) ?_
  refine fe_s 1 (pc' := cond (fx_cb .eq 107 32) 42 36) (lc' := [(4, .int 25), (3, .int 22), (2, .int 4), (0, .ref 0), (1, .ref 22)]) (stk' := []) (mem' := fm g tp bt a b) (fun _ _ _ => rfl) ?_
  rw [show (fx_cb .eq 107 32) = false from by decide]
  dsimp only [cond]
  refine fe_s 4 (pc' := 28) (lc' := [(4, .int (25 + 1)), (3, .int 22), (2, .int 4), (0, .ref 0), (1, .ref 22)]) (stk' := [.int (25 + 1), .ref 22]) (mem' := fm g tp bt a b) (fun _ _ _ => rfl) ?_
  rw [show (25 + 1 : Int32) = 26 from rfl]
  refine fe_chr (i := 26) (by omega) (by rfl) (by rfl) ⟨by rfl, by rfl⟩ (by rfl) ?_
  rw [show sk_b.getD 26 0 = 101 from rfl]
  refine fe_s 1 (pc' := 33) (lc' := [(4, .int 26), (3, .int 22), (2, .int 4), (0, .ref 0), (1, .ref 22)]) (stk' := [.int 32, .int 101]) (mem' := fm g tp bt a b) (fun _ _ _ => rfl) ?_
  refine fe_s 1 (pc' := cond (fx_cb .eq 101 32) 42 36) (lc' := [(4, .int 26), (3, .int 22), (2, .int 4), (0, .ref 0), (1, .ref 22)]) (stk' := []) (mem' := fm g tp bt a b) (fun _ _ _ => rfl) ?_
  rw [show (fx_cb .eq 101 32) = false from by decide]
  dsimp only [cond]
  refine fe_s 4 (pc' := 28) (lc' := [(4, .int (26 + 1)), (3, .int 22), (2, .int 4), (0, .ref 0), (1, .ref 22)]) (stk' := [.int (26 + 1), .ref 22]) (mem' := fm g tp bt a b) (fun _ _ _ => rfl) ?_
  rw [show (26 + 1 : Int32) = 27 from rfl]
  refine fe_chr (i := 27) (by omega) (by rfl) (by rfl) ⟨by rfl, by rfl⟩ (by rfl) ?_
  rw [show sk_b.getD 27 0 = 114 from rfl]
  refine fe_s 1 (pc' := 33) (lc' := [(4, .int 27), (3, .int 22), (2, .int 4), (0, .ref 0), (1, .ref 22)]) (stk' := [.int 32, .int 114]) (mem' := fm g tp bt a b) (fun _ _ _ => rfl) ?_
  refine fe_s 1 (pc' := cond (fx_cb .eq 114 32) 42 36) (lc' := [(4, .int 27), (3, .int 22), (2, .int 4), (0, .ref 0), (1, .ref 22)]) (stk' := []) (mem' := fm g tp bt a b) (fun _ _ _ => rfl) ?_
  rw [show (fx_cb .eq 114 32) = false from by decide]
  dsimp only [cond]
  refine fe_s 4 (pc' := 28) (lc' := [(4, .int (27 + 1)), (3, .int 22), (2, .int 4), (0, .ref 0), (1, .ref 22)]) (stk' := [.int (27 + 1), .ref 22]) (mem' := fm g tp bt a b) (fun _ _ _ => rfl) ?_
  rw [show (27 + 1 : Int32) = 28 from rfl]
  refine fe_chr (i := 28) (by omega) (by rfl) (by rfl) ⟨by rfl, by rfl⟩ (by rfl) ?_
  rw [show sk_b.getD 28 0 = 32 from rfl]
  refine fe_s 1 (pc' := 33) (lc' := [(4, .int 28), (3, .int 22), (2, .int 4), (0, .ref 0), (1, .ref 22)]) (stk' := [.int 32, .int 32]) (mem' := fm g tp bt a b) (fun _ _ _ => rfl) ?_
  refine fe_s 1 (pc' := cond (fx_cb .eq 32 32) 42 36) (lc' := [(4, .int 28), (3, .int 22), (2, .int 4), (0, .ref 0), (1, .ref 22)]) (stk' := []) (mem' := fm g tp bt a b) (fun _ _ _ => rfl) ?_
  rw [show (fx_cb .eq 32 32) = true from by decide]
  dsimp only [cond]
  refine fe_s 4 (pc' := 47) (lc' := [(4, .int 28), (3, .int 22), (2, .int 4), (0, .ref 0), (1, .ref 22)]) (stk' := [.ref 0, .int (28 - 22)]) (mem' := fm g tp bt a b) (fun _ _ _ => rfl) ?_
  rw [show (28 - 22 : Int32) = 6 from rfl]
  refine fe_s 4 (pc' := 55) (lc' := [(4, .int 28), (3, .int 22), (2, .int 4), (0, .ref 0), (1, .ref 22)]) (stk' := [.int ((g 14) - (g 13)), .int 6]) (mem' := fm g tp bt a b) (fun _ _ _ => rfl) ?_
  try rw [h14]
  try rw [h13]
  rw [show ((nI E) - (nI F) : Int32) = nI (E - F) from by simp only [tg_sub2 (x := E) (y := F) (by omega), nI_add, fm_mul]]
  refine fe_s 1 (pc' := cond (fx_cb .ne 6 (nI (E - F))) 62 58) (lc' := [(4, .int 28), (3, .int 22), (2, .int 4), (0, .ref 0), (1, .ref 22)]) (stk' := []) (mem' := fm g tp bt a b) (fun _ _ _ => rfl) ?_
  by_cases h2 : 6 = (E - F)
  · rw [show (fx_cb .ne 6 (nI (E - F))) = false from cb_neF (a := 6) (b := E - F) (by omega) (by omega) (by omega)]
    dsimp only [cond]
    refine fe_s 4 (pc' := 66) (lc' := [(5, .int 1), (4, .int 28), (3, .int 22), (2, .int 4), (0, .ref 0), (1, .ref 22)]) (stk' := [.int 22]) (mem' := fm g tp bt a b) (fun _ _ _ => rfl) ?_
    refine fe_s 3 (pc' := 72) (lc' := [(6, .int 22), (5, .int 1), (4, .int 28), (3, .int 22), (2, .int 4), (0, .ref 0), (1, .ref 22)]) (stk' := [.int 28, .int 22]) (mem' := fm g tp bt a b) (fun _ _ _ => rfl) ?_
    refine fe_s 1 (pc' := cond (fx_cb .ge 22 28) 115 75) (lc' := [(6, .int 22), (5, .int 1), (4, .int 28), (3, .int 22), (2, .int 4), (0, .ref 0), (1, .ref 22)]) (stk' := []) (mem' := fm g tp bt a b) (fun _ _ _ => rfl) ?_
    rw [show (fx_cb .ge 22 28) = false from by decide]
    dsimp only [cond]
    refine fe_s 1 (pc' := 77) (lc' := [(6, .int 22), (5, .int 1), (4, .int 28), (3, .int 22), (2, .int 4), (0, .ref 0), (1, .ref 22)]) (stk' := [.int 1]) (mem' := fm g tp bt a b) (fun _ _ _ => rfl) ?_
    refine fe_s 1 (pc' := cond (fx_cb .eq 1 0) 115 80) (lc' := [(6, .int 22), (5, .int 1), (4, .int 28), (3, .int 22), (2, .int 4), (0, .ref 0), (1, .ref 22)]) (stk' := []) (mem' := fm g tp bt a b) (fun _ _ _ => rfl) ?_
    rw [show (fx_cb .eq 1 0) = false from by decide]
    dsimp only [cond]
    refine fe_s 2 (pc' := 83) (lc' := [(6, .int 22), (5, .int 1), (4, .int 28), (3, .int 22), (2, .int 4), (0, .ref 0), (1, .ref 22)]) (stk' := [.int 22, .ref 22]) (mem' := fm g tp bt a b) (fun _ _ _ => rfl) ?_
    refine fe_chr (i := 22) (by omega) (by rfl) (by rfl) ⟨by rfl, by rfl⟩ (by rfl) ?_
    rw [show sk_b.getD 22 0 = 119 from rfl]
    refine fe_s 4 (pc' := 93) (lc' := [(6, .int 22), (5, .int 1), (4, .int 28), (3, .int 22), (2, .int 4), (0, .ref 0), (1, .ref 22)]) (stk' := [.int 22, .int (g 13), .ref 0, .int 119]) (mem' := fm g tp bt a b) (fun _ _ _ => rfl) ?_
    try rw [h13]
    refine fe_s 3 (pc' := 96) (lc' := [(6, .int 22), (5, .int 1), (4, .int 28), (3, .int 22), (2, .int 4), (0, .ref 0), (1, .ref 22)]) (stk' := [.int (((nI F) + 22) - 22), .ref 0, .int 119]) (mem' := fm g tp bt a b) (fun _ _ _ => rfl) ?_
    rw [show (((nI F) + 22) - 22 : Int32) = nI ((F + 22) - 22) from by simp only [show (22 : Int32) = nI 22 from rfl, tg_sub2 (x := F + 22) (y := 22) (by omega), nI_add, fm_mul]]
    refine fe_ivV (fr_byteAt (S := S) (k := (F + 22) - 22) (g := g) (tp := tp) (bt := bt) (a := a) (b := b) h11 (by omega) (by omega)) (by omega) (by rfl) (by rfl) (by rfl) (by rfl) (by rfl) (by rfl) ?_
    rcases fm_byte_or a S ((F + 22) - 22) with ⟨e4, q5⟩ | ⟨q5, n3, qn3, e4⟩
    · rw [e4]
      refine fe_s 1 (pc' := cond (fx_cb .ne 119 (-1)) 106 102) (lc' := [(6, .int 22), (5, .int 1), (4, .int 28), (3, .int 22), (2, .int 4), (0, .ref 0), (1, .ref 22)]) (stk' := []) (mem' := fm g tp bt a b) (fun _ _ _ => rfl) ?_
      rw [show (fx_cb .ne 119 (-1)) = true from by decide]
      dsimp only [cond]
      refine fe_s 1 (pc' := 107) (lc' := [(6, .int 22), (5, .int 1), (4, .int 28), (3, .int 22), (2, .int 4), (0, .ref 0), (1, .ref 22)]) (stk' := [.int 0]) (mem' := fm g tp bt a b) (fun _ _ _ => rfl) ?_
      refine fe_w (lc' := [(6, .int 22), (5, .int 1), (4, .int 28), (3, .int 22), (2, .int 4), (0, .ref 0), (1, .ref 22)]) ⟨rfl, rfl, rfl, rfl, rfl, rfl, rfl, trivial⟩ (by show List.Nodup [6, 5, 4, 3, 2, 0, 1]; decide) (by show List.Nodup [6, 5, 4, 3, 2, 0, 1]; decide) ?_
      exact fail _ _
    · rw [e4]
      refine fe_s 1 (pc' := cond (fx_cb .ne 119 (nI n3)) 106 102) (lc' := [(6, .int 22), (5, .int 1), (4, .int 28), (3, .int 22), (2, .int 4), (0, .ref 0), (1, .ref 22)]) (stk' := []) (mem' := fm g tp bt a b) (fun _ _ _ => rfl) ?_
      by_cases h6 : 119 = n3
      · rw [show (fx_cb .ne 119 (nI n3)) = false from cb_neF (a := 119) (b := n3) (by omega) (by omega) (by omega)]
        dsimp only [cond]
        refine fe_s 2 (pc' := 107) (lc' := [(6, .int 22), (5, .int 1), (4, .int 28), (3, .int 22), (2, .int 4), (0, .ref 0), (1, .ref 22)]) (stk' := [.int 1]) (mem' := fm g tp bt a b) (fun _ _ _ => rfl) ?_
        refine fe_s 4 (pc' := 70) (lc' := [(6, .int (22 + 1)), (5, .int 1), (4, .int 28), (3, .int 22), (2, .int 4), (0, .ref 0), (1, .ref 22)]) (stk' := [.int (22 + 1)]) (mem' := fm g tp bt a b) (fun _ _ _ => rfl) ?_
        rw [show (22 + 1 : Int32) = 23 from rfl]
        refine fe_s 1 (pc' := 72) (lc' := [(6, .int 23), (5, .int 1), (4, .int 28), (3, .int 22), (2, .int 4), (0, .ref 0), (1, .ref 22)]) (stk' := [.int 28, .int 23]) (mem' := fm g tp bt a b) (fun _ _ _ => rfl) ?_
        refine fe_s 1 (pc' := cond (fx_cb .ge 23 28) 115 75) (lc' := [(6, .int 23), (5, .int 1), (4, .int 28), (3, .int 22), (2, .int 4), (0, .ref 0), (1, .ref 22)]) (stk' := []) (mem' := fm g tp bt a b) (fun _ _ _ => rfl) ?_
        rw [show (fx_cb .ge 23 28) = false from by decide]
        dsimp only [cond]
        refine fe_s 1 (pc' := 77) (lc' := [(6, .int 23), (5, .int 1), (4, .int 28), (3, .int 22), (2, .int 4), (0, .ref 0), (1, .ref 22)]) (stk' := [.int 1]) (mem' := fm g tp bt a b) (fun _ _ _ => rfl) ?_
        refine fe_s 1 (pc' := cond (fx_cb .eq 1 0) 115 80) (lc' := [(6, .int 23), (5, .int 1), (4, .int 28), (3, .int 22), (2, .int 4), (0, .ref 0), (1, .ref 22)]) (stk' := []) (mem' := fm g tp bt a b) (fun _ _ _ => rfl) ?_
        rw [show (fx_cb .eq 1 0) = false from by decide]
        dsimp only [cond]
        refine fe_s 2 (pc' := 83) (lc' := [(6, .int 23), (5, .int 1), (4, .int 28), (3, .int 22), (2, .int 4), (0, .ref 0), (1, .ref 22)]) (stk' := [.int 23, .ref 22]) (mem' := fm g tp bt a b) (fun _ _ _ => rfl) ?_
        refine fe_chr (i := 23) (by omega) (by rfl) (by rfl) ⟨by rfl, by rfl⟩ (by rfl) ?_
        rw [show sk_b.getD 23 0 = 97 from rfl]
        refine fe_s 4 (pc' := 93) (lc' := [(6, .int 23), (5, .int 1), (4, .int 28), (3, .int 22), (2, .int 4), (0, .ref 0), (1, .ref 22)]) (stk' := [.int 23, .int (g 13), .ref 0, .int 97]) (mem' := fm g tp bt a b) (fun _ _ _ => rfl) ?_
        try rw [h13]
        refine fe_s 3 (pc' := 96) (lc' := [(6, .int 23), (5, .int 1), (4, .int 28), (3, .int 22), (2, .int 4), (0, .ref 0), (1, .ref 22)]) (stk' := [.int (((nI F) + 23) - 22), .ref 0, .int 97]) (mem' := fm g tp bt a b) (fun _ _ _ => rfl) ?_
        rw [show (((nI F) + 23) - 22 : Int32) = nI ((F + 23) - 22) from by simp only [show (23 : Int32) = nI 23 from rfl, show (22 : Int32) = nI 22 from rfl, tg_sub2 (x := F + 23) (y := 22) (by omega), nI_add, fm_mul]]
        refine fe_ivV (fr_byteAt (S := S) (k := (F + 23) - 22) (g := g) (tp := tp) (bt := bt) (a := a) (b := b) h11 (by omega) (by omega)) (by omega) (by rfl) (by rfl) (by rfl) (by rfl) (by rfl) (by rfl) ?_
        rcases fm_byte_or a S ((F + 23) - 22) with ⟨e8, q9⟩ | ⟨q9, n7, qn7, e8⟩
        · rw [e8]
          refine fe_s 1 (pc' := cond (fx_cb .ne 97 (-1)) 106 102) (lc' := [(6, .int 23), (5, .int 1), (4, .int 28), (3, .int 22), (2, .int 4), (0, .ref 0), (1, .ref 22)]) (stk' := []) (mem' := fm g tp bt a b) (fun _ _ _ => rfl) ?_
          rw [show (fx_cb .ne 97 (-1)) = true from by decide]
          dsimp only [cond]
          refine fe_s 1 (pc' := 107) (lc' := [(6, .int 23), (5, .int 1), (4, .int 28), (3, .int 22), (2, .int 4), (0, .ref 0), (1, .ref 22)]) (stk' := [.int 0]) (mem' := fm g tp bt a b) (fun _ _ _ => rfl) ?_
          refine fe_w (lc' := [(6, .int 23), (5, .int 1), (4, .int 28), (3, .int 22), (2, .int 4), (0, .ref 0), (1, .ref 22)]) ⟨rfl, rfl, rfl, rfl, rfl, rfl, rfl, trivial⟩ (by show List.Nodup [6, 5, 4, 3, 2, 0, 1]; decide) (by show List.Nodup [6, 5, 4, 3, 2, 0, 1]; decide) ?_
          exact fail _ _
        · rw [e8]
          refine fe_s 1 (pc' := cond (fx_cb .ne 97 (nI n7)) 106 102) (lc' := [(6, .int 23), (5, .int 1), (4, .int 28), (3, .int 22), (2, .int 4), (0, .ref 0), (1, .ref 22)]) (stk' := []) (mem' := fm g tp bt a b) (fun _ _ _ => rfl) ?_
          by_cases h10 : 97 = n7
          · rw [show (fx_cb .ne 97 (nI n7)) = false from cb_neF (a := 97) (b := n7) (by omega) (by omega) (by omega)]
            dsimp only [cond]
            refine fe_s 2 (pc' := 107) (lc' := [(6, .int 23), (5, .int 1), (4, .int 28), (3, .int 22), (2, .int 4), (0, .ref 0), (1, .ref 22)]) (stk' := [.int 1]) (mem' := fm g tp bt a b) (fun _ _ _ => rfl) ?_
            refine fe_s 4 (pc' := 70) (lc' := [(6, .int (23 + 1)), (5, .int 1), (4, .int 28), (3, .int 22), (2, .int 4), (0, .ref 0), (1, .ref 22)]) (stk' := [.int (23 + 1)]) (mem' := fm g tp bt a b) (fun _ _ _ => rfl) ?_
            rw [show (23 + 1 : Int32) = 24 from rfl]
            refine fe_s 1 (pc' := 72) (lc' := [(6, .int 24), (5, .int 1), (4, .int 28), (3, .int 22), (2, .int 4), (0, .ref 0), (1, .ref 22)]) (stk' := [.int 28, .int 24]) (mem' := fm g tp bt a b) (fun _ _ _ => rfl) ?_
            refine fe_s 1 (pc' := cond (fx_cb .ge 24 28) 115 75) (lc' := [(6, .int 24), (5, .int 1), (4, .int 28), (3, .int 22), (2, .int 4), (0, .ref 0), (1, .ref 22)]) (stk' := []) (mem' := fm g tp bt a b) (fun _ _ _ => rfl) ?_
            rw [show (fx_cb .ge 24 28) = false from by decide]
            dsimp only [cond]
            refine fe_s 1 (pc' := 77) (lc' := [(6, .int 24), (5, .int 1), (4, .int 28), (3, .int 22), (2, .int 4), (0, .ref 0), (1, .ref 22)]) (stk' := [.int 1]) (mem' := fm g tp bt a b) (fun _ _ _ => rfl) ?_
            refine fe_s 1 (pc' := cond (fx_cb .eq 1 0) 115 80) (lc' := [(6, .int 24), (5, .int 1), (4, .int 28), (3, .int 22), (2, .int 4), (0, .ref 0), (1, .ref 22)]) (stk' := []) (mem' := fm g tp bt a b) (fun _ _ _ => rfl) ?_
            rw [show (fx_cb .eq 1 0) = false from by decide]
            dsimp only [cond]
            refine fe_s 2 (pc' := 83) (lc' := [(6, .int 24), (5, .int 1), (4, .int 28), (3, .int 22), (2, .int 4), (0, .ref 0), (1, .ref 22)]) (stk' := [.int 24, .ref 22]) (mem' := fm g tp bt a b) (fun _ _ _ => rfl) ?_
            refine fe_chr (i := 24) (by omega) (by rfl) (by rfl) ⟨by rfl, by rfl⟩ (by rfl) ?_
            rw [show sk_b.getD 24 0 = 108 from rfl]
            refine fe_s 4 (pc' := 93) (lc' := [(6, .int 24), (5, .int 1), (4, .int 28), (3, .int 22), (2, .int 4), (0, .ref 0), (1, .ref 22)]) (stk' := [.int 24, .int (g 13), .ref 0, .int 108]) (mem' := fm g tp bt a b) (fun _ _ _ => rfl) ?_
            try rw [h13]
            refine fe_s 3 (pc' := 96) (lc' := [(6, .int 24), (5, .int 1), (4, .int 28), (3, .int 22), (2, .int 4), (0, .ref 0), (1, .ref 22)]) (stk' := [.int (((nI F) + 24) - 22), .ref 0, .int 108]) (mem' := fm g tp bt a b) (fun _ _ _ => rfl) ?_
            rw [show (((nI F) + 24) - 22 : Int32) = nI ((F + 24) - 22) from by simp only [show (24 : Int32) = nI 24 from rfl, show (22 : Int32) = nI 22 from rfl, tg_sub2 (x := F + 24) (y := 22) (by omega), nI_add, fm_mul]]
            refine fe_ivV (fr_byteAt (S := S) (k := (F + 24) - 22) (g := g) (tp := tp) (bt := bt) (a := a) (b := b) h11 (by omega) (by omega)) (by omega) (by rfl) (by rfl) (by rfl) (by rfl) (by rfl) (by rfl) ?_
            rcases fm_byte_or a S ((F + 24) - 22) with ⟨e12, q13⟩ | ⟨q13, n11, qn11, e12⟩
            · rw [e12]
              refine fe_s 1 (pc' := cond (fx_cb .ne 108 (-1)) 106 102) (lc' := [(6, .int 24), (5, .int 1), (4, .int 28), (3, .int 22), (2, .int 4), (0, .ref 0), (1, .ref 22)]) (stk' := []) (mem' := fm g tp bt a b) (fun _ _ _ => rfl) ?_
              rw [show (fx_cb .ne 108 (-1)) = true from by decide]
              dsimp only [cond]
              refine fe_s 1 (pc' := 107) (lc' := [(6, .int 24), (5, .int 1), (4, .int 28), (3, .int 22), (2, .int 4), (0, .ref 0), (1, .ref 22)]) (stk' := [.int 0]) (mem' := fm g tp bt a b) (fun _ _ _ => rfl) ?_
              refine fe_w (lc' := [(6, .int 24), (5, .int 1), (4, .int 28), (3, .int 22), (2, .int 4), (0, .ref 0), (1, .ref 22)]) ⟨rfl, rfl, rfl, rfl, rfl, rfl, rfl, trivial⟩ (by show List.Nodup [6, 5, 4, 3, 2, 0, 1]; decide) (by show List.Nodup [6, 5, 4, 3, 2, 0, 1]; decide) ?_
              exact fail _ _
            · rw [e12]
              refine fe_s 1 (pc' := cond (fx_cb .ne 108 (nI n11)) 106 102) (lc' := [(6, .int 24), (5, .int 1), (4, .int 28), (3, .int 22), (2, .int 4), (0, .ref 0), (1, .ref 22)]) (stk' := []) (mem' := fm g tp bt a b) (fun _ _ _ => rfl) ?_
              by_cases h14 : 108 = n11
              · rw [show (fx_cb .ne 108 (nI n11)) = false from cb_neF (a := 108) (b := n11) (by omega) (by omega) (by omega)]
                dsimp only [cond]
                refine fe_s 2 (pc' := 107) (lc' := [(6, .int 24), (5, .int 1), (4, .int 28), (3, .int 22), (2, .int 4), (0, .ref 0), (1, .ref 22)]) (stk' := [.int 1]) (mem' := fm g tp bt a b) (fun _ _ _ => rfl) ?_
                refine fe_s 4 (pc' := 70) (lc' := [(6, .int (24 + 1)), (5, .int 1), (4, .int 28), (3, .int 22), (2, .int 4), (0, .ref 0), (1, .ref 22)]) (stk' := [.int (24 + 1)]) (mem' := fm g tp bt a b) (fun _ _ _ => rfl) ?_
                rw [show (24 + 1 : Int32) = 25 from rfl]
                refine fe_s 1 (pc' := 72) (lc' := [(6, .int 25), (5, .int 1), (4, .int 28), (3, .int 22), (2, .int 4), (0, .ref 0), (1, .ref 22)]) (stk' := [.int 28, .int 25]) (mem' := fm g tp bt a b) (fun _ _ _ => rfl) ?_
                refine fe_s 1 (pc' := cond (fx_cb .ge 25 28) 115 75) (lc' := [(6, .int 25), (5, .int 1), (4, .int 28), (3, .int 22), (2, .int 4), (0, .ref 0), (1, .ref 22)]) (stk' := []) (mem' := fm g tp bt a b) (fun _ _ _ => rfl) ?_
                rw [show (fx_cb .ge 25 28) = false from by decide]
                dsimp only [cond]
                refine fe_s 1 (pc' := 77) (lc' := [(6, .int 25), (5, .int 1), (4, .int 28), (3, .int 22), (2, .int 4), (0, .ref 0), (1, .ref 22)]) (stk' := [.int 1]) (mem' := fm g tp bt a b) (fun _ _ _ => rfl) ?_
                refine fe_s 1 (pc' := cond (fx_cb .eq 1 0) 115 80) (lc' := [(6, .int 25), (5, .int 1), (4, .int 28), (3, .int 22), (2, .int 4), (0, .ref 0), (1, .ref 22)]) (stk' := []) (mem' := fm g tp bt a b) (fun _ _ _ => rfl) ?_
                rw [show (fx_cb .eq 1 0) = false from by decide]
                dsimp only [cond]
                refine fe_s 2 (pc' := 83) (lc' := [(6, .int 25), (5, .int 1), (4, .int 28), (3, .int 22), (2, .int 4), (0, .ref 0), (1, .ref 22)]) (stk' := [.int 25, .ref 22]) (mem' := fm g tp bt a b) (fun _ _ _ => rfl) ?_
                refine fe_chr (i := 25) (by omega) (by rfl) (by rfl) ⟨by rfl, by rfl⟩ (by rfl) ?_
                rw [show sk_b.getD 25 0 = 107 from rfl]
                refine fe_s 4 (pc' := 93) (lc' := [(6, .int 25), (5, .int 1), (4, .int 28), (3, .int 22), (2, .int 4), (0, .ref 0), (1, .ref 22)]) (stk' := [.int 25, .int (g 13), .ref 0, .int 107]) (mem' := fm g tp bt a b) (fun _ _ _ => rfl) ?_
                try rw [h13]
                refine fe_s 3 (pc' := 96) (lc' := [(6, .int 25), (5, .int 1), (4, .int 28), (3, .int 22), (2, .int 4), (0, .ref 0), (1, .ref 22)]) (stk' := [.int (((nI F) + 25) - 22), .ref 0, .int 107]) (mem' := fm g tp bt a b) (fun _ _ _ => rfl) ?_
                rw [show (((nI F) + 25) - 22 : Int32) = nI ((F + 25) - 22) from by simp only [show (25 : Int32) = nI 25 from rfl, show (22 : Int32) = nI 22 from rfl, tg_sub2 (x := F + 25) (y := 22) (by omega), nI_add, fm_mul]]
                refine fe_ivV (fr_byteAt (S := S) (k := (F + 25) - 22) (g := g) (tp := tp) (bt := bt) (a := a) (b := b) h11 (by omega) (by omega)) (by omega) (by rfl) (by rfl) (by rfl) (by rfl) (by rfl) (by rfl) ?_
                rcases fm_byte_or a S ((F + 25) - 22) with ⟨e16, q17⟩ | ⟨q17, n15, qn15, e16⟩
                · rw [e16]
                  refine fe_s 1 (pc' := cond (fx_cb .ne 107 (-1)) 106 102) (lc' := [(6, .int 25), (5, .int 1), (4, .int 28), (3, .int 22), (2, .int 4), (0, .ref 0), (1, .ref 22)]) (stk' := []) (mem' := fm g tp bt a b) (fun _ _ _ => rfl) ?_
                  rw [show (fx_cb .ne 107 (-1)) = true from by decide]
                  dsimp only [cond]
                  refine fe_s 1 (pc' := 107) (lc' := [(6, .int 25), (5, .int 1), (4, .int 28), (3, .int 22), (2, .int 4), (0, .ref 0), (1, .ref 22)]) (stk' := [.int 0]) (mem' := fm g tp bt a b) (fun _ _ _ => rfl) ?_
                  refine fe_w (lc' := [(6, .int 25), (5, .int 1), (4, .int 28), (3, .int 22), (2, .int 4), (0, .ref 0), (1, .ref 22)]) ⟨rfl, rfl, rfl, rfl, rfl, rfl, rfl, trivial⟩ (by show List.Nodup [6, 5, 4, 3, 2, 0, 1]; decide) (by show List.Nodup [6, 5, 4, 3, 2, 0, 1]; decide) ?_
                  exact fail _ _
                · rw [e16]
                  refine fe_s 1 (pc' := cond (fx_cb .ne 107 (nI n15)) 106 102) (lc' := [(6, .int 25), (5, .int 1), (4, .int 28), (3, .int 22), (2, .int 4), (0, .ref 0), (1, .ref 22)]) (stk' := []) (mem' := fm g tp bt a b) (fun _ _ _ => rfl) ?_
                  by_cases h18 : 107 = n15
                  · rw [show (fx_cb .ne 107 (nI n15)) = false from cb_neF (a := 107) (b := n15) (by omega) (by omega) (by omega)]
                    dsimp only [cond]
                    refine fe_s 2 (pc' := 107) (lc' := [(6, .int 25), (5, .int 1), (4, .int 28), (3, .int 22), (2, .int 4), (0, .ref 0), (1, .ref 22)]) (stk' := [.int 1]) (mem' := fm g tp bt a b) (fun _ _ _ => rfl) ?_
                    refine fe_s 4 (pc' := 70) (lc' := [(6, .int (25 + 1)), (5, .int 1), (4, .int 28), (3, .int 22), (2, .int 4), (0, .ref 0), (1, .ref 22)]) (stk' := [.int (25 + 1)]) (mem' := fm g tp bt a b) (fun _ _ _ => rfl) ?_
                    rw [show (25 + 1 : Int32) = 26 from rfl]
                    refine fe_s 1 (pc' := 72) (lc' := [(6, .int 26), (5, .int 1), (4, .int 28), (3, .int 22), (2, .int 4), (0, .ref 0), (1, .ref 22)]) (stk' := [.int 28, .int 26]) (mem' := fm g tp bt a b) (fun _ _ _ => rfl) ?_
                    refine fe_s 1 (pc' := cond (fx_cb .ge 26 28) 115 75) (lc' := [(6, .int 26), (5, .int 1), (4, .int 28), (3, .int 22), (2, .int 4), (0, .ref 0), (1, .ref 22)]) (stk' := []) (mem' := fm g tp bt a b) (fun _ _ _ => rfl) ?_
                    rw [show (fx_cb .ge 26 28) = false from by decide]
                    dsimp only [cond]
                    refine fe_s 1 (pc' := 77) (lc' := [(6, .int 26), (5, .int 1), (4, .int 28), (3, .int 22), (2, .int 4), (0, .ref 0), (1, .ref 22)]) (stk' := [.int 1]) (mem' := fm g tp bt a b) (fun _ _ _ => rfl) ?_
                    refine fe_s 1 (pc' := cond (fx_cb .eq 1 0) 115 80) (lc' := [(6, .int 26), (5, .int 1), (4, .int 28), (3, .int 22), (2, .int 4), (0, .ref 0), (1, .ref 22)]) (stk' := []) (mem' := fm g tp bt a b) (fun _ _ _ => rfl) ?_
                    rw [show (fx_cb .eq 1 0) = false from by decide]
                    dsimp only [cond]
                    refine fe_s 2 (pc' := 83) (lc' := [(6, .int 26), (5, .int 1), (4, .int 28), (3, .int 22), (2, .int 4), (0, .ref 0), (1, .ref 22)]) (stk' := [.int 26, .ref 22]) (mem' := fm g tp bt a b) (fun _ _ _ => rfl) ?_
                    refine fe_chr (i := 26) (by omega) (by rfl) (by rfl) ⟨by rfl, by rfl⟩ (by rfl) ?_
                    rw [show sk_b.getD 26 0 = 101 from rfl]
                    refine fe_s 4 (pc' := 93) (lc' := [(6, .int 26), (5, .int 1), (4, .int 28), (3, .int 22), (2, .int 4), (0, .ref 0), (1, .ref 22)]) (stk' := [.int 26, .int (g 13), .ref 0, .int 101]) (mem' := fm g tp bt a b) (fun _ _ _ => rfl) ?_
                    try rw [h13]
                    refine fe_s 3 (pc' := 96) (lc' := [(6, .int 26), (5, .int 1), (4, .int 28), (3, .int 22), (2, .int 4), (0, .ref 0), (1, .ref 22)]) (stk' := [.int (((nI F) + 26) - 22), .ref 0, .int 101]) (mem' := fm g tp bt a b) (fun _ _ _ => rfl) ?_
                    rw [show (((nI F) + 26) - 22 : Int32) = nI ((F + 26) - 22) from by simp only [show (26 : Int32) = nI 26 from rfl, show (22 : Int32) = nI 22 from rfl, tg_sub2 (x := F + 26) (y := 22) (by omega), nI_add, fm_mul]]
                    refine fe_ivV (fr_byteAt (S := S) (k := (F + 26) - 22) (g := g) (tp := tp) (bt := bt) (a := a) (b := b) h11 (by omega) (by omega)) (by omega) (by rfl) (by rfl) (by rfl) (by rfl) (by rfl) (by rfl) ?_
                    rcases fm_byte_or a S ((F + 26) - 22) with ⟨e20, q21⟩ | ⟨q21, n19, qn19, e20⟩
                    · rw [e20]
                      refine fe_s 1 (pc' := cond (fx_cb .ne 101 (-1)) 106 102) (lc' := [(6, .int 26), (5, .int 1), (4, .int 28), (3, .int 22), (2, .int 4), (0, .ref 0), (1, .ref 22)]) (stk' := []) (mem' := fm g tp bt a b) (fun _ _ _ => rfl) ?_
                      rw [show (fx_cb .ne 101 (-1)) = true from by decide]
                      dsimp only [cond]
                      refine fe_s 1 (pc' := 107) (lc' := [(6, .int 26), (5, .int 1), (4, .int 28), (3, .int 22), (2, .int 4), (0, .ref 0), (1, .ref 22)]) (stk' := [.int 0]) (mem' := fm g tp bt a b) (fun _ _ _ => rfl) ?_
                      refine fe_w (lc' := [(6, .int 26), (5, .int 1), (4, .int 28), (3, .int 22), (2, .int 4), (0, .ref 0), (1, .ref 22)]) ⟨rfl, rfl, rfl, rfl, rfl, rfl, rfl, trivial⟩ (by show List.Nodup [6, 5, 4, 3, 2, 0, 1]; decide) (by show List.Nodup [6, 5, 4, 3, 2, 0, 1]; decide) ?_
                      exact fail _ _
                    · rw [e20]
                      refine fe_s 1 (pc' := cond (fx_cb .ne 101 (nI n19)) 106 102) (lc' := [(6, .int 26), (5, .int 1), (4, .int 28), (3, .int 22), (2, .int 4), (0, .ref 0), (1, .ref 22)]) (stk' := []) (mem' := fm g tp bt a b) (fun _ _ _ => rfl) ?_
                      by_cases h22 : 101 = n19
                      · rw [show (fx_cb .ne 101 (nI n19)) = false from cb_neF (a := 101) (b := n19) (by omega) (by omega) (by omega)]
                        dsimp only [cond]
                        refine fe_s 2 (pc' := 107) (lc' := [(6, .int 26), (5, .int 1), (4, .int 28), (3, .int 22), (2, .int 4), (0, .ref 0), (1, .ref 22)]) (stk' := [.int 1]) (mem' := fm g tp bt a b) (fun _ _ _ => rfl) ?_
                        refine fe_s 4 (pc' := 70) (lc' := [(6, .int (26 + 1)), (5, .int 1), (4, .int 28), (3, .int 22), (2, .int 4), (0, .ref 0), (1, .ref 22)]) (stk' := [.int (26 + 1)]) (mem' := fm g tp bt a b) (fun _ _ _ => rfl) ?_
                        rw [show (26 + 1 : Int32) = 27 from rfl]
                        refine fe_s 1 (pc' := 72) (lc' := [(6, .int 27), (5, .int 1), (4, .int 28), (3, .int 22), (2, .int 4), (0, .ref 0), (1, .ref 22)]) (stk' := [.int 28, .int 27]) (mem' := fm g tp bt a b) (fun _ _ _ => rfl) ?_
                        refine fe_s 1 (pc' := cond (fx_cb .ge 27 28) 115 75) (lc' := [(6, .int 27), (5, .int 1), (4, .int 28), (3, .int 22), (2, .int 4), (0, .ref 0), (1, .ref 22)]) (stk' := []) (mem' := fm g tp bt a b) (fun _ _ _ => rfl) ?_
                        rw [show (fx_cb .ge 27 28) = false from by decide]
                        dsimp only [cond]
                        refine fe_s 1 (pc' := 77) (lc' := [(6, .int 27), (5, .int 1), (4, .int 28), (3, .int 22), (2, .int 4), (0, .ref 0), (1, .ref 22)]) (stk' := [.int 1]) (mem' := fm g tp bt a b) (fun _ _ _ => rfl) ?_
                        refine fe_s 1 (pc' := cond (fx_cb .eq 1 0) 115 80) (lc' := [(6, .int 27), (5, .int 1), (4, .int 28), (3, .int 22), (2, .int 4), (0, .ref 0), (1, .ref 22)]) (stk' := []) (mem' := fm g tp bt a b) (fun _ _ _ => rfl) ?_
                        rw [show (fx_cb .eq 1 0) = false from by decide]
                        dsimp only [cond]
                        refine fe_s 2 (pc' := 83) (lc' := [(6, .int 27), (5, .int 1), (4, .int 28), (3, .int 22), (2, .int 4), (0, .ref 0), (1, .ref 22)]) (stk' := [.int 27, .ref 22]) (mem' := fm g tp bt a b) (fun _ _ _ => rfl) ?_
                        refine fe_chr (i := 27) (by omega) (by rfl) (by rfl) ⟨by rfl, by rfl⟩ (by rfl) ?_
                        rw [show sk_b.getD 27 0 = 114 from rfl]
                        refine fe_s 4 (pc' := 93) (lc' := [(6, .int 27), (5, .int 1), (4, .int 28), (3, .int 22), (2, .int 4), (0, .ref 0), (1, .ref 22)]) (stk' := [.int 27, .int (g 13), .ref 0, .int 114]) (mem' := fm g tp bt a b) (fun _ _ _ => rfl) ?_
                        try rw [h13]
                        refine fe_s 3 (pc' := 96) (lc' := [(6, .int 27), (5, .int 1), (4, .int 28), (3, .int 22), (2, .int 4), (0, .ref 0), (1, .ref 22)]) (stk' := [.int (((nI F) + 27) - 22), .ref 0, .int 114]) (mem' := fm g tp bt a b) (fun _ _ _ => rfl) ?_
                        rw [show (((nI F) + 27) - 22 : Int32) = nI ((F + 27) - 22) from by simp only [show (27 : Int32) = nI 27 from rfl, show (22 : Int32) = nI 22 from rfl, tg_sub2 (x := F + 27) (y := 22) (by omega), nI_add, fm_mul]]
                        refine fe_ivV (fr_byteAt (S := S) (k := (F + 27) - 22) (g := g) (tp := tp) (bt := bt) (a := a) (b := b) h11 (by omega) (by omega)) (by omega) (by rfl) (by rfl) (by rfl) (by rfl) (by rfl) (by rfl) ?_
                        rcases fm_byte_or a S ((F + 27) - 22) with ⟨e24, q25⟩ | ⟨q25, n23, qn23, e24⟩
                        · rw [e24]
                          refine fe_s 1 (pc' := cond (fx_cb .ne 114 (-1)) 106 102) (lc' := [(6, .int 27), (5, .int 1), (4, .int 28), (3, .int 22), (2, .int 4), (0, .ref 0), (1, .ref 22)]) (stk' := []) (mem' := fm g tp bt a b) (fun _ _ _ => rfl) ?_
                          rw [show (fx_cb .ne 114 (-1)) = true from by decide]
                          dsimp only [cond]
                          refine fe_s 1 (pc' := 107) (lc' := [(6, .int 27), (5, .int 1), (4, .int 28), (3, .int 22), (2, .int 4), (0, .ref 0), (1, .ref 22)]) (stk' := [.int 0]) (mem' := fm g tp bt a b) (fun _ _ _ => rfl) ?_
                          refine fe_w (lc' := [(6, .int 27), (5, .int 1), (4, .int 28), (3, .int 22), (2, .int 4), (0, .ref 0), (1, .ref 22)]) ⟨rfl, rfl, rfl, rfl, rfl, rfl, rfl, trivial⟩ (by show List.Nodup [6, 5, 4, 3, 2, 0, 1]; decide) (by show List.Nodup [6, 5, 4, 3, 2, 0, 1]; decide) ?_
                          exact fail _ _
                        · rw [e24]
                          refine fe_s 1 (pc' := cond (fx_cb .ne 114 (nI n23)) 106 102) (lc' := [(6, .int 27), (5, .int 1), (4, .int 28), (3, .int 22), (2, .int 4), (0, .ref 0), (1, .ref 22)]) (stk' := []) (mem' := fm g tp bt a b) (fun _ _ _ => rfl) ?_
                          by_cases h26 : 114 = n23
                          · rw [show (fx_cb .ne 114 (nI n23)) = false from cb_neF (a := 114) (b := n23) (by omega) (by omega) (by omega)]
                            dsimp only [cond]
                            refine fe_s 2 (pc' := 107) (lc' := [(6, .int 27), (5, .int 1), (4, .int 28), (3, .int 22), (2, .int 4), (0, .ref 0), (1, .ref 22)]) (stk' := [.int 1]) (mem' := fm g tp bt a b) (fun _ _ _ => rfl) ?_
                            refine fe_s 4 (pc' := 70) (lc' := [(6, .int (27 + 1)), (5, .int 1), (4, .int 28), (3, .int 22), (2, .int 4), (0, .ref 0), (1, .ref 22)]) (stk' := [.int (27 + 1)]) (mem' := fm g tp bt a b) (fun _ _ _ => rfl) ?_
                            rw [show (27 + 1 : Int32) = 28 from rfl]
                            refine fe_s 1 (pc' := 72) (lc' := [(6, .int 28), (5, .int 1), (4, .int 28), (3, .int 22), (2, .int 4), (0, .ref 0), (1, .ref 22)]) (stk' := [.int 28, .int 28]) (mem' := fm g tp bt a b) (fun _ _ _ => rfl) ?_
                            refine fe_s 1 (pc' := cond (fx_cb .ge 28 28) 115 75) (lc' := [(6, .int 28), (5, .int 1), (4, .int 28), (3, .int 22), (2, .int 4), (0, .ref 0), (1, .ref 22)]) (stk' := []) (mem' := fm g tp bt a b) (fun _ _ _ => rfl) ?_
                            rw [show (fx_cb .ge 28 28) = true from by decide]
                            dsimp only [cond]
                            refine fe_s 1 (pc' := 117) (lc' := [(6, .int 28), (5, .int 1), (4, .int 28), (3, .int 22), (2, .int 4), (0, .ref 0), (1, .ref 22)]) (stk' := [.int 1]) (mem' := fm g tp bt a b) (fun _ _ _ => rfl) ?_
                            refine fe_s 1 (pc' := cond (fx_cb .eq 1 0) 122 120) (lc' := [(6, .int 28), (5, .int 1), (4, .int 28), (3, .int 22), (2, .int 4), (0, .ref 0), (1, .ref 22)]) (stk' := []) (mem' := fm g tp bt a b) (fun _ _ _ => rfl) ?_
                            rw [show (fx_cb .eq 1 0) = false from by decide]
                            dsimp only [cond]
                            refine fe_s 1 (pc' := 121) (lc' := [(6, .int 28), (5, .int 1), (4, .int 28), (3, .int 22), (2, .int 4), (0, .ref 0), (1, .ref 22)]) (stk' := [.int 4]) (mem' := fm g tp bt a b) (fun _ _ _ => rfl) ?_
                            exact fe_ret ⟨_, Or.inr ⟨4, by omega, rfl⟩, rfl⟩ (by rfl) (by rfl) (by rfl)
                          · rw [show (fx_cb .ne 114 (nI n23)) = true from cb_neT (a := 114) (b := n23) (by omega) (by omega) (by omega)]
                            dsimp only [cond]
                            refine fe_s 1 (pc' := 107) (lc' := [(6, .int 27), (5, .int 1), (4, .int 28), (3, .int 22), (2, .int 4), (0, .ref 0), (1, .ref 22)]) (stk' := [.int 0]) (mem' := fm g tp bt a b) (fun _ _ _ => rfl) ?_
                            refine fe_w (lc' := [(6, .int 27), (5, .int 1), (4, .int 28), (3, .int 22), (2, .int 4), (0, .ref 0), (1, .ref 22)]) ⟨rfl, rfl, rfl, rfl, rfl, rfl, rfl, trivial⟩ (by show List.Nodup [6, 5, 4, 3, 2, 0, 1]; decide) (by show List.Nodup [6, 5, 4, 3, 2, 0, 1]; decide) ?_
                            exact fail _ _
                      · rw [show (fx_cb .ne 101 (nI n19)) = true from cb_neT (a := 101) (b := n19) (by omega) (by omega) (by omega)]
                        dsimp only [cond]
                        refine fe_s 1 (pc' := 107) (lc' := [(6, .int 26), (5, .int 1), (4, .int 28), (3, .int 22), (2, .int 4), (0, .ref 0), (1, .ref 22)]) (stk' := [.int 0]) (mem' := fm g tp bt a b) (fun _ _ _ => rfl) ?_
                        refine fe_w (lc' := [(6, .int 26), (5, .int 1), (4, .int 28), (3, .int 22), (2, .int 4), (0, .ref 0), (1, .ref 22)]) ⟨rfl, rfl, rfl, rfl, rfl, rfl, rfl, trivial⟩ (by show List.Nodup [6, 5, 4, 3, 2, 0, 1]; decide) (by show List.Nodup [6, 5, 4, 3, 2, 0, 1]; decide) ?_
                        exact fail _ _
                  · rw [show (fx_cb .ne 107 (nI n15)) = true from cb_neT (a := 107) (b := n15) (by omega) (by omega) (by omega)]
                    dsimp only [cond]
                    refine fe_s 1 (pc' := 107) (lc' := [(6, .int 25), (5, .int 1), (4, .int 28), (3, .int 22), (2, .int 4), (0, .ref 0), (1, .ref 22)]) (stk' := [.int 0]) (mem' := fm g tp bt a b) (fun _ _ _ => rfl) ?_
                    refine fe_w (lc' := [(6, .int 25), (5, .int 1), (4, .int 28), (3, .int 22), (2, .int 4), (0, .ref 0), (1, .ref 22)]) ⟨rfl, rfl, rfl, rfl, rfl, rfl, rfl, trivial⟩ (by show List.Nodup [6, 5, 4, 3, 2, 0, 1]; decide) (by show List.Nodup [6, 5, 4, 3, 2, 0, 1]; decide) ?_
                    exact fail _ _
              · rw [show (fx_cb .ne 108 (nI n11)) = true from cb_neT (a := 108) (b := n11) (by omega) (by omega) (by omega)]
                dsimp only [cond]
                refine fe_s 1 (pc' := 107) (lc' := [(6, .int 24), (5, .int 1), (4, .int 28), (3, .int 22), (2, .int 4), (0, .ref 0), (1, .ref 22)]) (stk' := [.int 0]) (mem' := fm g tp bt a b) (fun _ _ _ => rfl) ?_
                refine fe_w (lc' := [(6, .int 24), (5, .int 1), (4, .int 28), (3, .int 22), (2, .int 4), (0, .ref 0), (1, .ref 22)]) ⟨rfl, rfl, rfl, rfl, rfl, rfl, rfl, trivial⟩ (by show List.Nodup [6, 5, 4, 3, 2, 0, 1]; decide) (by show List.Nodup [6, 5, 4, 3, 2, 0, 1]; decide) ?_
                exact fail _ _
          · rw [show (fx_cb .ne 97 (nI n7)) = true from cb_neT (a := 97) (b := n7) (by omega) (by omega) (by omega)]
            dsimp only [cond]
            refine fe_s 1 (pc' := 107) (lc' := [(6, .int 23), (5, .int 1), (4, .int 28), (3, .int 22), (2, .int 4), (0, .ref 0), (1, .ref 22)]) (stk' := [.int 0]) (mem' := fm g tp bt a b) (fun _ _ _ => rfl) ?_
            refine fe_w (lc' := [(6, .int 23), (5, .int 1), (4, .int 28), (3, .int 22), (2, .int 4), (0, .ref 0), (1, .ref 22)]) ⟨rfl, rfl, rfl, rfl, rfl, rfl, rfl, trivial⟩ (by show List.Nodup [6, 5, 4, 3, 2, 0, 1]; decide) (by show List.Nodup [6, 5, 4, 3, 2, 0, 1]; decide) ?_
            exact fail _ _
      · rw [show (fx_cb .ne 119 (nI n3)) = true from cb_neT (a := 119) (b := n3) (by omega) (by omega) (by omega)]
        dsimp only [cond]
        refine fe_s 1 (pc' := 107) (lc' := [(6, .int 22), (5, .int 1), (4, .int 28), (3, .int 22), (2, .int 4), (0, .ref 0), (1, .ref 22)]) (stk' := [.int 0]) (mem' := fm g tp bt a b) (fun _ _ _ => rfl) ?_
        refine fe_w (lc' := [(6, .int 22), (5, .int 1), (4, .int 28), (3, .int 22), (2, .int 4), (0, .ref 0), (1, .ref 22)]) ⟨rfl, rfl, rfl, rfl, rfl, rfl, rfl, trivial⟩ (by show List.Nodup [6, 5, 4, 3, 2, 0, 1]; decide) (by show List.Nodup [6, 5, 4, 3, 2, 0, 1]; decide) ?_
        exact fail _ _
  · rw [show (fx_cb .ne 6 (nI (E - F))) = true from cb_neT (a := 6) (b := E - F) (by omega) (by omega) (by omega)]
    dsimp only [cond]
    refine fe_s 4 (pc' := 68) (lc' := [(6, .int 22), (5, .int 0), (4, .int 28), (3, .int 22), (2, .int 4), (0, .ref 0), (1, .ref 22)]) (stk' := []) (mem' := fm g tp bt a b) (fun _ _ _ => rfl) ?_
    refine fe_s 2 (pc' := 72) (lc' := [(6, .int 22), (5, .int 0), (4, .int 28), (3, .int 22), (2, .int 4), (0, .ref 0), (1, .ref 22)]) (stk' := [.int 28, .int 22]) (mem' := fm g tp bt a b) (fun _ _ _ => rfl) ?_
    refine fe_s 1 (pc' := cond (fx_cb .ge 22 28) 115 75) (lc' := [(6, .int 22), (5, .int 0), (4, .int 28), (3, .int 22), (2, .int 4), (0, .ref 0), (1, .ref 22)]) (stk' := []) (mem' := fm g tp bt a b) (fun _ _ _ => rfl) ?_
    rw [show (fx_cb .ge 22 28) = false from by decide]
    dsimp only [cond]
    refine fe_s 1 (pc' := 77) (lc' := [(6, .int 22), (5, .int 0), (4, .int 28), (3, .int 22), (2, .int 4), (0, .ref 0), (1, .ref 22)]) (stk' := [.int 0]) (mem' := fm g tp bt a b) (fun _ _ _ => rfl) ?_
    refine fe_s 1 (pc' := cond (fx_cb .eq 0 0) 115 80) (lc' := [(6, .int 22), (5, .int 0), (4, .int 28), (3, .int 22), (2, .int 4), (0, .ref 0), (1, .ref 22)]) (stk' := []) (mem' := fm g tp bt a b) (fun _ _ _ => rfl) ?_
    rw [show (fx_cb .eq 0 0) = true from by decide]
    dsimp only [cond]
    refine fe_s 1 (pc' := 117) (lc' := [(6, .int 22), (5, .int 0), (4, .int 28), (3, .int 22), (2, .int 4), (0, .ref 0), (1, .ref 22)]) (stk' := [.int 0]) (mem' := fm g tp bt a b) (fun _ _ _ => rfl) ?_
    refine fe_s 1 (pc' := cond (fx_cb .eq 0 0) 122 120) (lc' := [(6, .int 22), (5, .int 0), (4, .int 28), (3, .int 22), (2, .int 4), (0, .ref 0), (1, .ref 22)]) (stk' := []) (mem' := fm g tp bt a b) (fun _ _ _ => rfl) ?_
    rw [show (fx_cb .eq 0 0) = true from by decide]
    dsimp only [cond]
    refine fe_s 4 (pc' := 129) (lc' := [(2, .int (4 + 1)), (6, .int 22), (5, .int 0), (4, .int 28), (3, .int 22), (0, .ref 0), (1, .ref 22)]) (stk' := [.int (28 + 1)]) (mem' := fm g tp bt a b) (fun _ _ _ => rfl) ?_
    rw [show (4 + 1 : Int32) = 5 from rfl]
    rw [show (28 + 1 : Int32) = 29 from rfl]
    refine fe_s 1 (pc' := 130) (lc' := [(3, .int 29), (2, .int 5), (6, .int 22), (5, .int 0), (4, .int 28), (0, .ref 0), (1, .ref 22)]) (stk' := []) (mem' := fm g tp bt a b) (fun _ _ _ => rfl) ?_
    refine fe_s 1 (pc' := fx_to 130 (-116)) (lc' := [(3, .int 29), (2, .int 5), (6, .int 22), (5, .int 0), (4, .int 28), (0, .ref 0), (1, .ref 22)]) (stk' := []) (mem' := fm g tp bt a b) (fun _ _ _ => rfl) ?_
    rw [show fx_to 130 (-116) = 14 from by decide]
    refine fe_w (lc' := [(3, .int 29), (2, .int 5), (0, .ref 0), (1, .ref 22)]) ⟨rfl, rfl, rfl, rfl, trivial⟩ (by show List.Nodup [3, 2, 0, 1]; decide) (by show List.Nodup [3, 2, 6, 5, 4, 0, 1]; decide) ?_
    exact fw_5 hxp
end FIW8
