/-! ===== fx: which word it is (2) ===== -/
section FIW2
variable {g : Nat → Int32} {tp bt : Int64} {a : Nat → Nat → Int32} {b : Nat → Nat → Int64}
set_option maxHeartbeats 8000000 in
theorem fw_18 {S E F : Nat} (hxp : fm_xp g S E F) : fe_R 1 gk_m226 14 [(3, .int 94), (2, .int 18), (0, .ref 0), (1, .ref 22)] [] (fm g tp bt a b) (fm_FI (fm g tp bt a b)) := by
  obtain ⟨h11, hS9, h14, hES, h13, hFE, -, -, -⟩ := id hxp
  have fail : ∀ (x z : Int32), fe_R 1 gk_m226 107 [(6, .int x), (5, .int z), (4, .int 98), (3, .int 94), (2, .int 18), (0, .ref 0), (1, .ref 22)] [.int 0] (fm g tp bt a b) (fm_FI (fm g tp bt a b)) := by
    intro x z
    refine fe_s 4 (pc' := 70) (lc' := [(6, .int (x + 1)), (5, .int 0), (4, .int 98), (3, .int 94), (2, .int 18), (0, .ref 0), (1, .ref 22)]) (stk' := [.int (x + 1)]) (mem' := fm g tp bt a b) (fun _ _ _ => rfl) ?_
    refine fe_s 1 (pc' := 72) (lc' := [(6, .int (x + 1)), (5, .int 0), (4, .int 98), (3, .int 94), (2, .int 18), (0, .ref 0), (1, .ref 22)]) (stk' := [.int 98, .int (x + 1)]) (mem' := fm g tp bt a b) (fun _ _ _ => rfl) ?_
    refine fe_s 1 (pc' := cond (fx_cb .ge (x + 1) 98) 115 75) (lc' := [(6, .int (x + 1)), (5, .int 0), (4, .int 98), (3, .int 94), (2, .int 18), (0, .ref 0), (1, .ref 22)]) (stk' := []) (mem' := fm g tp bt a b) (fun _ _ _ => rfl) ?_
    cases h1 : fx_cb .ge (x + 1) 98
    · refine fe_s 1 (pc' := 77) (lc' := [(6, .int (x + 1)), (5, .int 0), (4, .int 98), (3, .int 94), (2, .int 18), (0, .ref 0), (1, .ref 22)]) (stk' := [.int 0]) (mem' := fm g tp bt a b) (fun _ _ _ => rfl) ?_
      refine fe_s 1 (pc' := cond (fx_cb .eq 0 0) 115 80) (lc' := [(6, .int (x + 1)), (5, .int 0), (4, .int 98), (3, .int 94), (2, .int 18), (0, .ref 0), (1, .ref 22)]) (stk' := []) (mem' := fm g tp bt a b) (fun _ _ _ => rfl) ?_
      rw [show (fx_cb .eq 0 0) = true from by decide]
      dsimp only [cond]
      refine fe_s 1 (pc' := 117) (lc' := [(6, .int (x + 1)), (5, .int 0), (4, .int 98), (3, .int 94), (2, .int 18), (0, .ref 0), (1, .ref 22)]) (stk' := [.int 0]) (mem' := fm g tp bt a b) (fun _ _ _ => rfl) ?_
      refine fe_s 1 (pc' := cond (fx_cb .eq 0 0) 122 120) (lc' := [(6, .int (x + 1)), (5, .int 0), (4, .int 98), (3, .int 94), (2, .int 18), (0, .ref 0), (1, .ref 22)]) (stk' := []) (mem' := fm g tp bt a b) (fun _ _ _ => rfl) ?_
      rw [show (fx_cb .eq 0 0) = true from by decide]
      dsimp only [cond]
      refine fe_s 4 (pc' := 129) (lc' := [(2, .int (18 + 1)), (6, .int (x + 1)), (5, .int 0), (4, .int 98), (3, .int 94), (0, .ref 0), (1, .ref 22)]) (stk' := [.int (98 + 1)]) (mem' := fm g tp bt a b) (fun _ _ _ => rfl) ?_
      rw [show (98 + 1 : Int32) = 99 from rfl]
      rw [show (18 + 1 : Int32) = 19 from rfl]
      refine fe_s 1 (pc' := 130) (lc' := [(3, .int 99), (2, .int 19), (6, .int (x + 1)), (5, .int 0), (4, .int 98), (0, .ref 0), (1, .ref 22)]) (stk' := []) (mem' := fm g tp bt a b) (fun _ _ _ => rfl) ?_
      refine fe_s 1 (pc' := fx_to 130 (-116)) (lc' := [(3, .int 99), (2, .int 19), (6, .int (x + 1)), (5, .int 0), (4, .int 98), (0, .ref 0), (1, .ref 22)]) (stk' := []) (mem' := fm g tp bt a b) (fun _ _ _ => rfl) ?_
      rw [show fx_to 130 (-116) = 14 from by decide]
      refine fe_w (lc' := [(3, .int 99), (2, .int 19), (0, .ref 0), (1, .ref 22)]) ⟨rfl, rfl, rfl, rfl, trivial⟩ (by show List.Nodup [3, 2, 0, 1]; decide) (by show List.Nodup [3, 2, 6, 5, 4, 0, 1]; decide) ?_
      exact fw_19 hxp
    · refine fe_s 1 (pc' := 117) (lc' := [(6, .int (x + 1)), (5, .int 0), (4, .int 98), (3, .int 94), (2, .int 18), (0, .ref 0), (1, .ref 22)]) (stk' := [.int 0]) (mem' := fm g tp bt a b) (fun _ _ _ => rfl) ?_
      refine fe_s 1 (pc' := cond (fx_cb .eq 0 0) 122 120) (lc' := [(6, .int (x + 1)), (5, .int 0), (4, .int 98), (3, .int 94), (2, .int 18), (0, .ref 0), (1, .ref 22)]) (stk' := []) (mem' := fm g tp bt a b) (fun _ _ _ => rfl) ?_
      rw [show (fx_cb .eq 0 0) = true from by decide]
      dsimp only [cond]
      refine fe_s 4 (pc' := 129) (lc' := [(2, .int (18 + 1)), (6, .int (x + 1)), (5, .int 0), (4, .int 98), (3, .int 94), (0, .ref 0), (1, .ref 22)]) (stk' := [.int (98 + 1)]) (mem' := fm g tp bt a b) (fun _ _ _ => rfl) ?_
      rw [show (98 + 1 : Int32) = 99 from rfl]
      rw [show (18 + 1 : Int32) = 19 from rfl]
      refine fe_s 1 (pc' := 130) (lc' := [(3, .int 99), (2, .int 19), (6, .int (x + 1)), (5, .int 0), (4, .int 98), (0, .ref 0), (1, .ref 22)]) (stk' := []) (mem' := fm g tp bt a b) (fun _ _ _ => rfl) ?_
      refine fe_s 1 (pc' := fx_to 130 (-116)) (lc' := [(3, .int 99), (2, .int 19), (6, .int (x + 1)), (5, .int 0), (4, .int 98), (0, .ref 0), (1, .ref 22)]) (stk' := []) (mem' := fm g tp bt a b) (fun _ _ _ => rfl) ?_
      rw [show fx_to 130 (-116) = 14 from by decide]
      refine fe_w (lc' := [(3, .int 99), (2, .int 19), (0, .ref 0), (1, .ref 22)]) ⟨rfl, rfl, rfl, rfl, trivial⟩ (by show List.Nodup [3, 2, 0, 1]; decide) (by show List.Nodup [3, 2, 6, 5, 4, 0, 1]; decide) ?_
      exact fw_19 hxp
  refine fe_s 2 (pc' := 16) (lc' := [(3, .int 94), (2, .int 18), (0, .ref 0), (1, .ref 22)]) (stk' := [.ref 22, .int 94]) (mem' := fm g tp bt a b) (fun _ _ _ => rfl) ?_
  refine fe_s 1 (pc' := 19) (lc' := [(3, .int 94), (2, .int 18), (0, .ref 0), (1, .ref 22)]) (stk' := [.int 117, .int 94]) (mem' := fm g tp bt a b) (fun _ _ _ => rfl) ?_
  refine fe_s 1 (pc' := cond (fx_cb .ge 94 117) 133 22) (lc' := [(3, .int 94), (2, .int 18), (0, .ref 0), (1, .ref 22)]) (stk' := []) (mem' := fm g tp bt a b) (fun _ _ _ => rfl) ?_
  rw [show (fx_cb .ge 94 117) = false from by decide]
  dsimp only [cond]
  refine fe_s 4 (pc' := 28) (lc' := [(4, .int 94), (3, .int 94), (2, .int 18), (0, .ref 0), (1, .ref 22)]) (stk' := [.int 94, .ref 22]) (mem' := fm g tp bt a b) (fun _ _ _ => rfl) ?_
  refine fe_chr (i := 94) (by omega) (by rfl) (by rfl) ⟨by rfl, by rfl⟩ (by rfl) ?_
  rw [show sk_b.getD 94 0 = 119 from rfl]
  refine fe_s 1 (pc' := 33) (lc' := [(4, .int 94), (3, .int 94), (2, .int 18), (0, .ref 0), (1, .ref 22)]) (stk' := [.int 32, .int 119]) (mem' := fm g tp bt a b) (fun _ _ _ => rfl) ?_
  refine fe_s 1 (pc' := cond (fx_cb .eq 119 32) 42 36) (lc' := [(4, .int 94), (3, .int 94), (2, .int 18), (0, .ref 0), (1, .ref 22)]) (stk' := []) (mem' := fm g tp bt a b) (fun _ _ _ => rfl) ?_
  rw [show (fx_cb .eq 119 32) = false from by decide]
  dsimp only [cond]
  refine fe_s 4 (pc' := 28) (lc' := [(4, .int (94 + 1)), (3, .int 94), (2, .int 18), (0, .ref 0), (1, .ref 22)]) (stk' := [.int (94 + 1), .ref 22]) (mem' := fm g tp bt a b) (fun _ _ _ => rfl) ?_
  rw [show (94 + 1 : Int32) = 95 from rfl]
  refine fe_chr (i := 95) (by omega) (by rfl) (by rfl) ⟨by rfl, by rfl⟩ (by rfl) ?_
  rw [show sk_b.getD 95 0 = 104 from rfl]
  refine fe_s 1 (pc' := 33) (lc' := [(4, .int 95), (3, .int 94), (2, .int 18), (0, .ref 0), (1, .ref 22)]) (stk' := [.int 32, .int 104]) (mem' := fm g tp bt a b) (fun _ _ _ => rfl) ?_
  refine fe_s 1 (pc' := cond (fx_cb .eq 104 32) 42 36) (lc' := [(4, .int 95), (3, .int 94), (2, .int 18), (0, .ref 0), (1, .ref 22)]) (stk' := []) (mem' := fm g tp bt a b) (fun _ _ _ => rfl) ?_
  rw [show (fx_cb .eq 104 32) = false from by decide]
  dsimp only [cond]
  refine fe_s 4 (pc' := 28) (lc' := [(4, .int (95 + 1)), (3, .int 94), (2, .int 18), (0, .ref 0), (1, .ref 22)]) (stk' := [.int (95 + 1), .ref 22]) (mem' := fm g tp bt a b) (fun _ _ _ => rfl) ?_
  rw [show (95 + 1 : Int32) = 96 from rfl]
  refine fe_chr (i := 96) (by omega) (by rfl) (by rfl) ⟨by rfl, by rfl⟩ (by rfl) ?_
  rw [show sk_b.getD 96 0 = 101 from rfl]
  refine fe_s 1 (pc' := 33) (lc' := [(4, .int 96), (3, .int 94), (2, .int 18), (0, .ref 0), (1, .ref 22)]) (stk' := [.int 32, .int 101]) (mem' := fm g tp bt a b) (fun _ _ _ => rfl) ?_
  refine fe_s 1 (pc' := cond (fx_cb .eq 101 32) 42 36) (lc' := [(4, .int 96), (3, .int 94), (2, .int 18), (0, .ref 0), (1, .ref 22)]) (stk' := []) (mem' := fm g tp bt a b) (fun _ _ _ => rfl) ?_
  rw [show (fx_cb .eq 101 32) = false from by decide]
  dsimp only [cond]
  refine fe_s 4 (pc' := 28) (lc' := [(4, .int (96 + 1)), (3, .int 94), (2, .int 18), (0, .ref 0), (1, .ref 22)]) (stk' := [.int (96 + 1), .ref 22]) (mem' := fm g tp bt a b) (fun _ _ _ => rfl) ?_
  rw [show (96 + 1 : Int32) = 97 from rfl]
  refine fe_chr (i := 97) (by omega) (by rfl) (by rfl) ⟨by rfl, by rfl⟩ (by rfl) ?_
  rw [show sk_b.getD 97 0 = 110 from rfl]
  refine fe_s 1 (pc' := 33) (lc' := [(4, .int 97), (3, .int 94), (2, .int 18), (0, .ref 0), (1, .ref 22)]) (stk' := [.int 32, .int 110]) (mem' := fm g tp bt a b) (fun _ _ _ => rfl) ?_
  refine fe_s 1 (pc' := cond (fx_cb .eq 110 32) 42 36) (lc' := [(4, .int 97), (3, .int 94), (2, .int 18), (0, .ref 0), (1, .ref 22)]) (stk' := []) (mem' := fm g tp bt a b) (fun _ _ _ => rfl) ?_
  rw [show (fx_cb .eq 110 32) = false from by decide]
  dsimp only [cond]
  refine fe_s 4 (pc' := 28) (lc' := [(4, .int (97 + 1)), (3, .int 94), (2, .int 18), (0, .ref 0), (1, .ref 22)]) (stk' := [.int (97 + 1), .ref 22]) (mem' := fm g tp bt a b) (fun _ _ _ => rfl) ?_
  rw [show (97 + 1 : Int32) = 98 from rfl]
  refine fe_chr (i := 98) (by omega) (by rfl) (by rfl) ⟨by rfl, by rfl⟩ (by rfl) ?_
  rw [show sk_b.getD 98 0 = 32 from rfl]
  refine fe_s 1 (pc' := 33) (lc' := [(4, .int 98), (3, .int 94), (2, .int 18), (0, .ref 0), (1, .ref 22)]) (stk' := [.int 32, .int 32]) (mem' := fm g tp bt a b) (fun _ _ _ => rfl) ?_
  refine fe_s 1 (pc' := cond (fx_cb .eq 32 32) 42 36) (lc' := [(4, .int 98), (3, .int 94), (2, .int 18), (0, .ref 0), (1, .ref 22)]) (stk' := []) (mem' := fm g tp bt a b) (fun _ _ _ => rfl) ?_
  rw [show (fx_cb .eq 32 32) = true from by decide]
  dsimp only [cond]
  refine fe_s 4 (pc' := 47) (lc' := [(4, .int 98), (3, .int 94), (2, .int 18), (0, .ref 0), (1, .ref 22)]) (stk' := [.ref 0, .int (98 - 94)]) (mem' := fm g tp bt a b) (fun _ _ _ => rfl) ?_
  rw [show (98 - 94 : Int32) = 4 from rfl]
  refine fe_s 4 (pc' := 55) (lc' := [(4, .int 98), (3, .int 94), (2, .int 18), (0, .ref 0), (1, .ref 22)]) (stk' := [.int ((g 14) - (g 13)), .int 4]) (mem' := fm g tp bt a b) (fun _ _ _ => rfl) ?_
  try rw [h14]
  try rw [h13]
  rw [show ((nI E) - (nI F) : Int32) = nI (E - F) from by simp only [tg_sub2 (x := E) (y := F) (by omega), nI_add, fm_mul]]
  refine fe_s 1 (pc' := cond (fx_cb .ne 4 (nI (E - F))) 62 58) (lc' := [(4, .int 98), (3, .int 94), (2, .int 18), (0, .ref 0), (1, .ref 22)]) (stk' := []) (mem' := fm g tp bt a b) (fun _ _ _ => rfl) ?_
  by_cases h2 : 4 = (E - F)
  · rw [show (fx_cb .ne 4 (nI (E - F))) = false from cb_neF (a := 4) (b := E - F) (by omega) (by omega) (by omega)]
    dsimp only [cond]
    refine fe_s 4 (pc' := 66) (lc' := [(5, .int 1), (4, .int 98), (3, .int 94), (2, .int 18), (0, .ref 0), (1, .ref 22)]) (stk' := [.int 94]) (mem' := fm g tp bt a b) (fun _ _ _ => rfl) ?_
    refine fe_s 3 (pc' := 72) (lc' := [(6, .int 94), (5, .int 1), (4, .int 98), (3, .int 94), (2, .int 18), (0, .ref 0), (1, .ref 22)]) (stk' := [.int 98, .int 94]) (mem' := fm g tp bt a b) (fun _ _ _ => rfl) ?_
    refine fe_s 1 (pc' := cond (fx_cb .ge 94 98) 115 75) (lc' := [(6, .int 94), (5, .int 1), (4, .int 98), (3, .int 94), (2, .int 18), (0, .ref 0), (1, .ref 22)]) (stk' := []) (mem' := fm g tp bt a b) (fun _ _ _ => rfl) ?_
    rw [show (fx_cb .ge 94 98) = false from by decide]
    dsimp only [cond]
    refine fe_s 1 (pc' := 77) (lc' := [(6, .int 94), (5, .int 1), (4, .int 98), (3, .int 94), (2, .int 18), (0, .ref 0), (1, .ref 22)]) (stk' := [.int 1]) (mem' := fm g tp bt a b) (fun _ _ _ => rfl) ?_
    refine fe_s 1 (pc' := cond (fx_cb .eq 1 0) 115 80) (lc' := [(6, .int 94), (5, .int 1), (4, .int 98), (3, .int 94), (2, .int 18), (0, .ref 0), (1, .ref 22)]) (stk' := []) (mem' := fm g tp bt a b) (fun _ _ _ => rfl) ?_
    rw [show (fx_cb .eq 1 0) = false from by decide]
    dsimp only [cond]
    refine fe_s 2 (pc' := 83) (lc' := [(6, .int 94), (5, .int 1), (4, .int 98), (3, .int 94), (2, .int 18), (0, .ref 0), (1, .ref 22)]) (stk' := [.int 94, .ref 22]) (mem' := fm g tp bt a b) (fun _ _ _ => rfl) ?_
    refine fe_chr (i := 94) (by omega) (by rfl) (by rfl) ⟨by rfl, by rfl⟩ (by rfl) ?_
    rw [show sk_b.getD 94 0 = 119 from rfl]
    refine fe_s 4 (pc' := 93) (lc' := [(6, .int 94), (5, .int 1), (4, .int 98), (3, .int 94), (2, .int 18), (0, .ref 0), (1, .ref 22)]) (stk' := [.int 94, .int (g 13), .ref 0, .int 119]) (mem' := fm g tp bt a b) (fun _ _ _ => rfl) ?_
    try rw [h13]
    refine fe_s 3 (pc' := 96) (lc' := [(6, .int 94), (5, .int 1), (4, .int 98), (3, .int 94), (2, .int 18), (0, .ref 0), (1, .ref 22)]) (stk' := [.int (((nI F) + 94) - 94), .ref 0, .int 119]) (mem' := fm g tp bt a b) (fun _ _ _ => rfl) ?_
    rw [show (((nI F) + 94) - 94 : Int32) = nI ((F + 94) - 94) from by simp only [show (94 : Int32) = nI 94 from rfl, tg_sub2 (x := F + 94) (y := 94) (by omega), nI_add, fm_mul]]
    refine fe_ivV (fr_byteAt (S := S) (k := (F + 94) - 94) (g := g) (tp := tp) (bt := bt) (a := a) (b := b) h11 (by omega) (by omega)) (by omega) (by rfl) (by rfl) (by rfl) (by rfl) (by rfl) (by rfl) ?_
    rcases fm_byte_or a S ((F + 94) - 94) with ⟨e4, q5⟩ | ⟨q5, n3, qn3, e4⟩
    · rw [e4]
      refine fe_s 1 (pc' := cond (fx_cb .ne 119 (-1)) 106 102) (lc' := [(6, .int 94), (5, .int 1), (4, .int 98), (3, .int 94), (2, .int 18), (0, .ref 0), (1, .ref 22)]) (stk' := []) (mem' := fm g tp bt a b) (fun _ _ _ => rfl) ?_
      rw [show (fx_cb .ne 119 (-1)) = true from by decide]
      dsimp only [cond]
      refine fe_s 1 (pc' := 107) (lc' := [(6, .int 94), (5, .int 1), (4, .int 98), (3, .int 94), (2, .int 18), (0, .ref 0), (1, .ref 22)]) (stk' := [.int 0]) (mem' := fm g tp bt a b) (fun _ _ _ => rfl) ?_
      refine fe_w (lc' := [(6, .int 94), (5, .int 1), (4, .int 98), (3, .int 94), (2, .int 18), (0, .ref 0), (1, .ref 22)]) ⟨rfl, rfl, rfl, rfl, rfl, rfl, rfl, trivial⟩ (by show List.Nodup [6, 5, 4, 3, 2, 0, 1]; decide) (by show List.Nodup [6, 5, 4, 3, 2, 0, 1]; decide) ?_
      exact fail _ _
    · rw [e4]
      refine fe_s 1 (pc' := cond (fx_cb .ne 119 (nI n3)) 106 102) (lc' := [(6, .int 94), (5, .int 1), (4, .int 98), (3, .int 94), (2, .int 18), (0, .ref 0), (1, .ref 22)]) (stk' := []) (mem' := fm g tp bt a b) (fun _ _ _ => rfl) ?_
      by_cases h6 : 119 = n3
      · rw [show (fx_cb .ne 119 (nI n3)) = false from cb_neF (a := 119) (b := n3) (by omega) (by omega) (by omega)]
        dsimp only [cond]
        refine fe_s 2 (pc' := 107) (lc' := [(6, .int 94), (5, .int 1), (4, .int 98), (3, .int 94), (2, .int 18), (0, .ref 0), (1, .ref 22)]) (stk' := [.int 1]) (mem' := fm g tp bt a b) (fun _ _ _ => rfl) ?_
        refine fe_s 4 (pc' := 70) (lc' := [(6, .int (94 + 1)), (5, .int 1), (4, .int 98), (3, .int 94), (2, .int 18), (0, .ref 0), (1, .ref 22)]) (stk' := [.int (94 + 1)]) (mem' := fm g tp bt a b) (fun _ _ _ => rfl) ?_
        rw [show (94 + 1 : Int32) = 95 from rfl]
        refine fe_s 1 (pc' := 72) (lc' := [(6, .int 95), (5, .int 1), (4, .int 98), (3, .int 94), (2, .int 18), (0, .ref 0), (1, .ref 22)]) (stk' := [.int 98, .int 95]) (mem' := fm g tp bt a b) (fun _ _ _ => rfl) ?_
        refine fe_s 1 (pc' := cond (fx_cb .ge 95 98) 115 75) (lc' := [(6, .int 95), (5, .int 1), (4, .int 98), (3, .int 94), (2, .int 18), (0, .ref 0), (1, .ref 22)]) (stk' := []) (mem' := fm g tp bt a b) (fun _ _ _ => rfl) ?_
        rw [show (fx_cb .ge 95 98) = false from by decide]
        dsimp only [cond]
        refine fe_s 1 (pc' := 77) (lc' := [(6, .int 95), (5, .int 1), (4, .int 98), (3, .int 94), (2, .int 18), (0, .ref 0), (1, .ref 22)]) (stk' := [.int 1]) (mem' := fm g tp bt a b) (fun _ _ _ => rfl) ?_
        refine fe_s 1 (pc' := cond (fx_cb .eq 1 0) 115 80) (lc' := [(6, .int 95), (5, .int 1), (4, .int 98), (3, .int 94), (2, .int 18), (0, .ref 0), (1, .ref 22)]) (stk' := []) (mem' := fm g tp bt a b) (fun _ _ _ => rfl) ?_
        rw [show (fx_cb .eq 1 0) = false from by decide]
        dsimp only [cond]
        refine fe_s 2 (pc' := 83) (lc' := [(6, .int 95), (5, .int 1), (4, .int 98), (3, .int 94), (2, .int 18), (0, .ref 0), (1, .ref 22)]) (stk' := [.int 95, .ref 22]) (mem' := fm g tp bt a b) (fun _ _ _ => rfl) ?_
        refine fe_chr (i := 95) (by omega) (by rfl) (by rfl) ⟨by rfl, by rfl⟩ (by rfl) ?_
        rw [show sk_b.getD 95 0 = 104 from rfl]
        refine fe_s 4 (pc' := 93) (lc' := [(6, .int 95), (5, .int 1), (4, .int 98), (3, .int 94), (2, .int 18), (0, .ref 0), (1, .ref 22)]) (stk' := [.int 95, .int (g 13), .ref 0, .int 104]) (mem' := fm g tp bt a b) (fun _ _ _ => rfl) ?_
        try rw [h13]
        refine fe_s 3 (pc' := 96) (lc' := [(6, .int 95), (5, .int 1), (4, .int 98), (3, .int 94), (2, .int 18), (0, .ref 0), (1, .ref 22)]) (stk' := [.int (((nI F) + 95) - 94), .ref 0, .int 104]) (mem' := fm g tp bt a b) (fun _ _ _ => rfl) ?_
        rw [show (((nI F) + 95) - 94 : Int32) = nI ((F + 95) - 94) from by simp only [show (95 : Int32) = nI 95 from rfl, show (94 : Int32) = nI 94 from rfl, tg_sub2 (x := F + 95) (y := 94) (by omega), nI_add, fm_mul]]
        refine fe_ivV (fr_byteAt (S := S) (k := (F + 95) - 94) (g := g) (tp := tp) (bt := bt) (a := a) (b := b) h11 (by omega) (by omega)) (by omega) (by rfl) (by rfl) (by rfl) (by rfl) (by rfl) (by rfl) ?_
        rcases fm_byte_or a S ((F + 95) - 94) with ⟨e8, q9⟩ | ⟨q9, n7, qn7, e8⟩
        · rw [e8]
          refine fe_s 1 (pc' := cond (fx_cb .ne 104 (-1)) 106 102) (lc' := [(6, .int 95), (5, .int 1), (4, .int 98), (3, .int 94), (2, .int 18), (0, .ref 0), (1, .ref 22)]) (stk' := []) (mem' := fm g tp bt a b) (fun _ _ _ => rfl) ?_
          rw [show (fx_cb .ne 104 (-1)) = true from by decide]
          dsimp only [cond]
          refine fe_s 1 (pc' := 107) (lc' := [(6, .int 95), (5, .int 1), (4, .int 98), (3, .int 94), (2, .int 18), (0, .ref 0), (1, .ref 22)]) (stk' := [.int 0]) (mem' := fm g tp bt a b) (fun _ _ _ => rfl) ?_
          refine fe_w (lc' := [(6, .int 95), (5, .int 1), (4, .int 98), (3, .int 94), (2, .int 18), (0, .ref 0), (1, .ref 22)]) ⟨rfl, rfl, rfl, rfl, rfl, rfl, rfl, trivial⟩ (by show List.Nodup [6, 5, 4, 3, 2, 0, 1]; decide) (by show List.Nodup [6, 5, 4, 3, 2, 0, 1]; decide) ?_
          exact fail _ _
        · rw [e8]
          refine fe_s 1 (pc' := cond (fx_cb .ne 104 (nI n7)) 106 102) (lc' := [(6, .int 95), (5, .int 1), (4, .int 98), (3, .int 94), (2, .int 18), (0, .ref 0), (1, .ref 22)]) (stk' := []) (mem' := fm g tp bt a b) (fun _ _ _ => rfl) ?_
          by_cases h10 : 104 = n7
          · rw [show (fx_cb .ne 104 (nI n7)) = false from cb_neF (a := 104) (b := n7) (by omega) (by omega) (by omega)]
            dsimp only [cond]
            refine fe_s 2 (pc' := 107) (lc' := [(6, .int 95), (5, .int 1), (4, .int 98), (3, .int 94), (2, .int 18), (0, .ref 0), (1, .ref 22)]) (stk' := [.int 1]) (mem' := fm g tp bt a b) (fun _ _ _ => rfl) ?_
            refine fe_s 4 (pc' := 70) (lc' := [(6, .int (95 + 1)), (5, .int 1), (4, .int 98), (3, .int 94), (2, .int 18), (0, .ref 0), (1, .ref 22)]) (stk' := [.int (95 + 1)]) (mem' := fm g tp bt a b) (fun _ _ _ => rfl) ?_
            rw [show (95 + 1 : Int32) = 96 from rfl]
            refine fe_s 1 (pc' := 72) (lc' := [(6, .int 96), (5, .int 1), (4, .int 98), (3, .int 94), (2, .int 18), (0, .ref 0), (1, .ref 22)]) (stk' := [.int 98, .int 96]) (mem' := fm g tp bt a b) (fun _ _ _ => rfl) ?_
            refine fe_s 1 (pc' := cond (fx_cb .ge 96 98) 115 75) (lc' := [(6, .int 96), (5, .int 1), (4, .int 98), (3, .int 94), (2, .int 18), (0, .ref 0), (1, .ref 22)]) (stk' := []) (mem' := fm g tp bt a b) (fun _ _ _ => rfl) ?_
            rw [show (fx_cb .ge 96 98) = false from by decide]
            dsimp only [cond]
            refine fe_s 1 (pc' := 77) (lc' := [(6, .int 96), (5, .int 1), (4, .int 98), (3, .int 94), (2, .int 18), (0, .ref 0), (1, .ref 22)]) (stk' := [.int 1]) (mem' := fm g tp bt a b) (fun _ _ _ => rfl) ?_
            refine fe_s 1 (pc' := cond (fx_cb .eq 1 0) 115 80) (lc' := [(6, .int 96), (5, .int 1), (4, .int 98), (3, .int 94), (2, .int 18), (0, .ref 0), (1, .ref 22)]) (stk' := []) (mem' := fm g tp bt a b) (fun _ _ _ => rfl) ?_
            rw [show (fx_cb .eq 1 0) = false from by decide]
            dsimp only [cond]
            refine fe_s 2 (pc' := 83) (lc' := [(6, .int 96), (5, .int 1), (4, .int 98), (3, .int 94), (2, .int 18), (0, .ref 0), (1, .ref 22)]) (stk' := [.int 96, .ref 22]) (mem' := fm g tp bt a b) (fun _ _ _ => rfl) ?_
            refine fe_chr (i := 96) (by omega) (by rfl) (by rfl) ⟨by rfl, by rfl⟩ (by rfl) ?_
            rw [show sk_b.getD 96 0 = 101 from rfl]
            refine fe_s 4 (pc' := 93) (lc' := [(6, .int 96), (5, .int 1), (4, .int 98), (3, .int 94), (2, .int 18), (0, .ref 0), (1, .ref 22)]) (stk' := [.int 96, .int (g 13), .ref 0, .int 101]) (mem' := fm g tp bt a b) (fun _ _ _ => rfl) ?_
            try rw [h13]
            refine fe_s 3 (pc' := 96) (lc' := [(6, .int 96), (5, .int 1), (4, .int 98), (3, .int 94), (2, .int 18), (0, .ref 0), (1, .ref 22)]) (stk' := [.int (((nI F) + 96) - 94), .ref 0, .int 101]) (mem' := fm g tp bt a b) (fun _ _ _ => rfl) ?_
            rw [show (((nI F) + 96) - 94 : Int32) = nI ((F + 96) - 94) from by simp only [show (96 : Int32) = nI 96 from rfl, show (94 : Int32) = nI 94 from rfl, tg_sub2 (x := F + 96) (y := 94) (by omega), nI_add, fm_mul]]
            refine fe_ivV (fr_byteAt (S := S) (k := (F + 96) - 94) (g := g) (tp := tp) (bt := bt) (a := a) (b := b) h11 (by omega) (by omega)) (by omega) (by rfl) (by rfl) (by rfl) (by rfl) (by rfl) (by rfl) ?_
            rcases fm_byte_or a S ((F + 96) - 94) with ⟨e12, q13⟩ | ⟨q13, n11, qn11, e12⟩
            · rw [e12]
              refine fe_s 1 (pc' := cond (fx_cb .ne 101 (-1)) 106 102) (lc' := [(6, .int 96), (5, .int 1), (4, .int 98), (3, .int 94), (2, .int 18), (0, .ref 0), (1, .ref 22)]) (stk' := []) (mem' := fm g tp bt a b) (fun _ _ _ => rfl) ?_
              rw [show (fx_cb .ne 101 (-1)) = true from by decide]
              dsimp only [cond]
              refine fe_s 1 (pc' := 107) (lc' := [(6, .int 96), (5, .int 1), (4, .int 98), (3, .int 94), (2, .int 18), (0, .ref 0), (1, .ref 22)]) (stk' := [.int 0]) (mem' := fm g tp bt a b) (fun _ _ _ => rfl) ?_
              refine fe_w (lc' := [(6, .int 96), (5, .int 1), (4, .int 98), (3, .int 94), (2, .int 18), (0, .ref 0), (1, .ref 22)]) ⟨rfl, rfl, rfl, rfl, rfl, rfl, rfl, trivial⟩ (by show List.Nodup [6, 5, 4, 3, 2, 0, 1]; decide) (by show List.Nodup [6, 5, 4, 3, 2, 0, 1]; decide) ?_
              exact fail _ _
            · rw [e12]
              refine fe_s 1 (pc' := cond (fx_cb .ne 101 (nI n11)) 106 102) (lc' := [(6, .int 96), (5, .int 1), (4, .int 98), (3, .int 94), (2, .int 18), (0, .ref 0), (1, .ref 22)]) (stk' := []) (mem' := fm g tp bt a b) (fun _ _ _ => rfl) ?_
              by_cases h14 : 101 = n11
              · rw [show (fx_cb .ne 101 (nI n11)) = false from cb_neF (a := 101) (b := n11) (by omega) (by omega) (by omega)]
                dsimp only [cond]
                refine fe_s 2 (pc' := 107) (lc' := [(6, .int 96), (5, .int 1), (4, .int 98), (3, .int 94), (2, .int 18), (0, .ref 0), (1, .ref 22)]) (stk' := [.int 1]) (mem' := fm g tp bt a b) (fun _ _ _ => rfl) ?_
                refine fe_s 4 (pc' := 70) (lc' := [(6, .int (96 + 1)), (5, .int 1), (4, .int 98), (3, .int 94), (2, .int 18), (0, .ref 0), (1, .ref 22)]) (stk' := [.int (96 + 1)]) (mem' := fm g tp bt a b) (fun _ _ _ => rfl) ?_
                rw [show (96 + 1 : Int32) = 97 from rfl]
                refine fe_s 1 (pc' := 72) (lc' := [(6, .int 97), (5, .int 1), (4, .int 98), (3, .int 94), (2, .int 18), (0, .ref 0), (1, .ref 22)]) (stk' := [.int 98, .int 97]) (mem' := fm g tp bt a b) (fun _ _ _ => rfl) ?_
                refine fe_s 1 (pc' := cond (fx_cb .ge 97 98) 115 75) (lc' := [(6, .int 97), (5, .int 1), (4, .int 98), (3, .int 94), (2, .int 18), (0, .ref 0), (1, .ref 22)]) (stk' := []) (mem' := fm g tp bt a b) (fun _ _ _ => rfl) ?_
                rw [show (fx_cb .ge 97 98) = false from by decide]
                dsimp only [cond]
                refine fe_s 1 (pc' := 77) (lc' := [(6, .int 97), (5, .int 1), (4, .int 98), (3, .int 94), (2, .int 18), (0, .ref 0), (1, .ref 22)]) (stk' := [.int 1]) (mem' := fm g tp bt a b) (fun _ _ _ => rfl) ?_
                refine fe_s 1 (pc' := cond (fx_cb .eq 1 0) 115 80) (lc' := [(6, .int 97), (5, .int 1), (4, .int 98), (3, .int 94), (2, .int 18), (0, .ref 0), (1, .ref 22)]) (stk' := []) (mem' := fm g tp bt a b) (fun _ _ _ => rfl) ?_
                rw [show (fx_cb .eq 1 0) = false from by decide]
                dsimp only [cond]
                refine fe_s 2 (pc' := 83) (lc' := [(6, .int 97), (5, .int 1), (4, .int 98), (3, .int 94), (2, .int 18), (0, .ref 0), (1, .ref 22)]) (stk' := [.int 97, .ref 22]) (mem' := fm g tp bt a b) (fun _ _ _ => rfl) ?_
                refine fe_chr (i := 97) (by omega) (by rfl) (by rfl) ⟨by rfl, by rfl⟩ (by rfl) ?_
                rw [show sk_b.getD 97 0 = 110 from rfl]
                refine fe_s 4 (pc' := 93) (lc' := [(6, .int 97), (5, .int 1), (4, .int 98), (3, .int 94), (2, .int 18), (0, .ref 0), (1, .ref 22)]) (stk' := [.int 97, .int (g 13), .ref 0, .int 110]) (mem' := fm g tp bt a b) (fun _ _ _ => rfl) ?_
                try rw [h13]
                refine fe_s 3 (pc' := 96) (lc' := [(6, .int 97), (5, .int 1), (4, .int 98), (3, .int 94), (2, .int 18), (0, .ref 0), (1, .ref 22)]) (stk' := [.int (((nI F) + 97) - 94), .ref 0, .int 110]) (mem' := fm g tp bt a b) (fun _ _ _ => rfl) ?_
                rw [show (((nI F) + 97) - 94 : Int32) = nI ((F + 97) - 94) from by simp only [show (97 : Int32) = nI 97 from rfl, show (94 : Int32) = nI 94 from rfl, tg_sub2 (x := F + 97) (y := 94) (by omega), nI_add, fm_mul]]
                refine fe_ivV (fr_byteAt (S := S) (k := (F + 97) - 94) (g := g) (tp := tp) (bt := bt) (a := a) (b := b) h11 (by omega) (by omega)) (by omega) (by rfl) (by rfl) (by rfl) (by rfl) (by rfl) (by rfl) ?_
                rcases fm_byte_or a S ((F + 97) - 94) with ⟨e16, q17⟩ | ⟨q17, n15, qn15, e16⟩
                · rw [e16]
                  refine fe_s 1 (pc' := cond (fx_cb .ne 110 (-1)) 106 102) (lc' := [(6, .int 97), (5, .int 1), (4, .int 98), (3, .int 94), (2, .int 18), (0, .ref 0), (1, .ref 22)]) (stk' := []) (mem' := fm g tp bt a b) (fun _ _ _ => rfl) ?_
                  rw [show (fx_cb .ne 110 (-1)) = true from by decide]
                  dsimp only [cond]
                  refine fe_s 1 (pc' := 107) (lc' := [(6, .int 97), (5, .int 1), (4, .int 98), (3, .int 94), (2, .int 18), (0, .ref 0), (1, .ref 22)]) (stk' := [.int 0]) (mem' := fm g tp bt a b) (fun _ _ _ => rfl) ?_
                  refine fe_w (lc' := [(6, .int 97), (5, .int 1), (4, .int 98), (3, .int 94), (2, .int 18), (0, .ref 0), (1, .ref 22)]) ⟨rfl, rfl, rfl, rfl, rfl, rfl, rfl, trivial⟩ (by show List.Nodup [6, 5, 4, 3, 2, 0, 1]; decide) (by show List.Nodup [6, 5, 4, 3, 2, 0, 1]; decide) ?_
                  exact fail _ _
                · rw [e16]
                  refine fe_s 1 (pc' := cond (fx_cb .ne 110 (nI n15)) 106 102) (lc' := [(6, .int 97), (5, .int 1), (4, .int 98), (3, .int 94), (2, .int 18), (0, .ref 0), (1, .ref 22)]) (stk' := []) (mem' := fm g tp bt a b) (fun _ _ _ => rfl) ?_
                  by_cases h18 : 110 = n15
                  · rw [show (fx_cb .ne 110 (nI n15)) = false from cb_neF (a := 110) (b := n15) (by omega) (by omega) (by omega)]
                    dsimp only [cond]
                    refine fe_s 2 (pc' := 107) (lc' := [(6, .int 97), (5, .int 1), (4, .int 98), (3, .int 94), (2, .int 18), (0, .ref 0), (1, .ref 22)]) (stk' := [.int 1]) (mem' := fm g tp bt a b) (fun _ _ _ => rfl) ?_
                    refine fe_s 4 (pc' := 70) (lc' := [(6, .int (97 + 1)), (5, .int 1), (4, .int 98), (3, .int 94), (2, .int 18), (0, .ref 0), (1, .ref 22)]) (stk' := [.int (97 + 1)]) (mem' := fm g tp bt a b) (fun _ _ _ => rfl) ?_
                    rw [show (97 + 1 : Int32) = 98 from rfl]
                    refine fe_s 1 (pc' := 72) (lc' := [(6, .int 98), (5, .int 1), (4, .int 98), (3, .int 94), (2, .int 18), (0, .ref 0), (1, .ref 22)]) (stk' := [.int 98, .int 98]) (mem' := fm g tp bt a b) (fun _ _ _ => rfl) ?_
                    refine fe_s 1 (pc' := cond (fx_cb .ge 98 98) 115 75) (lc' := [(6, .int 98), (5, .int 1), (4, .int 98), (3, .int 94), (2, .int 18), (0, .ref 0), (1, .ref 22)]) (stk' := []) (mem' := fm g tp bt a b) (fun _ _ _ => rfl) ?_
                    rw [show (fx_cb .ge 98 98) = true from by decide]
                    dsimp only [cond]
                    refine fe_s 1 (pc' := 117) (lc' := [(6, .int 98), (5, .int 1), (4, .int 98), (3, .int 94), (2, .int 18), (0, .ref 0), (1, .ref 22)]) (stk' := [.int 1]) (mem' := fm g tp bt a b) (fun _ _ _ => rfl) ?_
                    refine fe_s 1 (pc' := cond (fx_cb .eq 1 0) 122 120) (lc' := [(6, .int 98), (5, .int 1), (4, .int 98), (3, .int 94), (2, .int 18), (0, .ref 0), (1, .ref 22)]) (stk' := []) (mem' := fm g tp bt a b) (fun _ _ _ => rfl) ?_
                    rw [show (fx_cb .eq 1 0) = false from by decide]
                    dsimp only [cond]
                    refine fe_s 1 (pc' := 121) (lc' := [(6, .int 98), (5, .int 1), (4, .int 98), (3, .int 94), (2, .int 18), (0, .ref 0), (1, .ref 22)]) (stk' := [.int 18]) (mem' := fm g tp bt a b) (fun _ _ _ => rfl) ?_
                    exact fe_ret ⟨_, Or.inr ⟨18, by omega, rfl⟩, rfl⟩ (by rfl) (by rfl) (by rfl)
                  · rw [show (fx_cb .ne 110 (nI n15)) = true from cb_neT (a := 110) (b := n15) (by omega) (by omega) (by omega)]
                    dsimp only [cond]
                    refine fe_s 1 (pc' := 107) (lc' := [(6, .int 97), (5, .int 1), (4, .int 98), (3, .int 94), (2, .int 18), (0, .ref 0), (1, .ref 22)]) (stk' := [.int 0]) (mem' := fm g tp bt a b) (fun _ _ _ => rfl) ?_
                    refine fe_w (lc' := [(6, .int 97), (5, .int 1), (4, .int 98), (3, .int 94), (2, .int 18), (0, .ref 0), (1, .ref 22)]) ⟨rfl, rfl, rfl, rfl, rfl, rfl, rfl, trivial⟩ (by show List.Nodup [6, 5, 4, 3, 2, 0, 1]; decide) (by show List.Nodup [6, 5, 4, 3, 2, 0, 1]; decide) ?_
                    exact fail _ _
              · rw [show (fx_cb .ne 101 (nI n11)) = true from cb_neT (a := 101) (b := n11) (by omega) (by omega) (by omega)]
                dsimp only [cond]
                refine fe_s 1 (pc' := 107) (lc' := [(6, .int 96), (5, .int 1), (4, .int 98), (3, .int 94), (2, .int 18), (0, .ref 0), (1, .ref 22)]) (stk' := [.int 0]) (mem' := fm g tp bt a b) (fun _ _ _ => rfl) ?_
                refine fe_w (lc' := [(6, .int 96), (5, .int 1), (4, .int 98), (3, .int 94), (2, .int 18), (0, .ref 0), (1, .ref 22)]) ⟨rfl, rfl, rfl, rfl, rfl, rfl, rfl, trivial⟩ (by show List.Nodup [6, 5, 4, 3, 2, 0, 1]; decide) (by show List.Nodup [6, 5, 4, 3, 2, 0, 1]; decide) ?_
                exact fail _ _
          · rw [show (fx_cb .ne 104 (nI n7)) = true from cb_neT (a := 104) (b := n7) (by omega) (by omega) (by omega)]
            dsimp only [cond]
            refine fe_s 1 (pc' := 107) (lc' := [(6, .int 95), (5, .int 1), (4, .int 98), (3, .int 94), (2, .int 18), (0, .ref 0), (1, .ref 22)]) (stk' := [.int 0]) (mem' := fm g tp bt a b) (fun _ _ _ => rfl) ?_
            refine fe_w (lc' := [(6, .int 95), (5, .int 1), (4, .int 98), (3, .int 94), (2, .int 18), (0, .ref 0), (1, .ref 22)]) ⟨rfl, rfl, rfl, rfl, rfl, rfl, rfl, trivial⟩ (by show List.Nodup [6, 5, 4, 3, 2, 0, 1]; decide) (by show List.Nodup [6, 5, 4, 3, 2, 0, 1]; decide) ?_
            exact fail _ _
      · rw [show (fx_cb .ne 119 (nI n3)) = true from cb_neT (a := 119) (b := n3) (by omega) (by omega) (by omega)]
        dsimp only [cond]
        refine fe_s 1 (pc' := 107) (lc' := [(6, .int 94), (5, .int 1), (4, .int 98), (3, .int 94), (2, .int 18), (0, .ref 0), (1, .ref 22)]) (stk' := [.int 0]) (mem' := fm g tp bt a b) (fun _ _ _ => rfl) ?_
        refine fe_w (lc' := [(6, .int 94), (5, .int 1), (4, .int 98), (3, .int 94), (2, .int 18), (0, .ref 0), (1, .ref 22)]) ⟨rfl, rfl, rfl, rfl, rfl, rfl, rfl, trivial⟩ (by show List.Nodup [6, 5, 4, 3, 2, 0, 1]; decide) (by show List.Nodup [6, 5, 4, 3, 2, 0, 1]; decide) ?_
        exact fail _ _
  · rw [show (fx_cb .ne 4 (nI (E - F))) = true from cb_neT (a := 4) (b := E - F) (by omega) (by omega) (by omega)]
    dsimp only [cond]
    refine fe_s 4 (pc' := 68) (lc' := [(6, .int 94), (5, .int 0), (4, .int 98), (3, .int 94), (2, .int 18), (0, .ref 0), (1, .ref 22)]) (stk' := []) (mem' := fm g tp bt a b) (fun _ _ _ => rfl) ?_
    refine fe_s 2 (pc' := 72) (lc' := [(6, .int 94), (5, .int 0), (4, .int 98), (3, .int 94), (2, .int 18), (0, .ref 0), (1, .ref 22)]) (stk' := [.int 98, .int 94]) (mem' := fm g tp bt a b) (fun _ _ _ => rfl) ?_
    refine fe_s 1 (pc' := cond (fx_cb .ge 94 98) 115 75) (lc' := [(6, .int 94), (5, .int 0), (4, .int 98), (3, .int 94), (2, .int 18), (0, .ref 0), (1, .ref 22)]) (stk' := []) (mem' := fm g tp bt a b) (fun _ _ _ => rfl) ?_
    rw [show (fx_cb .ge 94 98) = false from by decide]
    dsimp only [cond]
    refine fe_s 1 (pc' := 77) (lc' := [(6, .int 94), (5, .int 0), (4, .int 98), (3, .int 94), (2, .int 18), (0, .ref 0), (1, .ref 22)]) (stk' := [.int 0]) (mem' := fm g tp bt a b) (fun _ _ _ => rfl) ?_
    refine fe_s 1 (pc' := cond (fx_cb .eq 0 0) 115 80) (lc' := [(6, .int 94), (5, .int 0), (4, .int 98), (3, .int 94), (2, .int 18), (0, .ref 0), (1, .ref 22)]) (stk' := []) (mem' := fm g tp bt a b) (fun _ _ _ => rfl) ?_
    rw [show (fx_cb .eq 0 0) = true from by decide]
    dsimp only [cond]
    refine fe_s 1 (pc' := 117) (lc' := [(6, .int 94), (5, .int 0), (4, .int 98), (3, .int 94), (2, .int 18), (0, .ref 0), (1, .ref 22)]) (stk' := [.int 0]) (mem' := fm g tp bt a b) (fun _ _ _ => rfl) ?_
    refine fe_s 1 (pc' := cond (fx_cb .eq 0 0) 122 120) (lc' := [(6, .int 94), (5, .int 0), (4, .int 98), (3, .int 94), (2, .int 18), (0, .ref 0), (1, .ref 22)]) (stk' := []) (mem' := fm g tp bt a b) (fun _ _ _ => rfl) ?_
    rw [show (fx_cb .eq 0 0) = true from by decide]
    dsimp only [cond]
    refine fe_s 4 (pc' := 129) (lc' := [(2, .int (18 + 1)), (6, .int 94), (5, .int 0), (4, .int 98), (3, .int 94), (0, .ref 0), (1, .ref 22)]) (stk' := [.int (98 + 1)]) (mem' := fm g tp bt a b) (fun _ _ _ => rfl) ?_
    rw [show (98 + 1 : Int32) = 99 from rfl]
    rw [show (18 + 1 : Int32) = 19 from rfl]
    refine fe_s 1 (pc' := 130) (lc' := [(3, .int 99), (2, .int 19), (6, .int 94), (5, .int 0), (4, .int 98), (0, .ref 0), (1, .ref 22)]) (stk' := []) (mem' := fm g tp bt a b) (fun _ _ _ => rfl) ?_
    refine fe_s 1 (pc' := fx_to 130 (-116)) (lc' := [(3, .int 99), (2, .int 19), (6, .int 94), (5, .int 0), (4, .int 98), (0, .ref 0), (1, .ref 22)]) (stk' := []) (mem' := fm g tp bt a b) (fun _ _ _ => rfl) ?_
    rw [show fx_to 130 (-116) = 14 from by decide]
    refine fe_w (lc' := [(3, .int 99), (2, .int 19), (0, .ref 0), (1, .ref 22)]) ⟨rfl, rfl, rfl, rfl, trivial⟩ (by show List.Nodup [3, 2, 0, 1]; decide) (by show List.Nodup [3, 2, 6, 5, 4, 0, 1]; decide) ?_
    exact fw_19 hxp
set_option maxHeartbeats 8000000 in
theorem fw_17 {S E F : Nat} (hxp : fm_xp g S E F) : fe_R 1 gk_m226 14 [(3, .int 91), (2, .int 17), (0, .ref 0), (1, .ref 22)] [] (fm g tp bt a b) (fm_FI (fm g tp bt a b)) := by
  obtain ⟨h11, hS9, h14, hES, h13, hFE, -, -, -⟩ := id hxp
  have fail : ∀ (x z : Int32), fe_R 1 gk_m226 107 [(6, .int x), (5, .int z), (4, .int 93), (3, .int 91), (2, .int 17), (0, .ref 0), (1, .ref 22)] [.int 0] (fm g tp bt a b) (fm_FI (fm g tp bt a b)) := by
    intro x z
    refine fe_s 4 (pc' := 70) (lc' := [(6, .int (x + 1)), (5, .int 0), (4, .int 93), (3, .int 91), (2, .int 17), (0, .ref 0), (1, .ref 22)]) (stk' := [.int (x + 1)]) (mem' := fm g tp bt a b) (fun _ _ _ => rfl) ?_
    refine fe_s 1 (pc' := 72) (lc' := [(6, .int (x + 1)), (5, .int 0), (4, .int 93), (3, .int 91), (2, .int 17), (0, .ref 0), (1, .ref 22)]) (stk' := [.int 93, .int (x + 1)]) (mem' := fm g tp bt a b) (fun _ _ _ => rfl) ?_
    refine fe_s 1 (pc' := cond (fx_cb .ge (x + 1) 93) 115 75) (lc' := [(6, .int (x + 1)), (5, .int 0), (4, .int 93), (3, .int 91), (2, .int 17), (0, .ref 0), (1, .ref 22)]) (stk' := []) (mem' := fm g tp bt a b) (fun _ _ _ => rfl) ?_
    cases h1 : fx_cb .ge (x + 1) 93
    · refine fe_s 1 (pc' := 77) (lc' := [(6, .int (x + 1)), (5, .int 0), (4, .int 93), (3, .int 91), (2, .int 17), (0, .ref 0), (1, .ref 22)]) (stk' := [.int 0]) (mem' := fm g tp bt a b) (fun _ _ _ => rfl) ?_
      refine fe_s 1 (pc' := cond (fx_cb .eq 0 0) 115 80) (lc' := [(6, .int (x + 1)), (5, .int 0), (4, .int 93), (3, .int 91), (2, .int 17), (0, .ref 0), (1, .ref 22)]) (stk' := []) (mem' := fm g tp bt a b) (fun _ _ _ => rfl) ?_
      rw [show (fx_cb .eq 0 0) = true from by decide]
      dsimp only [cond]
      refine fe_s 1 (pc' := 117) (lc' := [(6, .int (x + 1)), (5, .int 0), (4, .int 93), (3, .int 91), (2, .int 17), (0, .ref 0), (1, .ref 22)]) (stk' := [.int 0]) (mem' := fm g tp bt a b) (fun _ _ _ => rfl) ?_
      refine fe_s 1 (pc' := cond (fx_cb .eq 0 0) 122 120) (lc' := [(6, .int (x + 1)), (5, .int 0), (4, .int 93), (3, .int 91), (2, .int 17), (0, .ref 0), (1, .ref 22)]) (stk' := []) (mem' := fm g tp bt a b) (fun _ _ _ => rfl) ?_
      rw [show (fx_cb .eq 0 0) = true from by decide]
      dsimp only [cond]
      refine fe_s 4 (pc' := 129) (lc' := [(2, .int (17 + 1)), (6, .int (x + 1)), (5, .int 0), (4, .int 93), (3, .int 91), (0, .ref 0), (1, .ref 22)]) (stk' := [.int (93 + 1)]) (mem' := fm g tp bt a b) (fun _ _ _ => rfl) ?_
      rw [show (93 + 1 : Int32) = 94 from rfl]
      rw [show (17 + 1 : Int32) = 18 from rfl]
      refine fe_s 1 (pc' := 130) (lc' := [(3, .int 94), (2, .int 18), (6, .int (x + 1)), (5, .int 0), (4, .int 93), (0, .ref 0), (1, .ref 22)]) (stk' := []) (mem' := fm g tp bt a b) (fun _ _ _ => rfl) ?_
      refine fe_s 1 (pc' := fx_to 130 (-116)) (lc' := [(3, .int 94), (2, .int 18), (6, .int (x + 1)), (5, .int 0), (4, .int 93), (0, .ref 0), (1, .ref 22)]) (stk' := []) (mem' := fm g tp bt a b) (fun _ _ _ => rfl) ?_
      rw [show fx_to 130 (-116) = 14 from by decide]
      refine fe_w (lc' := [(3, .int 94), (2, .int 18), (0, .ref 0), (1, .ref 22)]) ⟨rfl, rfl, rfl, rfl, trivial⟩ (by show List.Nodup [3, 2, 0, 1]; decide) (by show List.Nodup [3, 2, 6, 5, 4, 0, 1]; decide) ?_
      exact fw_18 hxp
    · refine fe_s 1 (pc' := 117) (lc' := [(6, .int (x + 1)), (5, .int 0), (4, .int 93), (3, .int 91), (2, .int 17), (0, .ref 0), (1, .ref 22)]) (stk' := [.int 0]) (mem' := fm g tp bt a b) (fun _ _ _ => rfl) ?_
      refine fe_s 1 (pc' := cond (fx_cb .eq 0 0) 122 120) (lc' := [(6, .int (x + 1)), (5, .int 0), (4, .int 93), (3, .int 91), (2, .int 17), (0, .ref 0), (1, .ref 22)]) (stk' := []) (mem' := fm g tp bt a b) (fun _ _ _ => rfl) ?_
      rw [show (fx_cb .eq 0 0) = true from by decide]
      dsimp only [cond]
      refine fe_s 4 (pc' := 129) (lc' := [(2, .int (17 + 1)), (6, .int (x + 1)), (5, .int 0), (4, .int 93), (3, .int 91), (0, .ref 0), (1, .ref 22)]) (stk' := [.int (93 + 1)]) (mem' := fm g tp bt a b) (fun _ _ _ => rfl) ?_
      rw [show (93 + 1 : Int32) = 94 from rfl]
      rw [show (17 + 1 : Int32) = 18 from rfl]
      refine fe_s 1 (pc' := 130) (lc' := [(3, .int 94), (2, .int 18), (6, .int (x + 1)), (5, .int 0), (4, .int 93), (0, .ref 0), (1, .ref 22)]) (stk' := []) (mem' := fm g tp bt a b) (fun _ _ _ => rfl) ?_
      refine fe_s 1 (pc' := fx_to 130 (-116)) (lc' := [(3, .int 94), (2, .int 18), (6, .int (x + 1)), (5, .int 0), (4, .int 93), (0, .ref 0), (1, .ref 22)]) (stk' := []) (mem' := fm g tp bt a b) (fun _ _ _ => rfl) ?_
      rw [show fx_to 130 (-116) = 14 from by decide]
      refine fe_w (lc' := [(3, .int 94), (2, .int 18), (0, .ref 0), (1, .ref 22)]) ⟨rfl, rfl, rfl, rfl, trivial⟩ (by show List.Nodup [3, 2, 0, 1]; decide) (by show List.Nodup [3, 2, 6, 5, 4, 0, 1]; decide) ?_
      exact fw_18 hxp
  refine fe_s 2 (pc' := 16) (lc' := [(3, .int 91), (2, .int 17), (0, .ref 0), (1, .ref 22)]) (stk' := [.ref 22, .int 91]) (mem' := fm g tp bt a b) (fun _ _ _ => rfl) ?_
  refine fe_s 1 (pc' := 19) (lc' := [(3, .int 91), (2, .int 17), (0, .ref 0), (1, .ref 22)]) (stk' := [.int 117, .int 91]) (mem' := fm g tp bt a b) (fun _ _ _ => rfl) ?_
  refine fe_s 1 (pc' := cond (fx_cb .ge 91 117) 133 22) (lc' := [(3, .int 91), (2, .int 17), (0, .ref 0), (1, .ref 22)]) (stk' := []) (mem' := fm g tp bt a b) (fun _ _ _ => rfl) ?_
  rw [show (fx_cb .ge 91 117) = false from by decide]
  dsimp only [cond]
  refine fe_s 4 (pc' := 28) (lc' := [(4, .int 91), (3, .int 91), (2, .int 17), (0, .ref 0), (1, .ref 22)]) (stk' := [.int 91, .ref 22]) (mem' := fm g tp bt a b) (fun _ _ _ => rfl) ?_
  refine fe_chr (i := 91) (by omega) (by rfl) (by rfl) ⟨by rfl, by rfl⟩ (by rfl) ?_
  rw [show sk_b.getD 91 0 = 105 from rfl]
  refine fe_s 1 (pc' := 33) (lc' := [(4, .int 91), (3, .int 91), (2, .int 17), (0, .ref 0), (1, .ref 22)]) (stk' := [.int 32, .int 105]) (mem' := fm g tp bt a b) (fun _ _ _ => rfl) ?_
  refine fe_s 1 (pc' := cond (fx_cb .eq 105 32) 42 36) (lc' := [(4, .int 91), (3, .int 91), (2, .int 17), (0, .ref 0), (1, .ref 22)]) (stk' := []) (mem' := fm g tp bt a b) (fun _ _ _ => rfl) ?_
  rw [show (fx_cb .eq 105 32) = false from by decide]
  dsimp only [cond]
  refine fe_s 4 (pc' := 28) (lc' := [(4, .int (91 + 1)), (3, .int 91), (2, .int 17), (0, .ref 0), (1, .ref 22)]) (stk' := [.int (91 + 1), .ref 22]) (mem' := fm g tp bt a b) (fun _ _ _ => rfl) ?_
  rw [show (91 + 1 : Int32) = 92 from rfl]
  refine fe_chr (i := 92) (by omega) (by rfl) (by rfl) ⟨by rfl, by rfl⟩ (by rfl) ?_
  rw [show sk_b.getD 92 0 = 110 from rfl]
  refine fe_s 1 (pc' := 33) (lc' := [(4, .int 92), (3, .int 91), (2, .int 17), (0, .ref 0), (1, .ref 22)]) (stk' := [.int 32, .int 110]) (mem' := fm g tp bt a b) (fun _ _ _ => rfl) ?_
  refine fe_s 1 (pc' := cond (fx_cb .eq 110 32) 42 36) (lc' := [(4, .int 92), (3, .int 91), (2, .int 17), (0, .ref 0), (1, .ref 22)]) (stk' := []) (mem' := fm g tp bt a b) (fun _ _ _ => rfl) ?_
  rw [show (fx_cb .eq 110 32) = false from by decide]
  dsimp only [cond]
  refine fe_s 4 (pc' := 28) (lc' := [(4, .int (92 + 1)), (3, .int 91), (2, .int 17), (0, .ref 0), (1, .ref 22)]) (stk' := [.int (92 + 1), .ref 22]) (mem' := fm g tp bt a b) (fun _ _ _ => rfl) ?_
  rw [show (92 + 1 : Int32) = 93 from rfl]
  refine fe_chr (i := 93) (by omega) (by rfl) (by rfl) ⟨by rfl, by rfl⟩ (by rfl) ?_
  rw [show sk_b.getD 93 0 = 32 from rfl]
  refine fe_s 1 (pc' := 33) (lc' := [(4, .int 93), (3, .int 91), (2, .int 17), (0, .ref 0), (1, .ref 22)]) (stk' := [.int 32, .int 32]) (mem' := fm g tp bt a b) (fun _ _ _ => rfl) ?_
  refine fe_s 1 (pc' := cond (fx_cb .eq 32 32) 42 36) (lc' := [(4, .int 93), (3, .int 91), (2, .int 17), (0, .ref 0), (1, .ref 22)]) (stk' := []) (mem' := fm g tp bt a b) (fun _ _ _ => rfl) ?_
  rw [show (fx_cb .eq 32 32) = true from by decide]
  dsimp only [cond]
  refine fe_s 4 (pc' := 47) (lc' := [(4, .int 93), (3, .int 91), (2, .int 17), (0, .ref 0), (1, .ref 22)]) (stk' := [.ref 0, .int (93 - 91)]) (mem' := fm g tp bt a b) (fun _ _ _ => rfl) ?_
  rw [show (93 - 91 : Int32) = 2 from rfl]
  refine fe_s 4 (pc' := 55) (lc' := [(4, .int 93), (3, .int 91), (2, .int 17), (0, .ref 0), (1, .ref 22)]) (stk' := [.int ((g 14) - (g 13)), .int 2]) (mem' := fm g tp bt a b) (fun _ _ _ => rfl) ?_
  try rw [h14]
  try rw [h13]
  rw [show ((nI E) - (nI F) : Int32) = nI (E - F) from by simp only [tg_sub2 (x := E) (y := F) (by omega), nI_add, fm_mul]]
  refine fe_s 1 (pc' := cond (fx_cb .ne 2 (nI (E - F))) 62 58) (lc' := [(4, .int 93), (3, .int 91), (2, .int 17), (0, .ref 0), (1, .ref 22)]) (stk' := []) (mem' := fm g tp bt a b) (fun _ _ _ => rfl) ?_
  by_cases h2 : 2 = (E - F)
  · rw [show (fx_cb .ne 2 (nI (E - F))) = false from cb_neF (a := 2) (b := E - F) (by omega) (by omega) (by omega)]
    dsimp only [cond]
    refine fe_s 4 (pc' := 66) (lc' := [(5, .int 1), (4, .int 93), (3, .int 91), (2, .int 17), (0, .ref 0), (1, .ref 22)]) (stk' := [.int 91]) (mem' := fm g tp bt a b) (fun _ _ _ => rfl) ?_
    refine fe_s 3 (pc' := 72) (lc' := [(6, .int 91), (5, .int 1), (4, .int 93), (3, .int 91), (2, .int 17), (0, .ref 0), (1, .ref 22)]) (stk' := [.int 93, .int 91]) (mem' := fm g tp bt a b) (fun _ _ _ => rfl) ?_
    refine fe_s 1 (pc' := cond (fx_cb .ge 91 93) 115 75) (lc' := [(6, .int 91), (5, .int 1), (4, .int 93), (3, .int 91), (2, .int 17), (0, .ref 0), (1, .ref 22)]) (stk' := []) (mem' := fm g tp bt a b) (fun _ _ _ => rfl) ?_
    rw [show (fx_cb .ge 91 93) = false from by decide]
    dsimp only [cond]
    refine fe_s 1 (pc' := 77) (lc' := [(6, .int 91), (5, .int 1), (4, .int 93), (3, .int 91), (2, .int 17), (0, .ref 0), (1, .ref 22)]) (stk' := [.int 1]) (mem' := fm g tp bt a b) (fun _ _ _ => rfl) ?_
    refine fe_s 1 (pc' := cond (fx_cb .eq 1 0) 115 80) (lc' := [(6, .int 91), (5, .int 1), (4, .int 93), (3, .int 91), (2, .int 17), (0, .ref 0), (1, .ref 22)]) (stk' := []) (mem' := fm g tp bt a b) (fun _ _ _ => rfl) ?_
    rw [show (fx_cb .eq 1 0) = false from by decide]
    dsimp only [cond]
    refine fe_s 2 (pc' := 83) (lc' := [(6, .int 91), (5, .int 1), (4, .int 93), (3, .int 91), (2, .int 17), (0, .ref 0), (1, .ref 22)]) (stk' := [.int 91, .ref 22]) (mem' := fm g tp bt a b) (fun _ _ _ => rfl) ?_
    refine fe_chr (i := 91) (by omega) (by rfl) (by rfl) ⟨by rfl, by rfl⟩ (by rfl) ?_
    rw [show sk_b.getD 91 0 = 105 from rfl]
    refine fe_s 4 (pc' := 93) (lc' := [(6, .int 91), (5, .int 1), (4, .int 93), (3, .int 91), (2, .int 17), (0, .ref 0), (1, .ref 22)]) (stk' := [.int 91, .int (g 13), .ref 0, .int 105]) (mem' := fm g tp bt a b) (fun _ _ _ => rfl) ?_
    try rw [h13]
    refine fe_s 3 (pc' := 96) (lc' := [(6, .int 91), (5, .int 1), (4, .int 93), (3, .int 91), (2, .int 17), (0, .ref 0), (1, .ref 22)]) (stk' := [.int (((nI F) + 91) - 91), .ref 0, .int 105]) (mem' := fm g tp bt a b) (fun _ _ _ => rfl) ?_
    rw [show (((nI F) + 91) - 91 : Int32) = nI ((F + 91) - 91) from by simp only [show (91 : Int32) = nI 91 from rfl, tg_sub2 (x := F + 91) (y := 91) (by omega), nI_add, fm_mul]]
    refine fe_ivV (fr_byteAt (S := S) (k := (F + 91) - 91) (g := g) (tp := tp) (bt := bt) (a := a) (b := b) h11 (by omega) (by omega)) (by omega) (by rfl) (by rfl) (by rfl) (by rfl) (by rfl) (by rfl) ?_
    rcases fm_byte_or a S ((F + 91) - 91) with ⟨e4, q5⟩ | ⟨q5, n3, qn3, e4⟩
    · rw [e4]
      refine fe_s 1 (pc' := cond (fx_cb .ne 105 (-1)) 106 102) (lc' := [(6, .int 91), (5, .int 1), (4, .int 93), (3, .int 91), (2, .int 17), (0, .ref 0), (1, .ref 22)]) (stk' := []) (mem' := fm g tp bt a b) (fun _ _ _ => rfl) ?_
      rw [show (fx_cb .ne 105 (-1)) = true from by decide]
      dsimp only [cond]
      refine fe_s 1 (pc' := 107) (lc' := [(6, .int 91), (5, .int 1), (4, .int 93), (3, .int 91), (2, .int 17), (0, .ref 0), (1, .ref 22)]) (stk' := [.int 0]) (mem' := fm g tp bt a b) (fun _ _ _ => rfl) ?_
      refine fe_w (lc' := [(6, .int 91), (5, .int 1), (4, .int 93), (3, .int 91), (2, .int 17), (0, .ref 0), (1, .ref 22)]) ⟨rfl, rfl, rfl, rfl, rfl, rfl, rfl, trivial⟩ (by show List.Nodup [6, 5, 4, 3, 2, 0, 1]; decide) (by show List.Nodup [6, 5, 4, 3, 2, 0, 1]; decide) ?_
      exact fail _ _
    · rw [e4]
      refine fe_s 1 (pc' := cond (fx_cb .ne 105 (nI n3)) 106 102) (lc' := [(6, .int 91), (5, .int 1), (4, .int 93), (3, .int 91), (2, .int 17), (0, .ref 0), (1, .ref 22)]) (stk' := []) (mem' := fm g tp bt a b) (fun _ _ _ => rfl) ?_
      by_cases h6 : 105 = n3
      · rw [show (fx_cb .ne 105 (nI n3)) = false from cb_neF (a := 105) (b := n3) (by omega) (by omega) (by omega)]
        dsimp only [cond]
        refine fe_s 2 (pc' := 107) (lc' := [(6, .int 91), (5, .int 1), (4, .int 93), (3, .int 91), (2, .int 17), (0, .ref 0), (1, .ref 22)]) (stk' := [.int 1]) (mem' := fm g tp bt a b) (fun _ _ _ => rfl) ?_
        refine fe_s 4 (pc' := 70) (lc' := [(6, .int (91 + 1)), (5, .int 1), (4, .int 93), (3, .int 91), (2, .int 17), (0, .ref 0), (1, .ref 22)]) (stk' := [.int (91 + 1)]) (mem' := fm g tp bt a b) (fun _ _ _ => rfl) ?_
        rw [show (91 + 1 : Int32) = 92 from rfl]
        refine fe_s 1 (pc' := 72) (lc' := [(6, .int 92), (5, .int 1), (4, .int 93), (3, .int 91), (2, .int 17), (0, .ref 0), (1, .ref 22)]) (stk' := [.int 93, .int 92]) (mem' := fm g tp bt a b) (fun _ _ _ => rfl) ?_
        refine fe_s 1 (pc' := cond (fx_cb .ge 92 93) 115 75) (lc' := [(6, .int 92), (5, .int 1), (4, .int 93), (3, .int 91), (2, .int 17), (0, .ref 0), (1, .ref 22)]) (stk' := []) (mem' := fm g tp bt a b) (fun _ _ _ => rfl) ?_
        rw [show (fx_cb .ge 92 93) = false from by decide]
        dsimp only [cond]
        refine fe_s 1 (pc' := 77) (lc' := [(6, .int 92), (5, .int 1), (4, .int 93), (3, .int 91), (2, .int 17), (0, .ref 0), (1, .ref 22)]) (stk' := [.int 1]) (mem' := fm g tp bt a b) (fun _ _ _ => rfl) ?_
        refine fe_s 1 (pc' := cond (fx_cb .eq 1 0) 115 80) (lc' := [(6, .int 92), (5, .int 1), (4, .int 93), (3, .int 91), (2, .int 17), (0, .ref 0), (1, .ref 22)]) (stk' := []) (mem' := fm g tp bt a b) (fun _ _ _ => rfl) ?_
        rw [show (fx_cb .eq 1 0) = false from by decide]
        dsimp only [cond]
        refine fe_s 2 (pc' := 83) (lc' := [(6, .int 92), (5, .int 1), (4, .int 93), (3, .int 91), (2, .int 17), (0, .ref 0), (1, .ref 22)]) (stk' := [.int 92, .ref 22]) (mem' := fm g tp bt a b) (fun _ _ _ => rfl) ?_
        refine fe_chr (i := 92) (by omega) (by rfl) (by rfl) ⟨by rfl, by rfl⟩ (by rfl) ?_
        rw [show sk_b.getD 92 0 = 110 from rfl]
        refine fe_s 4 (pc' := 93) (lc' := [(6, .int 92), (5, .int 1), (4, .int 93), (3, .int 91), (2, .int 17), (0, .ref 0), (1, .ref 22)]) (stk' := [.int 92, .int (g 13), .ref 0, .int 110]) (mem' := fm g tp bt a b) (fun _ _ _ => rfl) ?_
        try rw [h13]
        refine fe_s 3 (pc' := 96) (lc' := [(6, .int 92), (5, .int 1), (4, .int 93), (3, .int 91), (2, .int 17), (0, .ref 0), (1, .ref 22)]) (stk' := [.int (((nI F) + 92) - 91), .ref 0, .int 110]) (mem' := fm g tp bt a b) (fun _ _ _ => rfl) ?_
        rw [show (((nI F) + 92) - 91 : Int32) = nI ((F + 92) - 91) from by simp only [show (92 : Int32) = nI 92 from rfl, show (91 : Int32) = nI 91 from rfl, tg_sub2 (x := F + 92) (y := 91) (by omega), nI_add, fm_mul]]
        refine fe_ivV (fr_byteAt (S := S) (k := (F + 92) - 91) (g := g) (tp := tp) (bt := bt) (a := a) (b := b) h11 (by omega) (by omega)) (by omega) (by rfl) (by rfl) (by rfl) (by rfl) (by rfl) (by rfl) ?_
        rcases fm_byte_or a S ((F + 92) - 91) with ⟨e8, q9⟩ | ⟨q9, n7, qn7, e8⟩
        · rw [e8]
          refine fe_s 1 (pc' := cond (fx_cb .ne 110 (-1)) 106 102) (lc' := [(6, .int 92), (5, .int 1), (4, .int 93), (3, .int 91), (2, .int 17), (0, .ref 0), (1, .ref 22)]) (stk' := []) (mem' := fm g tp bt a b) (fun _ _ _ => rfl) ?_
          rw [show (fx_cb .ne 110 (-1)) = true from by decide]
          dsimp only [cond]
          refine fe_s 1 (pc' := 107) (lc' := [(6, .int 92), (5, .int 1), (4, .int 93), (3, .int 91), (2, .int 17), (0, .ref 0), (1, .ref 22)]) (stk' := [.int 0]) (mem' := fm g tp bt a b) (fun _ _ _ => rfl) ?_
          refine fe_w (lc' := [(6, .int 92), (5, .int 1), (4, .int 93), (3, .int 91), (2, .int 17), (0, .ref 0), (1, .ref 22)]) ⟨rfl, rfl, rfl, rfl, rfl, rfl, rfl, trivial⟩ (by show List.Nodup [6, 5, 4, 3, 2, 0, 1]; decide) (by show List.Nodup [6, 5, 4, 3, 2, 0, 1]; decide) ?_
          exact fail _ _
        · rw [e8]
          refine fe_s 1 (pc' := cond (fx_cb .ne 110 (nI n7)) 106 102) (lc' := [(6, .int 92), (5, .int 1), (4, .int 93), (3, .int 91), (2, .int 17), (0, .ref 0), (1, .ref 22)]) (stk' := []) (mem' := fm g tp bt a b) (fun _ _ _ => rfl) ?_
          by_cases h10 : 110 = n7
          · rw [show (fx_cb .ne 110 (nI n7)) = false from cb_neF (a := 110) (b := n7) (by omega) (by omega) (by omega)]
            dsimp only [cond]
            refine fe_s 2 (pc' := 107) (lc' := [(6, .int 92), (5, .int 1), (4, .int 93), (3, .int 91), (2, .int 17), (0, .ref 0), (1, .ref 22)]) (stk' := [.int 1]) (mem' := fm g tp bt a b) (fun _ _ _ => rfl) ?_
            refine fe_s 4 (pc' := 70) (lc' := [(6, .int (92 + 1)), (5, .int 1), (4, .int 93), (3, .int 91), (2, .int 17), (0, .ref 0), (1, .ref 22)]) (stk' := [.int (92 + 1)]) (mem' := fm g tp bt a b) (fun _ _ _ => rfl) ?_
            rw [show (92 + 1 : Int32) = 93 from rfl]
            refine fe_s 1 (pc' := 72) (lc' := [(6, .int 93), (5, .int 1), (4, .int 93), (3, .int 91), (2, .int 17), (0, .ref 0), (1, .ref 22)]) (stk' := [.int 93, .int 93]) (mem' := fm g tp bt a b) (fun _ _ _ => rfl) ?_
            refine fe_s 1 (pc' := cond (fx_cb .ge 93 93) 115 75) (lc' := [(6, .int 93), (5, .int 1), (4, .int 93), (3, .int 91), (2, .int 17), (0, .ref 0), (1, .ref 22)]) (stk' := []) (mem' := fm g tp bt a b) (fun _ _ _ => rfl) ?_
            rw [show (fx_cb .ge 93 93) = true from by decide]
            dsimp only [cond]
            refine fe_s 1 (pc' := 117) (lc' := [(6, .int 93), (5, .int 1), (4, .int 93), (3, .int 91), (2, .int 17), (0, .ref 0), (1, .ref 22)]) (stk' := [.int 1]) (mem' := fm g tp bt a b) (fun _ _ _ => rfl) ?_
            refine fe_s 1 (pc' := cond (fx_cb .eq 1 0) 122 120) (lc' := [(6, .int 93), (5, .int 1), (4, .int 93), (3, .int 91), (2, .int 17), (0, .ref 0), (1, .ref 22)]) (stk' := []) (mem' := fm g tp bt a b) (fun _ _ _ => rfl) ?_
            rw [show (fx_cb .eq 1 0) = false from by decide]
            dsimp only [cond]
            refine fe_s 1 (pc' := 121) (lc' := [(6, .int 93), (5, .int 1), (4, .int 93), (3, .int 91), (2, .int 17), (0, .ref 0), (1, .ref 22)]) (stk' := [.int 17]) (mem' := fm g tp bt a b) (fun _ _ _ => rfl) ?_
            exact fe_ret ⟨_, Or.inr ⟨17, by omega, rfl⟩, rfl⟩ (by rfl) (by rfl) (by rfl)
          · rw [show (fx_cb .ne 110 (nI n7)) = true from cb_neT (a := 110) (b := n7) (by omega) (by omega) (by omega)]
            dsimp only [cond]
            refine fe_s 1 (pc' := 107) (lc' := [(6, .int 92), (5, .int 1), (4, .int 93), (3, .int 91), (2, .int 17), (0, .ref 0), (1, .ref 22)]) (stk' := [.int 0]) (mem' := fm g tp bt a b) (fun _ _ _ => rfl) ?_
            refine fe_w (lc' := [(6, .int 92), (5, .int 1), (4, .int 93), (3, .int 91), (2, .int 17), (0, .ref 0), (1, .ref 22)]) ⟨rfl, rfl, rfl, rfl, rfl, rfl, rfl, trivial⟩ (by show List.Nodup [6, 5, 4, 3, 2, 0, 1]; decide) (by show List.Nodup [6, 5, 4, 3, 2, 0, 1]; decide) ?_
            exact fail _ _
      · rw [show (fx_cb .ne 105 (nI n3)) = true from cb_neT (a := 105) (b := n3) (by omega) (by omega) (by omega)]
        dsimp only [cond]
        refine fe_s 1 (pc' := 107) (lc' := [(6, .int 91), (5, .int 1), (4, .int 93), (3, .int 91), (2, .int 17), (0, .ref 0), (1, .ref 22)]) (stk' := [.int 0]) (mem' := fm g tp bt a b) (fun _ _ _ => rfl) ?_
        refine fe_w (lc' := [(6, .int 91), (5, .int 1), (4, .int 93), (3, .int 91), (2, .int 17), (0, .ref 0), (1, .ref 22)]) ⟨rfl, rfl, rfl, rfl, rfl, rfl, rfl, trivial⟩ (by show List.Nodup [6, 5, 4, 3, 2, 0, 1]; decide) (by show List.Nodup [6, 5, 4, 3, 2, 0, 1]; decide) ?_
        exact fail _ _
  · rw [show (fx_cb .ne 2 (nI (E - F))) = true from cb_neT (a := 2) (b := E - F) (by omega) (by omega) (by omega)]
    dsimp only [cond]
    refine fe_s 4 (pc' := 68) (lc' := [(6, .int 91), (5, .int 0), (4, .int 93), (3, .int 91), (2, .int 17), (0, .ref 0), (1, .ref 22)]) (stk' := []) (mem' := fm g tp bt a b) (fun _ _ _ => rfl) ?_
    refine fe_s 2 (pc' := 72) (lc' := [(6, .int 91), (5, .int 0), (4, .int 93), (3, .int 91), (2, .int 17), (0, .ref 0), (1, .ref 22)]) (stk' := [.int 93, .int 91]) (mem' := fm g tp bt a b) (fun _ _ _ => rfl) ?_
    refine fe_s 1 (pc' := cond (fx_cb .ge 91 93) 115 75) (lc' := [(6, .int 91), (5, .int 0), (4, .int 93), (3, .int 91), (2, .int 17), (0, .ref 0), (1, .ref 22)]) (stk' := []) (mem' := fm g tp bt a b) (fun _ _ _ => rfl) ?_
    rw [show (fx_cb .ge 91 93) = false from by decide]
    dsimp only [cond]
    refine fe_s 1 (pc' := 77) (lc' := [(6, .int 91), (5, .int 0), (4, .int 93), (3, .int 91), (2, .int 17), (0, .ref 0), (1, .ref 22)]) (stk' := [.int 0]) (mem' := fm g tp bt a b) (fun _ _ _ => rfl) ?_
    refine fe_s 1 (pc' := cond (fx_cb .eq 0 0) 115 80) (lc' := [(6, .int 91), (5, .int 0), (4, .int 93), (3, .int 91), (2, .int 17), (0, .ref 0), (1, .ref 22)]) (stk' := []) (mem' := fm g tp bt a b) (fun _ _ _ => rfl) ?_
    rw [show (fx_cb .eq 0 0) = true from by decide]
    dsimp only [cond]
    refine fe_s 1 (pc' := 117) (lc' := [(6, .int 91), (5, .int 0), (4, .int 93), (3, .int 91), (2, .int 17), (0, .ref 0), (1, .ref 22)]) (stk' := [.int 0]) (mem' := fm g tp bt a b) (fun _ _ _ => rfl) ?_
    refine fe_s 1 (pc' := cond (fx_cb .eq 0 0) 122 120) (lc' := [(6, .int 91), (5, .int 0), (4, .int 93), (3, .int 91), (2, .int 17), (0, .ref 0), (1, .ref 22)]) (stk' := []) (mem' := fm g tp bt a b) (fun _ _ _ => rfl) ?_
    rw [show (fx_cb .eq 0 0) = true from by decide]
    dsimp only [cond]
    refine fe_s 4 (pc' := 129) (lc' := [(2, .int (17 + 1)), (6, .int 91), (5, .int 0), (4, .int 93), (3, .int 91), (0, .ref 0), (1, .ref 22)]) (stk' := [.int (93 + 1)]) (mem' := fm g tp bt a b) (fun _ _ _ => rfl) ?_
    rw [show (93 + 1 : Int32) = 94 from rfl]
    rw [show (17 + 1 : Int32) = 18 from rfl]
    refine fe_s 1 (pc' := 130) (lc' := [(3, .int 94), (2, .int 18), (6, .int 91), (5, .int 0), (4, .int 93), (0, .ref 0), (1, .ref 22)]) (stk' := []) (mem' := fm g tp bt a b) (fun _ _ _ => rfl) ?_
    refine fe_s 1 (pc' := fx_to 130 (-116)) (lc' := [(3, .int 94), (2, .int 18), (6, .int 91), (5, .int 0), (4, .int 93), (0, .ref 0), (1, .ref 22)]) (stk' := []) (mem' := fm g tp bt a b) (fun _ _ _ => rfl) ?_
    rw [show fx_to 130 (-116) = 14 from by decide]
    refine fe_w (lc' := [(3, .int 94), (2, .int 18), (0, .ref 0), (1, .ref 22)]) ⟨rfl, rfl, rfl, rfl, trivial⟩ (by show List.Nodup [3, 2, 0, 1]; decide) (by show List.Nodup [3, 2, 6, 5, 4, 0, 1]; decide) ?_
    exact fw_18 hxp
end FIW2
