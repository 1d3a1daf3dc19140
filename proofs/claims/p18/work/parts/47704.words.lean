/-! ===== fx: which word it is (4) ===== -/
section FIW4
variable {g : Nat → Int32} {tp bt : Int64} {a : Nat → Nat → Int32} {b : Nat → Nat → Int64}
set_option maxHeartbeats 8000000 in
theorem fw_13 {S E F : Nat} (hxp : fm_xp g S E F) : fe_R 1 gk_m226 14 [(3, .int 73), (2, .int 13), (0, .ref 0), (1, .ref 22)] [] (fm g tp bt a b) (fm_FI (fm g tp bt a b)) := by
  obtain ⟨h11, hS9, h14, hES, h13, hFE, -, -, -⟩ := id hxp
  have fail : ∀ (x z : Int32), fe_R 1 gk_m226 107 [(6, .int x), (5, .int z), (4, .int 78), (3, .int 73), (2, .int 13), (0, .ref 0), (1, .ref 22)] [.int 0] (fm g tp bt a b) (fm_FI (fm g tp bt a b)) := by
    intro x z
    refine fe_s 4 (pc' := 70) (lc' := [(6, .int (x + 1)), (5, .int 0), (4, .int 78), (3, .int 73), (2, .int 13), (0, .ref 0), (1, .ref 22)]) (stk' := [.int (x + 1)]) (mem' := fm g tp bt a b) (fun _ _ _ => rfl) ?_
    refine fe_s 1 (pc' := 72) (lc' := [(6, .int (x + 1)), (5, .int 0), (4, .int 78), (3, .int 73), (2, .int 13), (0, .ref 0), (1, .ref 22)]) (stk' := [.int 78, .int (x + 1)]) (mem' := fm g tp bt a b) (fun _ _ _ => rfl) ?_
    refine fe_s 1 (pc' := cond (fx_cb .ge (x + 1) 78) 115 75) (lc' := [(6, .int (x + 1)), (5, .int 0), (4, .int 78), (3, .int 73), (2, .int 13), (0, .ref 0), (1, .ref 22)]) (stk' := []) (mem' := fm g tp bt a b) (fun _ _ _ => rfl) ?_
    cases h1 : fx_cb .ge (x + 1) 78
    · refine fe_s 1 (pc' := 77) (lc' := [(6, .int (x + 1)), (5, .int 0), (4, .int 78), (3, .int 73), (2, .int 13), (0, .ref 0), (1, .ref 22)]) (stk' := [.int 0]) (mem' := fm g tp bt a b) (fun _ _ _ => rfl) ?_
      refine fe_s 1 (pc' := cond (fx_cb .eq 0 0) 115 80) (lc' := [(6, .int (x + 1)), (5, .int 0), (4, .int 78), (3, .int 73), (2, .int 13), (0, .ref 0), (1, .ref 22)]) (stk' := []) (mem' := fm g tp bt a b) (fun _ _ _ => rfl) ?_
      rw [show (fx_cb .eq 0 0) = true from by decide]
      dsimp only [cond]
      refine fe_s 1 (pc' := 117) (lc' := [(6, .int (x + 1)), (5, .int 0), (4, .int 78), (3, .int 73), (2, .int 13), (0, .ref 0), (1, .ref 22)]) (stk' := [.int 0]) (mem' := fm g tp bt a b) (fun _ _ _ => rfl) ?_
      refine fe_s 1 (pc' := cond (fx_cb .eq 0 0) 122 120) (lc' := [(6, .int (x + 1)), (5, .int 0), (4, .int 78), (3, .int 73), (2, .int 13), (0, .ref 0), (1, .ref 22)]) (stk' := []) (mem' := fm g tp bt a b) (fun _ _ _ => rfl) ?_
      rw [show (fx_cb .eq 0 0) = true from by decide]
      dsimp only [cond]
      refine fe_s 4 (pc' := 129) (lc' := [(2, .int (13 + 1)), (6, .int (x + 1)), (5, .int 0), (4, .int 78), (3, .int 73), (0, .ref 0), (1, .ref 22)]) (stk' := [.int (78 + 1)]) (mem' := fm g tp bt a b) (fun _ _ _ => rfl) ?_
      rw [show (78 + 1 : Int32) = 79 from rfl]
      rw [show (13 + 1 : Int32) = 14 from rfl]
      refine fe_s 1 (pc' := 130) (lc' := [(3, .int 79), (2, .int 14), (6, .int (x + 1)), (5, .int 0), (4, .int 78), (0, .ref 0), (1, .ref 22)]) (stk' := []) (mem' := fm g tp bt a b) (fun _ _ _ => rfl) ?_
      refine fe_s 1 (pc' := fx_to 130 (-116)) (lc' := [(3, .int 79), (2, .int 14), (6, .int (x + 1)), (5, .int 0), (4, .int 78), (0, .ref 0), (1, .ref 22)]) (stk' := []) (mem' := fm g tp bt a b) (fun _ _ _ => rfl) ?_
      rw [show fx_to 130 (-116) = 14 from by decide]
      refine fe_w (lc' := [(3, .int 79), (2, .int 14), (0, .ref 0), (1, .ref 22)]) ⟨rfl, rfl, rfl, rfl, trivial⟩ (by show List.Nodup [3, 2, 0, 1]; decide) (by show List.Nodup [3, 2, 6, 5, 4, 0, 1]; decide) ?_
      exact fw_14 hxp
    · refine fe_s 1 (pc' := 117) (lc' := [(6, .int (x + 1)), (5, .int 0), (4, .int 78), (3, .int 73), (2, .int 13), (0, .ref 0), (1, .ref 22)]) (stk' := [.int 0]) (mem' := fm g tp bt a b) (fun _ _ _ => rfl) ?_
      refine fe_s 1 (pc' := cond (fx_cb .eq 0 0) 122 120) (lc' := [(6, .int (x + 1)), (5, .int 0), (4, .int 78), (3, .int 73), (2, .int 13), (0, .ref 0), (1, .ref 22)]) (stk' := []) (mem' := fm g tp bt a b) (fun _ _ _ => rfl) ?_
      rw [show (fx_cb .eq 0 0) = true from by decide]
      dsimp only [cond]
      refine fe_s 4 (pc' := 129) (lc' := [(2, .int (13 + 1)), (6, .int (x + 1)), (5, .int 0), (4, .int 78), (3, .int 73), (0, .ref 0), (1, .ref 22)]) (stk' := [.int (78 + 1)]) (mem' := fm g tp bt a b) (fun _ _ _ => rfl) ?_
      rw [show (78 + 1 : Int32) = 79 from rfl]
      rw [show (13 + 1 : Int32) = 14 from rfl]
      refine fe_s 1 (pc' := 130) (lc' := [(3, .int 79), (2, .int 14), (6, .int (x + 1)), (5, .int 0), (4, .int 78), (0, .ref 0), (1, .ref 22)]) (stk' := []) (mem' := fm g tp bt a b) (fun _ _ _ => rfl) ?_
      refine fe_s 1 (pc' := fx_to 130 (-116)) (lc' := [(3, .int 79), (2, .int 14), (6, .int (x + 1)), (5, .int 0), (4, .int 78), (0, .ref 0), (1, .ref 22)]) (stk' := []) (mem' := fm g tp bt a b) (fun _ _ _ => rfl) ?_
      rw [show fx_to 130 (-116) = 14 from by decide]
      refine fe_w (lc' := [(3, .int 79), (2, .int 14), (0, .ref 0), (1, .ref 22)]) ⟨rfl, rfl, rfl, rfl, trivial⟩ (by show List.Nodup [3, 2, 0, 1]; decide) (by show List.Nodup [3, 2, 6, 5, 4, 0, 1]; decide) ?_
      exact fw_14 hxp
  refine fe_s 2 (pc' := 16) (lc' := [(3, .int 73), (2, .int 13), (0, .ref 0), (1, .ref 22)]) (stk' := [.ref 22, .int 73]) (mem' := fm g tp bt a b) (fun _ _ _ => rfl) ?_
  refine fe_s 1 (pc' := 19) (lc' := [(3, .int 73), (2, .int 13), (0, .ref 0), (1, .ref 22)]) (stk' := [.int 117, .int 73]) (mem' := fm g tp bt a b) (fun _ _ _ => rfl) ?_
  refine fe_s 1 (pc' := cond (fx_cb .ge 73 117) 133 22) (lc' := [(3, .int 73), (2, .int 13), (0, .ref 0), (1, .ref 22)]) (stk' := []) (mem' := fm g tp bt a b) (fun _ _ _ => rfl) ?_
  rw [show (fx_cb .ge 73 117) = false from by decide]
  dsimp only [cond]
  refine fe_s 4 (pc' := 28) (lc' := [(4, .int 73), (3, .int 73), (2, .int 13), (0, .ref 0), (1, .ref 22)]) (stk' := [.int 73, .ref 22]) (mem' := fm g tp bt a b) (fun _ _ _ => rfl) ?_
  refine fe_chr (i := 73) (by omega) (by rfl) (by rfl) ⟨by rfl, by rfl⟩ (by rfl) ?_
  rw [show sk_b.getD 73 0 = 102 from rfl]
  refine fe_s 1 (pc' := 33) (lc' := [(4, .int 73), (3, .int 73), (2, .int 13), (0, .ref 0), (1, .ref 22)]) (stk' := [.int 32, .int 102]) (mem' := fm g tp bt a b) (fun _ _ _ => rfl) ?_
  refine fe_s 1 (pc' := cond (fx_cb .eq 102 32) 42 36) (lc' := [(4, .int 73), (3, .int 73), (2, .int 13), (0, .ref 0), (1, .ref 22)]) (stk' := []) (mem' := fm g tp bt a b) (fun _ _ _ => rfl) ?_
  rw [show (fx_cb .eq 102 32) = false from by decide]
  dsimp only [cond]
  refine fe_s 4 (pc' := 28) (lc' := [(4, .int (73 + 1)), (3, .int 73), (2, .int 13), (0, .ref 0), (1, .ref 22)]) (stk' := [.int (73 + 1), .ref 22]) (mem' := fm g tp bt a b) (fun _ _ _ => rfl) ?_
  rw [show (73 + 1 : Int32) = 74 from rfl]
  refine fe_chr (i := 74) (by omega) (by rfl) (by rfl) ⟨by rfl, by rfl⟩ (by rfl) ?_
  rw [show sk_b.getD 74 0 = 114 from rfl]
  refine fe_s 1 (pc' := 33) (lc' := [(4, .int 74), (3, .int 73), (2, .int 13), (0, .ref 0), (1, .ref 22)]) (stk' := [.int 32, .int 114]) (mem' := fm g tp bt a b) (fun _ _ _ => rfl) ?_
  refine fe_s 1 (pc' := cond (fx_cb .eq 114 32) 42 36) (lc' := [(4, .int 74), (3, .int 73), (2, .int 13), (0, .ref 0), (1, .ref 22)]) (stk' := []) (mem' := fm g tp bt a b) (fun _ _ _ => rfl) ?_
  rw [show (fx_cb .eq 114 32) = false from by decide]
  dsimp only [cond]
  refine fe_s 4 (pc' := 28) (lc' := [(4, .int (74 + 1)), (3, .int 73), (2, .int 13), (0, .ref 0), (1, .ref 22)]) (stk' := [.int (74 + 1), .ref 22]) (mem' := fm g tp bt a b) (fun _ _ _ => rfl) ?_
  rw [show (74 + 1 : Int32) = 75 from rfl]
  refine fe_chr (i := 75) (by omega) (by rfl) (by rfl) ⟨by rfl, by rfl⟩ (by rfl) ?_
  rw [show sk_b.getD 75 0 = 111 from rfl]
  refine fe_s 1 (pc' := 33) (lc' := [(4, .int 75), (3, .int 73), (2, .int 13), (0, .ref 0), (1, .ref 22)]) (stk' := [.int 32, .int 111]) (mem' := fm g tp bt a b) (fun _ _ _ => rfl) ?_
  refine fe_s 1 (pc' := cond (fx_cb .eq 111 32) 42 36) (lc' := [(4, .int 75), (3, .int 73), (2, .int 13), (0, .ref 0), (1, .ref 22)]) (stk' := []) (mem' := fm g tp bt a b) (fun _ _ _ => rfl) ?_
  rw [show (fx_cb .eq 111 32) = false from by decide]
  dsimp only [cond]
  refine fe_s 4 (pc' := 28) (lc' := [(4, .int (75 + 1)), (3, .int 73), (2, .int 13), (0, .ref 0), (1, .ref 22)]) (stk' := [.int (75 + 1), .ref 22]) (mem' := fm g tp bt a b) (fun _ _ _ => rfl) ?_
  rw [show (75 + 1 : Int32) = 76 from rfl]
  refine fe_chr (i := 76) (by omega) (by rfl) (by rfl) ⟨by rfl, by rfl⟩ (by rfl) ?_
  rw [show sk_b.getD 76 0 = 115 from rfl]
  refine fe_s 1 (pc' := 33) (lc' := [(4, .int 76), (3, .int 73), (2, .int 13), (0, .ref 0), (1, .ref 22)]) (stk' := [.int 32, .int 115]) (mem' := fm g tp bt a b) (fun _ _ _ => rfl) ?_
  refine fe_s 1 (pc' := cond (fx_cb .eq 115 32) 42 36) (lc' := [(4, .int 76), (3, .int 73), (2, .int 13), (0, .ref 0), (1, .ref 22)]) (stk' := []) (mem' := fm g tp bt a b) (fun _ _ _ => rfl) ?_
  rw [show (fx_cb .eq 115 32) = false from by decide]
  dsimp only [cond]
  refine fe_s 4 (pc' := 28) (lc' := [(4, .int (76 + 1)), (3, .int 73), (2, .int 13), (0, .ref 0), (1, .ref 22)]) (stk' := [.int (76 + 1), .ref 22]) (mem' := fm g tp bt a b) (fun _ _ _ => rfl) ?_
  rw [show (76 + 1 : Int32) = 77 from rfl]
  refine fe_chr (i := 77) (by omega) (by rfl) (by rfl) ⟨by rfl, by rfl⟩ (by rfl) ?_
  rw [show sk_b.getD 77 0 = 116 from rfl]
  refine fe_s 1 (pc' := 33) (lc' := [(4, .int 77), (3, .int 73), (2, .int 13), (0, .ref 0), (1, .ref 22)]) (stk' := [.int 32, .int 116]) (mem' := fm g tp bt a b) (fun _ _ _ => rfl) ?_
  refine fe_s 1 (pc' := cond (fx_cb .eq 116 32) 42 36) (lc' := [(4, .int 77), (3, .int 73), (2, .int 13), (0, .ref 0), (1, .ref 22)]) (stk' := []) (mem' := fm g tp bt a b) (fun _ _ _ => rfl) ?_
  rw [show (fx_cb .eq 116 32) = false from by decide]
  dsimp only [cond]
  refine fe_s 4 (pc' := 28) (lc' := [(4, .int (77 + 1)), (3, .int 73), (2, .int 13), (0, .ref 0), (1, .ref 22)]) (stk' := [.int (77 + 1), .ref 22]) (mem' := fm g tp bt a b) (fun _ _ _ => rfl) ?_
  rw [show (77 + 1 : Int32) = 78 from rfl]
  refine fe_chr (i := 78) (by omega) (by rfl) (by rfl) ⟨by rfl, by rfl⟩ (by rfl) ?_
  rw [show sk_b.getD 78 0 = 32 from rfl]
  refine fe_s 1 (pc' := 33) (lc' := [(4, .int 78), (3, .int 73), (2, .int 13), (0, .ref 0), (1, .ref 22)]) (stk' := [.int 32, .int 32]) (mem' := fm g tp bt a b) (fun _ _ _ => rfl) ?_
  refine fe_s 1 (pc' := cond (fx_cb .eq 32 32) 42 36) (lc' := [(4, .int 78), (3, .int 73), (2, .int 13), (0, .ref 0), (1, .ref 22)]) (stk' := []) (mem' := fm g tp bt a b) (fun _ _ _ => rfl) ?_
  rw [show (fx_cb .eq 32 32) = true from by decide]
  dsimp only [cond]
  refine fe_s 4 (pc' := 47) (lc' := [(4, .int 78), (3, .int 73), (2, .int 13), (0, .ref 0), (1, .ref 22)]) (stk' := [.ref 0, .int (78 - 73)]) (mem' := fm g tp bt a b) (fun _ _ _ => rfl) ?_
  rw [show (78 - 73 : Int32) = 5 from rfl]
  refine fe_s 4 (pc' := 55) (lc' := [(4, .int 78), (3, .int 73), (2, .int 13), (0, .ref 0), (1, .ref 22)]) (stk' := [.int ((g 14) - (g 13)), .int 5]) (mem' := fm g tp bt a b) (fun _ _ _ => rfl) ?_
  try rw [h14]
  try rw [h13]
  rw [show ((nI E) - (nI F) : Int32) = nI (E - F) from by simp only [tg_sub2 (x := E) (y := F) (by omega), nI_add, fm_mul]]
  refine fe_s 1 (pc' := cond (fx_cb .ne 5 (nI (E - F))) 62 58) (lc' := [(4, .int 78), (3, .int 73), (2, .int 13), (0, .ref 0), (1, .ref 22)]) (stk' := []) (mem' := fm g tp bt a b) (fun _ _ _ => rfl) ?_
  by_cases h2 : 5 = (E - F)
  · rw [show (fx_cb .ne 5 (nI (E - F))) = false from cb_neF (a := 5) (b := E - F) (by omega) (by omega) (by omega)]
    dsimp only [cond]
    refine fe_s 4 (pc' := 66) (lc' := [(5, .int 1), (4, .int 78), (3, .int 73), (2, .int 13), (0, .ref 0), (1, .ref 22)]) (stk' := [.int 73]) (mem' := fm g tp bt a b) (fun _ _ _ => rfl) ?_
    refine fe_s 3 (pc' := 72) (lc' := [(6, .int 73), (5, .int 1), (4, .int 78), (3, .int 73), (2, .int 13), (0, .ref 0), (1, .ref 22)]) (stk' := [.int 78, .int 73]) (mem' := fm g tp bt a b) (fun _ _ _ => rfl) ?_
    refine fe_s 1 (pc' := cond (fx_cb .ge 73 78) 115 75) (lc' := [(6, .int 73), (5, .int 1), (4, .int 78), (3, .int 73), (2, .int 13), (0, .ref 0), (1, .ref 22)]) (stk' := []) (mem' := fm g tp bt a b) (fun _ _ _ => rfl) ?_
    rw [show (fx_cb .ge 73 78) = false from by decide]
    dsimp only [cond]
    refine fe_s 1 (pc' := 77) (lc' := [(6, .int 73), (5, .int 1), (4, .int 78), (3, .int 73), (2, .int 13), (0, .ref 0), (1, .ref 22)]) (stk' := [.int 1]) (mem' := fm g tp bt a b) (fun _ _ _ => rfl) ?_
    refine fe_s 1 (pc' := cond (fx_cb .eq 1 0) 115 80) (lc' := [(6, .int 73), (5, .int 1), (4, .int 78), (3, .int 73), (2, .int 13), (0, .ref 0), (1, .ref 22)]) (stk' := []) (mem' := fm g tp bt a b) (fun _ _ _ => rfl) ?_
    rw [show (fx_cb .eq 1 0) = false from by decide]
    dsimp only [cond]
    refine fe_s 2 (pc' := 83) (lc' := [(6, .int 73), (5, .int 1), (4, .int 78), (3, .int 73), (2, .int 13), (0, .ref 0), (1, .ref 22)]) (stk' := [.int 73, .ref 22]) (mem' := fm g tp bt a b) (fun _ _ _ => rfl) ?_
    refine fe_chr (i := 73) (by omega) (by rfl) (by rfl) ⟨by rfl, by rfl⟩ (by rfl) ?_
    rw [show sk_b.getD 73 0 = 102 from rfl]
    refine fe_s 4 (pc' := 93) (lc' := [(6, .int 73), (5, .int 1), (4, .int 78), (3, .int 73), (2, .int 13), (0, .ref 0), (1, .ref 22)]) (stk' := [.int 73, .int (g 13), .ref 0, .int 102]) (mem' := fm g tp bt a b) (fun _ _ _ => rfl) ?_
    try rw [h13]
    refine fe_s 3 (pc' := 96) (lc' := [(6, .int 73), (5, .int 1), (4, .int 78), (3, .int 73), (2, .int 13), (0, .ref 0), (1, .ref 22)]) (stk' := [.int (((nI F) + 73) - 73), .ref 0, .int 102]) (mem' := fm g tp bt a b) (fun _ _ _ => rfl) ?_
    rw [show (((nI F) + 73) - 73 : Int32) = nI ((F + 73) - 73) from by simp only [show (73 : Int32) = nI 73 from rfl, tg_sub2 (x := F + 73) (y := 73) (by omega), nI_add, fm_mul]]
    refine fe_ivV (fr_byteAt (S := S) (k := (F + 73) - 73) (g := g) (tp := tp) (bt := bt) (a := a) (b := b) h11 (by omega) (by omega)) (by omega) (by rfl) (by rfl) (by rfl) (by rfl) (by rfl) (by rfl) ?_
    rcases fm_byte_or a S ((F + 73) - 73) with ⟨e4, q5⟩ | ⟨q5, n3, qn3, e4⟩
    · rw [e4]
      refine fe_s 1 (pc' := cond (fx_cb .ne 102 (-1)) 106 102) (lc' := [(6, .int 73), (5, .int 1), (4, .int 78), (3, .int 73), (2, .int 13), (0, .ref 0), (1, .ref 22)]) (stk' := []) (mem' := fm g tp bt a b) (fun _ _ _ => rfl) ?_
      rw [show (fx_cb .ne 102 (-1)) = true from by decide]
      dsimp only [cond]
      refine fe_s 1 (pc' := 107) (lc' := [(6, .int 73), (5, .int 1), (4, .int 78), (3, .int 73), (2, .int 13), (0, .ref 0), (1, .ref 22)]) (stk' := [.int 0]) (mem' := fm g tp bt a b) (fun _ _ _ => rfl) ?_
      refine fe_w (lc' := [(6, .int 73), (5, .int 1), (4, .int 78), (3, .int 73), (2, .int 13), (0, .ref 0), (1, .ref 22)]) ⟨rfl, rfl, rfl, rfl, rfl, rfl, rfl, trivial⟩ (by show List.Nodup [6, 5, 4, 3, 2, 0, 1]; decide) (by show List.Nodup [6, 5, 4, 3, 2, 0, 1]; decide) ?_
      exact fail _ _
    · rw [e4]
      refine fe_s 1 (pc' := cond (fx_cb .ne 102 (nI n3)) 106 102) (lc' := [(6, .int 73), (5, .int 1), (4, .int 78), (3, .int 73), (2, .int 13), (0, .ref 0), (1, .ref 22)]) (stk' := []) (mem' := fm g tp bt a b) (fun _ _ _ => rfl) ?_
      by_cases h6 : 102 = n3
      · rw [show (fx_cb .ne 102 (nI n3)) = false from cb_neF (a := 102) (b := n3) (by omega) (by omega) (by omega)]
        dsimp only [cond]
        refine fe_s 2 (pc' := 107) (lc' := [(6, .int 73), (5, .int 1), (4, .int 78), (3, .int 73), (2, .int 13), (0, .ref 0), (1, .ref 22)]) (stk' := [.int 1]) (mem' := fm g tp bt a b) (fun _ _ _ => rfl) ?_
        refine fe_s 4 (pc' := 70) (lc' := [(6, .int (73 + 1)), (5, .int 1), (4, .int 78), (3, .int 73), (2, .int 13), (0, .ref 0), (1, .ref 22)]) (stk' := [.int (73 + 1)]) (mem' := fm g tp bt a b) (fun _ _ _ => rfl) ?_
        rw [show (73 + 1 : Int32) = 74 from rfl]
        refine fe_s 1 (pc' := 72) (lc' := [(6, .int 74), (5, .int 1), (4, .int 78), (3, .int 73), (2, .int 13), (0, .ref 0), (1, .ref 22)]) (stk' := [.int 78, .int 74]) (mem' := fm g tp bt a b) (fun _ _ _ => rfl) ?_
        refine fe_s 1 (pc' := cond (fx_cb .ge 74 78) 115 75) (lc' := [(6, .int 74), (5, .int 1), (4, .int 78), (3, .int 73), (2, .int 13), (0, .ref 0), (1, .ref 22)]) (stk' := []) (mem' := fm g tp bt a b) (fun _ _ _ => rfl) ?_
        rw [show (fx_cb .ge 74 78) = false from by decide]
        dsimp only [cond]
        refine fe_s 1 (pc' := 77) (lc' := [(6, .int 74), (5, .int 1), (4, .int 78), (3, .int 73), (2, .int 13), (0, .ref 0), (1, .ref 22)]) (stk' := [.int 1]) (mem' := fm g tp bt a b) (fun _ _ _ => rfl) ?_
        refine fe_s 1 (pc' := cond (fx_cb .eq 1 0) 115 80) (lc' := [(6, .int 74), (5, .int 1), (4, .int 78), (3, .int 73), (2, .int 13), (0, .ref 0), (1, .ref 22)]) (stk' := []) (mem' := fm g tp bt a b) (fun _ _ _ => rfl) ?_
        rw [show (fx_cb .eq 1 0) = false from by decide]
        dsimp only [cond]
        refine fe_s 2 (pc' := 83) (lc' := [(6, .int 74), (5, .int 1), (4, .int 78), (3, .int 73), (2, .int 13), (0, .ref 0), (1, .ref 22)]) (stk' := [.int 74, .ref 22]) (mem' := fm g tp bt a b) (fun _ _ _ => rfl) ?_
        refine fe_chr (i := 74) (by omega) (by rfl) (by rfl) ⟨by rfl, by rfl⟩ (by rfl) ?_
        rw [show sk_b.getD 74 0 = 114 from rfl]
        refine fe_s 4 (pc' := 93) (lc' := [(6, .int 74), (5, .int 1), (4, .int 78), (3, .int 73), (2, .int 13), (0, .ref 0), (1, .ref 22)]) (stk' := [.int 74, .int (g 13), .ref 0, .int 114]) (mem' := fm g tp bt a b) (fun _ _ _ => rfl) ?_
        try rw [h13]
        refine fe_s 3 (pc' := 96) (lc' := [(6, .int 74), (5, .int 1), (4, .int 78), (3, .int 73), (2, .int 13), (0, .ref 0), (1, .ref 22)]) (stk' := [.int (((nI F) + 74) - 73), .ref 0, .int 114]) (mem' := fm g tp bt a b) (fun _ _ _ => rfl) ?_
        rw [show (((nI F) + 74) - 73 : Int32) = nI ((F + 74) - 73) from by simp only [show (74 : Int32) = nI 74 from rfl, show (73 : Int32) = nI 73 from rfl, tg_sub2 (x := F + 74) (y := 73) (by omega), nI_add, fm_mul]]
        refine fe_ivV (fr_byteAt (S := S) (k := (F + 74) - 73) (g := g) (tp := tp) (bt := bt) (a := a) (b := b) h11 (by omega) (by omega)) (by omega) (by rfl) (by rfl) (by rfl) (by rfl) (by rfl) (by rfl) ?_
        rcases fm_byte_or a S ((F + 74) - 73) with ⟨e8, q9⟩ | ⟨q9, n7, qn7, e8⟩
        · rw [e8]
          refine fe_s 1 (pc' := cond (fx_cb .ne 114 (-1)) 106 102) (lc' := [(6, .int 74), (5, .int 1), (4, .int 78), (3, .int 73), (2, .int 13), (0, .ref 0), (1, .ref 22)]) (stk' := []) (mem' := fm g tp bt a b) (fun _ _ _ => rfl) ?_
          rw [show (fx_cb .ne 114 (-1)) = true from by decide]
          dsimp only [cond]
          refine fe_s 1 (pc' := 107) (lc' := [(6, .int 74), (5, .int 1), (4, .int 78), (3, .int 73), (2, .int 13), (0, .ref 0), (1, .ref 22)]) (stk' := [.int 0]) (mem' := fm g tp bt a b) (fun _ _ _ => rfl) ?_
          refine fe_w (lc' := [(6, .int 74), (5, .int 1), (4, .int 78), (3, .int 73), (2, .int 13), (0, .ref 0), (1, .ref 22)]) ⟨rfl, rfl, rfl, rfl, rfl, rfl, rfl, trivial⟩ (by show List.Nodup [6, 5, 4, 3, 2, 0, 1]; decide) (by show List.Nodup [6, 5, 4, 3, 2, 0, 1]; decide) ?_
          exact fail _ _
        · rw [e8]
          refine fe_s 1 (pc' := cond (fx_cb .ne 114 (nI n7)) 106 102) (lc' := [(6, .int 74), (5, .int 1), (4, .int 78), (3, .int 73), (2, .int 13), (0, .ref 0), (1, .ref 22)]) (stk' := []) (mem' := fm g tp bt a b) (fun _ _ _ => rfl) ?_
          by_cases h10 : 114 = n7
          · rw [show (fx_cb .ne 114 (nI n7)) = false from cb_neF (a := 114) (b := n7) (by omega) (by omega) (by omega)]
            dsimp only [cond]
            refine fe_s 2 (pc' := 107) (lc' := [(6, .int 74), (5, .int 1), (4, .int 78), (3, .int 73), (2, .int 13), (0, .ref 0), (1, .ref 22)]) (stk' := [.int 1]) (mem' := fm g tp bt a b) (fun _ _ _ => rfl) ?_
            refine fe_s 4 (pc' := 70) (lc' := [(6, .int (74 + 1)), (5, .int 1), (4, .int 78), (3, .int 73), (2, .int 13), (0, .ref 0), (1, .ref 22)]) (stk' := [.int (74 + 1)]) (mem' := fm g tp bt a b) (fun _ _ _ => rfl) ?_
            rw [show (74 + 1 : Int32) = 75 from rfl]
            refine fe_s 1 (pc' := 72) (lc' := [(6, .int 75), (5, .int 1), (4, .int 78), (3, .int 73), (2, .int 13), (0, .ref 0), (1, .ref 22)]) (stk' := [.int 78, .int 75]) (mem' := fm g tp bt a b) (fun _ _ _ => rfl) ?_
            refine fe_s 1 (pc' := cond (fx_cb .ge 75 78) 115 75) (lc' := [(6, .int 75), (5, .int 1), (4, .int 78), (3, .int 73), (2, .int 13), (0, .ref 0), (1, .ref 22)]) (stk' := []) (mem' := fm g tp bt a b) (fun _ _ _ => rfl) ?_
            rw [show (fx_cb .ge 75 78) = false from by decide]
            dsimp only [cond]
            refine fe_s 1 (pc' := 77) (lc' := [(6, .int 75), (5, .int 1), (4, .int 78), (3, .int 73), (2, .int 13), (0, .ref 0), (1, .ref 22)]) (stk' := [.int 1]) (mem' := fm g tp bt a b) (fun _ _ _ => rfl) ?_
            refine fe_s 1 (pc' := cond (fx_cb .eq 1 0) 115 80) (lc' := [(6, .int 75), (5, .int 1), (4, .int 78), (3, .int 73), (2, .int 13), (0, .ref 0), (1, .ref 22)]) (stk' := []) (mem' := fm g tp bt a b) (fun _ _ _ => rfl) ?_
            rw [show (fx_cb .eq 1 0) = false from by decide]
            dsimp only [cond]
            refine fe_s 2 (pc' := 83) (lc' := [(6, .int 75), (5, .int 1), (4, .int 78), (3, .int 73), (2, .int 13), (0, .ref 0), (1, .ref 22)]) (stk' := [.int 75, .ref 22]) (mem' := fm g tp bt a b) (fun _ _ _ => rfl) ?_
            refine fe_chr (i := 75) (by omega) (by rfl) (by rfl) ⟨by rfl, by rfl⟩ (by rfl) ?_
            rw [show sk_b.getD 75 0 = 111 from rfl]
            refine fe_s 4 (pc' := 93) (lc' := [(6, .int 75), (5, .int 1), (4, .int 78), (3, .int 73), (2, .int 13), (0, .ref 0), (1, .ref 22)]) (stk' := [.int 75, .int (g 13), .ref 0, .int 111]) (mem' := fm g tp bt a b) (fun _ _ _ => rfl) ?_
            try rw [h13]
            refine fe_s 3 (pc' := 96) (lc' := [(6, .int 75), (5, .int 1), (4, .int 78), (3, .int 73), (2, .int 13), (0, .ref 0), (1, .ref 22)]) (stk' := [.int (((nI F) + 75) - 73), .ref 0, .int 111]) (mem' := fm g tp bt a b) (fun _ _ _ => rfl) ?_
            rw [show (((nI F) + 75) - 73 : Int32) = nI ((F + 75) - 73) from by simp only [show (75 : Int32) = nI 75 from rfl, show (73 : Int32) = nI 73 from rfl, tg_sub2 (x := F + 75) (y := 73) (by omega), nI_add, fm_mul]]
            refine fe_ivV (fr_byteAt (S := S) (k := (F + 75) - 73) (g := g) (tp := tp) (bt := bt) (a := a) (b := b) h11 (by omega) (by omega)) (by omega) (by rfl) (by rfl) (by rfl) (by rfl) (by rfl) (by rfl) ?_
            rcases fm_byte_or a S ((F + 75) - 73) with ⟨e12, q13⟩ | ⟨q13, n11, qn11, e12⟩
            · rw [e12]
              refine fe_s 1 (pc' := cond (fx_cb .ne 111 (-1)) 106 102) (lc' := [(6, .int 75), (5, .int 1), (4, .int 78), (3, .int 73), (2, .int 13), (0, .ref 0), (1, .ref 22)]) (stk' := []) (mem' := fm g tp bt a b) (fun _ _ _ => rfl) ?_
              rw [show (fx_cb .ne 111 (-1)) = true from by decide]
              dsimp only [cond]
              refine fe_s 1 (pc' := 107) (lc' := [(6, .int 75), (5, .int 1), (4, .int 78), (3, .int 73), (2, .int 13), (0, .ref 0), (1, .ref 22)]) (stk' := [.int 0]) (mem' := fm g tp bt a b) (fun _ _ _ => rfl) ?_
              refine fe_w (lc' := [(6, .int 75), (5, .int 1), (4, .int 78), (3, .int 73), (2, .int 13), (0, .ref 0), (1, .ref 22)]) ⟨rfl, rfl, rfl, rfl, rfl, rfl, rfl, trivial⟩ (by show List.Nodup [6, 5, 4, 3, 2, 0, 1]; decide) (by show List.Nodup [6, 5, 4, 3, 2, 0, 1]; decide) ?_
              exact fail _ _
            · rw [e12]
              refine fe_s 1 (pc' := cond (fx_cb .ne 111 (nI n11)) 106 102) (lc' := [(6, .int 75), (5, .int 1), (4, .int 78), (3, .int 73), (2, .int 13), (0, .ref 0), (1, .ref 22)]) (stk' := []) (mem' := fm g tp bt a b) (fun _ _ _ => rfl) ?_
              by_cases h14 : 111 = n11
              · rw [show (fx_cb .ne 111 (nI n11)) = false from cb_neF (a := 111) (b := n11) (by omega) (by omega) (by omega)]
                dsimp only [cond]
                refine fe_s 2 (pc' := 107) (lc' := [(6, .int 75), (5, .int 1), (4, .int 78), (3, .int 73), (2, .int 13), (0, .ref 0), (1, .ref 22)]) (stk' := [.int 1]) (mem' := fm g tp bt a b) (fun _ _ _ => rfl) ?_
                refine fe_s 4 (pc' := 70) (lc' := [(6, .int (75 + 1)), (5, .int 1), (4, .int 78), (3, .int 73), (2, .int 13), (0, .ref 0), (1, .ref 22)]) (stk' := [.int (75 + 1)]) (mem' := fm g tp bt a b) (fun _ _ _ => rfl) ?_
                rw [show (75 + 1 : Int32) = 76 from rfl]
                refine fe_s 1 (pc' := 72) (lc' := [(6, .int 76), (5, .int 1), (4, .int 78), (3, .int 73), (2, .int 13), (0, .ref 0), (1, .ref 22)]) (stk' := [.int 78, .int 76]) (mem' := fm g tp bt a b) (fun _ _ _ => rfl) ?_
                refine fe_s 1 (pc' := cond (fx_cb .ge 76 78) 115 75) (lc' := [(6, .int 76), (5, .int 1), (4, .int 78), (3, .int 73), (2, .int 13), (0, .ref 0), (1, .ref 22)]) (stk' := []) (mem' := fm g tp bt a b) (fun _ _ _ => rfl) ?_
                rw [show (fx_cb .ge 76 78) = false from by decide]
                dsimp only [cond]
                refine fe_s 1 (pc' := 77) (lc' := [(6, .int 76), (5, .int 1), (4, .int 78), (3, .int 73), (2, .int 13), (0, .ref 0), (1, .ref 22)]) (stk' := [.int 1]) (mem' := fm g tp bt a b) (fun _ _ _ => rfl) ?_
                refine fe_s 1 (pc' := cond (fx_cb .eq 1 0) 115 80) (lc' := [(6, .int 76), (5, .int 1), (4, .int 78), (3, .int 73), (2, .int 13), (0, .ref 0), (1, .ref 22)]) (stk' := []) (mem' := fm g tp bt a b) (fun _ _ _ => rfl) ?_
                rw [show (fx_cb .eq 1 0) = false from by decide]
                dsimp only [cond]
                refine fe_s 2 (pc' := 83) (lc' := [(6, .int 76), (5, .int 1), (4, .int 78), (3, .int 73), (2, .int 13), (0, .ref 0), (1, .ref 22)]) (stk' := [.int 76, .ref 22]) (mem' := fm g tp bt a b) (fun _ _ _ => rfl) ?_
                refine fe_chr (i := 76) (by omega) (by rfl) (by rfl) ⟨by rfl, by rfl⟩ (by rfl) ?_
                rw [show sk_b.getD 76 0 = 115 from rfl]
                refine fe_s 4 (pc' := 93) (lc' := [(6, .int 76), (5, .int 1), (4, .int 78), (3, .int 73), (2, .int 13), (0, .ref 0), (1, .ref 22)]) (stk' := [.int 76, .int (g 13), .ref 0, .int 115]) (mem' := fm g tp bt a b) (fun _ _ _ => rfl) ?_
                try rw [h13]
                refine fe_s 3 (pc' := 96) (lc' := [(6, .int 76), (5, .int 1), (4, .int 78), (3, .int 73), (2, .int 13), (0, .ref 0), (1, .ref 22)]) (stk' := [.int (((nI F) + 76) - 73), .ref 0, .int 115]) (mem' := fm g tp bt a b) (fun _ _ _ => rfl) ?_
                rw [show (((nI F) + 76) - 73 : Int32) = nI ((F + 76) - 73) from by simp only [show (76 : Int32) = nI 76 from rfl, show (73 : Int32) = nI 73 from rfl, tg_sub2 (x := F + 76) (y := 73) (by omega), nI_add, fm_mul]]
                refine fe_ivV (fr_byteAt (S := S) (k := (F + 76) - 73) (g := g) (tp := tp) (bt := bt) (a := a) (b := b) h11 (by omega) (by omega)) (by omega) (by rfl) (by rfl) (by rfl) (by rfl) (by rfl) (by rfl) ?_
                rcases fm_byte_or a S ((F + 76) - 73) with ⟨e16, q17⟩ | ⟨q17, n15, qn15, e16⟩
                · rw [e16]
                  refine fe_s 1 (pc' := cond (fx_cb .ne 115 (-1)) 106 102) (lc' := [(6, .int 76), (5, .int 1), (4, .int 78), (3, .int 73), (2, .int 13), (0, .ref 0), (1, .ref 22)]) (stk' := []) (mem' := fm g tp bt a b) (fun _ _ _ => rfl) ?_
                  rw [show (fx_cb .ne 115 (-1)) = true from by decide]
                  dsimp only [cond]
                  refine fe_s 1 (pc' := 107) (lc' := [(6, .int 76), (5, .int 1), (4, .int 78), (3, .int 73), (2, .int 13), (0, .ref 0), (1, .ref 22)]) (stk' := [.int 0]) (mem' := fm g tp bt a b) (fun _ _ _ => rfl) ?_
                  refine fe_w (lc' := [(6, .int 76), (5, .int 1), (4, .int 78), (3, .int 73), (2, .int 13), (0, .ref 0), (1, .ref 22)]) ⟨rfl, rfl, rfl, rfl, rfl, rfl, rfl, trivial⟩ (by show List.Nodup [6, 5, 4, 3, 2, 0, 1]; decide) (by show List.Nodup [6, 5, 4, 3, 2, 0, 1]; decide) ?_
                  exact fail _ _
                · rw [e16]
                  refine fe_s 1 (pc' := cond (fx_cb .ne 115 (nI n15)) 106 102) (lc' := [(6, .int 76), (5, .int 1), (4, .int 78), (3, .int 73), (2, .int 13), (0, .ref 0), (1, .ref 22)]) (stk' := []) (mem' := fm g tp bt a b) (fun _ _ _ => rfl) ?_
                  by_cases h18 : 115 = n15
                  · rw [show (fx_cb .ne 115 (nI n15)) = false from cb_neF (a := 115) (b := n15) (by omega) (by omega) (by omega)]
                    dsimp only [cond]
                    refine fe_s 2 (pc' := 107) (lc' := [(6, .int 76), (5, .int 1), (4, .int 78), (3, .int 73), (2, .int 13), (0, .ref 0), (1, .ref 22)]) (stk' := [.int 1]) (mem' := fm g tp bt a b) (fun _ _ _ => rfl) ?_
                    refine fe_s 4 (pc' := 70) (lc' := [(6, .int (76 + 1)), (5, .int 1), (4, .int 78), (3, .int 73), (2, .int 13), (0, .ref 0), (1, .ref 22)]) (stk' := [.int (76 + 1)]) (mem' := fm g tp bt a b) (fun _ _ _ => rfl) ?_
                    rw [show (76 + 1 : Int32) = 77 from rfl]
                    refine fe_s 1 (pc' := 72) (lc' := [(6, .int 77), (5, .int 1), (4, .int 78), (3, .int 73), (2, .int 13), (0, .ref 0), (1, .ref 22)]) (stk' := [.int 78, .int 77]) (mem' := fm g tp bt a b) (fun _ _ _ => rfl) ?_
                    refine fe_s 1 (pc' := cond (fx_cb .ge 77 78) 115 75) (lc' := [(6, .int 77), (5, .int 1), (4, .int 78), (3, .int 73), (2, .int 13), (0, .ref 0), (1, .ref 22)]) (stk' := []) (mem' := fm g tp bt a b) (fun _ _ _ => rfl) ?_
                    rw [show (fx_cb .ge 77 78) = false from by decide]
                    dsimp only [cond]
                    refine fe_s 1 (pc' := 77) (lc' := [(6, .int 77), (5, .int 1), (4, .int 78), (3, .int 73), (2, .int 13), (0, .ref 0), (1, .ref 22)]) (stk' := [.int 1]) (mem' := fm g tp bt a b) (fun _ _ _ => rfl) ?_
                    refine fe_s 1 (pc' := cond (fx_cb .eq 1 0) 115 80) (lc' := [(6, .int 77), (5, .int 1), (4, .int 78), (3, .int 73), (2, .int 13), (0, .ref 0), (1, .ref 22)]) (stk' := []) (mem' := fm g tp bt a b) (fun _ _ _ => rfl) ?_
                    rw [show (fx_cb .eq 1 0) = false from by decide]
                    dsimp only [cond]
                    refine fe_s 2 (pc' := 83) (lc' := [(6, .int 77), (5, .int 1), (4, .int 78), (3, .int 73), (2, .int 13), (0, .ref 0), (1, .ref 22)]) (stk' := [.int 77, .ref 22]) (mem' := fm g tp bt a b) (fun _ _ _ => rfl) ?_
                    refine fe_chr (i := 77) (by omega) (by rfl) (by rfl) ⟨by rfl, by rfl⟩ (by rfl) ?_
                    rw [show sk_b.getD 77 0 = 116 from rfl]
                    refine fe_s 4 (pc' := 93) (lc' := [(6, .int 77), (5, .int 1), (4, .int 78), (3, .int 73), (2, .int 13), (0, .ref 0), (1, .ref 22)]) (stk' := [.int 77, .int (g 13), .ref 0, .int 116]) (mem' := fm g tp bt a b) (fun _ _ _ => rfl) ?_
                    try rw [h13]
                    refine fe_s 3 (pc' := 96) (lc' := [(6, .int 77), (5, .int 1), (4, .int 78), (3, .int 73), (2, .int 13), (0, .ref 0), (1, .ref 22)]) (stk' := [.int (((nI F) + 77) - 73), .ref 0, .int 116]) (mem' := fm g tp bt a b) (fun _ _ _ => rfl) ?_
                    rw [show (((nI F) + 77) - 73 : Int32) = nI ((F + 77) - 73) from by simp only [show (77 : Int32) = nI 77 from rfl, show (73 : Int32) = nI 73 from rfl, tg_sub2 (x := F + 77) (y := 73) (by omega), nI_add, fm_mul]]
                    refine fe_ivV (fr_byteAt (S := S) (k := (F + 77) - 73) (g := g) (tp := tp) (bt := bt) (a := a) (b := b) h11 (by omega) (by omega)) (by omega) (by rfl) (by rfl) (by rfl) (by rfl) (by rfl) (by rfl) ?_
                    rcases fm_byte_or a S ((F + 77) - 73) with ⟨e20, q21⟩ | ⟨q21, n19, qn19, e20⟩
                    · rw [e20]
                      refine fe_s 1 (pc' := cond (fx_cb .ne 116 (-1)) 106 102) (lc' := [(6, .int 77), (5, .int 1), (4, .int 78), (3, .int 73), (2, .int 13), (0, .ref 0), (1, .ref 22)]) (stk' := []) (mem' := fm g tp bt a b) (fun _ _ _ => rfl) ?_
                      rw [show (fx_cb .ne 116 (-1)) = true from by decide]
                      dsimp only [cond]
                      refine fe_s 1 (pc' := 107) (lc' := [(6, .int 77), (5, .int 1), (4, .int 78), (3, .int 73), (2, .int 13), (0, .ref 0), (1, .ref 22)]) (stk' := [.int 0]) (mem' := fm g tp bt a b) (fun _ _ _ => rfl) ?_
                      refine fe_w (lc' := [(6, .int 77), (5, .int 1), (4, .int 78), (3, .int 73), (2, .int 13), (0, .ref 0), (1, .ref 22)]) ⟨rfl, rfl, rfl, rfl, rfl, rfl, rfl, trivial⟩ (by show List.Nodup [6, 5, 4, 3, 2, 0, 1]; decide) (by show List.Nodup [6, 5, 4, 3, 2, 0, 1]; decide) ?_
                      exact fail _ _
                    · rw [e20]
                      refine fe_s 1 (pc' := cond (fx_cb .ne 116 (nI n19)) 106 102) (lc' := [(6, .int 77), (5, .int 1), (4, .int 78), (3, .int 73), (2, .int 13), (0, .ref 0), (1, .ref 22)]) (stk' := []) (mem' := fm g tp bt a b) (fun _ _ _ => rfl) ?_
                      by_cases h22 : 116 = n19
                      · rw [show (fx_cb .ne 116 (nI n19)) = false from cb_neF (a := 116) (b := n19) (by omega) (by omega) (by omega)]
                        dsimp only [cond]
                        refine fe_s 2 (pc' := 107) (lc' := [(6, .int 77), (5, .int 1), (4, .int 78), (3, .int 73), (2, .int 13), (0, .ref 0), (1, .ref 22)]) (stk' := [.int 1]) (mem' := fm g tp bt a b) (fun _ _ _ => rfl) ?_
                        refine fe_s 4 (pc' := 70) (lc' := [(6, .int (77 + 1)), (5, .int 1), (4, .int 78), (3, .int 73), (2, .int 13), (0, .ref 0), (1, .ref 22)]) (stk' := [.int (77 + 1)]) (mem' := fm g tp bt a b) (fun _ _ _ => rfl) ?_
                        rw [show (77 + 1 : Int32) = 78 from rfl]
                        refine fe_s 1 (pc' := 72) (lc' := [(6, .int 78), (5, .int 1), (4, .int 78), (3, .int 73), (2, .int 13), (0, .ref 0), (1, .ref 22)]) (stk' := [.int 78, .int 78]) (mem' := fm g tp bt a b) (fun _ _ _ => rfl) ?_
                        refine fe_s 1 (pc' := cond (fx_cb .ge 78 78) 115 75) (lc' := [(6, .int 78), (5, .int 1), (4, .int 78), (3, .int 73), (2, .int 13), (0, .ref 0), (1, .ref 22)]) (stk' := []) (mem' := fm g tp bt a b) (fun _ _ _ => rfl) ?_
                        rw [show (fx_cb .ge 78 78) = true from by decide]
                        dsimp only [cond]
                        refine fe_s 1 (pc' := 117) (lc' := [(6, .int 78), (5, .int 1), (4, .int 78), (3, .int 73), (2, .int 13), (0, .ref 0), (1, .ref 22)]) (stk' := [.int 1]) (mem' := fm g tp bt a b) (fun _ _ _ => rfl) ?_
                        refine fe_s 1 (pc' := cond (fx_cb .eq 1 0) 122 120) (lc' := [(6, .int 78), (5, .int 1), (4, .int 78), (3, .int 73), (2, .int 13), (0, .ref 0), (1, .ref 22)]) (stk' := []) (mem' := fm g tp bt a b) (fun _ _ _ => rfl) ?_
                        rw [show (fx_cb .eq 1 0) = false from by decide]
                        dsimp only [cond]
                        refine fe_s 1 (pc' := 121) (lc' := [(6, .int 78), (5, .int 1), (4, .int 78), (3, .int 73), (2, .int 13), (0, .ref 0), (1, .ref 22)]) (stk' := [.int 13]) (mem' := fm g tp bt a b) (fun _ _ _ => rfl) ?_
                        exact fe_ret ⟨_, Or.inr ⟨13, by omega, rfl⟩, rfl⟩ (by rfl) (by rfl) (by rfl)
                      · rw [show (fx_cb .ne 116 (nI n19)) = true from cb_neT (a := 116) (b := n19) (by omega) (by omega) (by omega)]
                        dsimp only [cond]
                        refine fe_s 1 (pc' := 107) (lc' := [(6, .int 77), (5, .int 1), (4, .int 78), (3, .int 73), (2, .int 13), (0, .ref 0), (1, .ref 22)]) (stk' := [.int 0]) (mem' := fm g tp bt a b) (fun _ _ _ => rfl) ?_
                        refine fe_w (lc' := [(6, .int 77), (5, .int 1), (4, .int 78), (3, .int 73), (2, .int 13), (0, .ref 0), (1, .ref 22)]) ⟨rfl, rfl, rfl, rfl, rfl, rfl, rfl, trivial⟩ (by show List.Nodup [6, 5, 4, 3, 2, 0, 1]; decide) (by show List.Nodup [6, 5, 4, 3, 2, 0, 1]; decide) ?_
                        exact fail _ _
                  · rw [show (fx_cb .ne 115 (nI n15)) = true from cb_neT (a := 115) (b := n15) (by omega) (by omega) (by omega)]
                    dsimp only [cond]
                    refine fe_s 1 (pc' := 107) (lc' := [(6, .int 76), (5, .int 1), (4, .int 78), (3, .int 73), (2, .int 13), (0, .ref 0), (1, .ref 22)]) (stk' := [.int 0]) (mem' := fm g tp bt a b) (fun _ _ _ => rfl) ?_
                    refine fe_w (lc' := [(6, .int 76), (5, .int 1), (4, .int 78), (3, .int 73), (2, .int 13), (0, .ref 0), (1, .ref 22)]) ⟨rfl, rfl, rfl, rfl, rfl, rfl, rfl, trivial⟩ (by show List.Nodup [6, 5, 4, 3, 2, 0, 1]; decide) (by show List.Nodup [6, 5, 4, 3, 2, 0, 1]; decide) ?_
                    exact fail _ _
              · rw [show (fx_cb .ne 111 (nI n11)) = true from cb_neT (a := 111) (b := n11) (by omega) (by omega) (by omega)]
                dsimp only [cond]
                refine fe_s 1 (pc' := 107) (lc' := [(6, .int 75), (5, .int 1), (4, .int 78), (3, .int 73), (2, .int 13), (0, .ref 0), (1, .ref 22)]) (stk' := [.int 0]) (mem' := fm g tp bt a b) (fun _ _ _ => rfl) ?_
                refine fe_w (lc' := [(6, .int 75), (5, .int 1), (4, .int 78), (3, .int 73), (2, .int 13), (0, .ref 0), (1, .ref 22)]) ⟨rfl, rfl, rfl, rfl, rfl, rfl, rfl, trivial⟩ (by show List.Nodup [6, 5, 4, 3, 2, 0, 1]; decide) (by show List.Nodup [6, 5, 4, 3, 2, 0, 1]; decide) ?_
                exact fail _ _
          · rw [show (fx_cb .ne 114 (nI n7)) = true from cb_neT (a := 114) (b := n7) (by omega) (by omega) (by omega)]
            dsimp only [cond]
            refine fe_s 1 (pc' := 107) (lc' := [(6, .int 74), (5, .int 1), (4, .int 78), (3, .int 73), (2, .int 13), (0, .ref 0), (1, .ref 22)]) (stk' := [.int 0]) (mem' := fm g tp bt a b) (fun _ _ _ => rfl) ?_
            refine fe_w (lc' := [(6, .int 74), (5, .int 1), (4, .int 78), (3, .int 73), (2, .int 13), (0, .ref 0), (1, .ref 22)]) ⟨rfl, rfl, rfl, rfl, rfl, rfl, rfl, trivial⟩ (by show List.Nodup [6, 5, 4, 3, 2, 0, 1]; decide) (by show List.Nodup [6, 5, 4, 3, 2, 0, 1]; decide) ?_
            exact fail _ _
      · rw [show (fx_cb .ne 102 (nI n3)) = true from cb_neT (a := 102) (b := n3) (by omega) (by omega) (by omega)]
        dsimp only [cond]
        refine fe_s 1 (pc' := 107) (lc' := [(6, .int 73), (5, .int 1), (4, .int 78), (3, .int 73), (2, .int 13), (0, .ref 0), (1, .ref 22)]) (stk' := [.int 0]) (mem' := fm g tp bt a b) (fun _ _ _ => rfl) ?_
        refine fe_w (lc' := [(6, .int 73), (5, .int 1), (4, .int 78), (3, .int 73), (2, .int 13), (0, .ref 0), (1, .ref 22)]) ⟨rfl, rfl, rfl, rfl, rfl, rfl, rfl, trivial⟩ (by show List.Nodup [6, 5, 4, 3, 2, 0, 1]; decide) (by show List.Nodup [6, 5, 4, 3, 2, 0, 1]; decide) ?_
        exact fail _ _
  · rw [show (fx_cb .ne 5 (nI (E - F))) = true from cb_neT (a := 5) (b := E - F) (by omega) (by omega) (by omega)]
    dsimp only [cond]
    refine fe_s 4 (pc' := 68) (lc' := [(6, .int 73), (5, .int 0), (4, .int 78), (3, .int 73), (2, .int 13), (0, .ref 0), (1, .ref 22)]) (stk' := []) (mem' := fm g tp bt a b) (fun _ _ _ => rfl) ?_
    refine fe_s 2 (pc' := 72) (lc' := [(6, .int 73), (5, .int 0), (4, .int 78), (3, .int 73), (2, .int 13), (0, .ref 0), (1, .ref 22)]) (stk' := [.int 78, .int 73]) (mem' := fm g tp bt a b) (fun _ _ _ => rfl) ?_
    refine fe_s 1 (pc' := cond (fx_cb .ge 73 78) 115 75) (lc' := [(6, .int 73), (5, .int 0), (4, .int 78), (3, .int 73), (2, .int 13), (0, .ref 0), (1, .ref 22)]) (stk' := []) (mem' := fm g tp bt a b) (fun _ _ _ => rfl) ?_
    rw [show (fx_cb .ge 73 78) = false from by decide]
    dsimp only [cond]
    refine fe_s 1 (pc' := 77) (lc' := [(6, .int 73), (5, .int 0), (4, .int 78), (3, .int 73), (2, .int 13), (0, .ref 0), (1, .ref 22)]) (stk' := [.int 0]) (mem' := fm g tp bt a b) (fun _ _ _ => rfl) ?_
    refine fe_s 1 (pc' := cond (fx_cb .eq 0 0) 115 80) (lc' := [(6, .int 73), (5, .int 0), (4, .int 78), (3, .int 73), (2, .int 13), (0, .ref 0), (1, .ref 22)]) (stk' := []) (mem' := fm g tp bt a b) (fun _ _ _ => rfl) ?_
    rw [show (fx_cb .eq 0 0) = true from by decide]
    dsimp only [cond]
    refine fe_s 1 (pc' := 117) (lc' := [(6, .int 73), (5, .int 0), (4, .int 78), (3, .int 73), (2, .int 13), (0, .ref 0), (1, .ref 22)]) (stk' := [.int 0]) (mem' := fm g tp bt a b) (fun _ _ _ => rfl) ?_
    refine fe_s 1 (pc' := cond (fx_cb .eq 0 0) 122 120) (lc' := [(6, .int 73), (5, .int 0), (4, .int 78), (3, .int 73), (2, .int 13), (0, .ref 0), (1, .ref 22)]) (stk' := []) (mem' := fm g tp bt a b) (fun _ _ _ => rfl) ?_
    rw [show (fx_cb .eq 0 0) = true from by decide]
    dsimp only [cond]
    refine fe_s 4 (pc' := 129) (lc' := [(2, .int (13 + 1)), (6, .int 73), (5, .int 0), (4, .int 78), (3, .int 73), (0, .ref 0), (1, .ref 22)]) (stk' := [.int (78 + 1)]) (mem' := fm g tp bt a b) (fun _ _ _ => rfl) ?_
    rw [show (78 + 1 : Int32) = 79 from rfl]
    rw [show (13 + 1 : Int32) = 14 from rfl]
    refine fe_s 1 (pc' := 130) (lc' := [(3, .int 79), (2, .int 14), (6, .int 73), (5, .int 0), (4, .int 78), (0, .ref 0), (1, .ref 22)]) (stk' := []) (mem' := fm g tp bt a b) (fun _ _ _ => rfl) ?_
    refine fe_s 1 (pc' := fx_to 130 (-116)) (lc' := [(3, .int 79), (2, .int 14), (6, .int 73), (5, .int 0), (4, .int 78), (0, .ref 0), (1, .ref 22)]) (stk' := []) (mem' := fm g tp bt a b) (fun _ _ _ => rfl) ?_
    rw [show fx_to 130 (-116) = 14 from by decide]
    refine fe_w (lc' := [(3, .int 79), (2, .int 14), (0, .ref 0), (1, .ref 22)]) ⟨rfl, rfl, rfl, rfl, trivial⟩ (by show List.Nodup [3, 2, 0, 1]; decide) (by show List.Nodup [3, 2, 6, 5, 4, 0, 1]; decide) ?_
    exact fw_14 hxp
set_option maxHeartbeats 8000000 in
theorem fw_12 {S E F : Nat} (hxp : fm_xp g S E F) : fe_R 1 gk_m226 14 [(3, .int 68), (2, .int 12), (0, .ref 0), (1, .ref 22)] [] (fm g tp bt a b) (fm_FI (fm g tp bt a b)) := by
  obtain ⟨h11, hS9, h14, hES, h13, hFE, -, -, -⟩ := id hxp
  have fail : ∀ (x z : Int32), fe_R 1 gk_m226 107 [(6, .int x), (5, .int z), (4, .int 72), (3, .int 68), (2, .int 12), (0, .ref 0), (1, .ref 22)] [.int 0] (fm g tp bt a b) (fm_FI (fm g tp bt a b)) := by
    intro x z
    refine fe_s 4 (pc' := 70) (lc' := [(6, .int (x + 1)), (5, .int 0), (4, .int 72), (3, .int 68), (2, .int 12), (0, .ref 0), (1, .ref 22)]) (stk' := [.int (x + 1)]) (mem' := fm g tp bt a b) (fun _ _ _ => rfl) ?_
    refine fe_s 1 (pc' := 72) (lc' := [(6, .int (x + 1)), (5, .int 0), (4, .int 72), (3, .int 68), (2, .int 12), (0, .ref 0), (1, .ref 22)]) (stk' := [.int 72, .int (x + 1)]) (mem' := fm g tp bt a b) (fun _ _ _ => rfl) ?_
    refine fe_s 1 (pc' := cond (fx_cb .ge (x + 1) 72) 115 75) (lc' := [(6, .int (x + 1)), (5, .int 0), (4, .int 72), (3, .int 68), (2, .int 12), (0, .ref 0), (1, .ref 22)]) (stk' := []) (mem' := fm g tp bt a b) (fun _ _ _ => rfl) ?_
    cases h1 : fx_cb .ge (x + 1) 72
    · refine fe_s 1 (pc' := 77) (lc' := [(6, .int (x + 1)), (5, .int 0), (4, .int 72), (3, .int 68), (2, .int 12), (0, .ref 0), (1, .ref 22)]) (stk' := [.int 0]) (mem' := fm g tp bt a b) (fun _ _ _ => rfl) ?_
      refine fe_s 1 (pc' := cond (fx_cb .eq 0 0) 115 80) (lc' := [(6, .int (x + 1)), (5, .int 0), (4, .int 72), (3, .int 68), (2, .int 12), (0, .ref 0), (1, .ref 22)]) (stk' := []) (mem' := fm g tp bt a b) (fun _ _ _ => rfl) ?_
      rw [show (fx_cb .eq 0 0) = true from by decide]
      dsimp only [cond]
      refine fe_s 1 (pc' := 117) (lc' := [(6, .int (x + 1)), (5, .int 0), (4, .int 72), (3, .int 68), (2, .int 12), (0, .ref 0), (1, .ref 22)]) (stk' := [.int 0]) (mem' := fm g tp bt a b) (fun _ _ _ => rfl) ?_
      refine fe_s 1 (pc' := cond (fx_cb .eq 0 0) 122 120) (lc' := [(6, .int (x + 1)), (5, .int 0), (4, .int 72), (3, .int 68), (2, .int 12), (0, .ref 0), (1, .ref 22)]) (stk' := []) (mem' := fm g tp bt a b) (fun _ _ _ => rfl) ?_
      rw [show (fx_cb .eq 0 0) = true from by decide]
      dsimp only [cond]
      refine fe_s 4 (pc' := 129) (lc' := [(2, .int (12 + 1)), (6, .int (x + 1)), (5, .int 0), (4, .int 72), (3, .int 68), (0, .ref 0), (1, .ref 22)]) (stk' := [.int (72 + 1)]) (mem' := fm g tp bt a b) (fun _ _ _ => rfl) ?_
      rw [show (72 + 1 : Int32) = 73 from rfl]
      rw [show (12 + 1 : Int32) = 13 from rfl]
      refine fe_s 1 (pc' := 130) (lc' := [(3, .int 73), (2, .int 13), (6, .int (x + 1)), (5, .int 0), (4, .int 72), (0, .ref 0), (1, .ref 22)]) (stk' := []) (mem' := fm g tp bt a b) (fun _ _ _ => rfl) ?_
      refine fe_s 1 (pc' := fx_to 130 (-116)) (lc' := [(3, .int 73), (2, .int 13), (6, .int (x + 1)), (5, .int 0), (4, .int 72), (0, .ref 0), (1, .ref 22)]) (stk' := []) (mem' := fm g tp bt a b) (fun _ _ _ => rfl) ?_
      rw [show fx_to 130 (-116) = 14 from by decide]
      refine fe_w (lc' := [(3, .int 73), (2, .int 13), (0, .ref 0), (1, .ref 22)]) ⟨rfl, rfl, rfl, rfl, trivial⟩ (by show List.Nodup [3, 2, 0, 1]; decide) (by show List.Nodup [3, 2, 6, 5, 4, 0, 1]; decide) ?_
      exact fw_13 hxp
    · refine fe_s 1 (pc' := 117) (lc' := [(6, .int (x + 1)), (5, .int 0), (4, .int 72), (3, .int 68), (2, .int 12), (0, .ref 0), (1, .ref 22)]) (stk' := [.int 0]) (mem' := fm g tp bt a b) (fun _ _ _ => rfl) ?_
      refine fe_s 1 (pc' := cond (fx_cb .eq 0 0) 122 120) (lc' := [(6, .int (x + 1)), (5, .int 0), (4, .int 72), (3, .int 68), (2, .int 12), (0, .ref 0), (1, .ref 22)]) (stk' := []) (mem' := fm g tp bt a b) (fun _ _ _ => rfl) ?_
      rw [show (fx_cb .eq 0 0) = true from by decide]
      dsimp only [cond]
      refine fe_s 4 (pc' := 129) (lc' := [(2, .int (12 + 1)), (6, .int (x + 1)), (5, .int 0), (4, .int 72), (3, .int 68), (0, .ref 0), (1, .ref 22)]) (stk' := [.int (72 + 1)]) (mem' := fm g tp bt a b) (fun _ _ _ => rfl) ?_
      rw [show (72 + 1 : Int32) = 73 from rfl]
      rw [show (12 + 1 : Int32) = 13 from rfl]
      refine fe_s 1 (pc' := 130) (lc' := [(3, .int 73), (2, .int 13), (6, .int (x + 1)), (5, .int 0), (4, .int 72), (0, .ref 0), (1, .ref 22)]) (stk' := []) (mem' := fm g tp bt a b) (fun _ _ _ => rfl) ?_
      refine fe_s 1 (pc' := fx_to 130 (-116)) (lc' := [(3, .int 73), (2, .int 13), (6, .int (x + 1)), (5, .int 0), (4, .int 72), (0, .ref 0), (1, .ref 22)]) (stk' := []) (mem' := fm g tp bt a b) (fun _ _ _ => rfl) ?_
      rw [show fx_to 130 (-116) = 14 from by decide]
      refine fe_w (lc' := [(3, .int 73), (2, .int 13), (0, .ref 0), (1, .ref 22)]) ⟨rfl, rfl, rfl, rfl, trivial⟩ (by show List.Nodup [3, 2, 0, 1]; decide) (by show List.Nodup [3, 2, 6, 5, 4, 0, 1]; decide) ?_
      exact fw_13 hxp
  refine fe_s 2 (pc' := 16) (lc' := [(3, .int 68), (2, .int 12), (0, .ref 0), (1, .ref 22)]) (stk' := [.ref 22, .int 68]) (mem' := fm g tp bt a b) (fun _ _ _ => rfl) ?_
  refine fe_s 1 (pc' := 19) (lc' := [(3, .int 68), (2, .int 12), (0, .ref 0), (1, .ref 22)]) (stk' := [.int 117, .int 68]) (mem' := fm g tp bt a b) (fun _ _ _ => rfl) ?_
  refine fe_s 1 (pc' := cond (fx_cb .ge 68 117) 133 22) (lc' := [(3, .int 68), (2, .int 12), (0, .ref 0), (1, .ref 22)]) (stk' := []) (mem' := fm g tp bt a b) (fun _ _ _ => rfl) ?_
  rw [show (fx_cb .ge 68 117) = false from by decide]
  dsimp only [cond]
  refine fe_s 4 (pc' := 28) (lc' := [(4, .int 68), (3, .int 68), (2, .int 12), (0, .ref 0), (1, .ref 22)]) (stk' := [.int 68, .ref 22]) (mem' := fm g tp bt a b) (fun _ _ _ => rfl) ?_
  refine fe_chr (i := 68) (by omega) (by rfl) (by rfl) ⟨by rfl, by rfl⟩ (by rfl) ?_
  rw [show sk_b.getD 68 0 = 115 from rfl]
  refine fe_s 1 (pc' := 33) (lc' := [(4, .int 68), (3, .int 68), (2, .int 12), (0, .ref 0), (1, .ref 22)]) (stk' := [.int 32, .int 115]) (mem' := fm g tp bt a b) (fun _ _ _ => rfl) ?_
  refine fe_s 1 (pc' := cond (fx_cb .eq 115 32) 42 36) (lc' := [(4, .int 68), (3, .int 68), (2, .int 12), (0, .ref 0), (1, .ref 22)]) (stk' := []) (mem' := fm g tp bt a b) (fun _ _ _ => rfl) ?_
  rw [show (fx_cb .eq 115 32) = false from by decide]
  dsimp only [cond]
  refine fe_s 4 (pc' := 28) (lc' := [(4, .int (68 + 1)), (3, .int 68), (2, .int 12), (0, .ref 0), (1, .ref 22)]) (stk' := [.int (68 + 1), .ref 22]) (mem' := fm g tp bt a b) (fun _ _ _ => rfl) ?_
  rw [show (68 + 1 : Int32) = 69 from rfl]
  refine fe_chr (i := 69) (by omega) (by rfl) (by rfl) ⟨by rfl, by rfl⟩ (by rfl) ?_
  rw [show sk_b.getD 69 0 = 116 from rfl]
  refine fe_s 1 (pc' := 33) (lc' := [(4, .int 69), (3, .int 68), (2, .int 12), (0, .ref 0), (1, .ref 22)]) (stk' := [.int 32, .int 116]) (mem' := fm g tp bt a b) (fun _ _ _ => rfl) ?_
  refine fe_s 1 (pc' := cond (fx_cb .eq 116 32) 42 36) (lc' := [(4, .int 69), (3, .int 68), (2, .int 12), (0, .ref 0), (1, .ref 22)]) (stk' := []) (mem' := fm g tp bt a b) (fun _ _ _ => rfl) ?_
  rw [show (fx_cb .eq 116 32) = false from by decide]
  dsimp only [cond]
  refine fe_s 4 (pc' := 28) (lc' := [(4, .int (69 + 1)), (3, .int 68), (2, .int 12), (0, .ref 0), (1, .ref 22)]) (stk' := [.int (69 + 1), .ref 22]) (mem' := fm g tp bt a b) (fun _ _ _ => rfl) ?_
  rw [show (69 + 1 : Int32) = 70 from rfl]
  refine fe_chr (i := 70) (by omega) (by rfl) (by rfl) ⟨by rfl, by rfl⟩ (by rfl) ?_
  rw [show sk_b.getD 70 0 = 101 from rfl]
  refine fe_s 1 (pc' := 33) (lc' := [(4, .int 70), (3, .int 68), (2, .int 12), (0, .ref 0), (1, .ref 22)]) (stk' := [.int 32, .int 101]) (mem' := fm g tp bt a b) (fun _ _ _ => rfl) ?_
  refine fe_s 1 (pc' := cond (fx_cb .eq 101 32) 42 36) (lc' := [(4, .int 70), (3, .int 68), (2, .int 12), (0, .ref 0), (1, .ref 22)]) (stk' := []) (mem' := fm g tp bt a b) (fun _ _ _ => rfl) ?_
  rw [show (fx_cb .eq 101 32) = false from by decide]
  dsimp only [cond]
  refine fe_s 4 (pc' := 28) (lc' := [(4, .int (70 + 1)), (3, .int 68), (2, .int 12), (0, .ref 0), (1, .ref 22)]) (stk' := [.int (70 + 1), .ref 22]) (mem' := fm g tp bt a b) (fun _ _ _ => rfl) ?_
  rw [show (70 + 1 : Int32) = 71 from rfl]
  refine fe_chr (i := 71) (by omega) (by rfl) (by rfl) ⟨by rfl, by rfl⟩ (by rfl) ?_
  rw [show sk_b.getD 71 0 = 112 from rfl]
  refine fe_s 1 (pc' := 33) (lc' := [(4, .int 71), (3, .int 68), (2, .int 12), (0, .ref 0), (1, .ref 22)]) (stk' := [.int 32, .int 112]) (mem' := fm g tp bt a b) (fun _ _ _ => rfl) ?_
  refine fe_s 1 (pc' := cond (fx_cb .eq 112 32) 42 36) (lc' := [(4, .int 71), (3, .int 68), (2, .int 12), (0, .ref 0), (1, .ref 22)]) (stk' := []) (mem' := fm g tp bt a b) (fun _ _ _ => rfl) ?_
  rw [show (fx_cb .eq 112 32) = false from by decide]
  dsimp only [cond]
  refine fe_s 4 (pc' := 28) (lc' := [(4, .int (71 + 1)), (3, .int 68), (2, .int 12), (0, .ref 0), (1, .ref 22)]) (stk' := [.int (71 + 1), .ref 22]) (mem' := fm g tp bt a b) (fun _ _ _ => rfl) ?_
  rw [show (71 + 1 : Int32) = 72 from rfl]
  refine fe_chr (i := 72) (by omega) (by rfl) (by rfl) ⟨by rfl, by rfl⟩ (by rfl) ?_
  rw [show sk_b.getD 72 0 = 32 from rfl]
  refine fe_s 1 (pc' := 33) (lc' := [(4, .int 72), (3, .int 68), (2, .int 12), (0, .ref 0), (1, .ref 22)]) (stk' := [.int 32, .int 32]) (mem' := fm g tp bt a b) (fun _ _ _ => rfl) ?_
  refine fe_s 1 (pc' := cond (fx_cb .eq 32 32) 42 36) (lc' := [(4, .int 72), (3, .int 68), (2, .int 12), (0, .ref 0), (1, .ref 22)]) (stk' := []) (mem' := fm g tp bt a b) (fun _ _ _ => rfl) ?_
  rw [show (fx_cb .eq 32 32) = true from by decide]
  dsimp only [cond]
  refine fe_s 4 (pc' := 47) (lc' := [(4, .int 72), (3, .int 68), (2, .int 12), (0, .ref 0), (1, .ref 22)]) (stk' := [.ref 0, .int (72 - 68)]) (mem' := fm g tp bt a b) (fun _ _ _ => rfl) ?_
  rw [show (72 - 68 : Int32) = 4 from rfl]
  refine fe_s 4 (pc' := 55) (lc' := [(4, .int 72), (3, .int 68), (2, .int 12), (0, .ref 0), (1, .ref 22)]) (stk' := [.int ((g 14) - (g 13)), .int 4]) (mem' := fm g tp bt a b) (fun _ _ _ => rfl) ?_
  try rw [h14]
  try rw [h13]
  rw [show ((nI E) - (nI F) : Int32) = nI (E - F) from by simp only [tg_sub2 (x := E) (y := F) (by omega), nI_add, fm_mul]]
  refine fe_s 1 (pc' := cond (fx_cb .ne 4 (nI (E - F))) 62 58) (lc' := [(4, .int 72), (3, .int 68), (2, .int 12), (0, .ref 0), (1, .ref 22)]) (stk' := []) (mem' := fm g tp bt a b) (fun _ _ _ => rfl) ?_
  by_cases h2 : 4 = (E - F)
  · rw [show (fx_cb .ne 4 (nI (E - F))) = false from cb_neF (a := 4) (b := E - F) (by omega) (by omega) (by omega)]
    dsimp only [cond]
    refine fe_s 4 (pc' := 66) (lc' := [(5, .int 1), (4, .int 72), (3, .int 68), (2, .int 12), (0, .ref 0), (1, .ref 22)]) (stk' := [.int 68]) (mem' := fm g tp bt a b) (fun _ _ _ => rfl) ?_
    refine fe_s 3 (pc' := 72) (lc' := [(6, .int 68), (5, .int 1), (4, .int 72), (3, .int 68), (2, .int 12), (0, .ref 0), (1, .ref 22)]) (stk' := [.int 72, .int 68]) (mem' := fm g tp bt a b) (fun _ _ _ => rfl) ?_
    refine fe_s 1 (pc' := cond (fx_cb .ge 68 72) 115 75) (lc' := [(6, .int 68), (5, .int 1), (4, .int 72), (3, .int 68), (2, .int 12), (0, .ref 0), (1, .ref 22)]) (stk' := []) (mem' := fm g tp bt a b) (fun _ _ _ => rfl) ?_
    rw [show (fx_cb .ge 68 72) = false from by decide]
    dsimp only [cond]
    refine fe_s 1 (pc' := 77) (lc' := [(6, .int 68), (5, .int 1), (4, .int 72), (3, .int 68), (2, .int 12), (0, .ref 0), (1, .ref 22)]) (stk' := [.int 1]) (mem' := fm g tp bt a b) (fun _ _ _ => rfl) ?_
    refine fe_s 1 (pc' := cond (fx_cb .eq 1 0) 115 80) (lc' := [(6, .int 68), (5, .int 1), (4, .int 72), (3, .int 68), (2, .int 12), (0, .ref 0), (1, .ref 22)]) (stk' := []) (mem' := fm g tp bt a b) (fun _ _ _ => rfl) ?_
    rw [show (fx_cb .eq 1 0) = false from by decide]
    dsimp only [cond]
    refine fe_s 2 (pc' := 83) (lc' := [(6, .int 68), (5, .int 1), (4, .int 72), (3, .int 68), (2, .int 12), (0, .ref 0), (1, .ref 22)]) (stk' := [.int 68, .ref 22]) (mem' := fm g tp bt a b) (fun _ _ _ => rfl) ?_
    refine fe_chr (i := 68) (by omega) (by rfl) (by rfl) ⟨by rfl, by rfl⟩ (by rfl) ?_
    rw [show sk_b.getD 68 0 = 115 from rfl]
    refine fe_s 4 (pc' := 93) (lc' := [(6, .int 68), (5, .int 1), (4, .int 72), (3, .int 68), (2, .int 12), (0, .ref 0), (1, .ref 22)]) (stk' := [.int 68, .int (g 13), .ref 0, .int 115]) (mem' := fm g tp bt a b) (fun _ _ _ => rfl) ?_
    try rw [h13]
    refine fe_s 3 (pc' := 96) (lc' := [(6, .int 68), (5, .int 1), (4, .int 72), (3, .int 68), (2, .int 12), (0, .ref 0), (1, .ref 22)]) (stk' := [.int (((nI F) + 68) - 68), .ref 0, .int 115]) (mem' := fm g tp bt a b) (fun _ _ _ => rfl) ?_
    rw [show (((nI F) + 68) - 68 : Int32) = nI ((F + 68) - 68) from by simp only [show (68 : Int32) = nI 68 from rfl, tg_sub2 (x := F + 68) (y := 68) (by omega), nI_add, fm_mul]]
    refine fe_ivV (fr_byteAt (S := S) (k := (F + 68) - 68) (g := g) (tp := tp) (bt := bt) (a := a) (b := b) h11 (by omega) (by omega)) (by omega) (by rfl) (by rfl) (by rfl) (by rfl) (by rfl) (by rfl) ?_
    rcases fm_byte_or a S ((F + 68) - 68) with ⟨e4, q5⟩ | ⟨q5, n3, qn3, e4⟩
    · rw [e4]
      refine fe_s 1 (pc' := cond (fx_cb .ne 115 (-1)) 106 102) (lc' := [(6, .int 68), (5, .int 1), (4, .int 72), (3, .int 68), (2, .int 12), (0, .ref 0), (1, .ref 22)]) (stk' := []) (mem' := fm g tp bt a b) (fun _ _ _ => rfl) ?_
      rw [show (fx_cb .ne 115 (-1)) = true from by decide]
      dsimp only [cond]
      refine fe_s 1 (pc' := 107) (lc' := [(6, .int 68), (5, .int 1), (4, .int 72), (3, .int 68), (2, .int 12), (0, .ref 0), (1, .ref 22)]) (stk' := [.int 0]) (mem' := fm g tp bt a b) (fun _ _ _ => rfl) ?_
      refine fe_w (lc' := [(6, .int 68), (5, .int 1), (4, .int 72), (3, .int 68), (2, .int 12), (0, .ref 0), (1, .ref 22)]) ⟨rfl, rfl, rfl, rfl, rfl, rfl, rfl, trivial⟩ (by show List.Nodup [6, 5, 4, 3, 2, 0, 1]; decide) (by show List.Nodup [6, 5, 4, 3, 2, 0, 1]; decide) ?_
      exact fail _ _
    · rw [e4]
      refine fe_s 1 (pc' := cond (fx_cb .ne 115 (nI n3)) 106 102) (lc' := [(6, .int 68), (5, .int 1), (4, .int 72), (3, .int 68), (2, .int 12), (0, .ref 0), (1, .ref 22)]) (stk' := []) (mem' := fm g tp bt a b) (fun _ _ _ => rfl) ?_
      by_cases h6 : 115 = n3
      · rw [show (fx_cb .ne 115 (nI n3)) = false from cb_neF (a := 115) (b := n3) (by omega) (by omega) (by omega)]
        dsimp only [cond]
        refine fe_s 2 (pc' := 107) (lc' := [(6, .int 68), (5, .int 1), (4, .int 72), (3, .int 68), (2, .int 12), (0, .ref 0), (1, .ref 22)]) (stk' := [.int 1]) (mem' := fm g tp bt a b) (fun _ _ _ => rfl) ?_
        refine fe_s 4 (pc' := 70) (lc' := [(6, .int (68 + 1)), (5, .int 1), (4, .int 72), (3, .int 68), (2, .int 12), (0, .ref 0), (1, .ref 22)]) (stk' := [.int (68 + 1)]) (mem' := fm g tp bt a b) (fun _ _ _ => rfl) ?_
        rw [show (68 + 1 : Int32) = 69 from rfl]
        refine fe_s 1 (pc' := 72) (lc' := [(6, .int 69), (5, .int 1), (4, .int 72), (3, .int 68), (2, .int 12), (0, .ref 0), (1, .ref 22)]) (stk' := [.int 72, .int 69]) (mem' := fm g tp bt a b) (fun _ _ _ => rfl) ?_
        refine fe_s 1 (pc' := cond (fx_cb .ge 69 72) 115 75) (lc' := [(6, .int 69), (5, .int 1), (4, .int 72), (3, .int 68), (2, .int 12), (0, .ref 0), (1, .ref 22)]) (stk' := []) (mem' := fm g tp bt a b) (fun _ _ _ => rfl) ?_
        rw [show (fx_cb .ge 69 72) = false from by decide]
        dsimp only [cond]
        refine fe_s 1 (pc' := 77) (lc' := [(6, .int 69), (5, .int 1), (4, .int 72), (3, .int 68), (2, .int 12), (0, .ref 0), (1, .ref 22)]) (stk' := [.int 1]) (mem' := fm g tp bt a b) (fun _ _ _ => rfl) ?_
        refine fe_s 1 (pc' := cond (fx_cb .eq 1 0) 115 80) (lc' := [(6, .int 69), (5, .int 1), (4, .int 72), (3, .int 68), (2, .int 12), (0, .ref 0), (1, .ref 22)]) (stk' := []) (mem' := fm g tp bt a b) (fun _ _ _ => rfl) ?_
        rw [show (fx_cb .eq 1 0) = false from by decide]
        dsimp only [cond]
        refine fe_s 2 (pc' := 83) (lc' := [(6, .int 69), (5, .int 1), (4, .int 72), (3, .int 68), (2, .int 12), (0, .ref 0), (1, .ref 22)]) (stk' := [.int 69, .ref 22]) (mem' := fm g tp bt a b) (fun _ _ _ => rfl) ?_
        refine fe_chr (i := 69) (by omega) (by rfl) (by rfl) ⟨by rfl, by rfl⟩ (by rfl) ?_
        rw [show sk_b.getD 69 0 = 116 from rfl]
        refine fe_s 4 (pc' := 93) (lc' := [(6, .int 69), (5, .int 1), (4, .int 72), (3, .int 68), (2, .int 12), (0, .ref 0), (1, .ref 22)]) (stk' := [.int 69, .int (g 13), .ref 0, .int 116]) (mem' := fm g tp bt a b) (fun _ _ _ => rfl) ?_
        try rw [h13]
        refine fe_s 3 (pc' := 96) (lc' := [(6, .int 69), (5, .int 1), (4, .int 72), (3, .int 68), (2, .int 12), (0, .ref 0), (1, .ref 22)]) (stk' := [.int (((nI F) + 69) - 68), .ref 0, .int 116]) (mem' := fm g tp bt a b) (fun _ _ _ => rfl) ?_
        rw [show (((nI F) + 69) - 68 : Int32) = nI ((F + 69) - 68) from by simp only [show (69 : Int32) = nI 69 from rfl, show (68 : Int32) = nI 68 from rfl, tg_sub2 (x := F + 69) (y := 68) (by omega), nI_add, fm_mul]]
        refine fe_ivV (fr_byteAt (S := S) (k := (F + 69) - 68) (g := g) (tp := tp) (bt := bt) (a := a) (b := b) h11 (by omega) (by omega)) (by omega) (by rfl) (by rfl) (by rfl) (by rfl) (by rfl) (by rfl) ?_
        rcases fm_byte_or a S ((F + 69) - 68) with ⟨e8, q9⟩ | ⟨q9, n7, qn7, e8⟩
        · rw [e8]
          refine fe_s 1 (pc' := cond (fx_cb .ne 116 (-1)) 106 102) (lc' := [(6, .int 69), (5, .int 1), (4, .int 72), (3, .int 68), (2, .int 12), (0, .ref 0), (1, .ref 22)]) (stk' := []) (mem' := fm g tp bt a b) (fun _ _ _ => rfl) ?_
          rw [show (fx_cb .ne 116 (-1)) = true from by decide]
          dsimp only [cond]
          refine fe_s 1 (pc' := 107) (lc' := [(6, .int 69), (5, .int 1), (4, .int 72), (3, .int 68), (2, .int 12), (0, .ref 0), (1, .ref 22)]) (stk' := [.int 0]) (mem' := fm g tp bt a b) (fun _ _ _ => rfl) ?_
          refine fe_w (lc' := [(6, .int 69), (5, .int 1), (4, .int 72), (3, .int 68), (2, .int 12), (0, .ref 0), (1, .ref 22)]) ⟨rfl, rfl, rfl, rfl, rfl, rfl, rfl, trivial⟩ (by show List.Nodup [6, 5, 4, 3, 2, 0, 1]; decide) (by show List.Nodup [6, 5, 4, 3, 2, 0, 1]; decide) ?_
          exact fail _ _
        · rw [e8]
          refine fe_s 1 (pc' := cond (fx_cb .ne 116 (nI n7)) 106 102) (lc' := [(6, .int 69), (5, .int 1), (4, .int 72), (3, .int 68), (2, .int 12), (0, .ref 0), (1, .ref 22)]) (stk' := []) (mem' := fm g tp bt a b) (fun _ _ _ => rfl) ?_
          by_cases h10 : 116 = n7
          · rw [show (fx_cb .ne 116 (nI n7)) = false from cb_neF (a := 116) (b := n7) (by omega) (by omega) (by omega)]
            dsimp only [cond]
            refine fe_s 2 (pc' := 107) (lc' := [(6, .int 69), (5, .int 1), (4, .int 72), (3, .int 68), (2, .int 12), (0, .ref 0), (1, .ref 22)]) (stk' := [.int 1]) (mem' := fm g tp bt a b) (fun _ _ _ => rfl) ?_
            refine fe_s 4 (pc' := 70) (lc' := [(6, .int (69 + 1)), (5, .int 1), (4, .int 72), (3, .int 68), (2, .int 12), (0, .ref 0), (1, .ref 22)]) (stk' := [.int (69 + 1)]) (mem' := fm g tp bt a b) (fun _ _ _ => rfl) ?_
            rw [show (69 + 1 : Int32) = 70 from rfl]
            refine fe_s 1 (pc' := 72) (lc' := [(6, .int 70), (5, .int 1), (4, .int 72), (3, .int 68), (2, .int 12), (0, .ref 0), (1, .ref 22)]) (stk' := [.int 72, .int 70]) (mem' := fm g tp bt a b) (fun _ _ _ => rfl) ?_
            refine fe_s 1 (pc' := cond (fx_cb .ge 70 72) 115 75) (lc' := [(6, .int 70), (5, .int 1), (4, .int 72), (3, .int 68), (2, .int 12), (0, .ref 0), (1, .ref 22)]) (stk' := []) (mem' := fm g tp bt a b) (fun _ _ _ => rfl) ?_
            rw [show (fx_cb .ge 70 72) = false from by decide]
            dsimp only [cond]
            refine fe_s 1 (pc' := 77) (lc' := [(6, .int 70), (5, .int 1), (4, .int 72), (3, .int 68), (2, .int 12), (0, .ref 0), (1, .ref 22)]) (stk' := [.int 1]) (mem' := fm g tp bt a b) (fun _ _ _ => rfl) ?_
            refine fe_s 1 (pc' := cond (fx_cb .eq 1 0) 115 80) (lc' := [(6, .int 70), (5, .int 1), (4, .int 72), (3, .int 68), (2, .int 12), (0, .ref 0), (1, .ref 22)]) (stk' := []) (mem' := fm g tp bt a b) (fun _ _ _ => rfl) ?_
            rw [show (fx_cb .eq 1 0) = false from by decide]
            dsimp only [cond]
            refine fe_s 2 (pc' := 83) (lc' := [(6, .int 70), (5, .int 1), (4, .int 72), (3, .int 68), (2, .int 12), (0, .ref 0), (1, .ref 22)]) (stk' := [.int 70, .ref 22]) (mem' := fm g tp bt a b) (fun _ _ _ => rfl) ?_
            refine fe_chr (i := 70) (by omega) (by rfl) (by rfl) ⟨by rfl, by rfl⟩ (by rfl) ?_
            rw [show sk_b.getD 70 0 = 101 from rfl]
            refine fe_s 4 (pc' := 93) (lc' := [(6, .int 70), (5, .int 1), (4, .int 72), (3, .int 68), (2, .int 12), (0, .ref 0), (1, .ref 22)]) (stk' := [.int 70, .int (g 13), .ref 0, .int 101]) (mem' := fm g tp bt a b) (fun _ _ _ => rfl) ?_
            try rw [h13]
            refine fe_s 3 (pc' := 96) (lc' := [(6, .int 70), (5, .int 1), (4, .int 72), (3, .int 68), (2, .int 12), (0, .ref 0), (1, .ref 22)]) (stk' := [.int (((nI F) + 70) - 68), .ref 0, .int 101]) (mem' := fm g tp bt a b) (fun _ _ _ => rfl) ?_
            rw [show (((nI F) + 70) - 68 : Int32) = nI ((F + 70) - 68) from by simp only [show (70 : Int32) = nI 70 from rfl, show (68 : Int32) = nI 68 from rfl, tg_sub2 (x := F + 70) (y := 68) (by omega), nI_add, fm_mul]]
            refine fe_ivV (fr_byteAt (S := S) (k := (F + 70) - 68) (g := g) (tp := tp) (bt := bt) (a := a) (b := b) h11 (by omega) (by omega)) (by omega) (by rfl) (by rfl) (by rfl) (by rfl) (by rfl) (by rfl) ?_
            rcases fm_byte_or a S ((F + 70) - 68) with ⟨e12, q13⟩ | ⟨q13, n11, qn11, e12⟩
            · rw [e12]
              refine fe_s 1 (pc' := cond (fx_cb .ne 101 (-1)) 106 102) (lc' := [(6, .int 70), (5, .int 1), (4, .int 72), (3, .int 68), (2, .int 12), (0, .ref 0), (1, .ref 22)]) (stk' := []) (mem' := fm g tp bt a b) (fun _ _ _ => rfl) ?_
              rw [show (fx_cb .ne 101 (-1)) = true from by decide]
              dsimp only [cond]
              refine fe_s 1 (pc' := 107) (lc' := [(6, .int 70), (5, .int 1), (4, .int 72), (3, .int 68), (2, .int 12), (0, .ref 0), (1, .ref 22)]) (stk' := [.int 0]) (mem' := fm g tp bt a b) (fun _ _ _ => rfl) ?_
              refine fe_w (lc' := [(6, .int 70), (5, .int 1), (4, .int 72), (3, .int 68), (2, .int 12), (0, .ref 0), (1, .ref 22)]) ⟨rfl, rfl, rfl, rfl, rfl, rfl, rfl, trivial⟩ (by show List.Nodup [6, 5, 4, 3, 2, 0, 1]; decide) (by show List.Nodup [6, 5, 4, 3, 2, 0, 1]; decide) ?_
              exact fail _ _
            · rw [e12]
              refine fe_s 1 (pc' := cond (fx_cb .ne 101 (nI n11)) 106 102) (lc' := [(6, .int 70), (5, .int 1), (4, .int 72), (3, .int 68), (2, .int 12), (0, .ref 0), (1, .ref 22)]) (stk' := []) (mem' := fm g tp bt a b) (fun _ _ _ => rfl) ?_
              by_cases h14 : 101 = n11
              · rw [show (fx_cb .ne 101 (nI n11)) = false from cb_neF (a := 101) (b := n11) (by omega) (by omega) (by omega)]
                dsimp only [cond]
                refine fe_s 2 (pc' := 107) (lc' := [(6, .int 70), (5, .int 1), (4, .int 72), (3, .int 68), (2, .int 12), (0, .ref 0), (1, .ref 22)]) (stk' := [.int 1]) (mem' := fm g tp bt a b) (fun _ _ _ => rfl) ?_
                refine fe_s 4 (pc' := 70) (lc' := [(6, .int (70 + 1)), (5, .int 1), (4, .int 72), (3, .int 68), (2, .int 12), (0, .ref 0), (1, .ref 22)]) (stk' := [.int (70 + 1)]) (mem' := fm g tp bt a b) (fun _ _ _ => rfl) ?_
                rw [show (70 + 1 : Int32) = 71 from rfl]
                refine fe_s 1 (pc' := 72) (lc' := [(6, .int 71), (5, .int 1), (4, .int 72), (3, .int 68), (2, .int 12), (0, .ref 0), (1, .ref 22)]) (stk' := [.int 72, .int 71]) (mem' := fm g tp bt a b) (fun _ _ _ => rfl) ?_
                refine fe_s 1 (pc' := cond (fx_cb .ge 71 72) 115 75) (lc' := [(6, .int 71), (5, .int 1), (4, .int 72), (3, .int 68), (2, .int 12), (0, .ref 0), (1, .ref 22)]) (stk' := []) (mem' := fm g tp bt a b) (fun _ _ _ => rfl) ?_
                rw [show (fx_cb .ge 71 72) = false from by decide]
                dsimp only [cond]
                refine fe_s 1 (pc' := 77) (lc' := [(6, .int 71), (5, .int 1), (4, .int 72), (3, .int 68), (2, .int 12), (0, .ref 0), (1, .ref 22)]) (stk' := [.int 1]) (mem' := fm g tp bt a b) (fun _ _ _ => rfl) ?_
                refine fe_s 1 (pc' := cond (fx_cb .eq 1 0) 115 80) (lc' := [(6, .int 71), (5, .int 1), (4, .int 72), (3, .int 68), (2, .int 12), (0, .ref 0), (1, .ref 22)]) (stk' := []) (mem' := fm g tp bt a b) (fun _ _ _ => rfl) ?_
                rw [show (fx_cb .eq 1 0) = false from by decide]
                dsimp only [cond]
                refine fe_s 2 (pc' := 83) (lc' := [(6, .int 71), (5, .int 1), (4, .int 72), (3, .int 68), (2, .int 12), (0, .ref 0), (1, .ref 22)]) (stk' := [.int 71, .ref 22]) (mem' := fm g tp bt a b) (fun _ _ _ => rfl) ?_
                refine fe_chr (i := 71) (by omega) (by rfl) (by rfl) ⟨by rfl, by rfl⟩ (by rfl) ?_
                rw [show sk_b.getD 71 0 = 112 from rfl]
                refine fe_s 4 (pc' := 93) (lc' := [(6, .int 71), (5, .int 1), (4, .int 72), (3, .int 68), (2, .int 12), (0, .ref 0), (1, .ref 22)]) (stk' := [.int 71, .int (g 13), .ref 0, .int 112]) (mem' := fm g tp bt a b) (fun _ _ _ => rfl) ?_
                try rw [h13]
                refine fe_s 3 (pc' := 96) (lc' := [(6, .int 71), (5, .int 1), (4, .int 72), (3, .int 68), (2, .int 12), (0, .ref 0), (1, .ref 22)]) (stk' := [.int (((nI F) + 71) - 68), .ref 0, .int 112]) (mem' := fm g tp bt a b) (fun _ _ _ => rfl) ?_
                rw [show (((nI F) + 71) - 68 : Int32) = nI ((F + 71) - 68) from by simp only [show (71 : Int32) = nI 71 from rfl, show (68 : Int32) = nI 68 from rfl, tg_sub2 (x := F + 71) (y := 68) (by omega), nI_add, fm_mul]]
                refine fe_ivV (fr_byteAt (S := S) (k := (F + 71) - 68) (g := g) (tp := tp) (bt := bt) (a := a) (b := b) h11 (by omega) (by omega)) (by omega) (by rfl) (by rfl) (by rfl) (by rfl) (by rfl) (by rfl) ?_
                rcases fm_byte_or a S ((F + 71) - 68) with ⟨e16, q17⟩ | ⟨q17, n15, qn15, e16⟩
                · rw [e16]
                  refine fe_s 1 (pc' := cond (fx_cb .ne 112 (-1)) 106 102) (lc' := [(6, .int 71), (5, .int 1), (4, .int 72), (3, .int 68), (2, .int 12), (0, .ref 0), (1, .ref 22)]) (stk' := []) (mem' := fm g tp bt a b) (fun _ _ _ => rfl) ?_
                  rw [show (fx_cb .ne 112 (-1)) = true from by decide]
                  dsimp only [cond]
                  refine fe_s 1 (pc' := 107) (lc' := [(6, .int 71), (5, .int 1), (4, .int 72), (3, .int 68), (2, .int 12), (0, .ref 0), (1, .ref 22)]) (stk' := [.int 0]) (mem' := fm g tp bt a b) (fun _ _ _ => rfl) ?_
                  refine fe_w (lc' := [(6, .int 71), (5, .int 1), (4, .int 72), (3, .int 68), (2, .int 12), (0, .ref 0), (1, .ref 22)]) ⟨rfl, rfl, rfl, rfl, rfl, rfl, rfl, trivial⟩ (by show List.Nodup [6, 5, 4, 3, 2, 0, 1]; decide) (by show List.Nodup [6, 5, 4, 3, 2, 0, 1]; decide) ?_
                  exact fail _ _
                · rw [e16]
                  refine fe_s 1 (pc' := cond (fx_cb .ne 112 (nI n15)) 106 102) (lc' := [(6, .int 71), (5, .int 1), (4, .int 72), (3, .int 68), (2, .int 12), (0, .ref 0), (1, .ref 22)]) (stk' := []) (mem' := fm g tp bt a b) (fun _ _ _ => rfl) ?_
                  by_cases h18 : 112 = n15
                  · rw [show (fx_cb .ne 112 (nI n15)) = false from cb_neF (a := 112) (b := n15) (by omega) (by omega) (by omega)]
                    dsimp only [cond]
                    refine fe_s 2 (pc' := 107) (lc' := [(6, .int 71), (5, .int 1), (4, .int 72), (3, .int 68), (2, .int 12), (0, .ref 0), (1, .ref 22)]) (stk' := [.int 1]) (mem' := fm g tp bt a b) (fun _ _ _ => rfl) ?_
                    refine fe_s 4 (pc' := 70) (lc' := [(6, .int (71 + 1)), (5, .int 1), (4, .int 72), (3, .int 68), (2, .int 12), (0, .ref 0), (1, .ref 22)]) (stk' := [.int (71 + 1)]) (mem' := fm g tp bt a b) (fun _ _ _ => rfl) ?_
                    rw [show (71 + 1 : Int32) = 72 from rfl]
                    refine fe_s 1 (pc' := 72) (lc' := [(6, .int 72), (5, .int 1), (4, .int 72), (3, .int 68), (2, .int 12), (0, .ref 0), (1, .ref 22)]) (stk' := [.int 72, .int 72]) (mem' := fm g tp bt a b) (fun _ _ _ => rfl) ?_
                    refine fe_s 1 (pc' := cond (fx_cb .ge 72 72) 115 75) (lc' := [(6, .int 72), (5, .int 1), (4, .int 72), (3, .int 68), (2, .int 12), (0, .ref 0), (1, .ref 22)]) (stk' := []) (mem' := fm g tp bt a b) (fun _ _ _ => rfl) ?_
                    rw [show (fx_cb .ge 72 72) = true from by decide]
                    dsimp only [cond]
                    refine fe_s 1 (pc' := 117) (lc' := [(6, .int 72), (5, .int 1), (4, .int 72), (3, .int 68), (2, .int 12), (0, .ref 0), (1, .ref 22)]) (stk' := [.int 1]) (mem' := fm g tp bt a b) (fun _ _ _ => rfl) ?_
                    refine fe_s 1 (pc' := cond (fx_cb .eq 1 0) 122 120) (lc' := [(6, .int 72), (5, .int 1), (4, .int 72), (3, .int 68), (2, .int 12), (0, .ref 0), (1, .ref 22)]) (stk' := []) (mem' := fm g tp bt a b) (fun _ _ _ => rfl) ?_
                    rw [show (fx_cb .eq 1 0) = false from by decide]
                    dsimp only [cond]
                    refine fe_s 1 (pc' := 121) (lc' := [(6, .int 72), (5, .int 1), (4, .int 72), (3, .int 68), (2, .int 12), (0, .ref 0), (1, .ref 22)]) (stk' := [.int 12]) (mem' := fm g tp bt a b) (fun _ _ _ => rfl) ?_
                    exact fe_ret ⟨_, Or.inr ⟨12, by omega, rfl⟩, rfl⟩ (by rfl) (by rfl) (by rfl)
                  · rw [show (fx_cb .ne 112 (nI n15)) = true from cb_neT (a := 112) (b := n15) (by omega) (by omega) (by omega)]
                    dsimp only [cond]
                    refine fe_s 1 (pc' := 107) (lc' := [(6, .int 71), (5, .int 1), (4, .int 72), (3, .int 68), (2, .int 12), (0, .ref 0), (1, .ref 22)]) (stk' := [.int 0]) (mem' := fm g tp bt a b) (fun _ _ _ => rfl) ?_
                    refine fe_w (lc' := [(6, .int 71), (5, .int 1), (4, .int 72), (3, .int 68), (2, .int 12), (0, .ref 0), (1, .ref 22)]) ⟨rfl, rfl, rfl, rfl, rfl, rfl, rfl, trivial⟩ (by show List.Nodup [6, 5, 4, 3, 2, 0, 1]; decide) (by show List.Nodup [6, 5, 4, 3, 2, 0, 1]; decide) ?_
                    exact fail _ _
              · rw [show (fx_cb .ne 101 (nI n11)) = true from cb_neT (a := 101) (b := n11) (by omega) (by omega) (by omega)]
                dsimp only [cond]
                refine fe_s 1 (pc' := 107) (lc' := [(6, .int 70), (5, .int 1), (4, .int 72), (3, .int 68), (2, .int 12), (0, .ref 0), (1, .ref 22)]) (stk' := [.int 0]) (mem' := fm g tp bt a b) (fun _ _ _ => rfl) ?_
                refine fe_w (lc' := [(6, .int 70), (5, .int 1), (4, .int 72), (3, .int 68), (2, .int 12), (0, .ref 0), (1, .ref 22)]) ⟨rfl, rfl, rfl, rfl, rfl, rfl, rfl, trivial⟩ (by show List.Nodup [6, 5, 4, 3, 2, 0, 1]; decide) (by show List.Nodup [6, 5, 4, 3, 2, 0, 1]; decide) ?_
                exact fail _ _
          · rw [show (fx_cb .ne 116 (nI n7)) = true from cb_neT (a := 116) (b := n7) (by omega) (by omega) (by omega)]
            dsimp only [cond]
            refine fe_s 1 (pc' := 107) (lc' := [(6, .int 69), (5, .int 1), (4, .int 72), (3, .int 68), (2, .int 12), (0, .ref 0), (1, .ref 22)]) (stk' := [.int 0]) (mem' := fm g tp bt a b) (fun _ _ _ => rfl) ?_
            refine fe_w (lc' := [(6, .int 69), (5, .int 1), (4, .int 72), (3, .int 68), (2, .int 12), (0, .ref 0), (1, .ref 22)]) ⟨rfl, rfl, rfl, rfl, rfl, rfl, rfl, trivial⟩ (by show List.Nodup [6, 5, 4, 3, 2, 0, 1]; decide) (by show List.Nodup [6, 5, 4, 3, 2, 0, 1]; decide) ?_
            exact fail _ _
      · rw [show (fx_cb .ne 115 (nI n3)) = true from cb_neT (a := 115) (b := n3) (by omega) (by omega) (by omega)]
        dsimp only [cond]
        refine fe_s 1 (pc' := 107) (lc' := [(6, .int 68), (5, .int 1), (4, .int 72), (3, .int 68), (2, .int 12), (0, .ref 0), (1, .ref 22)]) (stk' := [.int 0]) (mem' := fm g tp bt a b) (fun _ _ _ => rfl) ?_
        refine fe_w (lc' := [(6, .int 68), (5, .int 1), (4, .int 72), (3, .int 68), (2, .int 12), (0, .ref 0), (1, .ref 22)]) ⟨rfl, rfl, rfl, rfl, rfl, rfl, rfl, trivial⟩ (by show List.Nodup [6, 5, 4, 3, 2, 0, 1]; decide) (by show List.Nodup [6, 5, 4, 3, 2, 0, 1]; decide) ?_
        exact fail _ _
  · rw [show (fx_cb .ne 4 (nI (E - F))) = true from cb_neT (a := 4) (b := E - F) (by omega) (by omega) (by omega)]
    dsimp only [cond]
    refine fe_s 4 (pc' := 68) (lc' := [(6, .int 68), (5, .int 0), (4, .int 72), (3, .int 68), (2, .int 12), (0, .ref 0), (1, .ref 22)]) (stk' := []) (mem' := fm g tp bt a b) (fun _ _ _ => rfl) ?_
    refine fe_s 2 (pc' := 72) (lc' := [(6, .int 68), (5, .int 0), (4, .int 72), (3, .int 68), (2, .int 12), (0, .ref 0), (1, .ref 22)]) (stk' := [.int 72, .int 68]) (mem' := fm g tp bt a b) (fun _ _ _ => rfl) ?_
    refine fe_s 1 (pc' := cond (fx_cb .ge 68 72) 115 75) (lc' := [(6, .int 68), (5, .int 0), (4, .int 72), (3, .int 68), (2, .int 12), (0, .ref 0), (1, .ref 22)]) (stk' := []) (mem' := fm g tp bt a b) (fun _ _ _ => rfl) ?_
    rw [show (fx_cb .ge 68 72) = false from by decide]
    dsimp only [cond]
    refine fe_s 1 (pc' := 77) (lc' := [(6, .int 68), (5, .int 0), (4, .int 72), (3, .int 68), (2, .int 12), (0, .ref 0), (1, .ref 22)]) (stk' := [.int 0]) (mem' := fm g tp bt a b) (fun _ _ _ => rfl) ?_
    refine fe_s 1 (pc' := cond (fx_cb .eq 0 0) 115 80) (lc' := [(6, .int 68), (5, .int 0), (4, .int 72), (3, .int 68), (2, .int 12), (0, .ref 0), (1, .ref 22)]) (stk' := []) (mem' := fm g tp bt a b) (fun _ _ _ => rfl) ?_
    rw [show (fx_cb .eq 0 0) = true from by decide]
    dsimp only [cond]
    refine fe_s 1 (pc' := 117) (lc' := [(6, .int 68), (5, .int 0), (4, .int 72), (3, .int 68), (2, .int 12), (0, .ref 0), (1, .ref 22)]) (stk' := [.int 0]) (mem' := fm g tp bt a b) (fun _ _ _ => rfl) ?_
    refine fe_s 1 (pc' := cond (fx_cb .eq 0 0) 122 120) (lc' := [(6, .int 68), (5, .int 0), (4, .int 72), (3, .int 68), (2, .int 12), (0, .ref 0), (1, .ref 22)]) (stk' := []) (mem' := fm g tp bt a b) (fun _ _ _ => rfl) ?_
    rw [show (fx_cb .eq 0 0) = true from by decide]
    dsimp only [cond]
    refine fe_s 4 (pc' := 129) (lc' := [(2, .int (12 + 1)), (6, .int 68), (5, .int 0), (4, .int 72), (3, .int 68), (0, .ref 0), (1, .ref 22)]) (stk' := [.int (72 + 1)]) (mem' := fm g tp bt a b) (fun _ _ _ => rfl) ?_
    rw [show (72 + 1 : Int32) = 73 from rfl]
    rw [show (12 + 1 : Int32) = 13 from rfl]
    refine fe_s 1 (pc' := 130) (lc' := [(3, .int 73), (2, .int 13), (6, .int 68), (5, .int 0), (4, .int 72), (0, .ref 0), (1, .ref 22)]) (stk' := []) (mem' := fm g tp bt a b) (fun _ _ _ => rfl) ?_
    refine fe_s 1 (pc' := fx_to 130 (-116)) (lc' := [(3, .int 73), (2, .int 13), (6, .int 68), (5, .int 0), (4, .int 72), (0, .ref 0), (1, .ref 22)]) (stk' := []) (mem' := fm g tp bt a b) (fun _ _ _ => rfl) ?_
    rw [show fx_to 130 (-116) = 14 from by decide]
    refine fe_w (lc' := [(3, .int 73), (2, .int 13), (0, .ref 0), (1, .ref 22)]) ⟨rfl, rfl, rfl, rfl, trivial⟩ (by show List.Nodup [3, 2, 0, 1]; decide) (by show List.Nodup [3, 2, 6, 5, 4, 0, 1]; decide) ?_
    exact fw_13 hxp
end FIW4
