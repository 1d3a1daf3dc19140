/-! ===== fx: which word it is (3) ===== -/
section FIW3
variable {g : Nat → Int32} {tp bt : Int64} {a : Nat → Nat → Int32} {b : Nat → Nat → Int64}
set_option maxHeartbeats 8000000 in
theorem fw_16 {S E F : Nat} (hxp : fm_xp g S E F) : fe_R 1 gk_m226 14 [(3, .int 88), (2, .int 16), (0, .ref 0), (1, .ref 22)] [] (fm g tp bt a b) (fm_FI (fm g tp bt a b)) := by
  obtain ⟨h11, hS9, h14, hES, h13, hFE, -, -, -⟩ := id hxp
  have fail : ∀ (x z : Int32), fe_R 1 gk_m226 107 [(6, .int x), (5, .int z), (4, .int 90), (3, .int 88), (2, .int 16), (0, .ref 0), (1, .ref 22)] [.int 0] (fm g tp bt a b) (fm_FI (fm g tp bt a b)) := by
    intro x z
    refine fe_s 4 (pc' := 70) (lc' := [(6, .int (x + 1)), (5, .int 0), (4, .int 90), (3, .int 88), (2, .int 16), (0, .ref 0), (1, .ref 22)]) (stk' := [.int (x + 1)]) (mem' := fm g tp bt a b) (fun _ _ _ => rfl) ?_
    refine fe_s 1 (pc' := 72) (lc' := [(6, .int (x + 1)), (5, .int 0), (4, .int 90), (3, .int 88), (2, .int 16), (0, .ref 0), (1, .ref 22)]) (stk' := [.int 90, .int (x + 1)]) (mem' := fm g tp bt a b) (fun _ _ _ => rfl) ?_
    refine fe_s 1 (pc' := cond (fx_cb .ge (x + 1) 90) 115 75) (lc' := [(6, .int (x + 1)), (5, .int 0), (4, .int 90), (3, .int 88), (2, .int 16), (0, .ref 0), (1, .ref 22)]) (stk' := []) (mem' := fm g tp bt a b) (fun _ _ _ => rfl) ?_
    cases h1 : fx_cb .ge (x + 1) 90
    · refine fe_s 1 (pc' := 77) (lc' := [(6, .int (x + 1)), (5, .int 0), (4, .int 90), (3, .int 88), (2, .int 16), (0, .ref 0), (1, .ref 22)]) (stk' := [.int 0]) (mem' := fm g tp bt a b) (fun _ _ _ => rfl) ?_
      refine fe_s 1 (pc' := cond (fx_cb .eq 0 0) 115 80) (lc' := [(6, .int (x + 1)), (5, .int 0), (4, .int 90), (3, .int 88), (2, .int 16), (0, .ref 0), (1, .ref 22)]) (stk' := []) (mem' := fm g tp bt a b) (fun _ _ _ => rfl) ?_
      rw [show (fx_cb .eq 0 0) = true from by decide]
      dsimp only [cond]
      refine fe_s 1 (pc' := 117) (lc' := [(6, .int (x + 1)), (5, .int 0), (4, .int 90), (3, .int 88), (2, .int 16), (0, .ref 0), (1, .ref 22)]) (stk' := [.int 0]) (mem' := fm g tp bt a b) (fun _ _ _ => rfl) ?_
      refine fe_s 1 (pc' := cond (fx_cb .eq 0 0) 122 120) (lc' := [(6, .int (x + 1)), (5, .int 0), (4, .int 90), (3, .int 88), (2, .int 16), (0, .ref 0), (1, .ref 22)]) (stk' := []) (mem' := fm g tp bt a b) (fun _ _ _ => rfl) ?_
      rw [show (fx_cb .eq 0 0) = true from by decide]
      dsimp only [cond]
      refine fe_s 4 (pc' := 129) (lc' := [(2, .int (16 + 1)), (6, .int (x + 1)), (5, .int 0), (4, .int 90), (3, .int 88), (0, .ref 0), (1, .ref 22)]) (stk' := [.int (90 + 1)]) (mem' := fm g tp bt a b) (fun _ _ _ => rfl) ?_
      rw [show (90 + 1 : Int32) = 91 from rfl]
      rw [show (16 + 1 : Int32) = 17 from rfl]
      refine fe_s 1 (pc' := 130) (lc' := [(3, .int 91), (2, .int 17), (6, .int (x + 1)), (5, .int 0), (4, .int 90), (0, .ref 0), (1, .ref 22)]) (stk' := []) (mem' := fm g tp bt a b) (fun _ _ _ => rfl) ?_
      refine fe_s 1 (pc' := fx_to 130 (-116)) (lc' := [(3, .int 91), (2, .int 17), (6, .int (x + 1)), (5, .int 0), (4, .int 90), (0, .ref 0), (1, .ref 22)]) (stk' := []) (mem' := fm g tp bt a b) (fun _ _ _ => rfl) ?_
      rw [show fx_to 130 (-116) = 14 from by decide]
      refine fe_w (lc' := [(3, .int 91), (2, .int 17), (0, .ref 0), (1, .ref 22)]) ⟨rfl, rfl, rfl, rfl, trivial⟩ (by show List.Nodup [3, 2, 0, 1]; decide) (by show List.Nodup [3, 2, 6, 5, 4, 0, 1]; decide) ?_
      exact fw_17 hxp
    · refine fe_s 1 (pc' := 117) (lc' := [(6, .int (x + 1)), (5, .int 0), (4, .int 90), (3, .int 88), (2, .int 16), (0, .ref 0), (1, .ref 22)]) (stk' := [.int 0]) (mem' := fm g tp bt a b) (fun _ _ _ => rfl) ?_
      refine fe_s 1 (pc' := cond (fx_cb .eq 0 0) 122 120) (lc' := [(6, .int (x + 1)), (5, .int 0), (4, .int 90), (3, .int 88), (2, .int 16), (0, .ref 0), (1, .ref 22)]) (stk' := []) (mem' := fm g tp bt a b) (fun _ _ _ => rfl) ?_
      rw [show (fx_cb .eq 0 0) = true from by decide]
      dsimp only [cond]
      refine fe_s 4 (pc' := 129) (lc' := [(2, .int (16 + 1)), (6, .int (x + 1)), (5, .int 0), (4, .int 90), (3, .int 88), (0, .ref 0), (1, .ref 22)]) (stk' := [.int (90 + 1)]) (mem' := fm g tp bt a b) (fun _ _ _ => rfl) ?_
      rw [show (90 + 1 : Int32) = 91 from rfl]
      rw [show (16 + 1 : Int32) = 17 from rfl]
      refine fe_s 1 (pc' := 130) (lc' := [(3, .int 91), (2, .int 17), (6, .int (x + 1)), (5, .int 0), (4, .int 90), (0, .ref 0), (1, .ref 22)]) (stk' := []) (mem' := fm g tp bt a b) (fun _ _ _ => rfl) ?_
      refine fe_s 1 (pc' := fx_to 130 (-116)) (lc' := [(3, .int 91), (2, .int 17), (6, .int (x + 1)), (5, .int 0), (4, .int 90), (0, .ref 0), (1, .ref 22)]) (stk' := []) (mem' := fm g tp bt a b) (fun _ _ _ => rfl) ?_
      rw [show fx_to 130 (-116) = 14 from by decide]
      refine fe_w (lc' := [(3, .int 91), (2, .int 17), (0, .ref 0), (1, .ref 22)]) ⟨rfl, rfl, rfl, rfl, trivial⟩ (by show List.Nodup [3, 2, 0, 1]; decide) (by show List.Nodup [3, 2, 6, 5, 4, 0, 1]; decide) ?_
      exact fw_17 hxp
  refine fe_s 2 (pc' := 16) (lc' := [(3, .int 88), (2, .int 16), (0, .ref 0), (1, .ref 22)]) (stk' := [.ref 22, .int 88]) (mem' := fm g tp bt a b) (fun _ _ _ => rfl) ?_
  refine fe_s 1 (pc' := 19) (lc' := [(3, .int 88), (2, .int 16), (0, .ref 0), (1, .ref 22)]) (stk' := [.int 117, .int 88]) (mem' := fm g tp bt a b) (fun _ _ _ => rfl) ?_
  refine fe_s 1 (pc' := cond (fx_cb .ge 88 117) 133 22) (lc' := [(3, .int 88), (2, .int 16), (0, .ref 0), (1, .ref 22)]) (stk' := []) (mem' := fm g tp bt a b) (fun _ _ _ => rfl) ?_
  rw [show (fx_cb .ge 88 117) = false from by decide]
  dsimp only [cond]
  refine fe_s 4 (pc' := 28) (lc' := [(4, .int 88), (3, .int 88), (2, .int 16), (0, .ref 0), (1, .ref 22)]) (stk' := [.int 88, .ref 22]) (mem' := fm g tp bt a b) (fun _ _ _ => rfl) ?_
  refine fe_chr (i := 88) (by omega) (by rfl) (by rfl) ⟨by rfl, by rfl⟩ (by rfl) ?_
  rw [show sk_b.getD 88 0 = 116 from rfl]
  refine fe_s 1 (pc' := 33) (lc' := [(4, .int 88), (3, .int 88), (2, .int 16), (0, .ref 0), (1, .ref 22)]) (stk' := [.int 32, .int 116]) (mem' := fm g tp bt a b) (fun _ _ _ => rfl) ?_
  refine fe_s 1 (pc' := cond (fx_cb .eq 116 32) 42 36) (lc' := [(4, .int 88), (3, .int 88), (2, .int 16), (0, .ref 0), (1, .ref 22)]) (stk' := []) (mem' := fm g tp bt a b) (fun _ _ _ => rfl) ?_
  rw [show (fx_cb .eq 116 32) = false from by decide]
  dsimp only [cond]
  refine fe_s 4 (pc' := 28) (lc' := [(4, .int (88 + 1)), (3, .int 88), (2, .int 16), (0, .ref 0), (1, .ref 22)]) (stk' := [.int (88 + 1), .ref 22]) (mem' := fm g tp bt a b) (fun _ _ _ => rfl) ?_
  rw [show (88 + 1 : Int32) = 89 from rfl]
  refine fe_chr (i := 89) (by omega) (by rfl) (by rfl) ⟨by rfl, by rfl⟩ (by rfl) ?_
  rw [show sk_b.getD 89 0 = 111 from rfl]
  refine fe_s 1 (pc' := 33) (lc' := [(4, .int 89), (3, .int 88), (2, .int 16), (0, .ref 0), (1, .ref 22)]) (stk' := [.int 32, .int 111]) (mem' := fm g tp bt a b) (fun _ _ _ => rfl) ?_
  refine fe_s 1 (pc' := cond (fx_cb .eq 111 32) 42 36) (lc' := [(4, .int 89), (3, .int 88), (2, .int 16), (0, .ref 0), (1, .ref 22)]) (stk' := []) (mem' := fm g tp bt a b) (fun _ _ _ => rfl) ?_
  rw [show (fx_cb .eq 111 32) = false from by decide]
  dsimp only [cond]
  refine fe_s 4 (pc' := 28) (lc' := [(4, .int (89 + 1)), (3, .int 88), (2, .int 16), (0, .ref 0), (1, .ref 22)]) (stk' := [.int (89 + 1), .ref 22]) (mem' := fm g tp bt a b) (fun _ _ _ => rfl) ?_
  rw [show (89 + 1 : Int32) = 90 from rfl]
  refine fe_chr (i := 90) (by omega) (by rfl) (by rfl) ⟨by rfl, by rfl⟩ (by rfl) ?_
  rw [show sk_b.getD 90 0 = 32 from rfl]
  refine fe_s 1 (pc' := 33) (lc' := [(4, .int 90), (3, .int 88), (2, .int 16), (0, .ref 0), (1, .ref 22)]) (stk' := [.int 32, .int 32]) (mem' := fm g tp bt a b) (fun _ _ _ => rfl) ?_
  refine fe_s 1 (pc' := cond (fx_cb .eq 32 32) 42 36) (lc' := [(4, .int 90), (3, .int 88), (2, .int 16), (0, .ref 0), (1, .ref 22)]) (stk' := []) (mem' := fm g tp bt a b) (fun _ _ _ => rfl) ?_
  rw [show (fx_cb .eq 32 32) = true from by decide]
  dsimp only [cond]
  refine fe_s 4 (pc' := 47) (lc' := [(4, .int 90), (3, .int 88), (2, .int 16), (0, .ref 0), (1, .ref 22)]) (stk' := [.ref 0, .int (90 - 88)]) (mem' := fm g tp bt a b) (fun _ _ _ => rfl) ?_
  rw [show (90 - 88 : Int32) = 2 from rfl]
  refine fe_s 4 (pc' := 55) (lc' := [(4, .int 90), (3, .int 88), (2, .int 16), (0, .ref 0), (1, .ref 22)]) (stk' := [.int ((g 14) - (g 13)), .int 2]) (mem' := fm g tp bt a b) (fun _ _ _ => rfl) ?_
  try rw [h14]
  try rw [h13]
  rw [show ((nI E) - (nI F) : Int32) = nI (E - F) from by simp only [tg_sub2 (x := E) (y := F) (by omega), nI_add, fm_mul]]
  refine fe_s 1 (pc' := cond (fx_cb .ne 2 (nI (E - F))) 62 58) (lc' := [(4, .int 90), (3, .int 88), (2, .int 16), (0, .ref 0), (1, .ref 22)]) (stk' := []) (mem' := fm g tp bt a b) (fun _ _ _ => rfl) ?_
  by_cases h2 : 2 = (E - F)
  · rw [show (fx_cb .ne 2 (nI (E - F))) = false from cb_neF (a := 2) (b := E - F) (by omega) (by omega) (by omega)]
    dsimp only [cond]
    refine fe_s 4 (pc' := 66) (lc' := [(5, .int 1), (4, .int 90), (3, .int 88), (2, .int 16), (0, .ref 0), (1, .ref 22)]) (stk' := [.int 88]) (mem' := fm g tp bt a b) (fun _ _ _ => rfl) ?_
    refine fe_s 3 (pc' := 72) (lc' := [(6, .int 88), (5, .int 1), (4, .int 90), (3, .int 88), (2, .int 16), (0, .ref 0), (1, .ref 22)]) (stk' := [.int 90, .int 88]) (mem' := fm g tp bt a b) (fun _ _ _ => rfl) ?_
    refine fe_s 1 (pc' := cond (fx_cb .ge 88 90) 115 75) (lc' := [(6, .int 88), (5, .int 1), (4, .int 90), (3, .int 88), (2, .int 16), (0, .ref 0), (1, .ref 22)]) (stk' := []) (mem' := fm g tp bt a b) (fun _ _ _ => rfl) ?_
    rw [show (fx_cb .ge 88 90) = false from by decide]
    dsimp only [cond]
    refine fe_s 1 (pc' := 77) (lc' := [(6, .int 88), (5, .int 1), (4, .int 90), (3, .int 88), (2, .int 16), (0, .ref 0), (1, .ref 22)]) (stk' := [.int 1]) (mem' := fm g tp bt a b) (fun _ _ _ => rfl) ?_
    refine fe_s 1 (pc' := cond (fx_cb .eq 1 0) 115 80) (lc' := [(6, .int 88), (5, .int 1), (4, .int 90), (3, .int 88), (2, .int 16), (0, .ref 0), (1, .ref 22)]) (stk' := []) (mem' := fm g tp bt a b) (fun _ _ _ => rfl) ?_
    rw [show (fx_cb .eq 1 0) = false from by decide]
    dsimp only [cond]
    refine fe_s 2 (pc' := 83) (lc' := [(6, .int 88), (5, .int 1), (4, .int 90), (3, .int 88), (2, .int 16), (0, .ref 0), (1, .ref 22)]) (stk' := [.int 88, .ref 22]) (mem' := fm g tp bt a b) (fun _ _ _ => rfl) ?_
    refine fe_chr (i := 88) (by omega) (by rfl) (by rfl) ⟨by rfl, by rfl⟩ (by rfl) ?_
    rw [show sk_b.getD 88 0 = 116 from rfl]
    refine fe_s 4 (pc' := 93) (lc' := [(6, .int 88), (5, .int 1), (4, .int 90), (3, .int 88), (2, .int 16), (0, .ref 0), (1, .ref 22)]) (stk' := [.int 88, .int (g 13), .ref 0, .int 116]) (mem' := fm g tp bt a b) (fun _ _ _ => rfl) ?_
    try rw [h13]
    refine fe_s 3 (pc' := 96) (lc' := [(6, .int 88), (5, .int 1), (4, .int 90), (3, .int 88), (2, .int 16), (0, .ref 0), (1, .ref 22)]) (stk' := [.int (((nI F) + 88) - 88), .ref 0, .int 116]) (mem' := fm g tp bt a b) (fun _ _ _ => rfl) ?_
    rw [show (((nI F) + 88) - 88 : Int32) = nI ((F + 88) - 88) from by simp only [show (88 : Int32) = nI 88 from rfl, tg_sub2 (x := F + 88) (y := 88) (by omega), nI_add, fm_mul]]
    refine fe_ivV (fr_byteAt (S := S) (k := (F + 88) - 88) (g := g) (tp := tp) (bt := bt) (a := a) (b := b) h11 (by omega) (by omega)) (by omega) (by rfl) (by rfl) (by rfl) (by rfl) (by rfl) (by rfl) ?_
    rcases fm_byte_or a S ((F + 88) - 88) with ⟨e4, q5⟩ | ⟨q5, n3, qn3, e4⟩
    · rw [e4]
      refine fe_s 1 (pc' := cond (fx_cb .ne 116 (-1)) 106 102) (lc' := [(6, .int 88), (5, .int 1), (4, .int 90), (3, .int 88), (2, .int 16), (0, .ref 0), (1, .ref 22)]) (stk' := []) (mem' := fm g tp bt a b) (fun _ _ _ => rfl) ?_
      rw [show (fx_cb .ne 116 (-1)) = true from by decide]
      dsimp only [cond]
      refine fe_s 1 (pc' := 107) (lc' := [(6, .int 88), (5, .int 1), (4, .int 90), (3, .int 88), (2, .int 16), (0, .ref 0), (1, .ref 22)]) (stk' := [.int 0]) (mem' := fm g tp bt a b) (fun _ _ _ => rfl) ?_
      refine fe_w (lc' := [(6, .int 88), (5, .int 1), (4, .int 90), (3, .int 88), (2, .int 16), (0, .ref 0), (1, .ref 22)]) ⟨rfl, rfl, rfl, rfl, rfl, rfl, rfl, trivial⟩ (by show List.Nodup [6, 5, 4, 3, 2, 0, 1]; decide) (by show List.Nodup [6, 5, 4, 3, 2, 0, 1]; decide) ?_
      exact fail _ _
    · rw [e4]
      refine fe_s 1 (pc' := cond (fx_cb .ne 116 (nI n3)) 106 102) (lc' := [(6, .int 88), (5, .int 1), (4, .int 90), (3, .int 88), (2, .int 16), (0, .ref 0), (1, .ref 22)]) (stk' := []) (mem' := fm g tp bt a b) (fun _ _ _ => rfl) ?_
      by_cases h6 : 116 = n3
      · rw [show (fx_cb .ne 116 (nI n3)) = false from cb_neF (a := 116) (b := n3) (by omega) (by omega) (by omega)]
        dsimp only [cond]
        refine fe_s 2 (pc' := 107) (lc' := [(6, .int 88), (5, .int 1), (4, .int 90), (3, .int 88), (2, .int 16), (0, .ref 0), (1, .ref 22)]) (stk' := [.int 1]) (mem' := fm g tp bt a b) (fun _ _ _ => rfl) ?_
        refine fe_s 4 (pc' := 70) (lc' := [(6, .int (88 + 1)), (5, .int 1), (4, .int 90), (3, .int 88), (2, .int 16), (0, .ref 0), (1, .ref 22)]) (stk' := [.int (88 + 1)]) (mem' := fm g tp bt a b) (fun _ _ _ => rfl) ?_
        rw [show (88 + 1 : Int32) = 89 from rfl]
        refine fe_s 1 (pc' := 72) (lc' := [(6, .int 89), (5, .int 1), (4, .int 90), (3, .int 88), (2, .int 16), (0, .ref 0), (1, .ref 22)]) (stk' := [.int 90, .int 89]) (mem' := fm g tp bt a b) (fun _ _ _ => rfl) ?_
        refine fe_s 1 (pc' := cond (fx_cb .ge 89 90) 115 75) (lc' := [(6, .int 89), (5, .int 1), (4, .int 90), (3, .int 88), (2, .int 16), (0, .ref 0), (1, .ref 22)]) (stk' := []) (mem' := fm g tp bt a b) (fun _ _ _ => rfl) ?_
        rw [show (fx_cb .ge 89 90) = false from by decide]
        dsimp only [cond]
        refine fe_s 1 (pc' := 77) (lc' := [(6, .int 89), (5, .int 1), (4, .int 90), (3, .int 88), (2, .int 16), (0, .ref 0), (1, .ref 22)]) (stk' := [.int 1]) (mem' := fm g tp bt a b) (fun _ _ _ => rfl) ?_
        refine fe_s 1 (pc' := cond (fx_cb .eq 1 0) 115 80) (lc' := [(6, .int 89), (5, .int 1), (4, .int 90), (3, .int 88), (2, .int 16), (0, .ref 0), (1, .ref 22)]) (stk' := []) (mem' := fm g tp bt a b) (fun _ _ _ => rfl) ?_
        rw [show (fx_cb .eq 1 0) = false from by decide]
        dsimp only [cond]
        refine fe_s 2 (pc' := 83) (lc' := [(6, .int 89), (5, .int 1), (4, .int 90), (3, .int 88), (2, .int 16), (0, .ref 0), (1, .ref 22)]) (stk' := [.int 89, .ref 22]) (mem' := fm g tp bt a b) (fun _ _ _ => rfl) ?_
        refine fe_chr (i := 89) (by omega) (by rfl) (by rfl) ⟨by rfl, by rfl⟩ (by rfl) ?_
        rw [show sk_b.getD 89 0 = 111 from rfl]
        refine fe_s 4 (pc' := 93) (lc' := [(6, .int 89), (5, .int 1), (4, .int 90), (3, .int 88), (2, .int 16), (0, .ref 0), (1, .ref 22)]) (stk' := [.int 89, .int (g 13), .ref 0, .int 111]) (mem' := fm g tp bt a b) (fun _ _ _ => rfl) ?_
        try rw [h13]
        refine fe_s 3 (pc' := 96) (lc' := [(6, .int 89), (5, .int 1), (4, .int 90), (3, .int 88), (2, .int 16), (0, .ref 0), (1, .ref 22)]) (stk' := [.int (((nI F) + 89) - 88), .ref 0, .int 111]) (mem' := fm g tp bt a b) (fun _ _ _ => rfl) ?_
        rw [show (((nI F) + 89) - 88 : Int32) = nI ((F + 89) - 88) from by simp only [show (89 : Int32) = nI 89 from rfl, show (88 : Int32) = nI 88 from rfl, tg_sub2 (x := F + 89) (y := 88) (by omega), nI_add, fm_mul]]
        refine fe_ivV (fr_byteAt (S := S) (k := (F + 89) - 88) (g := g) (tp := tp) (bt := bt) (a := a) (b := b) h11 (by omega) (by omega)) (by omega) (by rfl) (by rfl) (by rfl) (by rfl) (by rfl) (by rfl) ?_
        rcases fm_byte_or a S ((F + 89) - 88) with ⟨e8, q9⟩ | ⟨q9, n7, qn7, e8⟩
        · rw [e8]
          refine fe_s 1 (pc' := cond (fx_cb .ne 111 (-1)) 106 102) (lc' := [(6, .int 89), (5, .int 1), (4, .int 90), (3, .int 88), (2, .int 16), (0, .ref 0), (1, .ref 22)]) (stk' := []) (mem' := fm g tp bt a b) (fun _ _ _ => rfl) ?_
          rw [show (fx_cb .ne 111 (-1)) = true from by decide]
          dsimp only [cond]
          refine fe_s 1 (pc' := 107) (lc' := [(6, .int 89), (5, .int 1), (4, .int 90), (3, .int 88), (2, .int 16), (0, .ref 0), (1, .ref 22)]) (stk' := [.int 0]) (mem' := fm g tp bt a b) (fun _ _ _ => rfl) ?_
          refine fe_w (lc' := [(6, .int 89), (5, .int 1), (4, .int 90), (3, .int 88), (2, .int 16), (0, .ref 0), (1, .ref 22)]) ⟨rfl, rfl, rfl, rfl, rfl, rfl, rfl, trivial⟩ (by show List.Nodup [6, 5, 4, 3, 2, 0, 1]; decide) (by show List.Nodup [6, 5, 4, 3, 2, 0, 1]; decide) ?_
          exact fail _ _
        · rw [e8]
          refine fe_s 1 (pc' := cond (fx_cb .ne 111 (nI n7)) 106 102) (lc' := [(6, .int 89), (5, .int 1), (4, .int 90), (3, .int 88), (2, .int 16), (0, .ref 0), (1, .ref 22)]) (stk' := []) (mem' := fm g tp bt a b) (fun _ _ _ => rfl) ?_
          by_cases h10 : 111 = n7
          · rw [show (fx_cb .ne 111 (nI n7)) = false from cb_neF (a := 111) (b := n7) (by omega) (by omega) (by omega)]
            dsimp only [cond]
            refine fe_s 2 (pc' := 107) (lc' := [(6, .int 89), (5, .int 1), (4, .int 90), (3, .int 88), (2, .int 16), (0, .ref 0), (1, .ref 22)]) (stk' := [.int 1]) (mem' := fm g tp bt a b) (fun _ _ _ => rfl) ?_
            refine fe_s 4 (pc' := 70) (lc' := [(6, .int (89 + 1)), (5, .int 1), (4, .int 90), (3, .int 88), (2, .int 16), (0, .ref 0), (1, .ref 22)]) (stk' := [.int (89 + 1)]) (mem' := fm g tp bt a b) (fun _ _ _ => rfl) ?_
            rw [show (89 + 1 : Int32) = 90 from rfl]
            refine fe_s 1 (pc' := 72) (lc' := [(6, .int 90), (5, .int 1), (4, .int 90), (3, .int 88), (2, .int 16), (0, .ref 0), (1, .ref 22)]) (stk' := [.int 90, .int 90]) (mem' := fm g tp bt a b) (fun _ _ _ => rfl) ?_
            refine fe_s 1 (pc' := cond (fx_cb .ge 90 90) 115 75) (lc' := [(6, .int 90), (5, .int 1), (4, .int 90), (3, .int 88), (2, .int 16), (0, .ref 0), (1, .ref 22)]) (stk' := []) (mem' := fm g tp bt a b) (fun _ _ _ => rfl) ?_
            rw [show (fx_cb .ge 90 90) = true from by decide]
            dsimp only [cond]
            refine fe_s 1 (pc' := 117) (lc' := [(6, .int 90), (5, .int 1), (4, .int 90), (3, .int 88), (2, .int 16), (0, .ref 0), (1, .ref 22)]) (stk' := [.int 1]) (mem' := fm g tp bt a b) (fun _ _ _ => rfl) ?_
            refine fe_s 1 (pc' := cond (fx_cb .eq 1 0) 122 120) (lc' := [(6, .int 90), (5, .int 1), (4, .int 90), (3, .int 88), (2, .int 16), (0, .ref 0), (1, .ref 22)]) (stk' := []) (mem' := fm g tp bt a b) (fun _ _ _ => rfl) ?_
            rw [show (fx_cb .eq 1 0) = false from by decide]
            dsimp only [cond]
            refine fe_s 1 (pc' := 121) (lc' := [(6, .int 90), (5, .int 1), (4, .int 90), (3, .int 88), (2, .int 16), (0, .ref 0), (1, .ref 22)]) (stk' := [.int 16]) (mem' := fm g tp bt a b) (fun _ _ _ => rfl) ?_
            exact fe_ret ⟨_, Or.inr ⟨16, by omega, rfl⟩, rfl⟩ (by rfl) (by rfl) (by rfl)
          · rw [show (fx_cb .ne 111 (nI n7)) = true from cb_neT (a := 111) (b := n7) (by omega) (by omega) (by omega)]
            dsimp only [cond]
            refine fe_s 1 (pc' := 107) (lc' := [(6, .int 89), (5, .int 1), (4, .int 90), (3, .int 88), (2, .int 16), (0, .ref 0), (1, .ref 22)]) (stk' := [.int 0]) (mem' := fm g tp bt a b) (fun _ _ _ => rfl) ?_
            refine fe_w (lc' := [(6, .int 89), (5, .int 1), (4, .int 90), (3, .int 88), (2, .int 16), (0, .ref 0), (1, .ref 22)]) ⟨rfl, rfl, rfl, rfl, rfl, rfl, rfl, trivial⟩ (by show List.Nodup [6, 5, 4, 3, 2, 0, 1]; decide) (by show List.Nodup [6, 5, 4, 3, 2, 0, 1]; decide) ?_
            exact fail _ _
      · rw [show (fx_cb .ne 116 (nI n3)) = true from cb_neT (a := 116) (b := n3) (by omega) (by omega) (by omega)]
        dsimp only [cond]
        refine fe_s 1 (pc' := 107) (lc' := [(6, .int 88), (5, .int 1), (4, .int 90), (3, .int 88), (2, .int 16), (0, .ref 0), (1, .ref 22)]) (stk' := [.int 0]) (mem' := fm g tp bt a b) (fun _ _ _ => rfl) ?_
        refine fe_w (lc' := [(6, .int 88), (5, .int 1), (4, .int 90), (3, .int 88), (2, .int 16), (0, .ref 0), (1, .ref 22)]) ⟨rfl, rfl, rfl, rfl, rfl, rfl, rfl, trivial⟩ (by show List.Nodup [6, 5, 4, 3, 2, 0, 1]; decide) (by show List.Nodup [6, 5, 4, 3, 2, 0, 1]; decide) ?_
        exact fail _ _
  · rw [show (fx_cb .ne 2 (nI (E - F))) = true from cb_neT (a := 2) (b := E - F) (by omega) (by omega) (by omega)]
    dsimp only [cond]
    refine fe_s 4 (pc' := 68) (lc' := [(6, .int 88), (5, .int 0), (4, .int 90), (3, .int 88), (2, .int 16), (0, .ref 0), (1, .ref 22)]) (stk' := []) (mem' := fm g tp bt a b) (fun _ _ _ => rfl) ?_
    refine fe_s 2 (pc' := 72) (lc' := [(6, .int 88), (5, .int 0), (4, .int 90), (3, .int 88), (2, .int 16), (0, .ref 0), (1, .ref 22)]) (stk' := [.int 90, .int 88]) (mem' := fm g tp bt a b) (fun _ _ _ => rfl) ?_
    refine fe_s 1 (pc' := cond (fx_cb .ge 88 90) 115 75) (lc' := [(6, .int 88), (5, .int 0), (4, .int 90), (3, .int 88), (2, .int 16), (0, .ref 0), (1, .ref 22)]) (stk' := []) (mem' := fm g tp bt a b) (fun _ _ _ => rfl) ?_
    rw [show (fx_cb .ge 88 90) = false from by decide]
    dsimp only [cond]
    refine fe_s 1 (pc' := 77) (lc' := [(6, .int 88), (5, .int 0), (4, .int 90), (3, .int 88), (2, .int 16), (0, .ref 0), (1, .ref 22)]) (stk' := [.int 0]) (mem' := fm g tp bt a b) (fun _ _ _ => rfl) ?_
    refine fe_s 1 (pc' := cond (fx_cb .eq 0 0) 115 80) (lc' := [(6, .int 88), (5, .int 0), (4, .int 90), (3, .int 88), (2, .int 16), (0, .ref 0), (1, .ref 22)]) (stk' := []) (mem' := fm g tp bt a b) (fun _ _ _ => rfl) ?_
    rw [show (fx_cb .eq 0 0) = true from by decide]
    dsimp only [cond]
    refine fe_s 1 (pc' := 117) (lc' := [(6, .int 88), (5, .int 0), (4, .int 90), (3, .int 88), (2, .int 16), (0, .ref 0), (1, .ref 22)]) (stk' := [.int 0]) (mem' := fm g tp bt a b) (fun _ _ _ => rfl) ?_
    refine fe_s 1 (pc' := cond (fx_cb .eq 0 0) 122 120) (lc' := [(6, .int 88), (5, .int 0), (4, .int 90), (3, .int 88), (2, .int 16), (0, .ref 0), (1, .ref 22)]) (stk' := []) (mem' := fm g tp bt a b) (fun _ _ _ => rfl) ?_
    rw [show (fx_cb .eq 0 0) = true from by decide]
    dsimp only [cond]
    refine fe_s 4 (pc' := 129) (lc' := [(2, .int (16 + 1)), (6, .int 88), (5, .int 0), (4, .int 90), (3, .int 88), (0, .ref 0), (1, .ref 22)]) (stk' := [.int (90 + 1)]) (mem' := fm g tp bt a b) (fun _ _ _ => rfl) ?_
    rw [show (90 + 1 : Int32) = 91 from rfl]
    rw [show (16 + 1 : Int32) = 17 from rfl]
    refine fe_s 1 (pc' := 130) (lc' := [(3, .int 91), (2, .int 17), (6, .int 88), (5, .int 0), (4, .int 90), (0, .ref 0), (1, .ref 22)]) (stk' := []) (mem' := fm g tp bt a b) (fun _ _ _ => rfl) ?_
    refine fe_s 1 (pc' := fx_to 130 (-116)) (lc' := [(3, .int 91), (2, .int 17), (6, .int 88), (5, .int 0), (4, .int 90), (0, .ref 0), (1, .ref 22)]) (stk' := []) (mem' := fm g tp bt a b) (fun _ _ _ => rfl) ?_
    rw [show fx_to 130 (-116) = 14 from by decide]
    refine fe_w (lc' := [(3, .int 91), (2, .int 17), (0, .ref 0), (1, .ref 22)]) ⟨rfl, rfl, rfl, rfl, trivial⟩ (by show List.Nodup [3, 2, 0, 1]; decide) (by show List.Nodup [3, 2, 6, 5, 4, 0, 1]; decide) ?_
    exact fw_17 hxp
set_option maxHeartbeats 8000000 in
theorem fw_15 {S E F : Nat} (hxp : fm_xp g S E F) : fe_R 1 gk_m226 14 [(3, .int 84), (2, .int 15), (0, .ref 0), (1, .ref 22)] [] (fm g tp bt a b) (fm_FI (fm g tp bt a b)) := by
  obtain ⟨h11, hS9, h14, hES, h13, hFE, -, -, -⟩ := id hxp
  have fail : ∀ (x z : Int32), fe_R 1 gk_m226 107 [(6, .int x), (5, .int z), (4, .int 87), (3, .int 84), (2, .int 15), (0, .ref 0), (1, .ref 22)] [.int 0] (fm g tp bt a b) (fm_FI (fm g tp bt a b)) := by
    intro x z
    refine fe_s 4 (pc' := 70) (lc' := [(6, .int (x + 1)), (5, .int 0), (4, .int 87), (3, .int 84), (2, .int 15), (0, .ref 0), (1, .ref 22)]) (stk' := [.int (x + 1)]) (mem' := fm g tp bt a b) (fun _ _ _ => rfl) ?_
    refine fe_s 1 (pc' := 72) (lc' := [(6, .int (x + 1)), (5, .int 0), (4, .int 87), (3, .int 84), (2, .int 15), (0, .ref 0), (1, .ref 22)]) (stk' := [.int 87, .int (x + 1)]) (mem' := fm g tp bt a b) (fun _ _ _ => rfl) ?_
    refine fe_s 1 (pc' := cond (fx_cb .ge (x + 1) 87) 115 75) (lc' := [(6, .int (x + 1)), (5, .int 0), (4, .int 87), (3, .int 84), (2, .int 15), (0, .ref 0), (1, .ref 22)]) (stk' := []) (mem' := fm g tp bt a b) (fun _ _ _ => rfl) ?_
    cases h1 : fx_cb .ge (x + 1) 87
    · refine fe_s 1 (pc' := 77) (lc' := [(6, .int (x + 1)), (5, .int 0), (4, .int 87), (3, .int 84), (2, .int 15), (0, .ref 0), (1, .ref 22)]) (stk' := [.int 0]) (mem' := fm g tp bt a b) (fun _ _ _ => rfl) ?_
      refine fe_s 1 (pc' := cond (fx_cb .eq 0 0) 115 80) (lc' := [(6, .int (x + 1)), (5, .int 0), (4, .int 87), (3, .int 84), (2, .int 15), (0, .ref 0), (1, .ref 22)]) (stk' := []) (mem' := fm g tp bt a b) (fun _ _ _ => rfl) ?_
      rw [show (fx_cb .eq 0 0) = true from by decide]
      dsimp only [cond]
      refine fe_s 1 (pc' := 117) (lc' := [(6, .int (x + 1)), (5, .int 0), (4, .int 87), (3, .int 84), (2, .int 15), (0, .ref 0), (1, .ref 22)]) (stk' := [.int 0]) (mem' := fm g tp bt a b) (fun _ _ _ => rfl) ?_
      refine fe_s 1 (pc' := cond (fx_cb .eq 0 0) 122 120) (lc' := [(6, .int (x + 1)), (5, .int 0), (4, .int 87), (3, .int 84), (2, .int 15), (0, .ref 0), (1, .ref 22)]) (stk' := []) (mem' := fm g tp bt a b) (fun _ _ _ => rfl) ?_
      rw [show (fx_cb .eq 0 0) = true from by decide]
      dsimp only [cond]
      refine fe_s 4 (pc' := 129) (lc' := [(2, .int (15 + 1)), (6, .int (x + 1)), (5, .int 0), (4, .int 87), (3, .int 84), (0, .ref 0), (1, .ref 22)]) (stk' := [.int (87 + 1)]) (mem' := fm g tp bt a b) (fun _ _ _ => rfl) ?_
      rw [show (87 + 1 : Int32) = 88 from rfl]
      rw [show (15 + 1 : Int32) = 16 from rfl]
      refine fe_s 1 (pc' := 130) (lc' := [(3, .int 88), (2, .int 16), (6, .int (x + 1)), (5, .int 0), (4, .int 87), (0, .ref 0), (1, .ref 22)]) (stk' := []) (mem' := fm g tp bt a b) (fun _ _ _ => rfl) ?_
      refine fe_s 1 (pc' := fx_to 130 (-116)) (lc' := [(3, .int 88), (2, .int 16), (6, .int (x + 1)), (5, .int 0), (4, .int 87), (0, .ref 0), (1, .ref 22)]) (stk' := []) (mem' := fm g tp bt a b) (fun _ _ _ => rfl) ?_
      rw [show fx_to 130 (-116) = 14 from by decide]
      refine fe_w (lc' := [(3, .int 88), (2, .int 16), (0, .ref 0), (1, .ref 22)]) ⟨rfl, rfl, rfl, rfl, trivial⟩ (by show List.Nodup [3, 2, 0, 1]; decide) (by show List.Nodup [3, 2, 6, 5, 4, 0, 1]; decide) ?_
      exact fw_16 hxp
    · refine fe_s 1 (pc' := 117) (lc' := [(6, .int (x + 1)), (5, .int 0), (4, .int 87), (3, .int 84), (2, .int 15), (0, .ref 0), (1, .ref 22)]) (stk' := [.int 0]) (mem' := fm g tp bt a b) (fun _ _ _ => rfl) ?_
      refine fe_s 1 (pc' := cond (fx_cb .eq 0 0) 122 120) (lc' := [(6, .int (x + 1)), (5, .int 0), (4, .int 87), (3, .int 84), (2, .int 15), (0, .ref 0), (1, .ref 22)]) (stk' := []) (mem' := fm g tp bt a b) (fun _ _ _ => rfl) ?_
      rw [show (fx_cb .eq 0 0) = true from by decide]
      dsimp only [cond]
      refine fe_s 4 (pc' := 129) (lc' := [(2, .int (15 + 1)), (6, .int (x + 1)), (5, .int 0), (4, .int 87), (3, .int 84), (0, .ref 0), (1, .ref 22)]) (stk' := [.int (87 + 1)]) (mem' := fm g tp bt a b) (fun _ _ _ => rfl) ?_
      rw [show (87 + 1 : Int32) = 88 from rfl]
      rw [show (15 + 1 : Int32) = 16 from rfl]
      refine fe_s 1 (pc' := 130) (lc' := [(3, .int 88), (2, .int 16), (6, .int (x + 1)), (5, .int 0), (4, .int 87), (0, .ref 0), (1, .ref 22)]) (stk' := []) (mem' := fm g tp bt a b) (fun _ _ _ => rfl) ?_
      refine fe_s 1 (pc' := fx_to 130 (-116)) (lc' := [(3, .int 88), (2, .int 16), (6, .int (x + 1)), (5, .int 0), (4, .int 87), (0, .ref 0), (1, .ref 22)]) (stk' := []) (mem' := fm g tp bt a b) (fun _ _ _ => rfl) ?_
      rw [show fx_to 130 (-116) = 14 from by decide]
      refine fe_w (lc' := [(3, .int 88), (2, .int 16), (0, .ref 0), (1, .ref 22)]) ⟨rfl, rfl, rfl, rfl, trivial⟩ (by show List.Nodup [3, 2, 0, 1]; decide) (by show List.Nodup [3, 2, 6, 5, 4, 0, 1]; decide) ?_
      exact fw_16 hxp
  refine fe_s 2 (pc' := 16) (lc' := [(3, .int 84), (2, .int 15), (0, .ref 0), (1, .ref 22)]) (stk' := [.ref 22, .int 84]) (mem' := fm g tp bt a b) (fun _ _ _ => rfl) ?_
  refine fe_s 1 (pc' := 19) (lc' := [(3, .int 84), (2, .int 15), (0, .ref 0), (1, .ref 22)]) (stk' := [.int 117, .int 84]) (mem' := fm g tp bt a b) (fun _ _ _ => rfl) ?_
  refine fe_s 1 (pc' := cond (fx_cb .ge 84 117) 133 22) (lc' := [(3, .int 84), (2, .int 15), (0, .ref 0), (1, .ref 22)]) (stk' := []) (mem' := fm g tp bt a b) (fun _ _ _ => rfl) ?_
  rw [show (fx_cb .ge 84 117) = false from by decide]
  dsimp only [cond]
  refine fe_s 4 (pc' := 28) (lc' := [(4, .int 84), (3, .int 84), (2, .int 15), (0, .ref 0), (1, .ref 22)]) (stk' := [.int 84, .ref 22]) (mem' := fm g tp bt a b) (fun _ _ _ => rfl) ?_
  refine fe_chr (i := 84) (by omega) (by rfl) (by rfl) ⟨by rfl, by rfl⟩ (by rfl) ?_
  rw [show sk_b.getD 84 0 = 97 from rfl]
  refine fe_s 1 (pc' := 33) (lc' := [(4, .int 84), (3, .int 84), (2, .int 15), (0, .ref 0), (1, .ref 22)]) (stk' := [.int 32, .int 97]) (mem' := fm g tp bt a b) (fun _ _ _ => rfl) ?_
  refine fe_s 1 (pc' := cond (fx_cb .eq 97 32) 42 36) (lc' := [(4, .int 84), (3, .int 84), (2, .int 15), (0, .ref 0), (1, .ref 22)]) (stk' := []) (mem' := fm g tp bt a b) (fun _ _ _ => rfl) ?_
  rw [show (fx_cb .eq 97 32) = false from by decide]
  dsimp only [cond]
  refine fe_s 4 (pc' := 28) (lc' := [(4, .int (84 + 1)), (3, .int 84), (2, .int 15), (0, .ref 0), (1, .ref 22)]) (stk' := [.int (84 + 1), .ref 22]) (mem' := fm g tp bt a b) (fun _ _ _ => rfl) ?_
  rw [show (84 + 1 : Int32) = 85 from rfl]
  refine fe_chr (i := 85) (by omega) (by rfl) (by rfl) ⟨by rfl, by rfl⟩ (by rfl) ?_
  rw [show sk_b.getD 85 0 = 110 from rfl]
  refine fe_s 1 (pc' := 33) (lc' := [(4, .int 85), (3, .int 84), (2, .int 15), (0, .ref 0), (1, .ref 22)]) (stk' := [.int 32, .int 110]) (mem' := fm g tp bt a b) (fun _ _ _ => rfl) ?_
  refine fe_s 1 (pc' := cond (fx_cb .eq 110 32) 42 36) (lc' := [(4, .int 85), (3, .int 84), (2, .int 15), (0, .ref 0), (1, .ref 22)]) (stk' := []) (mem' := fm g tp bt a b) (fun _ _ _ => rfl) ?_
  rw [show (fx_cb .eq 110 32) = false from by decide]
  dsimp only [cond]
  refine fe_s 4 (pc' := 28) (lc' := [(4, .int (85 + 1)), (3, .int 84), (2, .int 15), (0, .ref 0), (1, .ref 22)]) (stk' := [.int (85 + 1), .ref 22]) (mem' := fm g tp bt a b) (fun _ _ _ => rfl) ?_
  rw [show (85 + 1 : Int32) = 86 from rfl]
  refine fe_chr (i := 86) (by omega) (by rfl) (by rfl) ⟨by rfl, by rfl⟩ (by rfl) ?_
  rw [show sk_b.getD 86 0 = 121 from rfl]
  refine fe_s 1 (pc' := 33) (lc' := [(4, .int 86), (3, .int 84), (2, .int 15), (0, .ref 0), (1, .ref 22)]) (stk' := [.int 32, .int 121]) (mem' := fm g tp bt a b) (fun _ _ _ => rfl) ?_
  refine fe_s 1 (pc' := cond (fx_cb .eq 121 32) 42 36) (lc' := [(4, .int 86), (3, .int 84), (2, .int 15), (0, .ref 0), (1, .ref 22)]) (stk' := []) (mem' := fm g tp bt a b) (fun _ _ _ => rfl) ?_
  rw [show (fx_cb .eq 121 32) = false from by decide]
  dsimp only [cond]
  refine fe_s 4 (pc' := 28) (lc' := [(4, .int (86 + 1)), (3, .int 84), (2, .int 15), (0, .ref 0), (1, .ref 22)]) (stk' := [.int (86 + 1), .ref 22]) (mem' := fm g tp bt a b) (fun _ _ _ => rfl) ?_
  rw [show (86 + 1 : Int32) = 87 from rfl]
  refine fe_chr (i := 87) (by omega) (by rfl) (by rfl) ⟨by rfl, by rfl⟩ (by rfl) ?_
  rw [show sk_b.getD 87 0 = 32 from rfl]
  refine fe_s 1 (pc' := 33) (lc' := [(4, .int 87), (3, .int 84), (2, .int 15), (0, .ref 0), (1, .ref 22)]) (stk' := [.int 32, .int 32]) (mem' := fm g tp bt a b) (fun _ _ _ => rfl) ?_
  refine fe_s 1 (pc' := cond (fx_cb .eq 32 32) 42 36) (lc' := [(4, .int 87), (3, .int 84), (2, .int 15), (0, .ref 0), (1, .ref 22)]) (stk' := []) (mem' := fm g tp bt a b) (fun _ _ _ => rfl) ?_
  rw [show (fx_cb .eq 32 32) = true from by decide]
  dsimp only [cond]
  refine fe_s 4 (pc' := 47) (lc' := [(4, .int 87), (3, .int 84), (2, .int 15), (0, .ref 0), (1, .ref 22)]) (stk' := [.ref 0, .int (87 - 84)]) (mem' := fm g tp bt a b) (fun _ _ _ => rfl) ?_
  rw [show (87 - 84 : Int32) = 3 from rfl]
  refine fe_s 4 (pc' := 55) (lc' := [(4, .int 87), (3, .int 84), (2, .int 15), (0, .ref 0), (1, .ref 22)]) (stk' := [.int ((g 14) - (g 13)), .int 3]) (mem' := fm g tp bt a b) (fun _ _ _ => rfl) ?_
  try rw [h14]
  try rw [h13]
  rw [show ((nI E) - (nI F) : Int32) = nI (E - F) from by simp only [tg_sub2 (x := E) (y := F) (by omega), nI_add, fm_mul]]
  refine fe_s 1 (pc' := cond (fx_cb .ne 3 (nI (E - F))) 62 58) (lc' := [(4, .int 87), (3, .int 84), (2, .int 15), (0, .ref 0), (1, .ref 22)]) (stk' := []) (mem' := fm g tp bt a b) (fun _ _ _ => rfl) ?_
  by_cases h2 : 3 = (E - F)
  · rw [show (fx_cb .ne 3 (nI (E - F))) = false from cb_neF (a := 3) (b := E - F) (by omega) (by omega) (by omega)]
    dsimp only [cond]
    refine fe_s 4 (pc' := 66) (lc' := [(5, .int 1), (4, .int 87), (3, .int 84), (2, .int 15), (0, .ref 0), (1, .ref 22)]) (stk' := [.int 84]) (mem' := fm g tp bt a b) (fun _ _ _ => rfl) ?_
    refine fe_s 3 (pc' := 72) (lc' := [(6, .int 84), (5, .int 1), (4, .int 87), (3, .int 84), (2, .int 15), (0, .ref 0), (1, .ref 22)]) (stk' := [.int 87, .int 84]) (mem' := fm g tp bt a b) (fun _ _ _ => rfl) ?_
    refine fe_s 1 (pc' := cond (fx_cb .ge 84 87) 115 75) (lc' := [(6, .int 84), (5, .int 1), (4, .int 87), (3, .int 84), (2, .int 15), (0, .ref 0), (1, .ref 22)]) (stk' := []) (mem' := fm g tp bt a b) (fun _ _ _ => rfl) ?_
    rw [show (fx_cb .ge 84 87) = false from by decide]
    dsimp only [cond]
    refine fe_s 1 (pc' := 77) (lc' := [(6, .int 84), (5, .int 1), (4, .int 87), (3, .int 84), (2, .int 15), (0, .ref 0), (1, .ref 22)]) (stk' := [.int 1]) (mem' := fm g tp bt a b) (fun _ _ _ => rfl) ?_
    refine fe_s 1 (pc' := cond (fx_cb .eq 1 0) 115 80) (lc' := [(6, .int 84), (5, .int 1), (4, .int 87), (3, .int 84), (2, .int 15), (0, .ref 0), (1, .ref 22)]) (stk' := []) (mem' := fm g tp bt a b) (fun _ _ _ => rfl) ?_
    rw [show (fx_cb .eq 1 0) = false from by decide]
    dsimp only [cond]
    refine fe_s 2 (pc' := 83) (lc' := [(6, .int 84), (5, .int 1), (4, .int 87), (3, .int 84), (2, .int 15), (0, .ref 0), (1, .ref 22)]) (stk' := [.int 84, .ref 22]) (mem' := fm g tp bt a b) (fun _ _ _ => rfl) ?_
    refine fe_chr (i := 84) (by omega) (by rfl) (by rfl) ⟨by rfl, by rfl⟩ (by rfl) ?_
    rw [show sk_b.getD 84 0 = 97 from rfl]
    refine fe_s 4 (pc' := 93) (lc' := [(6, .int 84), (5, .int 1), (4, .int 87), (3, .int 84), (2, .int 15), (0, .ref 0), (1, .ref 22)]) (stk' := [.int 84, .int (g 13), .ref 0, .int 97]) (mem' := fm g tp bt a b) (fun _ _ _ => rfl) ?_
    try rw [h13]
    refine fe_s 3 (pc' := 96) (lc' := [(6, .int 84), (5, .int 1), (4, .int 87), (3, .int 84), (2, .int 15), (0, .ref 0), (1, .ref 22)]) (stk' := [.int (((nI F) + 84) - 84), .ref 0, .int 97]) (mem' := fm g tp bt a b) (fun _ _ _ => rfl) ?_
    rw [show (((nI F) + 84) - 84 : Int32) = nI ((F + 84) - 84) from by simp only [show (84 : Int32) = nI 84 from rfl, tg_sub2 (x := F + 84) (y := 84) (by omega), nI_add, fm_mul]]
    refine fe_ivV (fr_byteAt (S := S) (k := (F + 84) - 84) (g := g) (tp := tp) (bt := bt) (a := a) (b := b) h11 (by omega) (by omega)) (by omega) (by rfl) (by rfl) (by rfl) (by rfl) (by rfl) (by rfl) ?_
    rcases fm_byte_or a S ((F + 84) - 84) with ⟨e4, q5⟩ | ⟨q5, n3, qn3, e4⟩
    · rw [e4]
      refine fe_s 1 (pc' := cond (fx_cb .ne 97 (-1)) 106 102) (lc' := [(6, .int 84), (5, .int 1), (4, .int 87), (3, .int 84), (2, .int 15), (0, .ref 0), (1, .ref 22)]) (stk' := []) (mem' := fm g tp bt a b) (fun _ _ _ => rfl) ?_
      rw [show (fx_cb .ne 97 (-1)) = true from by decide]
      dsimp only [cond]
      refine fe_s 1 (pc' := 107) (lc' := [(6, .int 84), (5, .int 1), (4, .int 87), (3, .int 84), (2, .int 15), (0, .ref 0), (1, .ref 22)]) (stk' := [.int 0]) (mem' := fm g tp bt a b) (fun _ _ _ => rfl) ?_
      refine fe_w (lc' := [(6, .int 84), (5, .int 1), (4, .int 87), (3, .int 84), (2, .int 15), (0, .ref 0), (1, .ref 22)]) ⟨rfl, rfl, rfl, rfl, rfl, rfl, rfl, trivial⟩ (by show List.Nodup [6, 5, 4, 3, 2, 0, 1]; decide) (by show List.Nodup [6, 5, 4, 3, 2, 0, 1]; decide) ?_
      exact fail _ _
    · rw [e4]
      refine fe_s 1 (pc' := cond (fx_cb .ne 97 (nI n3)) 106 102) (lc' := [(6, .int 84), (5, .int 1), (4, .int 87), (3, .int 84), (2, .int 15), (0, .ref 0), (1, .ref 22)]) (stk' := []) (mem' := fm g tp bt a b) (fun _ _ _ => rfl) ?_
      by_cases h6 : 97 = n3
      · rw [show (fx_cb .ne 97 (nI n3)) = false from cb_neF (a := 97) (b := n3) (by omega) (by omega) (by omega)]
        dsimp only [cond]
        refine fe_s 2 (pc' := 107) (lc' := [(6, .int 84), (5, .int 1), (4, .int 87), (3, .int 84), (2, .int 15), (0, .ref 0), (1, .ref 22)]) (stk' := [.int 1]) (mem' := fm g tp bt a b) (fun _ _ _ => rfl) ?_
        refine fe_s 4 (pc' := 70) (lc' := [(6, .int (84 + 1)), (5, .int 1), (4, .int 87), (3, .int 84), (2, .int 15), (0, .ref 0), (1, .ref 22)]) (stk' := [.int (84 + 1)]) (mem' := fm g tp bt a b) (fun _ _ _ => rfl) ?_
        rw [show (84 + 1 : Int32) = 85 from rfl]
        refine fe_s 1 (pc' := 72) (lc' := [(6, .int 85), (5, .int 1), (4, .int 87), (3, .int 84), (2, .int 15), (0, .ref 0), (1, .ref 22)]) (stk' := [.int 87, .int 85]) (mem' := fm g tp bt a b) (fun _ _ _ => rfl) ?_
        refine fe_s 1 (pc' := cond (fx_cb .ge 85 87) 115 75) (lc' := [(6, .int 85), (5, .int 1), (4, .int 87), (3, .int 84), (2, .int 15), (0, .ref 0), (1, .ref 22)]) (stk' := []) (mem' := fm g tp bt a b) (fun _ _ _ => rfl) ?_
        rw [show (fx_cb .ge 85 87) = false from by decide]
        dsimp only [cond]
        refine fe_s 1 (pc' := 77) (lc' := [(6, .int 85), (5, .int 1), (4, .int 87), (3, .int 84), (2, .int 15), (0, .ref 0), (1, .ref 22)]) (stk' := [.int 1]) (mem' := fm g tp bt a b) (fun _ _ _ => rfl) ?_
        refine fe_s 1 (pc' := cond (fx_cb .eq 1 0) 115 80) (lc' := [(6, .int 85), (5, .int 1), (4, .int 87), (3, .int 84), (2, .int 15), (0, .ref 0), (1, .ref 22)]) (stk' := []) (mem' := fm g tp bt a b) (fun _ _ _ => rfl) ?_
        rw [show (fx_cb .eq 1 0) = false from by decide]
        dsimp only [cond]
        refine fe_s 2 (pc' := 83) (lc' := [(6, .int 85), (5, .int 1), (4, .int 87), (3, .int 84), (2, .int 15), (0, .ref 0), (1, .ref 22)]) (stk' := [.int 85, .ref 22]) (mem' := fm g tp bt a b) (fun _ _ _ => rfl) ?_
        refine fe_chr (i := 85) (by omega) (by rfl) (by rfl) ⟨by rfl, by rfl⟩ (by rfl) ?_
        rw [show sk_b.getD 85 0 = 110 from rfl]
        refine fe_s 4 (pc' := 93) (lc' := [(6, .int 85), (5, .int 1), (4, .int 87), (3, .int 84), (2, .int 15), (0, .ref 0), (1, .ref 22)]) (stk' := [.int 85, .int (g 13), .ref 0, .int 110]) (mem' := fm g tp bt a b) (fun _ _ _ => rfl) ?_
        try rw [h13]
        refine fe_s 3 (pc' := 96) (lc' := [(6, .int 85), (5, .int 1), (4, .int 87), (3, .int 84), (2, .int 15), (0, .ref 0), (1, .ref 22)]) (stk' := [.int (((nI F) + 85) - 84), .ref 0, .int 110]) (mem' := fm g tp bt a b) (fun _ _ _ => rfl) ?_
        rw [show (((nI F) + 85) - 84 : Int32) = nI ((F + 85) - 84) from by simp only [show (85 : Int32) = nI 85 from rfl, show (84 : Int32) = nI 84 from rfl, tg_sub2 (x := F + 85) (y := 84) (by omega), nI_add, fm_mul]]
        refine fe_ivV (fr_byteAt (S := S) (k := (F + 85) - 84) (g := g) (tp := tp) (bt := bt) (a := a) (b := b) h11 (by omega) (by omega)) (by omega) (by rfl) (by rfl) (by rfl) (by rfl) (by rfl) (by rfl) ?_
        rcases fm_byte_or a S ((F + 85) - 84) with ⟨e8, q9⟩ | ⟨q9, n7, qn7, e8⟩
        · rw [e8]
          refine fe_s 1 (pc' := cond (fx_cb .ne 110 (-1)) 106 102) (lc' := [(6, .int 85), (5, .int 1), (4, .int 87), (3, .int 84), (2, .int 15), (0, .ref 0), (1, .ref 22)]) (stk' := []) (mem' := fm g tp bt a b) (fun _ _ _ => rfl) ?_
          rw [show (fx_cb .ne 110 (-1)) = true from by decide]
          dsimp only [cond]
          refine fe_s 1 (pc' := 107) (lc' := [(6, .int 85), (5, .int 1), (4, .int 87), (3, .int 84), (2, .int 15), (0, .ref 0), (1, .ref 22)]) (stk' := [.int 0]) (mem' := fm g tp bt a b) (fun _ _ _ => rfl) ?_
          refine fe_w (lc' := [(6, .int 85), (5, .int 1), (4, .int 87), (3, .int 84), (2, .int 15), (0, .ref 0), (1, .ref 22)]) ⟨rfl, rfl, rfl, rfl, rfl, rfl, rfl, trivial⟩ (by show List.Nodup [6, 5, 4, 3, 2, 0, 1]; decide) (by show List.Nodup [6, 5, 4, 3, 2, 0, 1]; decide) ?_
          exact fail _ _
        · rw [e8]
          refine fe_s 1 (pc' := cond (fx_cb .ne 110 (nI n7)) 106 102) (lc' := [(6, .int 85), (5, .int 1), (4, .int 87), (3, .int 84), (2, .int 15), (0, .ref 0), (1, .ref 22)]) (stk' := []) (mem' := fm g tp bt a b) (fun _ _ _ => rfl) ?_
          by_cases h10 : 110 = n7
          · rw [show (fx_cb .ne 110 (nI n7)) = false from cb_neF (a := 110) (b := n7) (by omega) (by omega) (by omega)]
            dsimp only [cond]
            refine fe_s 2 (pc' := 107) (lc' := [(6, .int 85), (5, .int 1), (4, .int 87), (3, .int 84), (2, .int 15), (0, .ref 0), (1, .ref 22)]) (stk' := [.int 1]) (mem' := fm g tp bt a b) (fun _ _ _ => rfl) ?_
            refine fe_s 4 (pc' := 70) (lc' := [(6, .int (85 + 1)), (5, .int 1), (4, .int 87), (3, .int 84), (2, .int 15), (0, .ref 0), (1, .ref 22)]) (stk' := [.int (85 + 1)]) (mem' := fm g tp bt a b) (fun _ _ _ => rfl) ?_
            rw [show (85 + 1 : Int32) = 86 from rfl]
            refine fe_s 1 (pc' := 72) (lc' := [(6, .int 86), (5, .int 1), (4, .int 87), (3, .int 84), (2, .int 15), (0, .ref 0), (1, .ref 22)]) (stk' := [.int 87, .int 86]) (mem' := fm g tp bt a b) (fun _ _ _ => rfl) ?_
            refine fe_s 1 (pc' := cond (fx_cb .ge 86 87) 115 75) (lc' := [(6, .int 86), (5, .int 1), (4, .int 87), (3, .int 84), (2, .int 15), (0, .ref 0), (1, .ref 22)]) (stk' := []) (mem' := fm g tp bt a b) (fun _ _ _ => rfl) ?_
            rw [show (fx_cb .ge 86 87) = false from by decide]
            dsimp only [cond]
            refine fe_s 1 (pc' := 77) (lc' := [(6, .int 86), (5, .int 1), (4, .int 87), (3, .int 84), (2, .int 15), (0, .ref 0), (1, .ref 22)]) (stk' := [.int 1]) (mem' := fm g tp bt a b) (fun _ _ _ => rfl) ?_
            refine fe_s 1 (pc' := cond (fx_cb .eq 1 0) 115 80) (lc' := [(6, .int 86), (5, .int 1), (4, .int 87), (3, .int 84), (2, .int 15), (0, .ref 0), (1, .ref 22)]) (stk' := []) (mem' := fm g tp bt a b) (fun _ _ _ => rfl) ?_
            rw [show (fx_cb .eq 1 0) = false from by decide]
            dsimp only [cond]
            refine fe_s 2 (pc' := 83) (lc' := [(6, .int 86), (5, .int 1), (4, .int 87), (3, .int 84), (2, .int 15), (0, .ref 0), (1, .ref 22)]) (stk' := [.int 86, .ref 22]) (mem' := fm g tp bt a b) (fun _ _ _ => rfl) ?_
            refine fe_chr (i := 86) (by omega) (by rfl) (by rfl) ⟨by rfl, by rfl⟩ (by rfl) ?_
            rw [show sk_b.getD 86 0 = 121 from rfl]
            refine fe_s 4 (pc' := 93) (lc' := [(6, .int 86), (5, .int 1), (4, .int 87), (3, .int 84), (2, .int 15), (0, .ref 0), (1, .ref 22)]) (stk' := [.int 86, .int (g 13), .ref 0, .int 121]) (mem' := fm g tp bt a b) (fun _ _ _ => rfl) ?_
            try rw [h13]
            refine fe_s 3 (pc' := 96) (lc' := [(6, .int 86), (5, .int 1), (4, .int 87), (3, .int 84), (2, .int 15), (0, .ref 0), (1, .ref 22)]) (stk' := [.int (((nI F) + 86) - 84), .ref 0, .int 121]) (mem' := fm g tp bt a b) (fun _ _ _ => rfl) ?_
            rw [show (((nI F) + 86) - 84 : Int32) = nI ((F + 86) - 84) from by simp only [show (86 : Int32) = nI 86 from rfl, show (84 : Int32) = nI 84 from rfl, tg_sub2 (x := F + 86) (y := 84) (by omega), nI_add, fm_mul]]
            refine fe_ivV (fr_byteAt (S := S) (k := (F + 86) - 84) (g := g) (tp := tp) (bt := bt) (a := a) (b := b) h11 (by omega) (by omega)) (by omega) (by rfl) (by rfl) (by rfl) (by rfl) (by rfl) (by rfl) ?_
            rcases fm_byte_or a S ((F + 86) - 84) with ⟨e12, q13⟩ | ⟨q13, n11, qn11, e12⟩
            · rw [e12]
              refine fe_s 1 (pc' := cond (fx_cb .ne 121 (-1)) 106 102) (lc' := [(6, .int 86), (5, .int 1), (4, .int 87), (3, .int 84), (2, .int 15), (0, .ref 0), (1, .ref 22)]) (stk' := []) (mem' := fm g tp bt a b) (fun _ _ _ => rfl) ?_
              rw [show (fx_cb .ne 121 (-1)) = true from by decide]
              dsimp only [cond]
              refine fe_s 1 (pc' := 107) (lc' := [(6, .int 86), (5, .int 1), (4, .int 87), (3, .int 84), (2, .int 15), (0, .ref 0), (1, .ref 22)]) (stk' := [.int 0]) (mem' := fm g tp bt a b) (fun _ _ _ => rfl) ?_
              refine fe_w (lc' := [(6, .int 86), (5, .int 1), (4, .int 87), (3, .int 84), (2, .int 15), (0, .ref 0), (1, .ref 22)]) ⟨rfl, rfl, rfl, rfl, rfl, rfl, rfl, trivial⟩ (by show List.Nodup [6, 5, 4, 3, 2, 0, 1]; decide) (by show List.Nodup [6, 5, 4, 3, 2, 0, 1]; decide) ?_
              exact fail _ _
            · rw [e12]
              refine fe_s 1 (pc' := cond (fx_cb .ne 121 (nI n11)) 106 102) (lc' := [(6, .int 86), (5, .int 1), (4, .int 87), (3, .int 84), (2, .int 15), (0, .ref 0), (1, .ref 22)]) (stk' := []) (mem' := fm g tp bt a b) (fun _ _ _ => rfl) ?_
              by_cases h14 : 121 = n11
              · rw [show (fx_cb .ne 121 (nI n11)) = false from cb_neF (a := 121) (b := n11) (by omega) (by omega) (by omega)]
                dsimp only [cond]
                refine fe_s 2 (pc' := 107) (lc' := [(6, .int 86), (5, .int 1), (4, .int 87), (3, .int 84), (2, .int 15), (0, .ref 0), (1, .ref 22)]) (stk' := [.int 1]) (mem' := fm g tp bt a b) (fun _ _ _ => rfl) ?_
                refine fe_s 4 (pc' := 70) (lc' := [(6, .int (86 + 1)), (5, .int 1), (4, .int 87), (3, .int 84), (2, .int 15), (0, .ref 0), (1, .ref 22)]) (stk' := [.int (86 + 1)]) (mem' := fm g tp bt a b) (fun _ _ _ => rfl) ?_
                rw [show (86 + 1 : Int32) = 87 from rfl]
                refine fe_s 1 (pc' := 72) (lc' := [(6, .int 87), (5, .int 1), (4, .int 87), (3, .int 84), (2, .int 15), (0, .ref 0), (1, .ref 22)]) (stk' := [.int 87, .int 87]) (mem' := fm g tp bt a b) (fun _ _ _ => rfl) ?_
                refine fe_s 1 (pc' := cond (fx_cb .ge 87 87) 115 75) (lc' := [(6, .int 87), (5, .int 1), (4, .int 87), (3, .int 84), (2, .int 15), (0, .ref 0), (1, .ref 22)]) (stk' := []) (mem' := fm g tp bt a b) (fun _ _ _ => rfl) ?_
                rw [show (fx_cb .ge 87 87) = true from by decide]
                dsimp only [cond]
                refine fe_s 1 (pc' := 117) (lc' := [(6, .int 87), (5, .int 1), (4, .int 87), (3, .int 84), (2, .int 15), (0, .ref 0), (1, .ref 22)]) (stk' := [.int 1]) (mem' := fm g tp bt a b) (fun _ _ _ => rfl) ?_
                refine fe_s 1 (pc' := cond (fx_cb .eq 1 0) 122 120) (lc' := [(6, .int 87), (5, .int 1), (4, .int 87), (3, .int 84), (2, .int 15), (0, .ref 0), (1, .ref 22)]) (stk' := []) (mem' := fm g tp bt a b) (fun _ _ _ => rfl) ?_
                rw [show (fx_cb .eq 1 0) = false from by decide]
                dsimp only [cond]
                refine fe_s 1 (pc' := 121) (lc' := [(6, .int 87), (5, .int 1), (4, .int 87), (3, .int 84), (2, .int 15), (0, .ref 0), (1, .ref 22)]) (stk' := [.int 15]) (mem' := fm g tp bt a b) (fun _ _ _ => rfl) ?_
                exact fe_ret ⟨_, Or.inr ⟨15, by omega, rfl⟩, rfl⟩ (by rfl) (by rfl) (by rfl)
              · rw [show (fx_cb .ne 121 (nI n11)) = true from cb_neT (a := 121) (b := n11) (by omega) (by omega) (by omega)]
                dsimp only [cond]
                refine fe_s 1 (pc' := 107) (lc' := [(6, .int 86), (5, .int 1), (4, .int 87), (3, .int 84), (2, .int 15), (0, .ref 0), (1, .ref 22)]) (stk' := [.int 0]) (mem' := fm g tp bt a b) (fun _ _ _ => rfl) ?_
                refine fe_w (lc' := [(6, .int 86), (5, .int 1), (4, .int 87), (3, .int 84), (2, .int 15), (0, .ref 0), (1, .ref 22)]) ⟨rfl, rfl, rfl, rfl, rfl, rfl, rfl, trivial⟩ (by show List.Nodup [6, 5, 4, 3, 2, 0, 1]; decide) (by show List.Nodup [6, 5, 4, 3, 2, 0, 1]; decide) ?_
                exact fail _ _
          · rw [show (fx_cb .ne 110 (nI n7)) = true from cb_neT (a := 110) (b := n7) (by omega) (by omega) (by omega)]
            dsimp only [cond]
            refine fe_s 1 (pc' := 107) (lc' := [(6, .int 85), (5, .int 1), (4, .int 87), (3, .int 84), (2, .int 15), (0, .ref 0), (1, .ref 22)]) (stk' := [.int 0]) (mem' := fm g tp bt a b) (fun _ _ _ => rfl) ?_
            refine fe_w (lc' := [(6, .int 85), (5, .int 1), (4, .int 87), (3, .int 84), (2, .int 15), (0, .ref 0), (1, .ref 22)]) ⟨rfl, rfl, rfl, rfl, rfl, rfl, rfl, trivial⟩ (by show List.Nodup [6, 5, 4, 3, 2, 0, 1]; decide) (by show List.Nodup [6, 5, 4, 3, 2, 0, 1]; decide) ?_
            exact fail _ _
      · rw [show (fx_cb .ne 97 (nI n3)) = true from cb_neT (a := 97) (b := n3) (by omega) (by omega) (by omega)]
        dsimp only [cond]
        refine fe_s 1 (pc' := 107) (lc' := [(6, .int 84), (5, .int 1), (4, .int 87), (3, .int 84), (2, .int 15), (0, .ref 0), (1, .ref 22)]) (stk' := [.int 0]) (mem' := fm g tp bt a b) (fun _ _ _ => rfl) ?_
        refine fe_w (lc' := [(6, .int 84), (5, .int 1), (4, .int 87), (3, .int 84), (2, .int 15), (0, .ref 0), (1, .ref 22)]) ⟨rfl, rfl, rfl, rfl, rfl, rfl, rfl, trivial⟩ (by show List.Nodup [6, 5, 4, 3, 2, 0, 1]; decide) (by show List.Nodup [6, 5, 4, 3, 2, 0, 1]; decide) ?_
        exact fail _ _
  · rw [show (fx_cb .ne 3 (nI (E - F))) = true from cb_neT (a := 3) (b := E - F) (by omega) (by omega) (by omega)]
    dsimp only [cond]
    refine fe_s 4 (pc' := 68) (lc' := [(6, .int 84), (5, .int 0), (4, .int 87), (3, .int 84), (2, .int 15), (0, .ref 0), (1, .ref 22)]) (stk' := []) (mem' := fm g tp bt a b) (fun _ _ _ => rfl) ?_
    refine fe_s 2 (pc' := 72) (lc' := [(6, .int 84), (5, .int 0), (4, .int 87), (3, .int 84), (2, .int 15), (0, .ref 0), (1, .ref 22)]) (stk' := [.int 87, .int 84]) (mem' := fm g tp bt a b) (fun _ _ _ => rfl) ?_
    refine fe_s 1 (pc' := cond (fx_cb .ge 84 87) 115 75) (lc' := [(6, .int 84), (5, .int 0), (4, .int 87), (3, .int 84), (2, .int 15), (0, .ref 0), (1, .ref 22)]) (stk' := []) (mem' := fm g tp bt a b) (fun _ _ _ => rfl) ?_
    rw [show (fx_cb .ge 84 87) = false from by decide]
    dsimp only [cond]
    refine fe_s 1 (pc' := 77) (lc' := [(6, .int 84), (5, .int 0), (4, .int 87), (3, .int 84), (2, .int 15), (0, .ref 0), (1, .ref 22)]) (stk' := [.int 0]) (mem' := fm g tp bt a b) (fun _ _ _ => rfl) ?_
    refine fe_s 1 (pc' := cond (fx_cb .eq 0 0) 115 80) (lc' := [(6, .int 84), (5, .int 0), (4, .int 87), (3, .int 84), (2, .int 15), (0, .ref 0), (1, .ref 22)]) (stk' := []) (mem' := fm g tp bt a b) (fun _ _ _ => rfl) ?_
    rw [show (fx_cb .eq 0 0) = true from by decide]
    dsimp only [cond]
    refine fe_s 1 (pc' := 117) (lc' := [(6, .int 84), (5, .int 0), (4, .int 87), (3, .int 84), (2, .int 15), (0, .ref 0), (1, .ref 22)]) (stk' := [.int 0]) (mem' := fm g tp bt a b) (fun _ _ _ => rfl) ?_
    refine fe_s 1 (pc' := cond (fx_cb .eq 0 0) 122 120) (lc' := [(6, .int 84), (5, .int 0), (4, .int 87), (3, .int 84), (2, .int 15), (0, .ref 0), (1, .ref 22)]) (stk' := []) (mem' := fm g tp bt a b) (fun _ _ _ => rfl) ?_
    rw [show (fx_cb .eq 0 0) = true from by decide]
    dsimp only [cond]
    refine fe_s 4 (pc' := 129) (lc' := [(2, .int (15 + 1)), (6, .int 84), (5, .int 0), (4, .int 87), (3, .int 84), (0, .ref 0), (1, .ref 22)]) (stk' := [.int (87 + 1)]) (mem' := fm g tp bt a b) (fun _ _ _ => rfl) ?_
    rw [show (87 + 1 : Int32) = 88 from rfl]
    rw [show (15 + 1 : Int32) = 16 from rfl]
    refine fe_s 1 (pc' := 130) (lc' := [(3, .int 88), (2, .int 16), (6, .int 84), (5, .int 0), (4, .int 87), (0, .ref 0), (1, .ref 22)]) (stk' := []) (mem' := fm g tp bt a b) (fun _ _ _ => rfl) ?_
    refine fe_s 1 (pc' := fx_to 130 (-116)) (lc' := [(3, .int 88), (2, .int 16), (6, .int 84), (5, .int 0), (4, .int 87), (0, .ref 0), (1, .ref 22)]) (stk' := []) (mem' := fm g tp bt a b) (fun _ _ _ => rfl) ?_
    rw [show fx_to 130 (-116) = 14 from by decide]
    refine fe_w (lc' := [(3, .int 88), (2, .int 16), (0, .ref 0), (1, .ref 22)]) ⟨rfl, rfl, rfl, rfl, trivial⟩ (by show List.Nodup [3, 2, 0, 1]; decide) (by show List.Nodup [3, 2, 6, 5, 4, 0, 1]; decide) ?_
    exact fw_16 hxp
set_option maxHeartbeats 8000000 in
theorem fw_14 {S E F : Nat} (hxp : fm_xp g S E F) : fe_R 1 gk_m226 14 [(3, .int 79), (2, .int 14), (0, .ref 0), (1, .ref 22)] [] (fm g tp bt a b) (fm_FI (fm g tp bt a b)) := by
  obtain ⟨h11, hS9, h14, hES, h13, hFE, -, -, -⟩ := id hxp
  have fail : ∀ (x z : Int32), fe_R 1 gk_m226 107 [(6, .int x), (5, .int z), (4, .int 83), (3, .int 79), (2, .int 14), (0, .ref 0), (1, .ref 22)] [.int 0] (fm g tp bt a b) (fm_FI (fm g tp bt a b)) := by
    intro x z
    refine fe_s 4 (pc' := 70) (lc' := [(6, .int (x + 1)), (5, .int 0), (4, .int 83), (3, .int 79), (2, .int 14), (0, .ref 0), (1, .ref 22)]) (stk' := [.int (x + 1)]) (mem' := fm g tp bt a b) (fun _ _ _ => rfl) ?_
    refine fe_s 1 (pc' := 72) (lc' := [(6, .int (x + 1)), (5, .int 0), (4, .int 83), (3, .int 79), (2, .int 14), (0, .ref 0), (1, .ref 22)]) (stk' := [.int 83, .int (x + 1)]) (mem' := fm g tp bt a b) (fun _ _ _ => rfl) ?_
    refine fe_s 1 (pc' := cond (fx_cb .ge (x + 1) 83) 115 75) (lc' := [(6, .int (x + 1)), (5, .int 0), (4, .int 83), (3, .int 79), (2, .int 14), (0, .ref 0), (1, .ref 22)]) (stk' := []) (mem' := fm g tp bt a b) (fun _ _ _ => rfl) ?_
    cases h1 : fx_cb .ge (x + 1) 83
    · refine fe_s 1 (pc' := 77) (lc' := [(6, .int (x + 1)), (5, .int 0), (4, .int 83), (3, .int 79), (2, .int 14), (0, .ref 0), (1, .ref 22)]) (stk' := [.int 0]) (mem' := fm g tp bt a b) (fun _ _ _ => rfl) ?_
      refine fe_s 1 (pc' := cond (fx_cb .eq 0 0) 115 80) (lc' := [(6, .int (x + 1)), (5, .int 0), (4, .int 83), (3, .int 79), (2, .int 14), (0, .ref 0), (1, .ref 22)]) (stk' := []) (mem' := fm g tp bt a b) (fun _ _ _ => rfl) ?_
      rw [show (fx_cb .eq 0 0) = true from by decide]
      dsimp only [cond]
      refine fe_s 1 (pc' := 117) (lc' := [(6, .int (x + 1)), (5, .int 0), (4, .int 83), (3, .int 79), (2, .int 14), (0, .ref 0), (1, .ref 22)]) (stk' := [.int 0]) (mem' := fm g tp bt a b) (fun _ _ _ => rfl) ?_
      refine fe_s 1 (pc' := cond (fx_cb .eq 0 0) 122 120) (lc' := [(6, .int (x + 1)), (5, .int 0), (4, .int 83), (3, .int 79), (2, .int 14), (0, .ref 0), (1, .ref 22)]) (stk' := []) (mem' := fm g tp bt a b) (fun _ _ _ => rfl) ?_
      rw [show (fx_cb .eq 0 0) = true from by decide]
      dsimp only [cond]
      refine fe_s 4 (pc' := 129) (lc' := [(2, .int (14 + 1)), (6, .int (x + 1)), (5, .int 0), (4, .int 83), (3, .int 79), (0, .ref 0), (1, .ref 22)]) (stk' := [.int (83 + 1)]) (mem' := fm g tp bt a b) (fun _ _ _ => rfl) ?_
      rw [show (83 + 1 : Int32) = 84 from rfl]
      rw [show (14 + 1 : Int32) = 15 from rfl]
      refine fe_s 1 (pc' := 130) (lc' := [(3, .int 84), (2, .int 15), (6, .int (x + 1)), (5, .int 0), (4, .int 83), (0, .ref 0), (1, .ref 22)]) (stk' := []) (mem' := fm g tp bt a b) (fun _ _ _ => rfl) ?_
      refine fe_s 1 (pc' := fx_to 130 (-116)) (lc' := [(3, .int 84), (2, .int 15), (6, .int (x + 1)), (5, .int 0), (4, .int 83), (0, .ref 0), (1, .ref 22)]) (stk' := []) (mem' := fm g tp bt a b) (fun _ _ _ => rfl) ?_
      rw [show fx_to 130 (-116) = 14 from by decide]
      refine fe_w (lc' := [(3, .int 84), (2, .int 15), (0, .ref 0), (1, .ref 22)]) ⟨rfl, rfl, rfl, rfl, trivial⟩ (by show List.Nodup [3, 2, 0, 1]; decide) (by show List.Nodup [3, 2, 6, 5, 4, 0, 1]; decide) ?_
      exact fw_15 hxp
    · refine fe_s 1 (pc' := 117) (lc' := [(6, .int (x + 1)), (5, .int 0), (4, .int 83), (3, .int 79), (2, .int 14), (0, .ref 0), (1, .ref 22)]) (stk' := [.int 0]) (mem' := fm g tp bt a b) (fun _ _ _ => rfl) ?_
      refine fe_s 1 (pc' := cond (fx_cb .eq 0 0) 122 120) (lc' := [(6, .int (x + 1)), (5, .int 0), (4, .int 83), (3, .int 79), (2, .int 14), (0, .ref 0), (1, .ref 22)]) (stk' := []) (mem' := fm g tp bt a b) (fun _ _ _ => rfl) ?_
      rw [show (fx_cb .eq 0 0) = true from by decide]
      dsimp only [cond]
      refine fe_s 4 (pc' := 129) (lc' := [(2, .int (14 + 1)), (6, .int (x + 1)), (5, .int 0), (4, .int 83), (3, .int 79), (0, .ref 0), (1, .ref 22)]) (stk' := [.int (83 + 1)]) (mem' := fm g tp bt a b) (fun _ _ _ => rfl) ?_
      rw [show (83 + 1 : Int32) = 84 from rfl]
      rw [show (14 + 1 : Int32) = 15 from rfl]
      refine fe_s 1 (pc' := 130) (lc' := [(3, .int 84), (2, .int 15), (6, .int (x + 1)), (5, .int 0), (4, .int 83), (0, .ref 0), (1, .ref 22)]) (stk' := []) (mem' := fm g tp bt a b) (fun _ _ _ => rfl) ?_
      refine fe_s 1 (pc' := fx_to 130 (-116)) (lc' := [(3, .int 84), (2, .int 15), (6, .int (x + 1)), (5, .int 0), (4, .int 83), (0, .ref 0), (1, .ref 22)]) (stk' := []) (mem' := fm g tp bt a b) (fun _ _ _ => rfl) ?_
      rw [show fx_to 130 (-116) = 14 from by decide]
      refine fe_w (lc' := [(3, .int 84), (2, .int 15), (0, .ref 0), (1, .ref 22)]) ⟨rfl, rfl, rfl, rfl, trivial⟩ (by show List.Nodup [3, 2, 0, 1]; decide) (by show List.Nodup [3, 2, 6, 5, 4, 0, 1]; decide) ?_
      exact fw_15 hxp
  refine fe_s 2 (pc' := 16) (lc' := [(3, .int 79), (2, .int 14), (0, .ref 0), (1, .ref 22)]) (stk' := [.ref 22, .int 79]) (mem' := fm g tp bt a b) (fun _ _ _ => rfl) ?_
  refine fe_s 1 (pc' := 19) (lc' := [(3, .int 79), (2, .int 14), (0, .ref 0), (1, .ref 22)]) (stk' := [.int 117, .int 79]) (mem' := fm g tp bt a b) (fun _ _ _ => rfl) ?_
  refine fe_s 1 (pc' := cond (fx_cb .ge 79 117) 133 22) (lc' := [(3, .int 79), (2, .int 14), (0, .ref 0), (1, .ref 22)]) (stk' := []) (mem' := fm g tp bt a b) (fun _ _ _ => rfl) ?_
  rw [show (fx_cb .ge 79 117) = false from by decide]
  dsimp only [cond]
  refine fe_s 4 (pc' := 28) (lc' := [(4, .int 79), (3, .int 79), (2, .int 14), (0, .ref 0), (1, .ref 22)]) (stk' := [.int 79, .ref 22]) (mem' := fm g tp bt a b) (fun _ _ _ => rfl) ?_
  refine fe_chr (i := 79) (by omega) (by rfl) (by rfl) ⟨by rfl, by rfl⟩ (by rfl) ?_
  rw [show sk_b.getD 79 0 = 116 from rfl]
  refine fe_s 1 (pc' := 33) (lc' := [(4, .int 79), (3, .int 79), (2, .int 14), (0, .ref 0), (1, .ref 22)]) (stk' := [.int 32, .int 116]) (mem' := fm g tp bt a b) (fun _ _ _ => rfl) ?_
  refine fe_s 1 (pc' := cond (fx_cb .eq 116 32) 42 36) (lc' := [(4, .int 79), (3, .int 79), (2, .int 14), (0, .ref 0), (1, .ref 22)]) (stk' := []) (mem' := fm g tp bt a b) (fun _ _ _ => rfl) ?_
  rw [show (fx_cb .eq 116 32) = false from by decide]
  dsimp only [cond]
  refine fe_s 4 (pc' := 28) (lc' := [(4, .int (79 + 1)), (3, .int 79), (2, .int 14), (0, .ref 0), (1, .ref 22)]) (stk' := [.int (79 + 1), .ref 22]) (mem' := fm g tp bt a b) (fun _ _ _ => rfl) ?_
  rw [show (79 + 1 : Int32) = 80 from rfl]
  refine fe_chr (i := 80) (by omega) (by rfl) (by rfl) ⟨by rfl, by rfl⟩ (by rfl) ?_
  rw [show sk_b.getD 80 0 = 104 from rfl]
  refine fe_s 1 (pc' := 33) (lc' := [(4, .int 80), (3, .int 79), (2, .int 14), (0, .ref 0), (1, .ref 22)]) (stk' := [.int 32, .int 104]) (mem' := fm g tp bt a b) (fun _ _ _ => rfl) ?_
  refine fe_s 1 (pc' := cond (fx_cb .eq 104 32) 42 36) (lc' := [(4, .int 80), (3, .int 79), (2, .int 14), (0, .ref 0), (1, .ref 22)]) (stk' := []) (mem' := fm g tp bt a b) (fun _ _ _ => rfl) ?_
  rw [show (fx_cb .eq 104 32) = false from by decide]
  dsimp only [cond]
  refine fe_s 4 (pc' := 28) (lc' := [(4, .int (80 + 1)), (3, .int 79), (2, .int 14), (0, .ref 0), (1, .ref 22)]) (stk' := [.int (80 + 1), .ref 22]) (mem' := fm g tp bt a b) (fun _ _ _ => rfl) ?_
  rw [show (80 + 1 : Int32) = 81 from rfl]
  refine fe_chr (i := 81) (by omega) (by rfl) (by rfl) ⟨by rfl, by rfl⟩ (by rfl) ?_
  rw [show sk_b.getD 81 0 = 97 from rfl]
  refine fe_s 1 (pc' := 33) (lc' := [(4, .int 81), (3, .int 79), (2, .int 14), (0, .ref 0), (1, .ref 22)]) (stk' := [.int 32, .int 97]) (mem' := fm g tp bt a b) (fun _ _ _ => rfl) ?_
  refine fe_s 1 (pc' := cond (fx_cb .eq 97 32) 42 36) (lc' := [(4, .int 81), (3, .int 79), (2, .int 14), (0, .ref 0), (1, .ref 22)]) (stk' := []) (mem' := fm g tp bt a b) (fun _ _ _ => rfl) ?_
  rw [show (fx_cb .eq 97 32) = false from by decide]
  dsimp only [cond]
  refine fe_s 4 (pc' := 28) (lc' := [(4, .int (81 + 1)), (3, .int 79), (2, .int 14), (0, .ref 0), (1, .ref 22)]) (stk' := [.int (81 + 1), .ref 22]) (mem' := fm g tp bt a b) (fun _ _ _ => rfl) ?_
  rw [show (81 + 1 : Int32) = 82 from rfl]
  refine fe_chr (i := 82) (by omega) (by rfl) (by rfl) ⟨by rfl, by rfl⟩ (by rfl) ?_
  rw [show sk_b.getD 82 0 = 119 from rfl]
  refine fe_s 1 (pc' := 33) (lc' := [(4, .int 82), (3, .int 79), (2, .int 14), (0, .ref 0), (1, .ref 22)]) (stk' := [.int 32, .int 119]) (mem' := fm g tp bt a b) (fun _ _ _ => rfl) ?_
  refine fe_s 1 (pc' := cond (fx_cb .eq 119 32) 42 36) (lc' := [(4, .int 82), (3, .int 79), (2, .int 14), (0, .ref 0), (1, .ref 22)]) (stk' := []) (mem' := fm g tp bt a b) (fun _ _ _ => rfl) ?_
  rw [show (fx_cb .eq 119 32) = false from by decide]
  dsimp only [cond]
  refine fe_s 4 (pc' := 28) (lc' := [(4, .int (82 + 1)), (3, .int 79), (2, .int 14), (0, .ref 0), (1, .ref 22)]) (stk' := [.int (82 + 1), .ref 22]) (mem' := fm g tp bt a b) (fun _ _ _ => rfl) ?_
  rw [show (82 + 1 : Int32) = 83 from rfl]
  refine fe_chr (i := 83) (by omega) (by rfl) (by rfl) ⟨by rfl, by rfl⟩ (by rfl) ?_
  rw [show sk_b.getD 83 0 = 32 from rfl]
  refine fe_s 1 (pc' := 33) (lc' := [(4, .int 83), (3, .int 79), (2, .int 14), (0, .ref 0), (1, .ref 22)]) (stk' := [.int 32, .int 32]) (mem' := fm g tp bt a b) (fun _ _ _ => rfl) ?_
  refine fe_s 1 (pc' := cond (fx_cb .eq 32 32) 42 36) (lc' := [(4, .int 83), (3, .int 79), (2, .int 14), (0, .ref 0), (1, .ref 22)]) (stk' := []) (mem' := fm g tp bt a b) (fun _ _ _ => rfl) ?_
  rw [show (fx_cb .eq 32 32) = true from by decide]
  dsimp only [cond]
  refine fe_s 4 (pc' := 47) (lc' := [(4, .int 83), (3, .int 79), (2, .int 14), (0, .ref 0), (1, .ref 22)]) (stk' := [.ref 0, .int (83 - 79)]) (mem' := fm g tp bt a b) (fun _ _ _ => rfl) ?_
  rw [show (83 - 79 : Int32) = 4 from rfl]
  refine fe_s 4 (pc' := 55) (lc' := [(4, .int 83), (3, .int 79), (2, .int 14), (0, .ref 0), (1, .ref 22)]) (stk' := [.int ((g 14) - (g 13)), .int 4]) (mem' := fm g tp bt a b) (fun _ _ _ => rfl) ?_
  try rw [h14]
  try rw [h13]
  rw [show ((nI E) - (nI F) : Int32) = nI (E - F) from by simp only [tg_sub2 (x := E) (y := F) (by omega), nI_add, fm_mul]]
  refine fe_s 1 (pc' := cond (fx_cb .ne 4 (nI (E - F))) 62 58) (lc' := [(4, .int 83), (3, .int 79), (2, .int 14), (0, .ref 0), (1, .ref 22)]) (stk' := []) (mem' := fm g tp bt a b) (fun _ _ _ => rfl) ?_
  by_cases h2 : 4 = (E - F)
  · rw [show (fx_cb .ne 4 (nI (E - F))) = false from cb_neF (a := 4) (b := E - F) (by omega) (by omega) (by omega)]
    dsimp only [cond]
    refine fe_s 4 (pc' := 66) (lc' := [(5, .int 1), (4, .int 83), (3, .int 79), (2, .int 14), (0, .ref 0), (1, .ref 22)]) (stk' := [.int 79]) (mem' := fm g tp bt a b) (fun _ _ _ => rfl) ?_
    refine fe_s 3 (pc' := 72) (lc' := [(6, .int 79), (5, .int 1), (4, .int 83), (3, .int 79), (2, .int 14), (0, .ref 0), (1, .ref 22)]) (stk' := [.int 83, .int 79]) (mem' := fm g tp bt a b) (fun _ _ _ => rfl) ?_
    refine fe_s 1 (pc' := cond (fx_cb .ge 79 83) 115 75) (lc' := [(6, .int 79), (5, .int 1), (4, .int 83), (3, .int 79), (2, .int 14), (0, .ref 0), (1, .ref 22)]) (stk' := []) (mem' := fm g tp bt a b) (fun _ _ _ => rfl) ?_
    rw [show (fx_cb .ge 79 83) = false from by decide]
    dsimp only [cond]
    refine fe_s 1 (pc' := 77) (lc' := [(6, .int 79), (5, .int 1), (4, .int 83), (3, .int 79), (2, .int 14), (0, .ref 0), (1, .ref 22)]) (stk' := [.int 1]) (mem' := fm g tp bt a b) (fun _ _ _ => rfl) ?_
    refine fe_s 1 (pc' := cond (fx_cb .eq 1 0) 115 80) (lc' := [(6, .int 79), (5, .int 1), (4, .int 83), (3, .int 79), (2, .int 14), (0, .ref 0), (1, .ref 22)]) (stk' := []) (mem' := fm g tp bt a b) (fun _ _ _ => rfl) ?_
    rw [show (fx_cb .eq 1 0) = false from by decide]
    dsimp only [cond]
    refine fe_s 2 (pc' := 83) (lc' := [(6, .int 79), (5, .int 1), (4, .int 83), (3, .int 79), (2, .int 14), (0, .ref 0), (1, .ref 22)]) (stk' := [.int 79, .ref 22]) (mem' := fm g tp bt a b) (fun _ _ _ => rfl) ?_
    refine fe_chr (i := 79) (by omega) (by rfl) (by rfl) ⟨by rfl, by rfl⟩ (by rfl) ?_
    rw [show sk_b.getD 79 0 = 116 from rfl]
    refine fe_s 4 (pc' := 93) (lc' := [(6, .int 79), (5, .int 1), (4, .int 83), (3, .int 79), (2, .int 14), (0, .ref 0), (1, .ref 22)]) (stk' := [.int 79, .int (g 13), .ref 0, .int 116]) (mem' := fm g tp bt a b) (fun _ _ _ => rfl) ?_
    try rw [h13]
    refine fe_s 3 (pc' := 96) (lc' := [(6, .int 79), (5, .int 1), (4, .int 83), (3, .int 79), (2, .int 14), (0, .ref 0), (1, .ref 22)]) (stk' := [.int (((nI F) + 79) - 79), .ref 0, .int 116]) (mem' := fm g tp bt a b) (fun _ _ _ => rfl) ?_
    rw [show (((nI F) + 79) - 79 : Int32) = nI ((F + 79) - 79) from by simp only [show (79 : Int32) = nI 79 from rfl, tg_sub2 (x := F + 79) (y := 79) (by omega), nI_add, fm_mul]]
    refine fe_ivV (fr_byteAt (S := S) (k := (F + 79) - 79) (g := g) (tp := tp) (bt := bt) (a := a) (b := b) h11 (by omega) (by omega)) (by omega) (by rfl) (by rfl) (by rfl) (by rfl) (by rfl) (by rfl) ?_
    rcases fm_byte_or a S ((F + 79) - 79) with ⟨e4, q5⟩ | ⟨q5, n3, qn3, e4⟩
    · rw [e4]
      refine fe_s 1 (pc' := cond (fx_cb .ne 116 (-1)) 106 102) (lc' := [(6, .int 79), (5, .int 1), (4, .int 83), (3, .int 79), (2, .int 14), (0, .ref 0), (1, .ref 22)]) (stk' := []) (mem' := fm g tp bt a b) (fun _ _ _ => rfl) ?_
      rw [show (fx_cb .ne 116 (-1)) = true from by decide]
      dsimp only [cond]
      refine fe_s 1 (pc' := 107) (lc' := [(6, .int 79), (5, .int 1), (4, .int 83), (3, .int 79), (2, .int 14), (0, .ref 0), (1, .ref 22)]) (stk' := [.int 0]) (mem' := fm g tp bt a b) (fun _ _ _ => rfl) ?_
      refine fe_w (lc' := [(6, .int 79), (5, .int 1), (4, .int 83), (3, .int 79), (2, .int 14), (0, .ref 0), (1, .ref 22)]) ⟨rfl, rfl, rfl, rfl, rfl, rfl, rfl, trivial⟩ (by show List.Nodup [6, 5, 4, 3, 2, 0, 1]; decide) (by show List.Nodup [6, 5, 4, 3, 2, 0, 1]; decide) ?_
      exact fail _ _
    · rw [e4]
      refine fe_s 1 (pc' := cond (fx_cb .ne 116 (nI n3)) 106 102) (lc' := [(6, .int 79), (5, .int 1), (4, .int 83), (3, .int 79), (2, .int 14), (0, .ref 0), (1, .ref 22)]) (stk' := []) (mem' := fm g tp bt a b) (fun _ _ _ => rfl) ?_
      by_cases h6 : 116 = n3
      · rw [show (fx_cb .ne 116 (nI n3)) = false from cb_neF (a := 116) (b := n3) (by omega) (by omega) (by omega)]
        dsimp only [cond]
        refine fe_s 2 (pc' := 107) (lc' := [(6, .int 79), (5, .int 1), (4, .int 83), (3, .int 79), (2, .int 14), (0, .ref 0), (1, .ref 22)]) (stk' := [.int 1]) (mem' := fm g tp bt a b) (fun _ _ _ => rfl) ?_
        refine fe_s 4 (pc' := 70) (lc' := [(6, .int (79 + 1)), (5, .int 1), (4, .int 83), (3, .int 79), (2, .int 14), (0, .ref 0), (1, .ref 22)]) (stk' := [.int (79 + 1)]) (mem' := fm g tp bt a b) (fun _ _ _ => rfl) ?_
        rw [show (79 + 1 : Int32) = 80 from rfl]
        refine fe_s 1 (pc' := 72) (lc' := [(6, .int 80), (5, .int 1), (4, .int 83), (3, .int 79), (2, .int 14), (0, .ref 0), (1, .ref 22)]) (stk' := [.int 83, .int 80]) (mem' := fm g tp bt a b) (fun _ _ _ => rfl) ?_
        refine fe_s 1 (pc' := cond (fx_cb .ge 80 83) 115 75) (lc' := [(6, .int 80), (5, .int 1), (4, .int 83), (3, .int 79), (2, .int 14), (0, .ref 0), (1, .ref 22)]) (stk' := []) (mem' := fm g tp bt a b) (fun _ _ _ => rfl) ?_
        rw [show (fx_cb .ge 80 83) = false from by decide]
        dsimp only [cond]
        refine fe_s 1 (pc' := 77) (lc' := [(6, .int 80), (5, .int 1), (4, .int 83), (3, .int 79), (2, .int 14), (0, .ref 0), (1, .ref 22)]) (stk' := [.int 1]) (mem' := fm g tp bt a b) (fun _ _ _ => rfl) ?_
        refine fe_s 1 (pc' := cond (fx_cb .eq 1 0) 115 80) (lc' := [(6, .int 80), (5, .int 1), (4, .int 83), (3, .int 79), (2, .int 14), (0, .ref 0), (1, .ref 22)]) (stk' := []) (mem' := fm g tp bt a b) (fun _ _ _ => rfl) ?_
        rw [show (fx_cb .eq 1 0) = false from by decide]
        dsimp only [cond]
        refine fe_s 2 (pc' := 83) (lc' := [(6, .int 80), (5, .int 1), (4, .int 83), (3, .int 79), (2, .int 14), (0, .ref 0), (1, .ref 22)]) (stk' := [.int 80, .ref 22]) (mem' := fm g tp bt a b) (fun _ _ _ => rfl) ?_
        refine fe_chr (i := 80) (by omega) (by rfl) (by rfl) ⟨by rfl, by rfl⟩ (by rfl) ?_
        rw [show sk_b.getD 80 0 = 104 from rfl]
        refine fe_s 4 (pc' := 93) (lc' := [(6, .int 80), (5, .int 1), (4, .int 83), (3, .int 79), (2, .int 14), (0, .ref 0), (1, .ref 22)]) (stk' := [.int 80, .int (g 13), .ref 0, .int 104]) (mem' := fm g tp bt a b) (fun _ _ _ => rfl) ?_
        try rw [h13]
        refine fe_s 3 (pc' := 96) (lc' := [(6, .int 80), (5, .int 1), (4, .int 83), (3, .int 79), (2, .int 14), (0, .ref 0), (1, .ref 22)]) (stk' := [.int (((nI F) + 80) - 79), .ref 0, .int 104]) (mem' := fm g tp bt a b) (fun _ _ _ => rfl) ?_
        rw [show (((nI F) + 80) - 79 : Int32) = nI ((F + 80) - 79) from by simp only [show (80 : Int32) = nI 80 from rfl, show (79 : Int32) = nI 79 from rfl, tg_sub2 (x := F + 80) (y := 79) (by omega), nI_add, fm_mul]]
        refine fe_ivV (fr_byteAt (S := S) (k := (F + 80) - 79) (g := g) (tp := tp) (bt := bt) (a := a) (b := b) h11 (by omega) (by omega)) (by omega) (by rfl) (by rfl) (by rfl) (by rfl) (by rfl) (by rfl) ?_
        rcases fm_byte_or a S ((F + 80) - 79) with ⟨e8, q9⟩ | ⟨q9, n7, qn7, e8⟩
        · rw [e8]
          refine fe_s 1 (pc' := cond (fx_cb .ne 104 (-1)) 106 102) (lc' := [(6, .int 80), (5, .int 1), (4, .int 83), (3, .int 79), (2, .int 14), (0, .ref 0), (1, .ref 22)]) (stk' := []) (mem' := fm g tp bt a b) (fun _ _ _ => rfl) ?_
          rw [show (fx_cb .ne 104 (-1)) = true from by decide]
          dsimp only [cond]
          refine fe_s 1 (pc' := 107) (lc' := [(6, .int 80), (5, .int 1), (4, .int 83), (3, .int 79), (2, .int 14), (0, .ref 0), (1, .ref 22)]) (stk' := [.int 0]) (mem' := fm g tp bt a b) (fun _ _ _ => rfl) ?_
          refine fe_w (lc' := [(6, .int 80), (5, .int 1), (4, .int 83), (3, .int 79), (2, .int 14), (0, .ref 0), (1, .ref 22)]) ⟨rfl, rfl, rfl, rfl, rfl, rfl, rfl, trivial⟩ (by show List.Nodup [6, 5, 4, 3, 2, 0, 1]; decide) (by show List.Nodup [6, 5, 4, 3, 2, 0, 1]; decide) ?_
          exact fail _ _
        · rw [e8]
          refine fe_s 1 (pc' := cond (fx_cb .ne 104 (nI n7)) 106 102) (lc' := [(6, .int 80), (5, .int 1), (4, .int 83), (3, .int 79), (2, .int 14), (0, .ref 0), (1, .ref 22)]) (stk' := []) (mem' := fm g tp bt a b) (fun _ _ _ => rfl) ?_
          by_cases h10 : 104 = n7
          · rw [show (fx_cb .ne 104 (nI n7)) = false from cb_neF (a := 104) (b := n7) (by omega) (by omega) (by omega)]
            dsimp only [cond]
            refine fe_s 2 (pc' := 107) (lc' := [(6, .int 80), (5, .int 1), (4, .int 83), (3, .int 79), (2, .int 14), (0, .ref 0), (1, .ref 22)]) (stk' := [.int 1]) (mem' := fm g tp bt a b) (fun _ _ _ => rfl) ?_
            refine fe_s 4 (pc' := 70) (lc' := [(6, .int (80 + 1)), (5, .int 1), (4, .int 83), (3, .int 79), (2, .int 14), (0, .ref 0), (1, .ref 22)]) (stk' := [.int (80 + 1)]) (mem' := fm g tp bt a b) (fun _ _ _ => rfl) ?_
            rw [show (80 + 1 : Int32) = 81 from rfl]
            refine fe_s 1 (pc' := 72) (lc' := [(6, .int 81), (5, .int 1), (4, .int 83), (3, .int 79), (2, .int 14), (0, .ref 0), (1, .ref 22)]) (stk' := [.int 83, .int 81]) (mem' := fm g tp bt a b) (fun _ _ _ => rfl) ?_
            refine fe_s 1 (pc' := cond (fx_cb .ge 81 83) 115 75) (lc' := [(6, .int 81), (5, .int 1), (4, .int 83), (3, .int 79), (2, .int 14), (0, .ref 0), (1, .ref 22)]) (stk' := []) (mem' := fm g tp bt a b) (fun _ _ _ => rfl) ?_
            rw [show (fx_cb .ge 81 83) = false from by decide]
            dsimp only [cond]
            refine fe_s 1 (pc' := 77) (lc' := [(6, .int 81), (5, .int 1), (4, .int 83), (3, .int 79), (2, .int 14), (0, .ref 0), (1, .ref 22)]) (stk' := [.int 1]) (mem' := fm g tp bt a b) (fun _ _ _ => rfl) ?_
            refine fe_s 1 (pc' := cond (fx_cb .eq 1 0) 115 80) (lc' := [(6, .int 81), (5, .int 1), (4, .int 83), (3, .int 79), (2, .int 14), (0, .ref 0), (1, .ref 22)]) (stk' := []) (mem' := fm g tp bt a b) (fun _ _ _ => rfl) ?_
            rw [show (fx_cb .eq 1 0) = false from by decide]
            dsimp only [cond]
            refine fe_s 2 (pc' := 83) (lc' := [(6, .int 81), (5, .int 1), (4, .int 83), (3, .int 79), (2, .int 14), (0, .ref 0), (1, .ref 22)]) (stk' := [.int 81, .ref 22]) (mem' := fm g tp bt a b) (fun _ _ _ => rfl) ?_
            refine fe_chr (i := 81) (by omega) (by rfl) (by rfl) ⟨by rfl, by rfl⟩ (by rfl) ?_
            rw [show sk_b.getD 81 0 = 97 from rfl]
            refine fe_s 4 (pc' := 93) (lc' := [(6, .int 81), (5, .int 1), (4, .int 83), (3, .int 79), (2, .int 14), (0, .ref 0), (1, .ref 22)]) (stk' := [.int 81, .int (g 13), .ref 0, .int 97]) (mem' := fm g tp bt a b) (fun _ _ _ => rfl) ?_
            try rw [h13]
            refine fe_s 3 (pc' := 96) (lc' := [(6, .int 81), (5, .int 1), (4, .int 83), (3, .int 79), (2, .int 14), (0, .ref 0), (1, .ref 22)]) (stk' := [.int (((nI F) + 81) - 79), .ref 0, .int 97]) (mem' := fm g tp bt a b) (fun _ _ _ => rfl) ?_
            rw [show (((nI F) + 81) - 79 : Int32) = nI ((F + 81) - 79) from by simp only [show (81 : Int32) = nI 81 from rfl, show (79 : Int32) = nI 79 from rfl, tg_sub2 (x := F + 81) (y := 79) (by omega), nI_add, fm_mul]]
            refine fe_ivV (fr_byteAt (S := S) (k := (F + 81) - 79) (g := g) (tp := tp) (bt := bt) (a := a) (b := b) h11 (by omega) (by omega)) (by omega) (by rfl) (by rfl) (by rfl) (by rfl) (by rfl) (by rfl) ?_
            rcases fm_byte_or a S ((F + 81) - 79) with ⟨e12, q13⟩ | ⟨q13, n11, qn11, e12⟩
            · rw [e12]
              refine fe_s 1 (pc' := cond (fx_cb .ne 97 (-1)) 106 102) (lc' := [(6, .int 81), (5, .int 1), (4, .int 83), (3, .int 79), (2, .int 14), (0, .ref 0), (1, .ref 22)]) (stk' := []) (mem' := fm g tp bt a b) (fun _ _ _ => rfl) ?_
              rw [show (fx_cb .ne 97 (-1)) = true from by decide]
              dsimp only [cond]
              refine fe_s 1 (pc' := 107) (lc' := [(6, .int 81), (5, .int 1), (4, .int 83), (3, .int 79), (2, .int 14), (0, .ref 0), (1, .ref 22)]) (stk' := [.int 0]) (mem' := fm g tp bt a b) (fun _ _ _ => rfl) ?_
              refine fe_w (lc' := [(6, .int 81), (5, .int 1), (4, .int 83), (3, .int 79), (2, .int 14), (0, .ref 0), (1, .ref 22)]) ⟨rfl, rfl, rfl, rfl, rfl, rfl, rfl, trivial⟩ (by show List.Nodup [6, 5, 4, 3, 2, 0, 1]; decide) (by show List.Nodup [6, 5, 4, 3, 2, 0, 1]; decide) ?_
              exact fail _ _
            · rw [e12]
              refine fe_s 1 (pc' := cond (fx_cb .ne 97 (nI n11)) 106 102) (lc' := [(6, .int 81), (5, .int 1), (4, .int 83), (3, .int 79), (2, .int 14), (0, .ref 0), (1, .ref 22)]) (stk' := []) (mem' := fm g tp bt a b) (fun _ _ _ => rfl) ?_
              by_cases h14 : 97 = n11
              · rw [show (fx_cb .ne 97 (nI n11)) = false from cb_neF (a := 97) (b := n11) (by omega) (by omega) (by omega)]
                dsimp only [cond]
                refine fe_s 2 (pc' := 107) (lc' := [(6, .int 81), (5, .int 1), (4, .int 83), (3, .int 79), (2, .int 14), (0, .ref 0), (1, .ref 22)]) (stk' := [.int 1]) (mem' := fm g tp bt a b) (fun _ _ _ => rfl) ?_
                refine fe_s 4 (pc' := 70) (lc' := [(6, .int (81 + 1)), (5, .int 1), (4, .int 83), (3, .int 79), (2, .int 14), (0, .ref 0), (1, .ref 22)]) (stk' := [.int (81 + 1)]) (mem' := fm g tp bt a b) (fun _ _ _ => rfl) ?_
                rw [show (81 + 1 : Int32) = 82 from rfl]
                refine fe_s 1 (pc' := 72) (lc' := [(6, .int 82), (5, .int 1), (4, .int 83), (3, .int 79), (2, .int 14), (0, .ref 0), (1, .ref 22)]) (stk' := [.int 83, .int 82]) (mem' := fm g tp bt a b) (fun _ _ _ => rfl) ?_
                refine fe_s 1 (pc' := cond (fx_cb .ge 82 83) 115 75) (lc' := [(6, .int 82), (5, .int 1), (4, .int 83), (3, .int 79), (2, .int 14), (0, .ref 0), (1, .ref 22)]) (stk' := []) (mem' := fm g tp bt a b) (fun _ _ _ => rfl) ?_
                rw [show (fx_cb .ge 82 83) = false from by decide]
                dsimp only [cond]
                refine fe_s 1 (pc' := 77) (lc' := [(6, .int 82), (5, .int 1), (4, .int 83), (3, .int 79), (2, .int 14), (0, .ref 0), (1, .ref 22)]) (stk' := [.int 1]) (mem' := fm g tp bt a b) (fun _ _ _ => rfl) ?_
                refine fe_s 1 (pc' := cond (fx_cb .eq 1 0) 115 80) (lc' := [(6, .int 82), (5, .int 1), (4, .int 83), (3, .int 79), (2, .int 14), (0, .ref 0), (1, .ref 22)]) (stk' := []) (mem' := fm g tp bt a b) (fun _ _ _ => rfl) ?_
                rw [show (fx_cb .eq 1 0) = false from by decide]
                dsimp only [cond]
                refine fe_s 2 (pc' := 83) (lc' := [(6, .int 82), (5, .int 1), (4, .int 83), (3, .int 79), (2, .int 14), (0, .ref 0), (1, .ref 22)]) (stk' := [.int 82, .ref 22]) (mem' := fm g tp bt a b) (fun _ _ _ => rfl) ?_
                refine fe_chr (i := 82) (by omega) (by rfl) (by rfl) ⟨by rfl, by rfl⟩ (by rfl) ?_
                rw [show sk_b.getD 82 0 = 119 from rfl]
                refine fe_s 4 (pc' := 93) (lc' := [(6, .int 82), (5, .int 1), (4, .int 83), (3, .int 79), (2, .int 14), (0, .ref 0), (1, .ref 22)]) (stk' := [.int 82, .int (g 13), .ref 0, .int 119]) (mem' := fm g tp bt a b) (fun _ _ _ => rfl) ?_
                try rw [h13]
                refine fe_s 3 (pc' := 96) (lc' := [(6, .int 82), (5, .int 1), (4, .int 83), (3, .int 79), (2, .int 14), (0, .ref 0), (1, .ref 22)]) (stk' := [.int (((nI F) + 82) - 79), .ref 0, .int 119]) (mem' := fm g tp bt a b) (fun _ _ _ => rfl) ?_
                rw [show (((nI F) + 82) - 79 : Int32) = nI ((F + 82) - 79) from by simp only [show (82 : Int32) = nI 82 from rfl, show (79 : Int32) = nI 79 from rfl, tg_sub2 (x := F + 82) (y := 79) (by omega), nI_add, fm_mul]]
                refine fe_ivV (fr_byteAt (S := S) (k := (F + 82) - 79) (g := g) (tp := tp) (bt := bt) (a := a) (b := b) h11 (by omega) (by omega)) (by omega) (by rfl) (by rfl) (by rfl) (by rfl) (by rfl) (by rfl) ?_
                rcases fm_byte_or a S ((F + 82) - 79) with ⟨e16, q17⟩ | ⟨q17, n15, qn15, e16⟩
                · rw [e16]
                  refine fe_s 1 (pc' := cond (fx_cb .ne 119 (-1)) 106 102) (lc' := [(6, .int 82), (5, .int 1), (4, .int 83), (3, .int 79), (2, .int 14), (0, .ref 0), (1, .ref 22)]) (stk' := []) (mem' := fm g tp bt a b) (fun _ _ _ => rfl) ?_
                  rw [show (fx_cb .ne 119 (-1)) = true from by decide]
                  dsimp only [cond]
                  refine fe_s 1 (pc' := 107) (lc' := [(6, .int 82), (5, .int 1), (4, .int 83), (3, .int 79), (2, .int 14), (0, .ref 0), (1, .ref 22)]) (stk' := [.int 0]) (mem' := fm g tp bt a b) (fun _ _ _ => rfl) ?_
                  refine fe_w (lc' := [(6, .int 82), (5, .int 1), (4, .int 83), (3, .int 79), (2, .int 14), (0, .ref 0), (1, .ref 22)]) ⟨rfl, rfl, rfl, rfl, rfl, rfl, rfl, trivial⟩ (by show List.Nodup [6, 5, 4, 3, 2, 0, 1]; decide) (by show List.Nodup [6, 5, 4, 3, 2, 0, 1]; decide) ?_
                  exact fail _ _
                · rw [e16]
                  refine fe_s 1 (pc' := cond (fx_cb .ne 119 (nI n15)) 106 102) (lc' := [(6, .int 82), (5, .int 1), (4, .int 83), (3, .int 79), (2, .int 14), (0, .ref 0), (1, .ref 22)]) (stk' := []) (mem' := fm g tp bt a b) (fun _ _ _ => rfl) ?_
                  by_cases h18 : 119 = n15
                  · rw [show (fx_cb .ne 119 (nI n15)) = false from cb_neF (a := 119) (b := n15) (by omega) (by omega) (by omega)]
                    dsimp only [cond]
                    refine fe_s 2 (pc' := 107) (lc' := [(6, .int 82), (5, .int 1), (4, .int 83), (3, .int 79), (2, .int 14), (0, .ref 0), (1, .ref 22)]) (stk' := [.int 1]) (mem' := fm g tp bt a b) (fun _ _ _ => rfl) ?_
                    refine fe_s 4 (pc' := 70) (lc' := [(6, .int (82 + 1)), (5, .int 1), (4, .int 83), (3, .int 79), (2, .int 14), (0, .ref 0), (1, .ref 22)]) (stk' := [.int (82 + 1)]) (mem' := fm g tp bt a b) (fun _ _ _ => rfl) ?_
                    rw [show (82 + 1 : Int32) = 83 from rfl]
                    refine fe_s 1 (pc' := 72) (lc' := [(6, .int 83), (5, .int 1), (4, .int 83), (3, .int 79), (2, .int 14), (0, .ref 0), (1, .ref 22)]) (stk' := [.int 83, .int 83]) (mem' := fm g tp bt a b) (fun _ _ _ => rfl) ?_
                    refine fe_s 1 (pc' := cond (fx_cb .ge 83 83) 115 75) (lc' := [(6, .int 83), (5, .int 1), (4, .int 83), (3, .int 79), (2, .int 14), (0, .ref 0), (1, .ref 22)]) (stk' := []) (mem' := fm g tp bt a b) (fun _ _ _ => rfl) ?_
                    rw [show (fx_cb .ge 83 83) = true from by decide]
                    dsimp only [cond]
                    refine fe_s 1 (pc' := 117) (lc' := [(6, .int 83), (5, .int 1), (4, .int 83), (3, .int 79), (2, .int 14), (0, .ref 0), (1, .ref 22)]) (stk' := [.int 1]) (mem' := fm g tp bt a b) (fun _ _ _ => rfl) ?_
                    refine fe_s 1 (pc' := cond (fx_cb .eq 1 0) 122 120) (lc' := [(6, .int 83), (5, .int 1), (4, .int 83), (3, .int 79), (2, .int 14), (0, .ref 0), (1, .ref 22)]) (stk' := []) (mem' := fm g tp bt a b) (fun _ _ _ => rfl) ?_
                    rw [show (fx_cb .eq 1 0) = false from by decide]
                    dsimp only [cond]
                    refine fe_s 1 (pc' := 121) (lc' := [(6, .int 83), (5, .int 1), (4, .int 83), (3, .int 79), (2, .int 14), (0, .ref 0), (1, .ref 22)]) (stk' := [.int 14]) (mem' := fm g tp bt a b) (fun _ _ _ => rfl) ?_
                    exact fe_ret ⟨_, Or.inr ⟨14, by omega, rfl⟩, rfl⟩ (by rfl) (by rfl) (by rfl)
                  · rw [show (fx_cb .ne 119 (nI n15)) = true from cb_neT (a := 119) (b := n15) (by omega) (by omega) (by omega)]
                    dsimp only [cond]
                    refine fe_s 1 (pc' := 107) (lc' := [(6, .int 82), (5, .int 1), (4, .int 83), (3, .int 79), (2, .int 14), (0, .ref 0), (1, .ref 22)]) (stk' := [.int 0]) (mem' := fm g tp bt a b) (fun _ _ _ => rfl) ?_
                    refine fe_w (lc' := [(6, .int 82), (5, .int 1), (4, .int 83), (3, .int 79), (2, .int 14), (0, .ref 0), (1, .ref 22)]) ⟨rfl, rfl, rfl, rfl, rfl, rfl, rfl, trivial⟩ (by show List.Nodup [6, 5, 4, 3, 2, 0, 1]; decide) (by show List.Nodup [6, 5, 4, 3, 2, 0, 1]; decide) ?_
                    exact fail _ _
              · rw [show (fx_cb .ne 97 (nI n11)) = true from cb_neT (a := 97) (b := n11) (by omega) (by omega) (by omega)]
                dsimp only [cond]
                refine fe_s 1 (pc' := 107) (lc' := [(6, .int 81), (5, .int 1), (4, .int 83), (3, .int 79), (2, .int 14), (0, .ref 0), (1, .ref 22)]) (stk' := [.int 0]) (mem' := fm g tp bt a b) (fun _ _ _ => rfl) ?_
                refine fe_w (lc' := [(6, .int 81), (5, .int 1), (4, .int 83), (3, .int 79), (2, .int 14), (0, .ref 0), (1, .ref 22)]) ⟨rfl, rfl, rfl, rfl, rfl, rfl, rfl, trivial⟩ (by show List.Nodup [6, 5, 4, 3, 2, 0, 1]; decide) (by show List.Nodup [6, 5, 4, 3, 2, 0, 1]; decide) ?_
                exact fail _ _
          · rw [show (fx_cb .ne 104 (nI n7)) = true from cb_neT (a := 104) (b := n7) (by omega) (by omega) (by omega)]
            dsimp only [cond]
            refine fe_s 1 (pc' := 107) (lc' := [(6, .int 80), (5, .int 1), (4, .int 83), (3, .int 79), (2, .int 14), (0, .ref 0), (1, .ref 22)]) (stk' := [.int 0]) (mem' := fm g tp bt a b) (fun _ _ _ => rfl) ?_
            refine fe_w (lc' := [(6, .int 80), (5, .int 1), (4, .int 83), (3, .int 79), (2, .int 14), (0, .ref 0), (1, .ref 22)]) ⟨rfl, rfl, rfl, rfl, rfl, rfl, rfl, trivial⟩ (by show List.Nodup [6, 5, 4, 3, 2, 0, 1]; decide) (by show List.Nodup [6, 5, 4, 3, 2, 0, 1]; decide) ?_
            exact fail _ _
      · rw [show (fx_cb .ne 116 (nI n3)) = true from cb_neT (a := 116) (b := n3) (by omega) (by omega) (by omega)]
        dsimp only [cond]
        refine fe_s 1 (pc' := 107) (lc' := [(6, .int 79), (5, .int 1), (4, .int 83), (3, .int 79), (2, .int 14), (0, .ref 0), (1, .ref 22)]) (stk' := [.int 0]) (mem' := fm g tp bt a b) (fun _ _ _ => rfl) ?_
        refine fe_w (lc' := [(6, .int 79), (5, .int 1), (4, .int 83), (3, .int 79), (2, .int 14), (0, .ref 0), (1, .ref 22)]) ⟨rfl, rfl, rfl, rfl, rfl, rfl, rfl, trivial⟩ (by show List.Nodup [6, 5, 4, 3, 2, 0, 1]; decide) (by show List.Nodup [6, 5, 4, 3, 2, 0, 1]; decide) ?_
        exact fail _ _
  · rw [show (fx_cb .ne 4 (nI (E - F))) = true from cb_neT (a := 4) (b := E - F) (by omega) (by omega) (by omega)]
    dsimp only [cond]
    refine fe_s 4 (pc' := 68) (lc' := [(6, .int 79), (5, .int 0), (4, .int 83), (3, .int 79), (2, .int 14), (0, .ref 0), (1, .ref 22)]) (stk' := []) (mem' := fm g tp bt a b) (fun _ _ _ => rfl) ?_
    refine fe_s 2 (pc' := 72) (lc' := [(6, .int 79), (5, .int 0), (4, .int 83), (3, .int 79), (2, .int 14), (0, .ref 0), (1, .ref 22)]) (stk' := [.int 83, .int 79]) (mem' := fm g tp bt a b) (fun _ _ _ => rfl) ?_
    refine fe_s 1 (pc' := cond (fx_cb .ge 79 83) 115 75) (lc' := [(6, .int 79), (5, .int 0), (4, .int 83), (3, .int 79), (2, .int 14), (0, .ref 0), (1, .ref 22)]) (stk' := []) (mem' := fm g tp bt a b) (fun _ _ _ => rfl) ?_
    rw [show (fx_cb .ge 79 83) = false from by decide]
    dsimp only [cond]
    refine fe_s 1 (pc' := 77) (lc' := [(6, .int 79), (5, .int 0), (4, .int 83), (3, .int 79), (2, .int 14), (0, .ref 0), (1, .ref 22)]) (stk' := [.int 0]) (mem' := fm g tp bt a b) (fun _ _ _ => rfl) ?_
    refine fe_s 1 (pc' := cond (fx_cb .eq 0 0) 115 80) (lc' := [(6, .int 79), (5, .int 0), (4, .int 83), (3, .int 79), (2, .int 14), (0, .ref 0), (1, .ref 22)]) (stk' := []) (mem' := fm g tp bt a b) (fun _ _ _ => rfl) ?_
    rw [show (fx_cb .eq 0 0) = true from by decide]
    dsimp only [cond]
    refine fe_s 1 (pc' := 117) (lc' := [(6, .int 79), (5, .int 0), (4, .int 83), (3, .int 79), (2, .int 14), (0, .ref 0), (1, .ref 22)]) (stk' := [.int 0]) (mem' := fm g tp bt a b) (fun _ _ _ => rfl) ?_
    refine fe_s 1 (pc' := cond (fx_cb .eq 0 0) 122 120) (lc' := [(6, .int 79), (5, .int 0), (4, .int 83), (3, .int 79), (2, .int 14), (0, .ref 0), (1, .ref 22)]) (stk' := []) (mem' := fm g tp bt a b) (fun _ _ _ => rfl) ?_
    rw [show (fx_cb .eq 0 0) = true from by decide]
    dsimp only [cond]
    refine fe_s 4 (pc' := 129) (lc' := [(2, .int (14 + 1)), (6, .int 79), (5, .int 0), (4, .int 83), (3, .int 79), (0, .ref 0), (1, .ref 22)]) (stk' := [.int (83 + 1)]) (mem' := fm g tp bt a b) (fun _ _ _ => rfl) ?_
    rw [show (83 + 1 : Int32) = 84 from rfl]
    rw [show (14 + 1 : Int32) = 15 from rfl]
    refine fe_s 1 (pc' := 130) (lc' := [(3, .int 84), (2, .int 15), (6, .int 79), (5, .int 0), (4, .int 83), (0, .ref 0), (1, .ref 22)]) (stk' := []) (mem' := fm g tp bt a b) (fun _ _ _ => rfl) ?_
    refine fe_s 1 (pc' := fx_to 130 (-116)) (lc' := [(3, .int 84), (2, .int 15), (6, .int 79), (5, .int 0), (4, .int 83), (0, .ref 0), (1, .ref 22)]) (stk' := []) (mem' := fm g tp bt a b) (fun _ _ _ => rfl) ?_
    rw [show fx_to 130 (-116) = 14 from by decide]
    refine fe_w (lc' := [(3, .int 84), (2, .int 15), (0, .ref 0), (1, .ref 22)]) ⟨rfl, rfl, rfl, rfl, trivial⟩ (by show List.Nodup [3, 2, 0, 1]; decide) (by show List.Nodup [3, 2, 6, 5, 4, 0, 1]; decide) ?_
    exact fw_15 hxp
end FIW3
