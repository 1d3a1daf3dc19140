/-! ===== fx: which word it is (5) ===== -/
section FIW5
variable {g : Nat → Int32} {tp bt : Int64} {a : Nat → Nat → Int32} {b : Nat → Nat → Int64}
theorem fw_8 {S E F : Nat} (hxp : fm_xp g S E F) : fe_R 1 gk_m226 14 [(3, .int 47), (2, .int 8), (0, .ref 0), (1, .ref 22)] [] (fm g tp bt a b) (fm_FI (fm g tp bt a b)) := by
  obtain ⟨h11, hS9, h14, hES, h13, hFE, -, -, -⟩ := id hxp
  refine fe_s 2 (pc' := 16) (lc' := [(3, .int 47), (2, .int 8), (0, .ref 0), (1, .ref 22)]) (stk' := [.ref 22, .int 47]) (mem' := fm g tp bt a b) (fun _ _ _ => rfl) ?_
  refine fe_s 1 (pc' := 19) (lc' := [(3, .int 47), (2, .int 8), (0, .ref 0), (1, .ref 22)]) (stk' := [.int 117, .int 47]) (mem' := fm g tp bt a b) (fun _ _ _ => rfl) ?_
  refine fe_s 1 (pc' := cond (fx_cb .ge 47 117) 133 22) (lc' := [(3, .int 47), (2, .int 8), (0, .ref 0), (1, .ref 22)]) (stk' := []) (mem' := fm g tp bt a b) (fun _ _ _ => rfl) ?_
  rw [show (fx_cb .ge 47 117) = false from by decide]
  dsimp only [cond]
  refine fe_s 4 (pc' := 28) (lc' := [(4, .int 47), (3, .int 47), (2, .int 8), (0, .ref 0), (1, .ref 22)]) (stk' := [.int 47, .ref 22]) (mem' := fm g tp bt a b) (fun _ _ _ => rfl) ?_
  refine fe_chr (i := 47) (by omega) (by rfl) (by rfl) ⟨by rfl, by rfl⟩ (by rfl) ?_
  rw [show sk_b.getD 47 0 = 98 from rfl]
  refine fe_s 1 (pc' := 33) (lc' := [(4, .int 47), (3, .int 47), (2, .int 8), (0, .ref 0), (1, .ref 22)]) (stk' := [.int 32, .int 98]) (mem' := fm g tp bt a b) (fun _ _ _ => rfl) ?_
  refine fe_s 1 (pc' := cond (fx_cb .eq 98 32) 42 36) (lc' := [(4, .int 47), (3, .int 47), (2, .int 8), (0, .ref 0), (1, .ref 22)]) (stk' := []) (mem' := fm g tp bt a b) (fun _ _ _ => rfl) ?_
  rw [show (fx_cb .eq 98 32) = false from by decide]
  dsimp only [cond]
  refine fe_s 4 (pc' := 28) (lc' := [(4, .int (47 + 1)), (3, .int 47), (2, .int 8), (0, .ref 0), (1, .ref 22)]) (stk' := [.int (47 + 1), .ref 22]) (mem' := fm g tp bt a b) (fun _ _ _ => rfl) ?_
  rw [show (47 + 1 : Int32) = 48 from rfl]
  refine fe_chr (i := 48) (by omega) (by rfl) (by rfl) ⟨by rfl, by rfl⟩ (by rfl) ?_
  rw [show sk_b.getD 48 0 = 101 from rfl]
  refine fe_s 1 (pc' := 33) (lc' := [(4, .int 48), (3, .int 47), (2, .int 8), (0, .ref 0), (1, .ref 22)]) (stk' := [.int 32, .int 101]) (mem' := fm g tp bt a b) (fun _ _ _ => rfl) ?_
  refine fe_s 1 (pc' := cond (fx_cb .eq 101 32) 42 36) (lc' := [(4, .int 48), (3, .int 47), (2, .int 8), (0, .ref 0), (1, .ref 22)]) (stk' := []) (mem' := fm g tp bt a b) (fun _ _ _ => rfl) ?_
  rw [show (fx_cb .eq 101 32) = false from by decide]
  dsimp only [cond]
  refine fe_s 4 (pc' := 28) (lc' := [(4, .int (48 + 1)), (3, .int 47), (2, .int 8), (0, .ref 0), (1, .ref 22)]) (stk' := [.int (48 + 1), .ref 22]) (mem' := fm g tp bt a b) (fun _ _ _ => rfl) ?_
  rw [show (48 + 1 : Int32) = 49 from rfl]
  refine fe_chr (i := 49) (by omega) (by rfl) (by rfl) ⟨by rfl, by rfl⟩ (by rfl) ?_
  rw [show sk_b.getD 49 0 = 97 from rfl]
  refine fe_s 1 (pc' := 33) (lc' := [(4, .int 49), (3, .int 47), (2, .int 8), (0, .ref 0), (1, .ref 22)]) (stk' := [.int 32, .int 97]) (mem' := fm g tp bt a b) (fun _ _ _ => rfl) ?_
  refine fe_s 1 (pc' := cond (fx_cb .eq 97 32) 42 36) (lc' := [(4, .int 49), (3, .int 47), (2, .int 8), (0, .ref 0), (1, .ref 22)]) (stk' := []) (mem' := fm g tp bt a b) (fun _ _ _ => rfl) ?_
  rw [show (fx_cb .eq 97 32) = false from by decide]
  dsimp only [cond]
  refine fe_s 4 (pc' := 28) (lc' := [(4, .int (49 + 1)), (3, .int 47), (2, .int 8), (0, .ref 0), (1, .ref 22)]) (stk' := [.int (49 + 1), .ref 22]) (mem' := fm g tp bt a b) (fun _ _ _ => rfl) ?_
  rw [show (49 + 1 : Int32) = 50 from rfl]
  refine fe_chr (i := 50) (by omega) (by rfl) (by rfl) ⟨by rfl, by rfl⟩ (by rfl) ?_
  rw [show sk_b.getD 50 0 = 114 from rfl]
  refine fe_s 1 (pc' := 33) (lc' := [(4, .int 50), (3, .int 47), (2, .int 8), (0, .ref 0), (1, .ref 22)]) (stk' := [.int 32, .int 114]) (mem' := fm g tp bt a b) (fun _ _ _ => rfl) ?_
  refine fe_s 1 (pc' := cond (fx_cb .eq 114 32) 42 36) (lc' := [(4, .int 50), (3, .int 47), (2, .int 8), (0, .ref 0), (1, .ref 22)]) (stk' := []) (mem' := fm g tp bt a b) (fun _ _ _ => rfl) ?_
  rw [show (fx_cb .eq 114 32) = false from by decide]
  dsimp only [cond]
  refine fe_s 4 (pc' := 28) (lc' := [(4, .int (50 + 1)), (3, .int 47), (2, .int 8), (0, .ref 0), (1, .ref 22)]) (stk' := [.int (50 + 1), .ref 22]) (mem' := fm g tp bt a b) (fun _ _ _ => rfl) ?_
  rw [show (50 + 1 : Int32) = 51 from rfl]
  refine fe_chr (i := 51) (by omega) (by rfl) (by rfl) ⟨by rfl, by rfl⟩ (by rfl) ?_
  rw [show sk_b.getD 51 0 = 115 from rfl]
  refine fe_s 1 (pc' := 33) (lc' := [(4, .int 51), (3, .int 47), (2, .int 8), (0, .ref 0), (1, .ref 22)]) (stk' := [.int 32, .int 115]) (mem' := fm g tp bt a b) (fun _ _ _ => rfl) ?_
  refine fe_s 1 (pc' := cond (fx_cb .eq 115 32) 42 36) (lc' := [(4, .int 51), (3, .int 47), (2, .int 8), (0, .ref 0), (1, .ref 22)]) (stk' := []) (mem' := fm g tp bt a b) (fun _ _ _ => rfl) ?_
  rw [show (fx_cb .eq 115 32) = false from by decide]
  dsimp only [cond]
  refine fe_s 4 (pc' := 28) (lc' := [(4, .int (51 + 1)), (3, .int 47), (2, .int 8), (0, .ref 0), (1, .ref 22)]) (stk' := [.int (51 + 1), .ref 22]) (mem' := fm g tp bt a b) (fun _ _ _ => rfl) ?_
  rw [show (51 + 1 : Int32) = 52 from rfl]
  refine fe_chr (i := 52) (by omega) (by rfl) (by rfl) ⟨by rfl, by rfl⟩ (by rfl) ?_
  rw [show sk_b.getD 52 0 = 32 from rfl]
  refine fe_s 1 (pc' := 33) (lc' := [(4, .int 52), (3, .int 47), (2, .int 8), (0, .ref 0), (1, .ref 22)]) (stk' := [.int 32, .int 32]) (mem' := fm g tp bt a b) (fun _ _ _ => rfl) ?_
  refine fe_s 1 (pc' := cond (fx_cb .eq 32 32) 42 36) (lc' := [(4, .int 52), (3, .int 47), (2, .int 8), (0, .ref 0), (1, .ref 22)]) (stk' := []) (mem' := fm g tp bt a b) (fun _ _ _ => rfl) ?_
  rw [show (fx_cb .eq 32 32) = true from by decide]
  dsimp only [cond]
  refine fe_s 4 (pc' := 47) (lc' := [(4, .int 52), (3, .int 47), (2, .int 8), (0, .ref 0), (1, .ref 22)]) (stk' := [.ref 0, .int (52 - 47)]) (mem' := fm g tp bt a b) (fun _ _ _ => rfl) ?_
  rw [show (52 - 47 : Int32) = 5 from rfl]
  refine fe_s 4 (pc' := 55) (lc' := [(4, .int 52), (3, .int 47), (2, .int 8), (0, .ref 0), (1, .ref 22)]) (stk' := [.int ((g 14) - (g 13)), .int 5]) (mem' := fm g tp bt a b) (fun _ _ _ => rfl) ?_
  try rw [h14]
  try rw [h13]
  rw [show ((nI E) - (nI F) : Int32) = nI (E - F) from by simp only [tg_sub2 (x := E) (y := F) (by omega), nI_add, fm_mul]]
  refine fe_s 1 (pc' := cond (fx_cb .ne 5 (nI (E - F))) 62 58) (lc' := [(4, .int 52), (3, .int 47), (2, .int 8), (0, .ref 0), (1, .ref 22)]) (stk' := []) (mem' := fm g tp bt a b) (fun _ _ _ => rfl) ?_
  by_cases h1 : 5 = (E - F)
  · rw [show (fx_cb .ne 5 (nI (E - F))) = false from cb_neF (a := 5) (b := E - F) (by omega) (by omega) (by omega)]
    dsimp only [cond]
    refine fe_s 4 (pc' := 66) (lc' := [(5, .int 1), (4, .int 52), (3, .int 47), (2, .int 8), (0, .ref 0), (1, .ref 22)]) (stk' := [.int 47]) (mem' := fm g tp bt a b) (fun _ _ _ => rfl) ?_
    refine fe_s 3 (pc' := 72) (lc' := [(6, .int 47), (5, .int 1), (4, .int 52), (3, .int 47), (2, .int 8), (0, .ref 0), (1, .ref 22)]) (stk' := [.int 52, .int 47]) (mem' := fm g tp bt a b) (fun _ _ _ => rfl) ?_
    refine fe_s 1 (pc' := cond (fx_cb .ge 47 52) 115 75) (lc' := [(6, .int 47), (5, .int 1), (4, .int 52), (3, .int 47), (2, .int 8), (0, .ref 0), (1, .ref 22)]) (stk' := []) (mem' := fm g tp bt a b) (fun _ _ _ => rfl) ?_
    rw [show (fx_cb .ge 47 52) = false from by decide]
    dsimp only [cond]
    refine fe_s 1 (pc' := 77) (lc' := [(6, .int 47), (5, .int 1), (4, .int 52), (3, .int 47), (2, .int 8), (0, .ref 0), (1, .ref 22)]) (stk' := [.int 1]) (mem' := fm g tp bt a b) (fun _ _ _ => rfl) ?_
    refine fe_s 1 (pc' := cond (fx_cb .eq 1 0) 115 80) (lc' := [(6, .int 47), (5, .int 1), (4, .int 52), (3, .int 47), (2, .int 8), (0, .ref 0), (1, .ref 22)]) (stk' := []) (mem' := fm g tp bt a b) (fun _ _ _ => rfl) ?_
    rw [show (fx_cb .eq 1 0) = false from by decide]
    dsimp only [cond]
    refine fe_s 2 (pc' := 83) (lc' := [(6, .int 47), (5, .int 1), (4, .int 52), (3, .int 47), (2, .int 8), (0, .ref 0), (1, .ref 22)]) (stk' := [.int 47, .ref 22]) (mem' := fm g tp bt a b) (fun _ _ _ => rfl) ?_
    refine fe_chr (i := 47) (by omega) (by rfl) (by rfl) ⟨by rfl, by rfl⟩ (by rfl) ?_
    rw [show sk_b.getD 47 0 = 98 from rfl]
    refine fe_s 4 (pc' := 93) (lc' := [(6, .int 47), (5, .int 1), (4, .int 52), (3, .int 47), (2, .int 8), (0, .ref 0), (1, .ref 22)]) (stk' := [.int 47, .int (g 13), .ref 0, .int 98]) (mem' := fm g tp bt a b) (fun _ _ _ => rfl) ?_
    try rw [h13]
    refine fe_s 3 (pc' := 96) (lc' := [(6, .int 47), (5, .int 1), (4, .int 52), (3, .int 47), (2, .int 8), (0, .ref 0), (1, .ref 22)]) (stk' := [.int (((nI F) + 47) - 47), .ref 0, .int 98]) (mem' := fm g tp bt a b) (fun _ _ _ => rfl) ?_
    rw [show (((nI F) + 47) - 47 : Int32) = nI ((F + 47) - 47) from by simp only [show (47 : Int32) = nI 47 from rfl, tg_sub2 (x := F + 47) (y := 47) (by omega), nI_add, fm_mul]]
    refine fe_ivV (fr_byteAt (S := S) (k := (F + 47) - 47) (g := g) (tp := tp) (bt := bt) (a := a) (b := b) h11 (by omega) (by omega)) (by omega) (by rfl) (by rfl) (by rfl) (by rfl) (by rfl) (by rfl) ?_
    rcases fm_byte_or a S ((F + 47) - 47) with ⟨e3, q4⟩ | ⟨q4, n2, qn2, e3⟩
    · rw [e3]
      refine fe_s 1 (pc' := cond (fx_cb .ne 98 (-1)) 106 102) (lc' := [(6, .int 47), (5, .int 1), (4, .int 52), (3, .int 47), (2, .int 8), (0, .ref 0), (1, .ref 22)]) (stk' := []) (mem' := fm g tp bt a b) (fun _ _ _ => rfl) ?_
      rw [show (fx_cb .ne 98 (-1)) = true from by decide]
      dsimp only [cond]
      refine fe_s 4 (pc' := 68) (lc' := [(6, .int (47 + 1)), (5, .int 0), (4, .int 52), (3, .int 47), (2, .int 8), (0, .ref 0), (1, .ref 22)]) (stk' := []) (mem' := fm g tp bt a b) (fun _ _ _ => rfl) ?_
      rw [show (47 + 1 : Int32) = 48 from rfl]
      refine fe_s 2 (pc' := 72) (lc' := [(6, .int 48), (5, .int 0), (4, .int 52), (3, .int 47), (2, .int 8), (0, .ref 0), (1, .ref 22)]) (stk' := [.int 52, .int 48]) (mem' := fm g tp bt a b) (fun _ _ _ => rfl) ?_
      refine fe_s 1 (pc' := cond (fx_cb .ge 48 52) 115 75) (lc' := [(6, .int 48), (5, .int 0), (4, .int 52), (3, .int 47), (2, .int 8), (0, .ref 0), (1, .ref 22)]) (stk' := []) (mem' := fm g tp bt a b) (fun _ _ _ => rfl) ?_
      rw [show (fx_cb .ge 48 52) = false from by decide]
      dsimp only [cond]
      refine fe_s 1 (pc' := 77) (lc' := [(6, .int 48), (5, .int 0), (4, .int 52), (3, .int 47), (2, .int 8), (0, .ref 0), (1, .ref 22)]) (stk' := [.int 0]) (mem' := fm g tp bt a b) (fun _ _ _ => rfl) ?_
      refine fe_s 1 (pc' := cond (fx_cb .eq 0 0) 115 80) (lc' := [(6, .int 48), (5, .int 0), (4, .int 52), (3, .int 47), (2, .int 8), (0, .ref 0), (1, .ref 22)]) (stk' := []) (mem' := fm g tp bt a b) (fun _ _ _ => rfl) ?_
      rw [show (fx_cb .eq 0 0) = true from by decide]
      dsimp only [cond]
      refine fe_s 1 (pc' := 117) (lc' := [(6, .int 48), (5, .int 0), (4, .int 52), (3, .int 47), (2, .int 8), (0, .ref 0), (1, .ref 22)]) (stk' := [.int 0]) (mem' := fm g tp bt a b) (fun _ _ _ => rfl) ?_
      refine fe_s 1 (pc' := cond (fx_cb .eq 0 0) 122 120) (lc' := [(6, .int 48), (5, .int 0), (4, .int 52), (3, .int 47), (2, .int 8), (0, .ref 0), (1, .ref 22)]) (stk' := []) (mem' := fm g tp bt a b) (fun _ _ _ => rfl) ?_
      rw [show (fx_cb .eq 0 0) = true from by decide]
      dsimp only [cond]
      refine fe_s 4 (pc' := 129) (lc' := [(2, .int (8 + 1)), (6, .int 48), (5, .int 0), (4, .int 52), (3, .int 47), (0, .ref 0), (1, .ref 22)]) (stk' := [.int (52 + 1)]) (mem' := fm g tp bt a b) (fun _ _ _ => rfl) ?_
      rw [show (8 + 1 : Int32) = 9 from rfl]
      rw [show (52 + 1 : Int32) = 53 from rfl]
      refine fe_s 1 (pc' := 130) (lc' := [(3, .int 53), (2, .int 9), (6, .int 48), (5, .int 0), (4, .int 52), (0, .ref 0), (1, .ref 22)]) (stk' := []) (mem' := fm g tp bt a b) (fun _ _ _ => rfl) ?_
      refine fe_s 1 (pc' := fx_to 130 (-116)) (lc' := [(3, .int 53), (2, .int 9), (6, .int 48), (5, .int 0), (4, .int 52), (0, .ref 0), (1, .ref 22)]) (stk' := []) (mem' := fm g tp bt a b) (fun _ _ _ => rfl) ?_
      rw [show fx_to 130 (-116) = 14 from by decide]
      refine fe_w (lc' := [(3, .int 53), (2, .int 9), (0, .ref 0), (1, .ref 22)]) ⟨rfl, rfl, rfl, rfl, trivial⟩ (by show List.Nodup [3, 2, 0, 1]; decide) (by show List.Nodup [3, 2, 6, 5, 4, 0, 1]; decide) ?_
      exact fw_9 hxp
    · rw [e3]
      refine fe_s 1 (pc' := cond (fx_cb .ne 98 (nI n2)) 106 102) (lc' := [(6, .int 47), (5, .int 1), (4, .int 52), (3, .int 47), (2, .int 8), (0, .ref 0), (1, .ref 22)]) (stk' := []) (mem' := fm g tp bt a b) (fun _ _ _ => rfl) ?_
      by_cases h5 : 98 = n2
      · rw [show (fx_cb .ne 98 (nI n2)) = false from cb_neF (a := 98) (b := n2) (by omega) (by omega) (by omega)]
        dsimp only [cond]
        refine fe_s 4 (pc' := 112) (lc' := [(6, .int (47 + 1)), (5, .int 1), (4, .int 52), (3, .int 47), (2, .int 8), (0, .ref 0), (1, .ref 22)]) (stk' := []) (mem' := fm g tp bt a b) (fun _ _ _ => rfl) ?_
        rw [show (47 + 1 : Int32) = 48 from rfl]
        refine fe_s 3 (pc' := 72) (lc' := [(6, .int 48), (5, .int 1), (4, .int 52), (3, .int 47), (2, .int 8), (0, .ref 0), (1, .ref 22)]) (stk' := [.int 52, .int 48]) (mem' := fm g tp bt a b) (fun _ _ _ => rfl) ?_
        refine fe_s 1 (pc' := cond (fx_cb .ge 48 52) 115 75) (lc' := [(6, .int 48), (5, .int 1), (4, .int 52), (3, .int 47), (2, .int 8), (0, .ref 0), (1, .ref 22)]) (stk' := []) (mem' := fm g tp bt a b) (fun _ _ _ => rfl) ?_
        rw [show (fx_cb .ge 48 52) = false from by decide]
        dsimp only [cond]
        refine fe_s 1 (pc' := 77) (lc' := [(6, .int 48), (5, .int 1), (4, .int 52), (3, .int 47), (2, .int 8), (0, .ref 0), (1, .ref 22)]) (stk' := [.int 1]) (mem' := fm g tp bt a b) (fun _ _ _ => rfl) ?_
        refine fe_s 1 (pc' := cond (fx_cb .eq 1 0) 115 80) (lc' := [(6, .int 48), (5, .int 1), (4, .int 52), (3, .int 47), (2, .int 8), (0, .ref 0), (1, .ref 22)]) (stk' := []) (mem' := fm g tp bt a b) (fun _ _ _ => rfl) ?_
        rw [show (fx_cb .eq 1 0) = false from by decide]
        dsimp only [cond]
        refine fe_s 2 (pc' := 83) (lc' := [(6, .int 48), (5, .int 1), (4, .int 52), (3, .int 47), (2, .int 8), (0, .ref 0), (1, .ref 22)]) (stk' := [.int 48, .ref 22]) (mem' := fm g tp bt a b) (fun _ _ _ => rfl) ?_
        refine fe_chr (i := 48) (by omega) (by rfl) (by rfl) ⟨by rfl, by rfl⟩ (by rfl) ?_
        rw [show sk_b.getD 48 0 = 101 from rfl]
        refine fe_s 4 (pc' := 93) (lc' := [(6, .int 48), (5, .int 1), (4, .int 52), (3, .int 47), (2, .int 8), (0, .ref 0), (1, .ref 22)]) (stk' := [.int 48, .int (g 13), .ref 0, .int 101]) (mem' := fm g tp bt a b) (fun _ _ _ => rfl) ?_
        try rw [h13]
        refine fe_s 3 (pc' := 96) (lc' := [(6, .int 48), (5, .int 1), (4, .int 52), (3, .int 47), (2, .int 8), (0, .ref 0), (1, .ref 22)]) (stk' := [.int (((nI F) + 48) - 47), .ref 0, .int 101]) (mem' := fm g tp bt a b) (fun _ _ _ => rfl) ?_
        rw [show (((nI F) + 48) - 47 : Int32) = nI ((F + 48) - 47) from by simp only [show (48 : Int32) = nI 48 from rfl, show (47 : Int32) = nI 47 from rfl, tg_sub2 (x := F + 48) (y := 47) (by omega), nI_add, fm_mul]]
        refine fe_ivV (fr_byteAt (S := S) (k := (F + 48) - 47) (g := g) (tp := tp) (bt := bt) (a := a) (b := b) h11 (by omega) (by omega)) (by omega) (by rfl) (by rfl) (by rfl) (by rfl) (by rfl) (by rfl) ?_
        rcases fm_byte_or a S ((F + 48) - 47) with ⟨e7, q8⟩ | ⟨q8, n6, qn6, e7⟩
        · rw [e7]
          refine fe_s 1 (pc' := cond (fx_cb .ne 101 (-1)) 106 102) (lc' := [(6, .int 48), (5, .int 1), (4, .int 52), (3, .int 47), (2, .int 8), (0, .ref 0), (1, .ref 22)]) (stk' := []) (mem' := fm g tp bt a b) (fun _ _ _ => rfl) ?_
          rw [show (fx_cb .ne 101 (-1)) = true from by decide]
          dsimp only [cond]
          refine fe_s 4 (pc' := 68) (lc' := [(6, .int (48 + 1)), (5, .int 0), (4, .int 52), (3, .int 47), (2, .int 8), (0, .ref 0), (1, .ref 22)]) (stk' := []) (mem' := fm g tp bt a b) (fun _ _ _ => rfl) ?_
          rw [show (48 + 1 : Int32) = 49 from rfl]
          refine fe_s 2 (pc' := 72) (lc' := [(6, .int 49), (5, .int 0), (4, .int 52), (3, .int 47), (2, .int 8), (0, .ref 0), (1, .ref 22)]) (stk' := [.int 52, .int 49]) (mem' := fm g tp bt a b) (fun _ _ _ => rfl) ?_
          refine fe_s 1 (pc' := cond (fx_cb .ge 49 52) 115 75) (lc' := [(6, .int 49), (5, .int 0), (4, .int 52), (3, .int 47), (2, .int 8), (0, .ref 0), (1, .ref 22)]) (stk' := []) (mem' := fm g tp bt a b) (fun _ _ _ => rfl) ?_
          rw [show (fx_cb .ge 49 52) = false from by decide]
          dsimp only [cond]
          refine fe_s 1 (pc' := 77) (lc' := [(6, .int 49), (5, .int 0), (4, .int 52), (3, .int 47), (2, .int 8), (0, .ref 0), (1, .ref 22)]) (stk' := [.int 0]) (mem' := fm g tp bt a b) (fun _ _ _ => rfl) ?_
          refine fe_s 1 (pc' := cond (fx_cb .eq 0 0) 115 80) (lc' := [(6, .int 49), (5, .int 0), (4, .int 52), (3, .int 47), (2, .int 8), (0, .ref 0), (1, .ref 22)]) (stk' := []) (mem' := fm g tp bt a b) (fun _ _ _ => rfl) ?_
          rw [show (fx_cb .eq 0 0) = true from by decide]
          dsimp only [cond]
          refine fe_s 1 (pc' := 117) (lc' := [(6, .int 49), (5, .int 0), (4, .int 52), (3, .int 47), (2, .int 8), (0, .ref 0), (1, .ref 22)]) (stk' := [.int 0]) (mem' := fm g tp bt a b) (fun _ _ _ => rfl) ?_
          refine fe_s 1 (pc' := cond (fx_cb .eq 0 0) 122 120) (lc' := [(6, .int 49), (5, .int 0), (4, .int 52), (3, .int 47), (2, .int 8), (0, .ref 0), (1, .ref 22)]) (stk' := []) (mem' := fm g tp bt a b) (fun _ _ _ => rfl) ?_
          rw [show (fx_cb .eq 0 0) = true from by decide]
          dsimp only [cond]
          refine fe_s 4 (pc' := 129) (lc' := [(2, .int (8 + 1)), (6, .int 49), (5, .int 0), (4, .int 52), (3, .int 47), (0, .ref 0), (1, .ref 22)]) (stk' := [.int (52 + 1)]) (mem' := fm g tp bt a b) (fun _ _ _ => rfl) ?_
          rw [show (8 + 1 : Int32) = 9 from rfl]
          rw [show (52 + 1 : Int32) = 53 from rfl]
          refine fe_s 1 (pc' := 130) (lc' := [(3, .int 53), (2, .int 9), (6, .int 49), (5, .int 0), (4, .int 52), (0, .ref 0), (1, .ref 22)]) (stk' := []) (mem' := fm g tp bt a b) (fun _ _ _ => rfl) ?_
          refine fe_s 1 (pc' := fx_to 130 (-116)) (lc' := [(3, .int 53), (2, .int 9), (6, .int 49), (5, .int 0), (4, .int 52), (0, .ref 0), (1, .ref 22)]) (stk' := []) (mem' := fm g tp bt a b) (fun _ _ _ => rfl) ?_
          rw [show fx_to 130 (-116) = 14 from by decide]
          refine fe_w (lc' := [(3, .int 53), (2, .int 9), (0, .ref 0), (1, .ref 22)]) ⟨rfl, rfl, rfl, rfl, trivial⟩ (by show List.Nodup [3, 2, 0, 1]; decide) (by show List.Nodup [3, 2, 6, 5, 4, 0, 1]; decide) ?_
          exact fw_9 hxp
        · rw [e7]
          refine fe_s 1 (pc' := cond (fx_cb .ne 101 (nI n6)) 106 102) (lc' := [(6, .int 48), (5, .int 1), (4, .int 52), (3, .int 47), (2, .int 8), (0, .ref 0), (1, .ref 22)]) (stk' := []) (mem' := fm g tp bt a b) (fun _ _ _ => rfl) ?_
          by_cases h9 : 101 = n6
          · rw [show (fx_cb .ne 101 (nI n6)) = false from cb_neF (a := 101) (b := n6) (by omega) (by omega) (by omega)]
            dsimp only [cond]
            refine fe_s 4 (pc' := 112) (lc' := [(6, .int (48 + 1)), (5, .int 1), (4, .int 52), (3, .int 47), (2, .int 8), (0, .ref 0), (1, .ref 22)]) (stk' := []) (mem' := fm g tp bt a b) (fun _ _ _ => rfl) ?_
            rw [show (48 + 1 : Int32) = 49 from rfl]
            refine fe_s 3 (pc' := 72) (lc' := [(6, .int 49), (5, .int 1), (4, .int 52), (3, .int 47), (2, .int 8), (0, .ref 0), (1, .ref 22)]) (stk' := [.int 52, .int 49]) (mem' := fm g tp bt a b) (fun _ _ _ => rfl) ?_
            refine fe_s 1 (pc' := cond (fx_cb .ge 49 52) 115 75) (lc' := [(6, .int 49), (5, .int 1), (4, .int 52), (3, .int 47), (2, .int 8), (0, .ref 0), (1, .ref 22)]) (stk' := []) (mem' := fm g tp bt a b) (fun _ _ _ => rfl) ?_
            rw [show (fx_cb .ge 49 52) = false from by decide]
            dsimp only [cond]
            refine fe_s 1 (pc' := 77) (lc' := [(6, .int 49), (5, .int 1), (4, .int 52), (3, .int 47), (2, .int 8), (0, .ref 0), (1, .ref 22)]) (stk' := [.int 1]) (mem' := fm g tp bt a b) (fun _ _ _ => rfl) ?_
            refine fe_s 1 (pc' := cond (fx_cb .eq 1 0) 115 80) (lc' := [(6, .int 49), (5, .int 1), (4, .int 52), (3, .int 47), (2, .int 8), (0, .ref 0), (1, .ref 22)]) (stk' := []) (mem' := fm g tp bt a b) (fun _ _ _ => rfl) ?_
            rw [show (fx_cb .eq 1 0) = false from by decide]
            dsimp only [cond]
            refine fe_s 2 (pc' := 83) (lc' := [(6, .int 49), (5, .int 1), (4, .int 52), (3, .int 47), (2, .int 8), (0, .ref 0), (1, .ref 22)]) (stk' := [.int 49, .ref 22]) (mem' := fm g tp bt a b) (fun _ _ _ => rfl) ?_
            refine fe_chr (i := 49) (by omega) (by rfl) (by rfl) ⟨by rfl, by rfl⟩ (by rfl) ?_
            rw [show sk_b.getD 49 0 = 97 from rfl]
            refine fe_s 4 (pc' := 93) (lc' := [(6, .int 49), (5, .int 1), (4, .int 52), (3, .int 47), (2, .int 8), (0, .ref 0), (1, .ref 22)]) (stk' := [.int 49, .int (g 13), .ref 0, .int 97]) (mem' := fm g tp bt a b) (fun _ _ _ => rfl) ?_
            try rw [h13]
            refine fe_s 3 (pc' := 96) (lc' := [(6, .int 49), (5, .int 1), (4, .int 52), (3, .int 47), (2, .int 8), (0, .ref 0), (1, .ref 22)]) (stk' := [.int (((nI F) + 49) - 47), .ref 0, .int 97]) (mem' := fm g tp bt a b) (fun _ _ _ => rfl) ?_
            rw [show (((nI F) + 49) - 47 : Int32) = nI ((F + 49) - 47) from by simp only [show (49 : Int32) = nI 49 from rfl, show (47 : Int32) = nI 47 from rfl, tg_sub2 (x := F + 49) (y := 47) (by omega), nI_add, fm_mul]]
            refine fe_ivV (fr_byteAt (S := S) (k := (F + 49) - 47) (g := g) (tp := tp) (bt := bt) (a := a) (b := b) h11 (by omega) (by omega)) (by omega) (by rfl) (by rfl) (by rfl) (by rfl) (by rfl) (by rfl) ?_
            rcases fm_byte_or a S ((F + 49) - 47) with ⟨e11, q12⟩ | ⟨q12, n10, qn10, e11⟩
            · rw [e11]
              refine fe_s 1 (pc' := cond (fx_cb .ne 97 (-1)) 106 102) (lc' := [(6, .int 49), (5, .int 1), (4, .int 52), (3, .int 47), (2, .int 8), (0, .ref 0), (1, .ref 22)]) (stk' := []) (mem' := fm g tp bt a b) (fun _ _ _ => rfl) ?_
              rw [show (fx_cb .ne 97 (-1)) = true from by decide]
              dsimp only [cond]
              refine fe_s 4 (pc' := 68) (lc' := [(6, .int (49 + 1)), (5, .int 0), (4, .int 52), (3, .int 47), (2, .int 8), (0, .ref 0), (1, .ref 22)]) (stk' := []) (mem' := fm g tp bt a b) (fun _ _ _ => rfl) ?_
              rw [show (49 + 1 : Int32) = 50 from rfl]
              refine fe_s 2 (pc' := 72) (lc' := [(6, .int 50), (5, .int 0), (4, .int 52), (3, .int 47), (2, .int 8), (0, .ref 0), (1, .ref 22)]) (stk' := [.int 52, .int 50]) (mem' := fm g tp bt a b) (fun _ _ _ => rfl) ?_
              refine fe_s 1 (pc' := cond (fx_cb .ge 50 52) 115 75) (lc' := [(6, .int 50), (5, .int 0), (4, .int 52), (3, .int 47), (2, .int 8), (0, .ref 0), (1, .ref 22)]) (stk' := []) (mem' := fm g tp bt a b) (fun _ _ _ => rfl) ?_
              rw [show (fx_cb .ge 50 52) = false from by decide]
              dsimp only [cond]
              refine fe_s 1 (pc' := 77) (lc' := [(6, .int 50), (5, .int 0), (4, .int 52), (3, .int 47), (2, .int 8), (0, .ref 0), (1, .ref 22)]) (stk' := [.int 0]) (mem' := fm g tp bt a b) (fun _ _ _ => rfl) ?_
              refine fe_s 1 (pc' := cond (fx_cb .eq 0 0) 115 80) (lc' := [(6, .int 50), (5, .int 0), (4, .int 52), (3, .int 47), (2, .int 8), (0, .ref 0), (1, .ref 22)]) (stk' := []) (mem' := fm g tp bt a b) (fun _ _ _ => rfl) ?_
              rw [show (fx_cb .eq 0 0) = true from by decide]
              dsimp only [cond]
              refine fe_s 1 (pc' := 117) (lc' := [(6, .int 50), (5, .int 0), (4, .int 52), (3, .int 47), (2, .int 8), (0, .ref 0), (1, .ref 22)]) (stk' := [.int 0]) (mem' := fm g tp bt a b) (fun _ _ _ => rfl) ?_
              refine fe_s 1 (pc' := cond (fx_cb .eq 0 0) 122 120) (lc' := [(6, .int 50), (5, .int 0), (4, .int 52), (3, .int 47), (2, .int 8), (0, .ref 0), (1, .ref 22)]) (stk' := []) (mem' := fm g tp bt a b) (fun _ _ _ => rfl) ?_
              rw [show (fx_cb .eq 0 0) = true from by decide]
              dsimp only [cond]
              refine fe_s 4 (pc' := 129) (lc' := [(2, .int (8 + 1)), (6, .int 50), (5, .int 0), (4, .int 52), (3, .int 47), (0, .ref 0), (1, .ref 22)]) (stk' := [.int (52 + 1)]) (mem' := fm g tp bt a b) (fun _ _ _ => rfl) ?_
              rw [show (8 + 1 : Int32) = 9 from rfl]
              rw [show (52 + 1 : Int32) = 53 from rfl]
              refine fe_s 1 (pc' := 130) (lc' := [(3, .int 53), (2, .int 9), (6, .int 50), (5, .int 0), (4, .int 52), (0, .ref 0), (1, .ref 22)]) (stk' := []) (mem' := fm g tp bt a b) (fun _ _ _ => rfl) ?_
              refine fe_s 1 (pc' := fx_to 130 (-116)) (lc' := [(3, .int 53), (2, .int 9), (6, .int 50), (5, .int 0), (4, .int 52), (0, .ref 0), (1, .ref 22)]) (stk' := []) (mem' := fm g tp bt a b) (fun _ _ _ => rfl) ?_
              rw [show fx_to 130 (-116) = 14 from by decide]
              refine fe_w (lc' := [(3, .int 53), (2, .int 9), (0, .ref 0), (1, .ref 22)]) ⟨rfl, rfl, rfl, rfl, trivial⟩ (by show List.Nodup [3, 2, 0, 1]; decide) (by show List.Nodup [3, 2, 6, 5, 4, 0, 1]; decide) ?_
              exact fw_9 hxp
            · rw [e11]
              refine fe_s 1 (pc' := cond (fx_cb .ne 97 (nI n10)) 106 102) (lc' := [(6, .int 49), (5, .int 1), (4, .int 52), (3, .int 47), (2, .int 8), (0, .ref 0), (1, .ref 22)]) (stk' := []) (mem' := fm g tp bt a b) (fun _ _ _ => rfl) ?_
              by_cases h13 : 97 = n10
              · rw [show (fx_cb .ne 97 (nI n10)) = false from cb_neF (a := 97) (b := n10) (by omega) (by omega) (by omega)]
                dsimp only [cond]
                refine fe_s 4 (pc' := 112) (lc' := [(6, .int (49 + 1)), (5, .int 1), (4, .int 52), (3, .int 47), (2, .int 8), (0, .ref 0), (1, .ref 22)]) (stk' := []) (mem' := fm g tp bt a b) (fun _ _ _ => rfl) ?_
                rw [show (49 + 1 : Int32) = 50 from rfl]
                refine fe_s 3 (pc' := 72) (lc' := [(6, .int 50), (5, .int 1), (4, .int 52), (3, .int 47), (2, .int 8), (0, .ref 0), (1, .ref 22)]) (stk' := [.int 52, .int 50]) (mem' := fm g tp bt a b) (fun _ _ _ => rfl) ?_
                refine fe_s 1 (pc' := cond (fx_cb .ge 50 52) 115 75) (lc' := [(6, .int 50), (5, .int 1), (4, .int 52), (3, .int 47), (2, .int 8), (0, .ref 0), (1, .ref 22)]) (stk' := []) (mem' := fm g tp bt a b) (fun _ _ _ => rfl) ?_
                rw [show (fx_cb .ge 50 52) = false from by decide]
                dsimp only [cond]
                refine fe_s 1 (pc' := 77) (lc' := [(6, .int 50), (5, .int 1), (4, .int 52), (3, .int 47), (2, .int 8), (0, .ref 0), (1, .ref 22)]) (stk' := [.int 1]) (mem' := fm g tp bt a b) (fun _ _ _ => rfl) ?_
                refine fe_s 1 (pc' := cond (fx_cb .eq 1 0) 115 80) (lc' := [(6, .int 50), (5, .int 1), (4, .int 52), (3, .int 47), (2, .int 8), (0, .ref 0), (1, .ref 22)]) (stk' := []) (mem' := fm g tp bt a b) (fun _ _ _ => rfl) ?_
                rw [show (fx_cb .eq 1 0) = false from by decide]
                dsimp only [cond]
                refine fe_s 2 (pc' := 83) (lc' := [(6, .int 50), (5, .int 1), (4, .int 52), (3, .int 47), (2, .int 8), (0, .ref 0), (1, .ref 22)]) (stk' := [.int 50, .ref 22]) (mem' := fm g tp bt a b) (fun _ _ _ => rfl) ?_
                refine fe_chr (i := 50) (by omega) (by rfl) (by rfl) ⟨by rfl, by rfl⟩ (by rfl) ?_
                rw [show sk_b.getD 50 0 = 114 from rfl]
                refine fe_s 4 (pc' := 93) (lc' := [(6, .int 50), (5, .int 1), (4, .int 52), (3, .int 47), (2, .int 8), (0, .ref 0), (1, .ref 22)]) (stk' := [.int 50, .int (g 13), .ref 0, .int 114]) (mem' := fm g tp bt a b) (fun _ _ _ => rfl) ?_
                try rw [h13]
                refine fe_s 3 (pc' := 96) (lc' := [(6, .int 50), (5, .int 1), (4, .int 52), (3, .int 47), (2, .int 8), (0, .ref 0), (1, .ref 22)]) (stk' := [.int (((nI F) + 50) - 47), .ref 0, .int 114]) (mem' := fm g tp bt a b) (fun _ _ _ => rfl) ?_
                rw [show (((nI F) + 50) - 47 : Int32) = nI ((F + 50) - 47) from by simp only [show (50 : Int32) = nI 50 from rfl, show (47 : Int32) = nI 47 from rfl, tg_sub2 (x := F + 50) (y := 47) (by omega), nI_add, fm_mul]]
                refine fe_ivV (fr_byteAt (S := S) (k := (F + 50) - 47) (g := g) (tp := tp) (bt := bt) (a := a) (b := b) h11 (by omega) (by omega)) (by omega) (by rfl) (by rfl) (by rfl) (by rfl) (by rfl) (by rfl) ?_
                rcases fm_byte_or a S ((F + 50) - 47) with ⟨e15, q16⟩ | ⟨q16, n14, qn14, e15⟩
                · rw [e15]
                  refine fe_s 1 (pc' := cond (fx_cb .ne 114 (-1)) 106 102) (lc' := [(6, .int 50), (5, .int 1), (4, .int 52), (3, .int 47), (2, .int 8), (0, .ref 0), (1, .ref 22)]) (stk' := []) (mem' := fm g tp bt a b) (fun _ _ _ => rfl) ?_
                  rw [show (fx_cb .ne 114 (-1)) = true from by decide]
                  dsimp only [cond]
                  refine fe_s 4 (pc' := 68) (lc' := [(6, .int (50 + 1)), (5, .int 0), (4, .int 52), (3, .int 47), (2, .int 8), (0, .ref 0), (1, .ref 22)]) (stk' := []) (mem' := fm g tp bt a b) (fun _ _ _ => rfl) ?_
                  rw [show (50 + 1 : Int32) = 51 from rfl]
                  refine fe_s 2 (pc' := 72) (lc' := [(6, .int 51), (5, .int 0), (4, .int 52), (3, .int 47), (2, .int 8), (0, .ref 0), (1, .ref 22)]) (stk' := [.int 52, .int 51]) (mem' := fm g tp bt a b) (fun _ _ _ => rfl) ?_
                  refine fe_s 1 (pc' := cond (fx_cb .ge 51 52) 115 75) (lc' := [(6, .int 51), (5, .int 0), (4, .int 52), (3, .int 47), (2, .int 8), (0, .ref 0), (1, .ref 22)]) (stk' := []) (mem' := fm g tp bt a b) (fun _ _ _ => rfl) ?_
                  rw [show (fx_cb .ge 51 52) = false from by decide]
                  dsimp only [cond]
                  refine fe_s 1 (pc' := 77) (lc' := [(6, .int 51), (5, .int 0), (4, .int 52), (3, .int 47), (2, .int 8), (0, .ref 0), (1, .ref 22)]) (stk' := [.int 0]) (mem' := fm g tp bt a b) (fun _ _ _ => rfl) ?_
                  refine fe_s 1 (pc' := cond (fx_cb .eq 0 0) 115 80) (lc' := [(6, .int 51), (5, .int 0), (4, .int 52), (3, .int 47), (2, .int 8), (0, .ref 0), (1, .ref 22)]) (stk' := []) (mem' := fm g tp bt a b) (fun _ _ _ => rfl) ?_
                  rw [show (fx_cb .eq 0 0) = true from by decide]
                  dsimp only [cond]
                  refine fe_s 1 (pc' := 117) (lc' := [(6, .int 51), (5, .int 0), (4, .int 52), (3, .int 47), (2, .int 8), (0, .ref 0), (1, .ref 22)]) (stk' := [.int 0]) (mem' := fm g tp bt a b) (fun _ _ _ => rfl) ?_
                  refine fe_s 1 (pc' := cond (fx_cb .eq 0 0) 122 120) (lc' := [(6, .int 51), (5, .int 0), (4, .int 52), (3, .int 47), (2, .int 8), (0, .ref 0), (1, .ref 22)]) (stk' := []) (mem' := fm g tp bt a b) (fun _ _ _ => rfl) ?_
                  rw [show (fx_cb .eq 0 0) = true from by decide]
                  dsimp only [cond]
                  refine fe_s 4 (pc' := 129) (lc' := [(2, .int (8 + 1)), (6, .int 51), (5, .int 0), (4, .int 52), (3, .int 47), (0, .ref 0), (1, .ref 22)]) (stk' := [.int (52 + 1)]) (mem' := fm g tp bt a b) (fun _ _ _ => rfl) ?_
                  rw [show (8 + 1 : Int32) = 9 from rfl]
                  rw [show (52 + 1 : Int32) = 53 from rfl]
                  refine fe_s 1 (pc' := 130) (lc' := [(3, .int 53), (2, .int 9), (6, .int 51), (5, .int 0), (4, .int 52), (0, .ref 0), (1, .ref 22)]) (stk' := []) (mem' := fm g tp bt a b) (fun _ _ _ => rfl) ?_
                  refine fe_s 1 (pc' := fx_to 130 (-116)) (lc' := [(3, .int 53), (2, .int 9), (6, .int 51), (5, .int 0), (4, .int 52), (0, .ref 0), (1, .ref 22)]) (stk' := []) (mem' := fm g tp bt a b) (fun _ _ _ => rfl) ?_
                  rw [show fx_to 130 (-116) = 14 from by decide]
                  refine fe_w (lc' := [(3, .int 53), (2, .int 9), (0, .ref 0), (1, .ref 22)]) ⟨rfl, rfl, rfl, rfl, trivial⟩ (by show List.Nodup [3, 2, 0, 1]; decide) (by show List.Nodup [3, 2, 6, 5, 4, 0, 1]; decide) ?_
                  exact fw_9 hxp
                · rw [e15]
                  refine fe_s 1 (pc' := cond (fx_cb .ne 114 (nI n14)) 106 102) (lc' := [(6, .int 50), (5, .int 1), (4, .int 52), (3, .int 47), (2, .int 8), (0, .ref 0), (1, .ref 22)]) (stk' := []) (mem' := fm g tp bt a b) (fun _ _ _ => rfl) ?_
                  by_cases h17 : 114 = n14
                  · rw [show (fx_cb .ne 114 (nI n14)) = false from cb_neF (a := 114) (b := n14) (by omega) (by omega) (by omega)]
                    dsimp only [cond]
                    refine fe_s 4 (pc' := 112) (lc' := [(6, .int (50 + 1)), (5, .int 1), (4, .int 52), (3, .int 47), (2, .int 8), (0, .ref 0), (1, .ref 22)]) (stk' := []) (mem' := fm g tp bt a b) (fun _ _ _ => rfl) ?_
                    rw [show (50 + 1 : Int32) = 51 from rfl]
                    refine fe_s 3 (pc' := 72) (lc' := [(6, .int 51), (5, .int 1), (4, .int 52), (3, .int 47), (2, .int 8), (0, .ref 0), (1, .ref 22)]) (stk' := [.int 52, .int 51]) (mem' := fm g tp bt a b) (fun _ _ _ => rfl) ?_
                    refine fe_s 1 (pc' := cond (fx_cb .ge 51 52) 115 75) (lc' := [(6, .int 51), (5, .int 1), (4, .int 52), (3, .int 47), (2, .int 8), (0, .ref 0), (1, .ref 22)]) (stk' := []) (mem' := fm g tp bt a b) (fun _ _ _ => rfl) ?_
                    rw [show (fx_cb .ge 51 52) = false from by decide]
                    dsimp only [cond]
                    refine fe_s 1 (pc' := 77) (lc' := [(6, .int 51), (5, .int 1), (4, .int 52), (3, .int 47), (2, .int 8), (0, .ref 0), (1, .ref 22)]) (stk' := [.int 1]) (mem' := fm g tp bt a b) (fun _ _ _ => rfl) ?_
                    refine fe_s 1 (pc' := cond (fx_cb .eq 1 0) 115 80) (lc' := [(6, .int 51), (5, .int 1), (4, .int 52), (3, .int 47), (2, .int 8), (0, .ref 0), (1, .ref 22)]) (stk' := []) (mem' := fm g tp bt a b) (fun _ _ _ => rfl) ?_
                    rw [show (fx_cb .eq 1 0) = false from by decide]
                    dsimp only [cond]
                    refine fe_s 2 (pc' := 83) (lc' := [(6, .int 51), (5, .int 1), (4, .int 52), (3, .int 47), (2, .int 8), (0, .ref 0), (1, .ref 22)]) (stk' := [.int 51, .ref 22]) (mem' := fm g tp bt a b) (fun _ _ _ => rfl) ?_
                    refine fe_chr (i := 51) (by omega) (by rfl) (by rfl) ⟨by rfl, by rfl⟩ (by rfl) ?_
                    rw [show sk_b.getD 51 0 = 115 from rfl]
                    refine fe_s 4 (pc' := 93) (lc' := [(6, .int 51), (5, .int 1), (4, .int 52), (3, .int 47), (2, .int 8), (0, .ref 0), (1, .ref 22)]) (stk' := [.int 51, .int (g 13), .ref 0, .int 115]) (mem' := fm g tp bt a b) (fun _ _ _ => rfl) ?_
                    try rw [h13]
                    refine fe_s 3 (pc' := 96) (lc' := [(6, .int 51), (5, .int 1), (4, .int 52), (3, .int 47), (2, .int 8), (0, .ref 0), (1, .ref 22)]) (stk' := [.int (((nI F) + 51) - 47), .ref 0, .int 115]) (mem' := fm g tp bt a b) (fun _ _ _ => rfl) ?_
                    rw [show (((nI F) + 51) - 47 : Int32) = nI ((F + 51) - 47) from by simp only [show (51 : Int32) = nI 51 from rfl, show (47 : Int32) = nI 47 from rfl, tg_sub2 (x := F + 51) (y := 47) (by omega), nI_add, fm_mul]]
                    refine fe_ivV (fr_byteAt (S := S) (k := (F + 51) - 47) (g := g) (tp := tp) (bt := bt) (a := a) (b := b) h11 (by omega) (by omega)) (by omega) (by rfl) (by rfl) (by rfl) (by rfl) (by rfl) (by rfl) ?_
                    rcases fm_byte_or a S ((F + 51) - 47) with ⟨e19, q20⟩ | ⟨q20, n18, qn18, e19⟩
                    · rw [e19]
                      refine fe_s 1 (pc' := cond (fx_cb .ne 115 (-1)) 106 102) (lc' := [(6, .int 51), (5, .int 1), (4, .int 52), (3, .int 47), (2, .int 8), (0, .ref 0), (1, .ref 22)]) (stk' := []) (mem' := fm g tp bt a b) (fun _ _ _ => rfl) ?_
                      rw [show (fx_cb .ne 115 (-1)) = true from by decide]
                      dsimp only [cond]
                      refine fe_s 4 (pc' := 68) (lc' := [(6, .int (51 + 1)), (5, .int 0), (4, .int 52), (3, .int 47), (2, .int 8), (0, .ref 0), (1, .ref 22)]) (stk' := []) (mem' := fm g tp bt a b) (fun _ _ _ => rfl) ?_
                      rw [show (51 + 1 : Int32) = 52 from rfl]
                      refine fe_s 2 (pc' := 72) (lc' := [(6, .int 52), (5, .int 0), (4, .int 52), (3, .int 47), (2, .int 8), (0, .ref 0), (1, .ref 22)]) (stk' := [.int 52, .int 52]) (mem' := fm g tp bt a b) (fun _ _ _ => rfl) ?_
                      refine fe_s 1 (pc' := cond (fx_cb .ge 52 52) 115 75) (lc' := [(6, .int 52), (5, .int 0), (4, .int 52), (3, .int 47), (2, .int 8), (0, .ref 0), (1, .ref 22)]) (stk' := []) (mem' := fm g tp bt a b) (fun _ _ _ => rfl) ?_
                      rw [show (fx_cb .ge 52 52) = true from by decide]
                      dsimp only [cond]
                      refine fe_s 1 (pc' := 117) (lc' := [(6, .int 52), (5, .int 0), (4, .int 52), (3, .int 47), (2, .int 8), (0, .ref 0), (1, .ref 22)]) (stk' := [.int 0]) (mem' := fm g tp bt a b) (fun _ _ _ => rfl) ?_
                      refine fe_s 1 (pc' := cond (fx_cb .eq 0 0) 122 120) (lc' := [(6, .int 52), (5, .int 0), (4, .int 52), (3, .int 47), (2, .int 8), (0, .ref 0), (1, .ref 22)]) (stk' := []) (mem' := fm g tp bt a b) (fun _ _ _ => rfl) ?_
                      rw [show (fx_cb .eq 0 0) = true from by decide]
                      dsimp only [cond]
                      refine fe_s 4 (pc' := 129) (lc' := [(2, .int (8 + 1)), (6, .int 52), (5, .int 0), (4, .int 52), (3, .int 47), (0, .ref 0), (1, .ref 22)]) (stk' := [.int (52 + 1)]) (mem' := fm g tp bt a b) (fun _ _ _ => rfl) ?_
                      rw [show (8 + 1 : Int32) = 9 from rfl]
                      rw [show (52 + 1 : Int32) = 53 from rfl]
                      refine fe_s 1 (pc' := 130) (lc' := [(3, .int 53), (2, .int 9), (6, .int 52), (5, .int 0), (4, .int 52), (0, .ref 0), (1, .ref 22)]) (stk' := []) (mem' := fm g tp bt a b) (fun _ _ _ => rfl) ?_
                      refine fe_s 1 (pc' := fx_to 130 (-116)) (lc' := [(3, .int 53), (2, .int 9), (6, .int 52), (5, .int 0), (4, .int 52), (0, .ref 0), (1, .ref 22)]) (stk' := []) (mem' := fm g tp bt a b) (fun _ _ _ => rfl) ?_
                      rw [show fx_to 130 (-116) = 14 from by decide]
                      refine fe_w (lc' := [(3, .int 53), (2, .int 9), (0, .ref 0), (1, .ref 22)]) ⟨rfl, rfl, rfl, rfl, trivial⟩ (by show List.Nodup [3, 2, 0, 1]; decide) (by show List.Nodup [3, 2, 6, 5, 4, 0, 1]; decide) ?_
                      exact fw_9 hxp
                    · rw [e19]
                      refine fe_s 1 (pc' := cond (fx_cb .ne 115 (nI n18)) 106 102) (lc' := [(6, .int 51), (5, .int 1), (4, .int 52), (3, .int 47), (2, .int 8), (0, .ref 0), (1, .ref 22)]) (stk' := []) (mem' := fm g tp bt a b) (fun _ _ _ => rfl) ?_
                      by_cases h21 : 115 = n18
                      · rw [show (fx_cb .ne 115 (nI n18)) = false from cb_neF (a := 115) (b := n18) (by omega) (by omega) (by omega)]
                        dsimp only [cond]
                        refine fe_s 4 (pc' := 112) (lc' := [(6, .int (51 + 1)), (5, .int 1), (4, .int 52), (3, .int 47), (2, .int 8), (0, .ref 0), (1, .ref 22)]) (stk' := []) (mem' := fm g tp bt a b) (fun _ _ _ => rfl) ?_
                        rw [show (51 + 1 : Int32) = 52 from rfl]
                        refine fe_s 3 (pc' := 72) (lc' := [(6, .int 52), (5, .int 1), (4, .int 52), (3, .int 47), (2, .int 8), (0, .ref 0), (1, .ref 22)]) (stk' := [.int 52, .int 52]) (mem' := fm g tp bt a b) (fun _ _ _ => rfl) ?_
                        refine fe_s 1 (pc' := cond (fx_cb .ge 52 52) 115 75) (lc' := [(6, .int 52), (5, .int 1), (4, .int 52), (3, .int 47), (2, .int 8), (0, .ref 0), (1, .ref 22)]) (stk' := []) (mem' := fm g tp bt a b) (fun _ _ _ => rfl) ?_
                        rw [show (fx_cb .ge 52 52) = true from by decide]
                        dsimp only [cond]
                        refine fe_s 1 (pc' := 117) (lc' := [(6, .int 52), (5, .int 1), (4, .int 52), (3, .int 47), (2, .int 8), (0, .ref 0), (1, .ref 22)]) (stk' := [.int 1]) (mem' := fm g tp bt a b) (fun _ _ _ => rfl) ?_
                        refine fe_s 1 (pc' := cond (fx_cb .eq 1 0) 122 120) (lc' := [(6, .int 52), (5, .int 1), (4, .int 52), (3, .int 47), (2, .int 8), (0, .ref 0), (1, .ref 22)]) (stk' := []) (mem' := fm g tp bt a b) (fun _ _ _ => rfl) ?_
                        rw [show (fx_cb .eq 1 0) = false from by decide]
                        dsimp only [cond]
                        refine fe_s 1 (pc' := 121) (lc' := [(6, .int 52), (5, .int 1), (4, .int 52), (3, .int 47), (2, .int 8), (0, .ref 0), (1, .ref 22)]) (stk' := [.int 8]) (mem' := fm g tp bt a b) (fun _ _ _ => rfl) ?_
                        exact fe_ret ⟨_, Or.inr ⟨8, by omega, rfl⟩, rfl⟩ (by rfl) (by rfl) (by rfl)
                      · rw [show (fx_cb .ne 115 (nI n18)) = true from cb_neT (a := 115) (b := n18) (by omega) (by omega) (by omega)]
                        dsimp only [cond]
                        refine fe_s 4 (pc' := 68) (lc' := [(6, .int (51 + 1)), (5, .int 0), (4, .int 52), (3, .int 47), (2, .int 8), (0, .ref 0), (1, .ref 22)]) (stk' := []) (mem' := fm g tp bt a b) (fun _ _ _ => rfl) ?_
                        rw [show (51 + 1 : Int32) = 52 from rfl]
                        refine fe_s 2 (pc' := 72) (lc' := [(6, .int 52), (5, .int 0), (4, .int 52), (3, .int 47), (2, .int 8), (0, .ref 0), (1, .ref 22)]) (stk' := [.int 52, .int 52]) (mem' := fm g tp bt a b) (fun _ _ _ => rfl) ?_
                        refine fe_s 1 (pc' := cond (fx_cb .ge 52 52) 115 75) (lc' := [(6, .int 52), (5, .int 0), (4, .int 52), (3, .int 47), (2, .int 8), (0, .ref 0), (1, .ref 22)]) (stk' := []) (mem' := fm g tp bt a b) (fun _ _ _ => rfl) ?_
                        rw [show (fx_cb .ge 52 52) = true from by decide]
                        dsimp only [cond]
                        refine fe_s 1 (pc' := 117) (lc' := [(6, .int 52), (5, .int 0), (4, .int 52), (3, .int 47), (2, .int 8), (0, .ref 0), (1, .ref 22)]) (stk' := [.int 0]) (mem' := fm g tp bt a b) (fun _ _ _ => rfl) ?_
                        refine fe_s 1 (pc' := cond (fx_cb .eq 0 0) 122 120) (lc' := [(6, .int 52), (5, .int 0), (4, .int 52), (3, .int 47), (2, .int 8), (0, .ref 0), (1, .ref 22)]) (stk' := []) (mem' := fm g tp bt a b) (fun _ _ _ => rfl) ?_
                        rw [show (fx_cb .eq 0 0) = true from by decide]
                        dsimp only [cond]
                        refine fe_s 4 (pc' := 129) (lc' := [(2, .int (8 + 1)), (6, .int 52), (5, .int 0), (4, .int 52), (3, .int 47), (0, .ref 0), (1, .ref 22)]) (stk' := [.int (52 + 1)]) (mem' := fm g tp bt a b) (fun _ _ _ => rfl) ?_
                        rw [show (8 + 1 : Int32) = 9 from rfl]
                        rw [show (52 + 1 : Int32) = 53 from rfl]
                        refine fe_s 1 (pc' := 130) (lc' := [(3, .int 53), (2, .int 9), (6, .int 52), (5, .int 0), (4, .int 52), (0, .ref 0), (1, .ref 22)]) (stk' := []) (mem' := fm g tp bt a b) (fun _ _ _ => rfl) ?_
                        refine fe_s 1 (pc' := fx_to 130 (-116)) (lc' := [(3, .int 53), (2, .int 9), (6, .int 52), (5, .int 0), (4, .int 52), (0, .ref 0), (1, .ref 22)]) (stk' := []) (mem' := fm g tp bt a b) (fun _ _ _ => rfl) ?_
                        rw [show fx_to 130 (-116) = 14 from by decide]
                        refine fe_w (lc' := [(3, .int 53), (2, .int 9), (0, .ref 0), (1, .ref 22)]) ⟨rfl, rfl, rfl, rfl, trivial⟩ (by show List.Nodup [3, 2, 0, 1]; decide) (by show List.Nodup [3, 2, 6, 5, 4, 0, 1]; decide) ?_
                        exact fw_9 hxp
                  · rw [show (fx_cb .ne 114 (nI n14)) = true from cb_neT (a := 114) (b := n14) (by omega) (by omega) (by omega)]
                    dsimp only [cond]
                    refine fe_s 4 (pc' := 68) (lc' := [(6, .int (50 + 1)), (5, .int 0), (4, .int 52), (3, .int 47), (2, .int 8), (0, .ref 0), (1, .ref 22)]) (stk' := []) (mem' := fm g tp bt a b) (fun _ _ _ => rfl) ?_
                    rw [show (50 + 1 : Int32) = 51 from rfl]
                    refine fe_s 2 (pc' := 72) (lc' := [(6, .int 51), (5, .int 0), (4, .int 52), (3, .int 47), (2, .int 8), (0, .ref 0), (1, .ref 22)]) (stk' := [.int 52, .int 51]) (mem' := fm g tp bt a b) (fun _ _ _ => rfl) ?_
                    refine fe_s 1 (pc' := cond (fx_cb .ge 51 52) 115 75) (lc' := [(6, .int 51), (5, .int 0), (4, .int 52), (3, .int 47), (2, .int 8), (0, .ref 0), (1, .ref 22)]) (stk' := []) (mem' := fm g tp bt a b) (fun _ _ _ => rfl) ?_
                    rw [show (fx_cb .ge 51 52) = false from by decide]
                    dsimp only [cond]
                    refine fe_s 1 (pc' := 77) (lc' := [(6, .int 51), (5, .int 0), (4, .int 52), (3, .int 47), (2, .int 8), (0, .ref 0), (1, .ref 22)]) (stk' := [.int 0]) (mem' := fm g tp bt a b) (fun _ _ _ => rfl) ?_
                    refine fe_s 1 (pc' := cond (fx_cb .eq 0 0) 115 80) (lc' := [(6, .int 51), (5, .int 0), (4, .int 52), (3, .int 47), (2, .int 8), (0, .ref 0), (1, .ref 22)]) (stk' := []) (mem' := fm g tp bt a b) (fun _ _ _ => rfl) ?_
                    rw [show (fx_cb .eq 0 0) = true from by decide]
                    dsimp only [cond]
                    refine fe_s 1 (pc' := 117) (lc' := [(6, .int 51), (5, .int 0), (4, .int 52), (3, .int 47), (2, .int 8), (0, .ref 0), (1, .ref 22)]) (stk' := [.int 0]) (mem' := fm g tp bt a b) (fun _ _ _ => rfl) ?_
                    refine fe_s 1 (pc' := cond (fx_cb .eq 0 0) 122 120) (lc' := [(6, .int 51), (5, .int 0), (4, .int 52), (3, .int 47), (2, .int 8), (0, .ref 0), (1, .ref 22)]) (stk' := []) (mem' := fm g tp bt a b) (fun _ _ _ => rfl) ?_
                    rw [show (fx_cb .eq 0 0) = true from by decide]
                    dsimp only [cond]
                    refine fe_s 4 (pc' := 129) (lc' := [(2, .int (8 + 1)), (6, .int 51), (5, .int 0), (4, .int 52), (3, .int 47), (0, .ref 0), (1, .ref 22)]) (stk' := [.int (52 + 1)]) (mem' := fm g tp bt a b) (fun _ _ _ => rfl) ?_
                    rw [show (8 + 1 : Int32) = 9 from rfl]
                    rw [show (52 + 1 : Int32) = 53 from rfl]
                    refine fe_s 1 (pc' := 130) (lc' := [(3, .int 53), (2, .int 9), (6, .int 51), (5, .int 0), (4, .int 52), (0, .ref 0), (1, .ref 22)]) (stk' := []) (mem' := fm g tp bt a b) (fun _ _ _ => rfl) ?_
                    refine fe_s 1 (pc' := fx_to 130 (-116)) (lc' := [(3, .int 53), (2, .int 9), (6, .int 51), (5, .int 0), (4, .int 52), (0, .ref 0), (1, .ref 22)]) (stk' := []) (mem' := fm g tp bt a b) (fun _ _ _ => rfl) ?_
                    rw [show fx_to 130 (-116) = 14 from by decide]
                    refine fe_w (lc' := [(3, .int 53), (2, .int 9), (0, .ref 0), (1, .ref 22)]) ⟨rfl, rfl, rfl, rfl, trivial⟩ (by show List.Nodup [3, 2, 0, 1]; decide) (by show List.Nodup [3, 2, 6, 5, 4, 0, 1]; decide) ?_
                    exact fw_9 hxp
              · rw [show (fx_cb .ne 97 (nI n10)) = true from cb_neT (a := 97) (b := n10) (by omega) (by omega) (by omega)]
                dsimp only [cond]
                refine fe_s 4 (pc' := 68) (lc' := [(6, .int (49 + 1)), (5, .int 0), (4, .int 52), (3, .int 47), (2, .int 8), (0, .ref 0), (1, .ref 22)]) (stk' := []) (mem' := fm g tp bt a b) (fun _ _ _ => rfl) ?_
                rw [show (49 + 1 : Int32) = 50 from rfl]
                refine fe_s 2 (pc' := 72) (lc' := [(6, .int 50), (5, .int 0), (4, .int 52), (3, .int 47), (2, .int 8), (0, .ref 0), (1, .ref 22)]) (stk' := [.int 52, .int 50]) (mem' := fm g tp bt a b) (fun _ _ _ => rfl) ?_
                refine fe_s 1 (pc' := cond (fx_cb .ge 50 52) 115 75) (lc' := [(6, .int 50), (5, .int 0), (4, .int 52), (3, .int 47), (2, .int 8), (0, .ref 0), (1, .ref 22)]) (stk' := []) (mem' := fm g tp bt a b) (fun _ _ _ => rfl) ?_
                rw [show (fx_cb .ge 50 52) = false from by decide]
                dsimp only [cond]
                refine fe_s 1 (pc' := 77) (lc' := [(6, .int 50), (5, .int 0), (4, .int 52), (3, .int 47), (2, .int 8), (0, .ref 0), (1, .ref 22)]) (stk' := [.int 0]) (mem' := fm g tp bt a b) (fun _ _ _ => rfl) ?_
                refine fe_s 1 (pc' := cond (fx_cb .eq 0 0) 115 80) (lc' := [(6, .int 50), (5, .int 0), (4, .int 52), (3, .int 47), (2, .int 8), (0, .ref 0), (1, .ref 22)]) (stk' := []) (mem' := fm g tp bt a b) (fun _ _ _ => rfl) ?_
                rw [show (fx_cb .eq 0 0) = true from by decide]
                dsimp only [cond]
                refine fe_s 1 (pc' := 117) (lc' := [(6, .int 50), (5, .int 0), (4, .int 52), (3, .int 47), (2, .int 8), (0, .ref 0), (1, .ref 22)]) (stk' := [.int 0]) (mem' := fm g tp bt a b) (fun _ _ _ => rfl) ?_
                refine fe_s 1 (pc' := cond (fx_cb .eq 0 0) 122 120) (lc' := [(6, .int 50), (5, .int 0), (4, .int 52), (3, .int 47), (2, .int 8), (0, .ref 0), (1, .ref 22)]) (stk' := []) (mem' := fm g tp bt a b) (fun _ _ _ => rfl) ?_
                rw [show (fx_cb .eq 0 0) = true from by decide]
                dsimp only [cond]
                refine fe_s 4 (pc' := 129) (lc' := [(2, .int (8 + 1)), (6, .int 50), (5, .int 0), (4, .int 52), (3, .int 47), (0, .ref 0), (1, .ref 22)]) (stk' := [.int (52 + 1)]) (mem' := fm g tp bt a b) (fun _ _ _ => rfl) ?_
                rw [show (8 + 1 : Int32) = 9 from rfl]
                rw [show (52 + 1 : Int32) = 53 from rfl]
                refine fe_s 1 (pc' := 130) (lc' := [(3, .int 53), (2, .int 9), (6, .int 50), (5, .int 0), (4, .int 52), (0, .ref 0), (1, .ref 22)]) (stk' := []) (mem' := fm g tp bt a b) (fun _ _ _ => rfl) ?_
                refine fe_s 1 (pc' := fx_to 130 (-116)) (lc' := [(3, .int 53), (2, .int 9), (6, .int 50), (5, .int 0), (4, .int 52), (0, .ref 0), (1, .ref 22)]) (stk' := []) (mem' := fm g tp bt a b) (fun _ _ _ => rfl) ?_
                rw [show fx_to 130 (-116) = 14 from by decide]
                refine fe_w (lc' := [(3, .int 53), (2, .int 9), (0, .ref 0), (1, .ref 22)]) ⟨rfl, rfl, rfl, rfl, trivial⟩ (by show List.Nodup [3, 2, 0, 1]; decide) (by show List.Nodup [3, 2, 6, 5, 4, 0, 1]; decide) ?_
                exact fw_9 hxp
          · rw [show (fx_cb .ne 101 (nI n6)) = true from cb_neT (a := 101) (b := n6) (by omega) (by omega) (by omega)]
            dsimp only [cond]
            refine fe_s 4 (pc' := 68) (lc' := [(6, .int (48 + 1)), (5, .int 0), (4, .int 52), (3, .int 47), (2, .int 8), (0, .ref 0), (1, .ref 22)]) (stk' := []) (mem' := fm g tp bt a b) (fun _ _ _ => rfl) ?_
            rw [show (48 + 1 : Int32) = 49 from rfl]
            refine fe_s 2 (pc' := 72) (lc' := [(6, .int 49), (5, .int 0), (4, .int 52), (3, .int 47), (2, .int 8), (0, .ref 0), (1, .ref 22)]) (stk' := [.int 52, .int 49]) (mem' := fm g tp bt a b) (fun _ _ _ => rfl) ?_
            refine fe_s 1 (pc' := cond (fx_cb .ge 49 52) 115 75) (lc' := [(6, .int 49), (5, .int 0), (4, .int 52), (3, .int 47), (2, .int 8), (0, .ref 0), (1, .ref 22)]) (stk' := []) (mem' := fm g tp bt a b) (fun _ _ _ => rfl) ?_
            rw [show (fx_cb .ge 49 52) = false from by decide]
            dsimp only [cond]
            refine fe_s 1 (pc' := 77) (lc' := [(6, .int 49), (5, .int 0), (4, .int 52), (3, .int 47), (2, .int 8), (0, .ref 0), (1, .ref 22)]) (stk' := [.int 0]) (mem' := fm g tp bt a b) (fun _ _ _ => rfl) ?_
            refine fe_s 1 (pc' := cond (fx_cb .eq 0 0) 115 80) (lc' := [(6, .int 49), (5, .int 0), (4, .int 52), (3, .int 47), (2, .int 8), (0, .ref 0), (1, .ref 22)]) (stk' := []) (mem' := fm g tp bt a b) (fun _ _ _ => rfl) ?_
            rw [show (fx_cb .eq 0 0) = true from by decide]
            dsimp only [cond]
            refine fe_s 1 (pc' := 117) (lc' := [(6, .int 49), (5, .int 0), (4, .int 52), (3, .int 47), (2, .int 8), (0, .ref 0), (1, .ref 22)]) (stk' := [.int 0]) (mem' := fm g tp bt a b) (fun _ _ _ => rfl) ?_
            refine fe_s 1 (pc' := cond (fx_cb .eq 0 0) 122 120) (lc' := [(6, .int 49), (5, .int 0), (4, .int 52), (3, .int 47), (2, .int 8), (0, .ref 0), (1, .ref 22)]) (stk' := []) (mem' := fm g tp bt a b) (fun _ _ _ => rfl) ?_
            rw [show (fx_cb .eq 0 0) = true from by decide]
            dsimp only [cond]
            refine fe_s 4 (pc' := 129) (lc' := [(2, .int (8 + 1)), (6, .int 49), (5, .int 0), (4, .int 52), (3, .int 47), (0, .ref 0), (1, .ref 22)]) (stk' := [.int (52 + 1)]) (mem' := fm g tp bt a b) (fun _ _ _ => rfl) ?_
            rw [show (8 + 1 : Int32) = 9 from rfl]
            rw [show (52 + 1 : Int32) = 53 from rfl]
            refine fe_s 1 (pc' := 130) (lc' := [(3, .int 53), (2, .int 9), (6, .int 49), (5, .int 0), (4, .int 52), (0, .ref 0), (1, .ref 22)]) (stk' := []) (mem' := fm g tp bt a b) (fun _ _ _ => rfl) ?_
            refine fe_s 1 (pc' := fx_to 130 (-116)) (lc' := [(3, .int 53), (2, .int 9), (6, .int 49), (5, .int 0), (4, .int 52), (0, .ref 0), (1, .ref 22)]) (stk' := []) (mem' := fm g tp bt a b) (fun _ _ _ => rfl) ?_
            rw [show fx_to 130 (-116) = 14 from by decide]
            refine fe_w (lc' := [(3, .int 53), (2, .int 9), (0, .ref 0), (1, .ref 22)]) ⟨rfl, rfl, rfl, rfl, trivial⟩ (by show List.Nodup [3, 2, 0, 1]; decide) (by show List.Nodup [3, 2, 6, 5, 4, 0, 1]; decide) ?_
            exact fw_9 hxp
      · rw [show (fx_cb .ne 98 (nI n2)) = true from cb_neT (a := 98) (b := n2) (by omega) (by omega) (by omega)]
        dsimp only [cond]
        refine fe_s 4 (pc' := 68) (lc' := [(6, .int (47 + 1)), (5, .int 0), (4, .int 52), (3, .int 47), (2, .int 8), (0, .ref 0), (1, .ref 22)]) (stk' := []) (mem' := fm g tp bt a b) (fun _ _ _ => rfl) ?_
        rw [show (47 + 1 : Int32) = 48 from rfl]
        refine fe_s 2 (pc' := 72) (lc' := [(6, .int 48), (5, .int 0), (4, .int 52), (3, .int 47), (2, .int 8), (0, .ref 0), (1, .ref 22)]) (stk' := [.int 52, .int 48]) (mem' := fm g tp bt a b) (fun _ _ _ => rfl) ?_
        refine fe_s 1 (pc' := cond (fx_cb .ge 48 52) 115 75) (lc' := [(6, .int 48), (5, .int 0), (4, .int 52), (3, .int 47), (2, .int 8), (0, .ref 0), (1, .ref 22)]) (stk' := []) (mem' := fm g tp bt a b) (fun _ _ _ => rfl) ?_
        rw [show (fx_cb .ge 48 52) = false from by decide]
        dsimp only [cond]
        refine fe_s 1 (pc' := 77) (lc' := [(6, .int 48), (5, .int 0), (4, .int 52), (3, .int 47), (2, .int 8), (0, .ref 0), (1, .ref 22)]) (stk' := [.int 0]) (mem' := fm g tp bt a b) (fun _ _ _ => rfl) ?_
        refine fe_s 1 (pc' := cond (fx_cb .eq 0 0) 115 80) (lc' := [(6, .int 48), (5, .int 0), (4, .int 52), (3, .int 47), (2, .int 8), (0, .ref 0), (1, .ref 22)]) (stk' := []) (mem' := fm g tp bt a b) (fun _ _ _ => rfl) ?_
        rw [show (fx_cb .eq 0 0) = true from by decide]
        dsimp only [cond]
        refine fe_s 1 (pc' := 117) (lc' := [(6, .int 48), (5, .int 0), (4, .int 52), (3, .int 47), (2, .int 8), (0, .ref 0), (1, .ref 22)]) (stk' := [.int 0]) (mem' := fm g tp bt a b) (fun _ _ _ => rfl) ?_
        refine fe_s 1 (pc' := cond (fx_cb .eq 0 0) 122 120) (lc' := [(6, .int 48), (5, .int 0), (4, .int 52), (3, .int 47), (2, .int 8), (0, .ref 0), (1, .ref 22)]) (stk' := []) (mem' := fm g tp bt a b) (fun _ _ _ => rfl) ?_
        rw [show (fx_cb .eq 0 0) = true from by decide]
        dsimp only [cond]
        refine fe_s 4 (pc' := 129) (lc' := [(2, .int (8 + 1)), (6, .int 48), (5, .int 0), (4, .int 52), (3, .int 47), (0, .ref 0), (1, .ref 22)]) (stk' := [.int (52 + 1)]) (mem' := fm g tp bt a b) (fun _ _ _ => rfl) ?_
        rw [show (8 + 1 : Int32) = 9 from rfl]
        rw [show (52 + 1 : Int32) = 53 from rfl]
        refine fe_s 1 (pc' := 130) (lc' := [(3, .int 53), (2, .int 9), (6, .int 48), (5, .int 0), (4, .int 52), (0, .ref 0), (1, .ref 22)]) (stk' := []) (mem' := fm g tp bt a b) (fun _ _ _ => rfl) ?_
        refine fe_s 1 (pc' := fx_to 130 (-116)) (lc' := [(3, .int 53), (2, .int 9), (6, .int 48), (5, .int 0), (4, .int 52), (0, .ref 0), (1, .ref 22)]) (stk' := []) (mem' := fm g tp bt a b) (fun _ _ _ => rfl) ?_
        rw [show fx_to 130 (-116) = 14 from by decide]
        refine fe_w (lc' := [(3, .int 53), (2, .int 9), (0, .ref 0), (1, .ref 22)]) ⟨rfl, rfl, rfl, rfl, trivial⟩ (by show List.Nodup [3, 2, 0, 1]; decide) (by show List.Nodup [3, 2, 6, 5, 4, 0, 1]; decide) ?_
        exact fw_9 hxp
  · rw [show (fx_cb .ne 5 (nI (E - F))) = true from cb_neT (a := 5) (b := E - F) (by omega) (by omega) (by omega)]
    dsimp only [cond]
    refine fe_s 4 (pc' := 68) (lc' := [(6, .int 47), (5, .int 0), (4, .int 52), (3, .int 47), (2, .int 8), (0, .ref 0), (1, .ref 22)]) (stk' := []) (mem' := fm g tp bt a b) (fun _ _ _ => rfl) ?_
    refine fe_s 2 (pc' := 72) (lc' := [(6, .int 47), (5, .int 0), (4, .int 52), (3, .int 47), (2, .int 8), (0, .ref 0), (1, .ref 22)]) (stk' := [.int 52, .int 47]) (mem' := fm g tp bt a b) (fun _ _ _ => rfl) ?_
    refine fe_s 1 (pc' := cond (fx_cb .ge 47 52) 115 75) (lc' := [(6, .int 47), (5, .int 0), (4, .int 52), (3, .int 47), (2, .int 8), (0, .ref 0), (1, .ref 22)]) (stk' := []) (mem' := fm g tp bt a b) (fun _ _ _ => rfl) ?_
    rw [show (fx_cb .ge 47 52) = false from by decide]
    dsimp only [cond]
    refine fe_s 1 (pc' := 77) (lc' := [(6, .int 47), (5, .int 0), (4, .int 52), (3, .int 47), (2, .int 8), (0, .ref 0), (1, .ref 22)]) (stk' := [.int 0]) (mem' := fm g tp bt a b) (fun _ _ _ => rfl) ?_
    refine fe_s 1 (pc' := cond (fx_cb .eq 0 0) 115 80) (lc' := [(6, .int 47), (5, .int 0), (4, .int 52), (3, .int 47), (2, .int 8), (0, .ref 0), (1, .ref 22)]) (stk' := []) (mem' := fm g tp bt a b) (fun _ _ _ => rfl) ?_
    rw [show (fx_cb .eq 0 0) = true from by decide]
    dsimp only [cond]
    refine fe_s 1 (pc' := 117) (lc' := [(6, .int 47), (5, .int 0), (4, .int 52), (3, .int 47), (2, .int 8), (0, .ref 0), (1, .ref 22)]) (stk' := [.int 0]) (mem' := fm g tp bt a b) (fun _ _ _ => rfl) ?_
    refine fe_s 1 (pc' := cond (fx_cb .eq 0 0) 122 120) (lc' := [(6, .int 47), (5, .int 0), (4, .int 52), (3, .int 47), (2, .int 8), (0, .ref 0), (1, .ref 22)]) (stk' := []) (mem' := fm g tp bt a b) (fun _ _ _ => rfl) ?_
    rw [show (fx_cb .eq 0 0) = true from by decide]
    dsimp only [cond]
    refine fe_s 4 (pc' := 129) (lc' := [(2, .int (8 + 1)), (6, .int 47), (5, .int 0), (4, .int 52), (3, .int 47), (0, .ref 0), (1, .ref 22)]) (stk' := [.int (52 + 1)]) (mem' := fm g tp bt a b) (fun _ _ _ => rfl) ?_
    rw [show (8 + 1 : Int32) = 9 from rfl]
    rw [show (52 + 1 : Int32) = 53 from rfl]
    refine fe_s 1 (pc' := 130) (lc' := [(3, .int 53), (2, .int 9), (6, .int 47), (5, .int 0), (4, .int 52), (0, .ref 0), (1, .ref 22)]) (stk' := []) (mem' := fm g tp bt a b) (fun _ _ _ => rfl) ?_
    refine fe_s 1 (pc' := fx_to 130 (-116)) (lc' := [(3, .int 53), (2, .int 9), (6, .int 47), (5, .int 0), (4, .int 52), (0, .ref 0), (1, .ref 22)]) (stk' := []) (mem' := fm g tp bt a b) (fun _ _ _ => rfl) ?_
    rw [show fx_to 130 (-116) = 14 from by decide]
    refine fe_w (lc' := [(3, .int 53), (2, .int 9), (0, .ref 0), (1, .ref 22)]) ⟨rfl, rfl, rfl, rfl, trivial⟩ (by show List.Nodup [3, 2, 0, 1]; decide) (by show List.Nodup [3, 2, 6, 5, 4, 0, 1]; decide) ?_
    exact fw_9 hxp
theorem fw_7 {S E F : Nat} (hxp : fm_xp g S E F) : fe_R 1 gk_m226 14 [(3, .int 40), (2, .int 7), (0, .ref 0), (1, .ref 22)] [] (fm g tp bt a b) (fm_FI (fm g tp bt a b)) := by
  obtain ⟨h11, hS9, h14, hES, h13, hFE, -, -, -⟩ := id hxp
  refine fe_s 2 (pc' := 16) (lc' := [(3, .int 40), (2, .int 7), (0, .ref 0), (1, .ref 22)]) (stk' := [.ref 22, .int 40]) (mem' := fm g tp bt a b) (fun _ _ _ => rfl) ?_
  refine fe_s 1 (pc' := 19) (lc' := [(3, .int 40), (2, .int 7), (0, .ref 0), (1, .ref 22)]) (stk' := [.int 117, .int 40]) (mem' := fm g tp bt a b) (fun _ _ _ => rfl) ?_
  refine fe_s 1 (pc' := cond (fx_cb .ge 40 117) 133 22) (lc' := [(3, .int 40), (2, .int 7), (0, .ref 0), (1, .ref 22)]) (stk' := []) (mem' := fm g tp bt a b) (fun _ _ _ => rfl) ?_
  rw [show (fx_cb .ge 40 117) = false from by decide]
  dsimp only [cond]
  refine fe_s 4 (pc' := 28) (lc' := [(4, .int 40), (3, .int 40), (2, .int 7), (0, .ref 0), (1, .ref 22)]) (stk' := [.int 40, .ref 22]) (mem' := fm g tp bt a b) (fun _ _ _ => rfl) ?_
  refine fe_chr (i := 40) (by omega) (by rfl) (by rfl) ⟨by rfl, by rfl⟩ (by rfl) ?_
  rw [show sk_b.getD 40 0 = 98 from rfl]
  refine fe_s 1 (pc' := 33) (lc' := [(4, .int 40), (3, .int 40), (2, .int 7), (0, .ref 0), (1, .ref 22)]) (stk' := [.int 32, .int 98]) (mem' := fm g tp bt a b) (fun _ _ _ => rfl) ?_
  refine fe_s 1 (pc' := cond (fx_cb .eq 98 32) 42 36) (lc' := [(4, .int 40), (3, .int 40), (2, .int 7), (0, .ref 0), (1, .ref 22)]) (stk' := []) (mem' := fm g tp bt a b) (fun _ _ _ => rfl) ?_
  rw [show (fx_cb .eq 98 32) = false from by decide]
  dsimp only [cond]
  refine fe_s 4 (pc' := 28) (lc' := [(4, .int (40 + 1)), (3, .int 40), (2, .int 7), (0, .ref 0), (1, .ref 22)]) (stk' := [.int (40 + 1), .ref 22]) (mem' := fm g tp bt a b) (fun _ _ _ => rfl) ?_
  rw [show (40 + 1 : Int32) = 41 from rfl]
  refine fe_chr (i := 41) (by omega) (by rfl) (by rfl) ⟨by rfl, by rfl⟩ (by rfl) ?_
  rw [show sk_b.getD 41 0 = 101 from rfl]
  refine fe_s 1 (pc' := 33) (lc' := [(4, .int 41), (3, .int 40), (2, .int 7), (0, .ref 0), (1, .ref 22)]) (stk' := [.int 32, .int 101]) (mem' := fm g tp bt a b) (fun _ _ _ => rfl) ?_
  refine fe_s 1 (pc' := cond (fx_cb .eq 101 32) 42 36) (lc' := [(4, .int 41), (3, .int 40), (2, .int 7), (0, .ref 0), (1, .ref 22)]) (stk' := []) (mem' := fm g tp bt a b) (fun _ _ _ => rfl) ?_
  rw [show (fx_cb .eq 101 32) = false from by decide]
  dsimp only [cond]
  refine fe_s 4 (pc' := 28) (lc' := [(4, .int (41 + 1)), (3, .int 40), (2, .int 7), (0, .ref 0), (1, .ref 22)]) (stk' := [.int (41 + 1), .ref 22]) (mem' := fm g tp bt a b) (fun _ _ _ => rfl) ?_
  rw [show (41 + 1 : Int32) = 42 from rfl]
  refine fe_chr (i := 42) (by omega) (by rfl) (by rfl) ⟨by rfl, by rfl⟩ (by rfl) ?_
  rw [show sk_b.getD 42 0 = 116 from rfl]
  refine fe_s 1 (pc' := 33) (lc' := [(4, .int 42), (3, .int 40), (2, .int 7), (0, .ref 0), (1, .ref 22)]) (stk' := [.int 32, .int 116]) (mem' := fm g tp bt a b) (fun _ _ _ => rfl) ?_
  refine fe_s 1 (pc' := cond (fx_cb .eq 116 32) 42 36) (lc' := [(4, .int 42), (3, .int 40), (2, .int 7), (0, .ref 0), (1, .ref 22)]) (stk' := []) (mem' := fm g tp bt a b) (fun _ _ _ => rfl) ?_
  rw [show (fx_cb .eq 116 32) = false from by decide]
  dsimp only [cond]
  refine fe_s 4 (pc' := 28) (lc' := [(4, .int (42 + 1)), (3, .int 40), (2, .int 7), (0, .ref 0), (1, .ref 22)]) (stk' := [.int (42 + 1), .ref 22]) (mem' := fm g tp bt a b) (fun _ _ _ => rfl) ?_
  rw [show (42 + 1 : Int32) = 43 from rfl]
  refine fe_chr (i := 43) (by omega) (by rfl) (by rfl) ⟨by rfl, by rfl⟩ (by rfl) ?_
  rw [show sk_b.getD 43 0 = 116 from rfl]
  refine fe_s 1 (pc' := 33) (lc' := [(4, .int 43), (3, .int 40), (2, .int 7), (0, .ref 0), (1, .ref 22)]) (stk' := [.int 32, .int 116]) (mem' := fm g tp bt a b) (fun _ _ _ => rfl) ?_
  refine fe_s 1 (pc' := cond (fx_cb .eq 116 32) 42 36) (lc' := [(4, .int 43), (3, .int 40), (2, .int 7), (0, .ref 0), (1, .ref 22)]) (stk' := []) (mem' := fm g tp bt a b) (fun _ _ _ => rfl) ?_
  rw [show (fx_cb .eq 116 32) = false from by decide]
  dsimp only [cond]
  refine fe_s 4 (pc' := 28) (lc' := [(4, .int (43 + 1)), (3, .int 40), (2, .int 7), (0, .ref 0), (1, .ref 22)]) (stk' := [.int (43 + 1), .ref 22]) (mem' := fm g tp bt a b) (fun _ _ _ => rfl) ?_
  rw [show (43 + 1 : Int32) = 44 from rfl]
  refine fe_chr (i := 44) (by omega) (by rfl) (by rfl) ⟨by rfl, by rfl⟩ (by rfl) ?_
  rw [show sk_b.getD 44 0 = 101 from rfl]
  refine fe_s 1 (pc' := 33) (lc' := [(4, .int 44), (3, .int 40), (2, .int 7), (0, .ref 0), (1, .ref 22)]) (stk' := [.int 32, .int 101]) (mem' := fm g tp bt a b) (fun _ _ _ => rfl) ?_
  refine fe_s 1 (pc' := cond (fx_cb .eq 101 32) 42 36) (lc' := [(4, .int 44), (3, .int 40), (2, .int 7), (0, .ref 0), (1, .ref 22)]) (stk' := []) (mem' := fm g tp bt a b) (fun _ _ _ => rfl) ?_
  rw [show (fx_cb .eq 101 32) = false from by decide]
  dsimp only [cond]
  refine fe_s 4 (pc' := 28) (lc' := [(4, .int (44 + 1)), (3, .int 40), (2, .int 7), (0, .ref 0), (1, .ref 22)]) (stk' := [.int (44 + 1), .ref 22]) (mem' := fm g tp bt a b) (fun _ _ _ => rfl) ?_
  rw [show (44 + 1 : Int32) = 45 from rfl]
  refine fe_chr (i := 45) (by omega) (by rfl) (by rfl) ⟨by rfl, by rfl⟩ (by rfl) ?_
  rw [show sk_b.getD 45 0 = 114 from rfl]
  refine fe_s 1 (pc' := 33) (lc' := [(4, .int 45), (3, .int 40), (2, .int 7), (0, .ref 0), (1, .ref 22)]) (stk' := [.int 32, .int 114]) (mem' := fm g tp bt a b) (fun _ _ _ => rfl) ?_
  refine fe_s 1 (pc' := cond (fx_cb .eq 114 32) 42 36) (lc' := [(4, .int 45), (3, .int 40), (2, .int 7), (0, .ref 0), (1, .ref 22)]) (stk' := []) (mem' := fm g tp bt a b) (fun _ _ _ => rfl) ?_
  rw [show (fx_cb .eq 114 32) = false from by decide]
  dsimp only [cond]
  refine fe_s 4 (pc' := 28) (lc' := [(4, .int (45 + 1)), (3, .int 40), (2, .int 7), (0, .ref 0), (1, .ref 22)]) (stk' := [.int (45 + 1), .ref 22]) (mem' := fm g tp bt a b) (fun _ _ _ => rfl) ?_
  rw [show (45 + 1 : Int32) = 46 from rfl]
  refine fe_chr (i := 46) (by omega) (by rfl) (by rfl) ⟨by rfl, by rfl⟩ (by rfl) ?_
  rw [show sk_b.getD 46 0 = 32 from rfl]
  refine fe_s 1 (pc' := 33) (lc' := [(4, .int 46), (3, .int 40), (2, .int 7), (0, .ref 0), (1, .ref 22)]) (stk' := [.int 32, .int 32]) (mem' := fm g tp bt a b) (fun _ _ _ => rfl) ?_
  refine fe_s 1 (pc' := cond (fx_cb .eq 32 32) 42 36) (lc' := [(4, .int 46), (3, .int 40), (2, .int 7), (0, .ref 0), (1, .ref 22)]) (stk' := []) (mem' := fm g tp bt a b) (fun _ _ _ => rfl) ?_
  rw [show (fx_cb .eq 32 32) = true from by decide]
  dsimp only [cond]
  refine fe_s 4 (pc' := 47) (lc' := [(4, .int 46), (3, .int 40), (2, .int 7), (0, .ref 0), (1, .ref 22)]) (stk' := [.ref 0, .int (46 - 40)]) (mem' := fm g tp bt a b) (fun _ _ _ => rfl) ?_
  rw [show (46 - 40 : Int32) = 6 from rfl]
  refine fe_s 4 (pc' := 55) (lc' := [(4, .int 46), (3, .int 40), (2, .int 7), (0, .ref 0), (1, .ref 22)]) (stk' := [.int ((g 14) - (g 13)), .int 6]) (mem' := fm g tp bt a b) (fun _ _ _ => rfl) ?_
  try rw [h14]
  try rw [h13]
  rw [show ((nI E) - (nI F) : Int32) = nI (E - F) from by simp only [tg_sub2 (x := E) (y := F) (by omega), nI_add, fm_mul]]
  refine fe_s 1 (pc' := cond (fx_cb .ne 6 (nI (E - F))) 62 58) (lc' := [(4, .int 46), (3, .int 40), (2, .int 7), (0, .ref 0), (1, .ref 22)]) (stk' := []) (mem' := fm g tp bt a b) (fun _ _ _ => rfl) ?_
  by_cases h1 : 6 = (E - F)
  · rw [show (fx_cb .ne 6 (nI (E - F))) = false from cb_neF (a := 6) (b := E - F) (by omega) (by omega) (by omega)]
    dsimp only [cond]
    refine fe_s 4 (pc' := 66) (lc' := [(5, .int 1), (4, .int 46), (3, .int 40), (2, .int 7), (0, .ref 0), (1, .ref 22)]) (stk' := [.int 40]) (mem' := fm g tp bt a b) (fun _ _ _ => rfl) ?_
    refine fe_s 3 (pc' := 72) (lc' := [(6, .int 40), (5, .int 1), (4, .int 46), (3, .int 40), (2, .int 7), (0, .ref 0), (1, .ref 22)]) (stk' := [.int 46, .int 40]) (mem' := fm g tp bt a b) (fun _ _ _ => rfl) ?_
    refine fe_s 1 (pc' := cond (fx_cb .ge 40 46) 115 75) (lc' := [(6, .int 40), (5, .int 1), (4, .int 46), (3, .int 40), (2, .int 7), (0, .ref 0), (1, .ref 22)]) (stk' := []) (mem' := fm g tp bt a b) (fun _ _ _ => rfl) ?_
    rw [show (fx_cb .ge 40 46) = false from by decide]
    dsimp only [cond]
    refine fe_s 1 (pc' := 77) (lc' := [(6, .int 40), (5, .int 1), (4, .int 46), (3, .int 40), (2, .int 7), (0, .ref 0), (1, .ref 22)]) (stk' := [.int 1]) (mem' := fm g tp bt a b) (fun _ _ _ => rfl) ?_
    refine fe_s 1 (pc' := cond (fx_cb .eq 1 0) 115 80) (lc' := [(6, .int 40), (5, .int 1), (4, .int 46), (3, .int 40), (2, .int 7), (0, .ref 0), (1, .ref 22)]) (stk' := []) (mem' := fm g tp bt a b) (fun _ _ _ => rfl) ?_
    rw [show (fx_cb .eq 1 0) = false from by decide]
    dsimp only [cond]
    refine fe_s 2 (pc' := 83) (lc' := [(6, .int 40), (5, .int 1), (4, .int 46), (3, .int 40), (2, .int 7), (0, .ref 0), (1, .ref 22)]) (stk' := [.int 40, .ref 22]) (mem' := fm g tp bt a b) (fun _ _ _ => rfl) ?_
    refine fe_chr (i := 40) (by omega) (by rfl) (by rfl) ⟨by rfl, by rfl⟩ (by rfl) ?_
    rw [show sk_b.getD 40 0 = 98 from rfl]
    refine fe_s 4 (pc' := 93) (lc' := [(6, .int 40), (5, .int 1), (4, .int 46), (3, .int 40), (2, .int 7), (0, .ref 0), (1, .ref 22)]) (stk' := [.int 40, .int (g 13), .ref 0, .int 98]) (mem' := fm g tp bt a b) (fun _ _ _ => rfl) ?_
    try rw [h13]
    refine fe_s 3 (pc' := 96) (lc' := [(6, .int 40), (5, .int 1), (4, .int 46), (3, .int 40), (2, .int 7), (0, .ref 0), (1, .ref 22)]) (stk' := [.int (((nI F) + 40) - 40), .ref 0, .int 98]) (mem' := fm g tp bt a b) (fun _ _ _ => rfl) ?_
    rw [show (((nI F) + 40) - 40 : Int32) = nI ((F + 40) - 40) from by simp only [show (40 : Int32) = nI 40 from rfl, tg_sub2 (x := F + 40) (y := 40) (by omega), nI_add, fm_mul]]
    refine fe_ivV (fr_byteAt (S := S) (k := (F + 40) - 40) (g := g) (tp := tp) (bt := bt) (a := a) (b := b) h11 (by omega) (by omega)) (by omega) (by rfl) (by rfl) (by rfl) (by rfl) (by rfl) (by rfl) ?_
    rcases fm_byte_or a S ((F + 40) - 40) with ⟨e3, q4⟩ | ⟨q4, n2, qn2, e3⟩
    · rw [e3]
      refine fe_s 1 (pc' := cond (fx_cb .ne 98 (-1)) 106 102) (lc' := [(6, .int 40), (5, .int 1), (4, .int 46), (3, .int 40), (2, .int 7), (0, .ref 0), (1, .ref 22)]) (stk' := []) (mem' := fm g tp bt a b) (fun _ _ _ => rfl) ?_
      rw [show (fx_cb .ne 98 (-1)) = true from by decide]
      dsimp only [cond]
      refine fe_s 4 (pc' := 68) (lc' := [(6, .int (40 + 1)), (5, .int 0), (4, .int 46), (3, .int 40), (2, .int 7), (0, .ref 0), (1, .ref 22)]) (stk' := []) (mem' := fm g tp bt a b) (fun _ _ _ => rfl) ?_
      rw [show (40 + 1 : Int32) = 41 from rfl]
      refine fe_s 2 (pc' := 72) (lc' := [(6, .int 41), (5, .int 0), (4, .int 46), (3, .int 40), (2, .int 7), (0, .ref 0), (1, .ref 22)]) (stk' := [.int 46, .int 41]) (mem' := fm g tp bt a b) (fun _ _ _ => rfl) ?_
      refine fe_s 1 (pc' := cond (fx_cb .ge 41 46) 115 75) (lc' := [(6, .int 41), (5, .int 0), (4, .int 46), (3, .int 40), (2, .int 7), (0, .ref 0), (1, .ref 22)]) (stk' := []) (mem' := fm g tp bt a b) (fun _ _ _ => rfl) ?_
      rw [show (fx_cb .ge 41 46) = false from by decide]
      dsimp only [cond]
      refine fe_s 1 (pc' := 77) (lc' := [(6, .int 41), (5, .int 0), (4, .int 46), (3, .int 40), (2, .int 7), (0, .ref 0), (1, .ref 22)]) (stk' := [.int 0]) (mem' := fm g tp bt a b) (fun _ _ _ => rfl) ?_
      refine fe_s 1 (pc' := cond (fx_cb .eq 0 0) 115 80) (lc' := [(6, .int 41), (5, .int 0), (4, .int 46), (3, .int 40), (2, .int 7), (0, .ref 0), (1, .ref 22)]) (stk' := []) (mem' := fm g tp bt a b) (fun _ _ _ => rfl) ?_
      rw [show (fx_cb .eq 0 0) = true from by decide]
      dsimp only [cond]
      refine fe_s 1 (pc' := 117) (lc' := [(6, .int 41), (5, .int 0), (4, .int 46), (3, .int 40), (2, .int 7), (0, .ref 0), (1, .ref 22)]) (stk' := [.int 0]) (mem' := fm g tp bt a b) (fun _ _ _ => rfl) ?_
      refine fe_s 1 (pc' := cond (fx_cb .eq 0 0) 122 120) (lc' := [(6, .int 41), (5, .int 0), (4, .int 46), (3, .int 40), (2, .int 7), (0, .ref 0), (1, .ref 22)]) (stk' := []) (mem' := fm g tp bt a b) (fun _ _ _ => rfl) ?_
      rw [show (fx_cb .eq 0 0) = true from by decide]
      dsimp only [cond]
      refine fe_s 4 (pc' := 129) (lc' := [(2, .int (7 + 1)), (6, .int 41), (5, .int 0), (4, .int 46), (3, .int 40), (0, .ref 0), (1, .ref 22)]) (stk' := [.int (46 + 1)]) (mem' := fm g tp bt a b) (fun _ _ _ => rfl) ?_
      rw [show (7 + 1 : Int32) = 8 from rfl]
      rw [show (46 + 1 : Int32) = 47 from rfl]
      refine fe_s 1 (pc' := 130) (lc' := [(3, .int 47), (2, .int 8), (6, .int 41), (5, .int 0), (4, .int 46), (0, .ref 0), (1, .ref 22)]) (stk' := []) (mem' := fm g tp bt a b) (fun _ _ _ => rfl) ?_
      refine fe_s 1 (pc' := fx_to 130 (-116)) (lc' := [(3, .int 47), (2, .int 8), (6, .int 41), (5, .int 0), (4, .int 46), (0, .ref 0), (1, .ref 22)]) (stk' := []) (mem' := fm g tp bt a b) (fun _ _ _ => rfl) ?_
      rw [show fx_to 130 (-116) = 14 from by decide]
      refine fe_w (lc' := [(3, .int 47), (2, .int 8), (0, .ref 0), (1, .ref 22)]) ⟨rfl, rfl, rfl, rfl, trivial⟩ (by show List.Nodup [3, 2, 0, 1]; decide) (by show List.Nodup [3, 2, 6, 5, 4, 0, 1]; decide) ?_
      exact fw_8 hxp
    · rw [e3]
      refine fe_s 1 (pc' := cond (fx_cb .ne 98 (nI n2)) 106 102) (lc' := [(6, .int 40), (5, .int 1), (4, .int 46), (3, .int 40), (2, .int 7), (0, .ref 0), (1, .ref 22)]) (stk' := []) (mem' := fm g tp bt a b) (fun _ _ _ => rfl) ?_
      by_cases h5 : 98 = n2
      · rw [show (fx_cb .ne 98 (nI n2)) = false from cb_neF (a := 98) (b := n2) (by omega) (by omega) (by omega)]
        dsimp only [cond]
        refine fe_s 4 (pc' := 112) (lc' := [(6, .int (40 + 1)), (5, .int 1), (4, .int 46), (3, .int 40), (2, .int 7), (0, .ref 0), (1, .ref 22)]) (stk' := []) (mem' := fm g tp bt a b) (fun _ _ _ => rfl) ?_
        rw [show (40 + 1 : Int32) = 41 from rfl]
        refine fe_s 3 (pc' := 72) (lc' := [(6, .int 41), (5, .int 1), (4, .int 46), (3, .int 40), (2, .int 7), (0, .ref 0), (1, .ref 22)]) (stk' := [.int 46, .int 41]) (mem' := fm g tp bt a b) (fun _ _ _ => rfl) ?_
        refine fe_s 1 (pc' := cond (fx_cb .ge 41 46) 115 75) (lc' := [(6, .int 41), (5, .int 1), (4, .int 46), (3, .int 40), (2, .int 7), (0, .ref 0), (1, .ref 22)]) (stk' := []) (mem' := fm g tp bt a b) (fun _ _ _ => rfl) ?_
        rw [show (fx_cb .ge 41 46) = false from by decide]
        dsimp only [cond]
        refine fe_s 1 (pc' := 77) (lc' := [(6, .int 41), (5, .int 1), (4, .int 46), (3, .int 40), (2, .int 7), (0, .ref 0), (1, .ref 22)]) (stk' := [.int 1]) (mem' := fm g tp bt a b) (fun _ _ _ => rfl) ?_
        refine fe_s 1 (pc' := cond (fx_cb .eq 1 0) 115 80) (lc' := [(6, .int 41), (5, .int 1), (4, .int 46), (3, .int 40), (2, .int 7), (0, .ref 0), (1, .ref 22)]) (stk' := []) (mem' := fm g tp bt a b) (fun _ _ _ => rfl) ?_
        rw [show (fx_cb .eq 1 0) = false from by decide]
        dsimp only [cond]
        refine fe_s 2 (pc' := 83) (lc' := [(6, .int 41), (5, .int 1), (4, .int 46), (3, .int 40), (2, .int 7), (0, .ref 0), (1, .ref 22)]) (stk' := [.int 41, .ref 22]) (mem' := fm g tp bt a b) (fun _ _ _ => rfl) ?_
        refine fe_chr (i := 41) (by omega) (by rfl) (by rfl) ⟨by rfl, by rfl⟩ (by rfl) ?_
        rw [show sk_b.getD 41 0 = 101 from rfl]
        refine fe_s 4 (pc' := 93) (lc' := [(6, .int 41), (5, .int 1), (4, .int 46), (3, .int 40), (2, .int 7), (0, .ref 0), (1, .ref 22)]) (stk' := [.int 41, .int (g 13), .ref 0, .int 101]) (mem' := fm g tp bt a b) (fun _ _ _ => rfl) ?_
        try rw [h13]
        refine fe_s 3 (pc' := 96) (lc' := [(6, .int 41), (5, .int 1), (4, .int 46), (3, .int 40), (2, .int 7), (0, .ref 0), (1, .ref 22)]) (stk' := [.int (((nI F) + 41) - 40), .ref 0, .int 101]) (mem' := fm g tp bt a b) (fun _ _ _ => rfl) ?_
        rw [show (((nI F) + 41) - 40 : Int32) = nI ((F + 41) - 40) from by simp only [show (41 : Int32) = nI 41 from rfl, show (40 : Int32) = nI 40 from rfl, tg_sub2 (x := F + 41) (y := 40) (by omega), nI_add, fm_mul]]
        refine fe_ivV (fr_byteAt (S := S) (k := (F + 41) - 40) (g := g) (tp := tp) (bt := bt) (a := a) (b := b) h11 (by omega) (by omega)) (by omega) (by rfl) (by rfl) (by rfl) (by rfl) (by rfl) (by rfl) ?_
        rcases fm_byte_or a S ((F + 41) - 40) with ⟨e7, q8⟩ | ⟨q8, n6, qn6, e7⟩
        · rw [e7]
          refine fe_s 1 (pc' := cond (fx_cb .ne 101 (-1)) 106 102) (lc' := [(6, .int 41), (5, .int 1), (4, .int 46), (3, .int 40), (2, .int 7), (0, .ref 0), (1, .ref 22)]) (stk' := []) (mem' := fm g tp bt a b) (fun _ _ _ => rfl) ?_
          rw [show (fx_cb .ne 101 (-1)) = true from by decide]
          dsimp only [cond]
          refine fe_s 4 (pc' := 68) (lc' := [(6, .int (41 + 1)), (5, .int 0), (4, .int 46), (3, .int 40), (2, .int 7), (0, .ref 0), (1, .ref 22)]) (stk' := []) (mem' := fm g tp bt a b) (fun _ _ _ => rfl) ?_
          rw [show (41 + 1 : Int32) = 42 from rfl]
          refine fe_s 2 (pc' := 72) (lc' := [(6, .int 42), (5, .int 0), (4, .int 46), (3, .int 40), (2, .int 7), (0, .ref 0), (1, .ref 22)]) (stk' := [.int 46, .int 42]) (mem' := fm g tp bt a b) (fun _ _ _ => rfl) ?_
          refine fe_s 1 (pc' := cond (fx_cb .ge 42 46) 115 75) (lc' := [(6, .int 42), (5, .int 0), (4, .int 46), (3, .int 40), (2, .int 7), (0, .ref 0), (1, .ref 22)]) (stk' := []) (mem' := fm g tp bt a b) (fun _ _ _ => rfl) ?_
          rw [show (fx_cb .ge 42 46) = false from by decide]
          dsimp only [cond]
          refine fe_s 1 (pc' := 77) (lc' := [(6, .int 42), (5, .int 0), (4, .int 46), (3, .int 40), (2, .int 7), (0, .ref 0), (1, .ref 22)]) (stk' := [.int 0]) (mem' := fm g tp bt a b) (fun _ _ _ => rfl) ?_
          refine fe_s 1 (pc' := cond (fx_cb .eq 0 0) 115 80) (lc' := [(6, .int 42), (5, .int 0), (4, .int 46), (3, .int 40), (2, .int 7), (0, .ref 0), (1, .ref 22)]) (stk' := []) (mem' := fm g tp bt a b) (fun _ _ _ => rfl) ?_
          rw [show (fx_cb .eq 0 0) = true from by decide]
          dsimp only [cond]
          refine fe_s 1 (pc' := 117) (lc' := [(6, .int 42), (5, .int 0), (4, .int 46), (3, .int 40), (2, .int 7), (0, .ref 0), (1, .ref 22)]) (stk' := [.int 0]) (mem' := fm g tp bt a b) (fun _ _ _ => rfl) ?_
          refine fe_s 1 (pc' := cond (fx_cb .eq 0 0) 122 120) (lc' := [(6, .int 42), (5, .int 0), (4, .int 46), (3, .int 40), (2, .int 7), (0, .ref 0), (1, .ref 22)]) (stk' := []) (mem' := fm g tp bt a b) (fun _ _ _ => rfl) ?_
          rw [show (fx_cb .eq 0 0) = true from by decide]
          dsimp only [cond]
          refine fe_s 4 (pc' := 129) (lc' := [(2, .int (7 + 1)), (6, .int 42), (5, .int 0), (4, .int 46), (3, .int 40), (0, .ref 0), (1, .ref 22)]) (stk' := [.int (46 + 1)]) (mem' := fm g tp bt a b) (fun _ _ _ => rfl) ?_
          rw [show (7 + 1 : Int32) = 8 from rfl]
          rw [show (46 + 1 : Int32) = 47 from rfl]
          refine fe_s 1 (pc' := 130) (lc' := [(3, .int 47), (2, .int 8), (6, .int 42), (5, .int 0), (4, .int 46), (0, .ref 0), (1, .ref 22)]) (stk' := []) (mem' := fm g tp bt a b) (fun _ _ _ => rfl) ?_
          refine fe_s 1 (pc' := fx_to 130 (-116)) (lc' := [(3, .int 47), (2, .int 8), (6, .int 42), (5, .int 0), (4, .int 46), (0, .ref 0), (1, .ref 22)]) (stk' := []) (mem' := fm g tp bt a b) (fun _ _ _ => rfl) ?_
          rw [show fx_to 130 (-116) = 14 from by decide]
          refine fe_w (lc' := [(3, .int 47), (2, .int 8), (0, .ref 0), (1, .ref 22)]) ⟨rfl, rfl, rfl, rfl, trivial⟩ (by show List.Nodup [3, 2, 0, 1]; decide) (by show List.Nodup [3, 2, 6, 5, 4, 0, 1]; decide) ?_
          exact fw_8 hxp
        · rw [e7]
          refine fe_s 1 (pc' := cond (fx_cb .ne 101 (nI n6)) 106 102) (lc' := [(6, .int 41), (5, .int 1), (4, .int 46), (3, .int 40), (2, .int 7), (0, .ref 0), (1, .ref 22)]) (stk' := []) (mem' := fm g tp bt a b) (fun _ _ _ => rfl) ?_
          by_cases h9 : 101 = n6
          · rw [show (fx_cb .ne 101 (nI n6)) = false from cb_neF (a := 101) (b := n6) (by omega) (by omega) (by omega)]
            dsimp only [cond]
            refine fe_s 4 (pc' := 112) (lc' := [(6, .int (41 + 1)), (5, .int 1), (4, .int 46), (3, .int 40), (2, .int 7), (0, .ref 0), (1, .ref 22)]) (stk' := []) (mem' := fm g tp bt a b) (fun _ _ _ => rfl) ?_
            rw [show (41 + 1 : Int32) = 42 from rfl]
            refine fe_s 3 (pc' := 72) (lc' := [(6, .int 42), (5, .int 1), (4, .int 46), (3, .int 40), (2, .int 7), (0, .ref 0), (1, .ref 22)]) (stk' := [.int 46, .int 42]) (mem' := fm g tp bt a b) (fun _ _ _ => rfl) ?_
            refine fe_s 1 (pc' := cond (fx_cb .ge 42 46) 115 75) (lc' := [(6, .int 42), (5, .int 1), (4, .int 46), (3, .int 40), (2, .int 7), (0, .ref 0), (1, .ref 22)]) (stk' := []) (mem' := fm g tp bt a b) (fun _ _ _ => rfl) ?_
            rw [show (fx_cb .ge 42 46) = false from by decide]
            dsimp only [cond]
            refine fe_s 1 (pc' := 77) (lc' := [(6, .int 42), (5, .int 1), (4, .int 46), (3, .int 40), (2, .int 7), (0, .ref 0), (1, .ref 22)]) (stk' := [.int 1]) (mem' := fm g tp bt a b) (fun _ _ _ => rfl) ?_
            refine fe_s 1 (pc' := cond (fx_cb .eq 1 0) 115 80) (lc' := [(6, .int 42), (5, .int 1), (4, .int 46), (3, .int 40), (2, .int 7), (0, .ref 0), (1, .ref 22)]) (stk' := []) (mem' := fm g tp bt a b) (fun _ _ _ => rfl) ?_
            rw [show (fx_cb .eq 1 0) = false from by decide]
            dsimp only [cond]
            refine fe_s 2 (pc' := 83) (lc' := [(6, .int 42), (5, .int 1), (4, .int 46), (3, .int 40), (2, .int 7), (0, .ref 0), (1, .ref 22)]) (stk' := [.int 42, .ref 22]) (mem' := fm g tp bt a b) (fun _ _ _ => rfl) ?_
            refine fe_chr (i := 42) (by omega) (by rfl) (by rfl) ⟨by rfl, by rfl⟩ (by rfl) ?_
            rw [show sk_b.getD 42 0 = 116 from rfl]
            refine fe_s 4 (pc' := 93) (lc' := [(6, .int 42), (5, .int 1), (4, .int 46), (3, .int 40), (2, .int 7), (0, .ref 0), (1, .ref 22)]) (stk' := [.int 42, .int (g 13), .ref 0, .int 116]) (mem' := fm g tp bt a b) (fun _ _ _ => rfl) ?_
            try rw [h13]
            refine fe_s 3 (pc' := 96) (lc' := [(6, .int 42), (5, .int 1), (4, .int 46), (3, .int 40), (2, .int 7), (0, .ref 0), (1, .ref 22)]) (stk' := [.int (((nI F) + 42) - 40), .ref 0, .int 116]) (mem' := fm g tp bt a b) (fun _ _ _ => rfl) ?_
            rw [show (((nI F) + 42) - 40 : Int32) = nI ((F + 42) - 40) from by simp only [show (42 : Int32) = nI 42 from rfl, show (40 : Int32) = nI 40 from rfl, tg_sub2 (x := F + 42) (y := 40) (by omega), nI_add, fm_mul]]
            refine fe_ivV (fr_byteAt (S := S) (k := (F + 42) - 40) (g := g) (tp := tp) (bt := bt) (a := a) (b := b) h11 (by omega) (by omega)) (by omega) (by rfl) (by rfl) (by rfl) (by rfl) (by rfl) (by rfl) ?_
            rcases fm_byte_or a S ((F + 42) - 40) with ⟨e11, q12⟩ | ⟨q12, n10, qn10, e11⟩
            · rw [e11]
              refine fe_s 1 (pc' := cond (fx_cb .ne 116 (-1)) 106 102) (lc' := [(6, .int 42), (5, .int 1), (4, .int 46), (3, .int 40), (2, .int 7), (0, .ref 0), (1, .ref 22)]) (stk' := []) (mem' := fm g tp bt a b) (fun _ _ _ => rfl) ?_
              rw [show (fx_cb .ne 116 (-1)) = true from by decide]
              dsimp only [cond]
              refine fe_s 4 (pc' := 68) (lc' := [(6, .int (42 + 1)), (5, .int 0), (4, .int 46), (3, .int 40), (2, .int 7), (0, .ref 0), (1, .ref 22)]) (stk' := []) (mem' := fm g tp bt a b) (fun _ _ _ => rfl) ?_
              rw [show (42 + 1 : Int32) = 43 from rfl]
              refine fe_s 2 (pc' := 72) (lc' := [(6, .int 43), (5, .int 0), (4, .int 46), (3, .int 40), (2, .int 7), (0, .ref 0), (1, .ref 22)]) (stk' := [.int 46, .int 43]) (mem' := fm g tp bt a b) (fun _ _ _ => rfl) ?_
              refine fe_s 1 (pc' := cond (fx_cb .ge 43 46) 115 75) (lc' := [(6, .int 43), (5, .int 0), (4, .int 46), (3, .int 40), (2, .int 7), (0, .ref 0), (1, .ref 22)]) (stk' := []) (mem' := fm g tp bt a b) (fun _ _ _ => rfl) ?_
              rw [show (fx_cb .ge 43 46) = false from by decide]
              dsimp only [cond]
              refine fe_s 1 (pc' := 77) (lc' := [(6, .int 43), (5, .int 0), (4, .int 46), (3, .int 40), (2, .int 7), (0, .ref 0), (1, .ref 22)]) (stk' := [.int 0]) (mem' := fm g tp bt a b) (fun _ _ _ => rfl) ?_
              refine fe_s 1 (pc' := cond (fx_cb .eq 0 0) 115 80) (lc' := [(6, .int 43), (5, .int 0), (4, .int 46), (3, .int 40), (2, .int 7), (0, .ref 0), (1, .ref 22)]) (stk' := []) (mem' := fm g tp bt a b) (fun _ _ _ => rfl) ?_
              rw [show (fx_cb .eq 0 0) = true from by decide]
              dsimp only [cond]
              refine fe_s 1 (pc' := 117) (lc' := [(6, .int 43), (5, .int 0), (4, .int 46), (3, .int 40), (2, .int 7), (0, .ref 0), (1, .ref 22)]) (stk' := [.int 0]) (mem' := fm g tp bt a b) (fun _ _ _ => rfl) ?_
              refine fe_s 1 (pc' := cond (fx_cb .eq 0 0) 122 120) (lc' := [(6, .int 43), (5, .int 0), (4, .int 46), (3, .int 40), (2, .int 7), (0, .ref 0), (1, .ref 22)]) (stk' := []) (mem' := fm g tp bt a b) (fun _ _ _ => rfl) ?_
              rw [show (fx_cb .eq 0 0) = true from by decide]
              dsimp only [cond]
              refine fe_s 4 (pc' := 129) (lc' := [(2, .int (7 + 1)), (6, .int 43), (5, .int 0), (4, .int 46), (3, .int 40), (0, .ref 0), (1, .ref 22)]) (stk' := [.int (46 + 1)]) (mem' := fm g tp bt a b) (fun _ _ _ => rfl) ?_
              rw [show (7 + 1 : Int32) = 8 from rfl]
              rw [show (46 + 1 : Int32) = 47 from rfl]
              refine fe_s 1 (pc' := 130) (lc' := [(3, .int 47), (2, .int 8), (6, .int 43), (5, .int 0), (4, .int 46), (0, .ref 0), (1, .ref 22)]) (stk' := []) (mem' := fm g tp bt a b) (fun _ _ _ => rfl) ?_
              refine fe_s 1 (pc' := fx_to 130 (-116)) (lc' := [(3, .int 47), (2, .int 8), (6, .int 43), (5, .int 0), (4, .int 46), (0, .ref 0), (1, .ref 22)]) (stk' := []) (mem' := fm g tp bt a b) (fun _ _ _ => rfl) ?_
              rw [show fx_to 130 (-116) = 14 from by decide]
              refine fe_w (lc' := [(3, .int 47), (2, .int 8), (0, .ref 0), (1, .ref 22)]) ⟨rfl, rfl, rfl, rfl, trivial⟩ (by show List.Nodup [3, 2, 0, 1]; decide) (by show List.Nodup [3, 2, 6, 5, 4, 0, 1]; decide) ?_
              exact fw_8 hxp
            · rw [e11]
              refine fe_s 1 (pc' := cond (fx_cb .ne 116 (nI n10)) 106 102) (lc' := [(6, .int 42), (5, .int 1), (4, .int 46), (3, .int 40), (2, .int 7), (0, .ref 0), (1, .ref 22)]) (stk' := []) (mem' := fm g tp bt a b) (fun _ _ _ => rfl) ?_
              by_cases h13 : 116 = n10
              · rw [show (fx_cb .ne 116 (nI n10)) = false from cb_neF (a := 116) (b := n10) (by omega) (by omega) (by omega)]
                dsimp only [cond]
                refine fe_s 4 (pc' := 112) (lc' := [(6, .int (42 + 1)), (5, .int 1), (4, .int 46), (3, .int 40), (2, .int 7), (0, .ref 0), (1, .ref 22)]) (stk' := []) (mem' := fm g tp bt a b) (fun _ _ _ => rfl) ?_
                rw [show (42 + 1 : Int32) = 43 from rfl]
                refine fe_s 3 (pc' := 72) (lc' := [(6, .int 43), (5, .int 1), (4, .int 46), (3, .int 40), (2, .int 7), (0, .ref 0), (1, .ref 22)]) (stk' := [.int 46, .int 43]) (mem' := fm g tp bt a b) (fun _ _ _ => rfl) ?_
                refine fe_s 1 (pc' := cond (fx_cb .ge 43 46) 115 75) (lc' := [(6, .int 43), (5, .int 1), (4, .int 46), (3, .int 40), (2, .int 7), (0, .ref 0), (1, .ref 22)]) (stk' := []) (mem' := fm g tp bt a b) (fun _ _ _ => rfl) ?_
                rw [show (fx_cb .ge 43 46) = false from by decide]
                dsimp only [cond]
                refine fe_s 1 (pc' := 77) (lc' := [(6, .int 43), (5, .int 1), (4, .int 46), (3, .int 40), (2, .int 7), (0, .ref 0), (1, .ref 22)]) (stk' := [.int 1]) (mem' := fm g tp bt a b) (fun _ _ _ => rfl) ?_
                refine fe_s 1 (pc' := cond (fx_cb .eq 1 0) 115 80) (lc' := [(6, .int 43), (5, .int 1), (4, .int 46), (3, .int 40), (2, .int 7), (0, .ref 0), (1, .ref 22)]) (stk' := []) (mem' := fm g tp bt a b) (fun _ _ _ => rfl) ?_
                rw [show (fx_cb .eq 1 0) = false from by decide]
                dsimp only [cond]
                refine fe_s 2 (pc' := 83) (lc' := [(6, .int 43), (5, .int 1), (4, .int 46), (3, .int 40), (2, .int 7), (0, .ref 0), (1, .ref 22)]) (stk' := [.int 43, .ref 22]) (mem' := fm g tp bt a b) (fun _ _ _ => rfl) ?_
                refine fe_chr (i := 43) (by omega) (by rfl) (by rfl) ⟨by rfl, by rfl⟩ (by rfl) ?_
                rw [show sk_b.getD 43 0 = 116 from rfl]
                refine fe_s 4 (pc' := 93) (lc' := [(6, .int 43), (5, .int 1), (4, .int 46), (3, .int 40), (2, .int 7), (0, .ref 0), (1, .ref 22)]) (stk' := [.int 43, .int (g 13), .ref 0, .int 116]) (mem' := fm g tp bt a b) (fun _ _ _ => rfl) ?_
                try rw [h13]
                refine fe_s 3 (pc' := 96) (lc' := [(6, .int 43), (5, .int 1), (4, .int 46), (3, .int 40), (2, .int 7), (0, .ref 0), (1, .ref 22)]) (stk' := [.int (((nI F) + 43) - 40), .ref 0, .int 116]) (mem' := fm g tp bt a b) (fun _ _ _ => rfl) ?_
                rw [show (((nI F) + 43) - 40 : Int32) = nI ((F + 43) - 40) from by simp only [show (43 : Int32) = nI 43 from rfl, show (40 : Int32) = nI 40 from rfl, tg_sub2 (x := F + 43) (y := 40) (by omega), nI_add, fm_mul]]
                refine fe_ivV (fr_byteAt (S := S) (k := (F + 43) - 40) (g := g) (tp := tp) (bt := bt) (a := a) (b := b) h11 (by omega) (by omega)) (by omega) (by rfl) (by rfl) (by rfl) (by rfl) (by rfl) (by rfl) ?_
                rcases fm_byte_or a S ((F + 43) - 40) with ⟨e15, q16⟩ | ⟨q16, n14, qn14, e15⟩
                · rw [e15]
                  refine fe_s 1 (pc' := cond (fx_cb .ne 116 (-1)) 106 102) (lc' := [(6, .int 43), (5, .int 1), (4, .int 46), (3, .int 40), (2, .int 7), (0, .ref 0), (1, .ref 22)]) (stk' := []) (mem' := fm g tp bt a b) (fun _ _ _ => rfl) ?_
                  rw [show (fx_cb .ne 116 (-1)) = true from by decide]
                  dsimp only [cond]
                  refine fe_s 4 (pc' := 68) (lc' := [(6, .int (43 + 1)), (5, .int 0), (4, .int 46), (3, .int 40), (2, .int 7), (0, .ref 0), (1, .ref 22)]) (stk' := []) (mem' := fm g tp bt a b) (fun _ _ _ => rfl) ?_
                  rw [show (43 + 1 : Int32) = 44 from rfl]
                  refine fe_s 2 (pc' := 72) (lc' := [(6, .int 44), (5, .int 0), (4, .int 46), (3, .int 40), (2, .int 7), (0, .ref 0), (1, .ref 22)]) (stk' := [.int 46, .int 44]) (mem' := fm g tp bt a b) (fun _ _ _ => rfl) ?_
                  refine fe_s 1 (pc' := cond (fx_cb .ge 44 46) 115 75) (lc' := [(6, .int 44), (5, .int 0), (4, .int 46), (3, .int 40), (2, .int 7), (0, .ref 0), (1, .ref 22)]) (stk' := []) (mem' := fm g tp bt a b) (fun _ _ _ => rfl) ?_
                  rw [show (fx_cb .ge 44 46) = false from by decide]
                  dsimp only [cond]
                  refine fe_s 1 (pc' := 77) (lc' := [(6, .int 44), (5, .int 0), (4, .int 46), (3, .int 40), (2, .int 7), (0, .ref 0), (1, .ref 22)]) (stk' := [.int 0]) (mem' := fm g tp bt a b) (fun _ _ _ => rfl) ?_
                  refine fe_s 1 (pc' := cond (fx_cb .eq 0 0) 115 80) (lc' := [(6, .int 44), (5, .int 0), (4, .int 46), (3, .int 40), (2, .int 7), (0, .ref 0), (1, .ref 22)]) (stk' := []) (mem' := fm g tp bt a b) (fun _ _ _ => rfl) ?_
                  rw [show (fx_cb .eq 0 0) = true from by decide]
                  dsimp only [cond]
                  refine fe_s 1 (pc' := 117) (lc' := [(6, .int 44), (5, .int 0), (4, .int 46), (3, .int 40), (2, .int 7), (0, .ref 0), (1, .ref 22)]) (stk' := [.int 0]) (mem' := fm g tp bt a b) (fun _ _ _ => rfl) ?_
                  refine fe_s 1 (pc' := cond (fx_cb .eq 0 0) 122 120) (lc' := [(6, .int 44), (5, .int 0), (4, .int 46), (3, .int 40), (2, .int 7), (0, .ref 0), (1, .ref 22)]) (stk' := []) (mem' := fm g tp bt a b) (fun _ _ _ => rfl) ?_
                  rw [show (fx_cb .eq 0 0) = true from by decide]
                  dsimp only [cond]
                  refine fe_s 4 (pc' := 129) (lc' := [(2, .int (7 + 1)), (6, .int 44), (5, .int 0), (4, .int 46), (3, .int 40), (0, .ref 0), (1, .ref 22)]) (stk' := [.int (46 + 1)]) (mem' := fm g tp bt a b) (fun _ _ _ => rfl) ?_
                  rw [show (7 + 1 : Int32) = 8 from rfl]
                  rw [show (46 + 1 : Int32) = 47 from rfl]
                  refine fe_s 1 (pc' := 130) (lc' := [(3, .int 47), (2, .int 8), (6, .int 44), (5, .int 0), (4, .int 46), (0, .ref 0), (1, .ref 22)]) (stk' := []) (mem' := fm g tp bt a b) (fun _ _ _ => rfl) ?_
                  refine fe_s 1 (pc' := fx_to 130 (-116)) (lc' := [(3, .int 47), (2, .int 8), (6, .int 44), (5, .int 0), (4, .int 46), (0, .ref 0), (1, .ref 22)]) (stk' := []) (mem' := fm g tp bt a b) (fun _ _ _ => rfl) ?_
                  rw [show fx_to 130 (-116) = 14 from by decide]
                  refine fe_w (lc' := [(3, .int 47), (2, .int 8), (0, .ref 0), (1, .ref 22)]) ⟨rfl, rfl, rfl, rfl, trivial⟩ (by show List.Nodup [3, 2, 0, 1]; decide) (by show List.Nodup [3, 2, 6, 5, 4, 0, 1]; decide) ?_
                  exact fw_8 hxp
                · rw [e15]
                  refine fe_s 1 (pc' := cond (fx_cb .ne 116 (nI n14)) 106 102) (lc' := [(6, .int 43), (5, .int 1), (4, .int 46), (3, .int 40), (2, .int 7), (0, .ref 0), (1, .ref 22)]) (stk' := []) (mem' := fm g tp bt a b) (fun _ _ _ => rfl) ?_
                  by_cases h17 : 116 = n14
                  · rw [show (fx_cb .ne 116 (nI n14)) = false from cb_neF (a := 116) (b := n14) (by omega) (by omega) (by omega)]
                    dsimp only [cond]
                    refine fe_s 4 (pc' := 112) (lc' := [(6, .int (43 + 1)), (5, .int 1), (4, .int 46), (3, .int 40), (2, .int 7), (0, .ref 0), (1, .ref 22)]) (stk' := []) (mem' := fm g tp bt a b) (fun _ _ _ => rfl) ?_
                    rw [show (43 + 1 : Int32) = 44 from rfl]
                    refine fe_s 3 (pc' := 72) (lc' := [(6, .int 44), (5, .int 1), (4, .int 46), (3, .int 40), (2, .int 7), (0, .ref 0), (1, .ref 22)]) (stk' := [.int 46, .int 44]) (mem' := fm g tp bt a b) (fun _ _ _ => rfl) ?_
                    refine fe_s 1 (pc' := cond (fx_cb .ge 44 46) 115 75) (lc' := [(6, .int 44), (5, .int 1), (4, .int 46), (3, .int 40), (2, .int 7), (0, .ref 0), (1, .ref 22)]) (stk' := []) (mem' := fm g tp bt a b) (fun _ _ _ => rfl) ?_
                    rw [show (fx_cb .ge 44 46) = false from by decide]
                    dsimp only [cond]
                    refine fe_s 1 (pc' := 77) (lc' := [(6, .int 44), (5, .int 1), (4, .int 46), (3, .int 40), (2, .int 7), (0, .ref 0), (1, .ref 22)]) (stk' := [.int 1]) (mem' := fm g tp bt a b) (fun _ _ _ => rfl) ?_
                    refine fe_s 1 (pc' := cond (fx_cb .eq 1 0) 115 80) (lc' := [(6, .int 44), (5, .int 1), (4, .int 46), (3, .int 40), (2, .int 7), (0, .ref 0), (1, .ref 22)]) (stk' := []) (mem' := fm g tp bt a b) (fun _ _ _ => rfl) ?_
                    rw [show (fx_cb .eq 1 0) = false from by decide]
                    dsimp only [cond]
                    refine fe_s 2 (pc' := 83) (lc' := [(6, .int 44), (5, .int 1), (4, .int 46), (3, .int 40), (2, .int 7), (0, .ref 0), (1, .ref 22)]) (stk' := [.int 44, .ref 22]) (mem' := fm g tp bt a b) (fun _ _ _ => rfl) ?_
                    refine fe_chr (i := 44) (by omega) (by rfl) (by rfl) ⟨by rfl, by rfl⟩ (by rfl) ?_
                    rw [show sk_b.getD 44 0 = 101 from rfl]
                    refine fe_s 4 (pc' := 93) (lc' := [(6, .int 44), (5, .int 1), (4, .int 46), (3, .int 40), (2, .int 7), (0, .ref 0), (1, .ref 22)]) (stk' := [.int 44, .int (g 13), .ref 0, .int 101]) (mem' := fm g tp bt a b) (fun _ _ _ => rfl) ?_
                    try rw [h13]
                    refine fe_s 3 (pc' := 96) (lc' := [(6, .int 44), (5, .int 1), (4, .int 46), (3, .int 40), (2, .int 7), (0, .ref 0), (1, .ref 22)]) (stk' := [.int (((nI F) + 44) - 40), .ref 0, .int 101]) (mem' := fm g tp bt a b) (fun _ _ _ => rfl) ?_
                    rw [show (((nI F) + 44) - 40 : Int32) = nI ((F + 44) - 40) from by simp only [show (44 : Int32) = nI 44 from rfl, show (40 : Int32) = nI 40 from rfl, tg_sub2 (x := F + 44) (y := 40) (by omega), nI_add, fm_mul]]
                    refine fe_ivV (fr_byteAt (S := S) (k := (F + 44) - 40) (g := g) (tp := tp) (bt := bt) (a := a) (b := b) h11 (by omega) (by omega)) (by omega) (by rfl) (by rfl) (by rfl) (by rfl) (by rfl) (by rfl) ?_
                    rcases fm_byte_or a S ((F + 44) - 40) with ⟨e19, q20⟩ | ⟨q20, n18, qn18, e19⟩
                    · rw [e19]
                      refine fe_s 1 (pc' := cond (fx_cb .ne 101 (-1)) 106 102) (lc' := [(6, .int 44), (5, .int 1), (4, .int 46), (3, .int 40), (2, .int 7), (0, .ref 0), (1, .ref 22)]) (stk' := []) (mem' := fm g tp bt a b) (fun _ _ _ => rfl) ?_
                      rw [show (fx_cb .ne 101 (-1)) = true from by decide]
                      dsimp only [cond]
                      refine fe_s 4 (pc' := 68) (lc' := [(6, .int (44 + 1)), (5, .int 0), (4, .int 46), (3, .int 40), (2, .int 7), (0, .ref 0), (1, .ref 22)]) (stk' := []) (mem' := fm g tp bt a b) (fun _ _ _ => rfl) ?_
                      rw [show (44 + 1 : Int32) = 45 from rfl]
                      refine fe_s 2 (pc' := 72) (lc' := [(6, .int 45), (5, .int 0), (4, .int 46), (3, .int 40), (2, .int 7), (0, .ref 0), (1, .ref 22)]) (stk' := [.int 46, .int 45]) (mem' := fm g tp bt a b) (fun _ _ _ => rfl) ?_
                      refine fe_s 1 (pc' := cond (fx_cb .ge 45 46) 115 75) (lc' := [(6, .int 45), (5, .int 0), (4, .int 46), (3, .int 40), (2, .int 7), (0, .ref 0), (1, .ref 22)]) (stk' := []) (mem' := fm g tp bt a b) (fun _ _ _ => rfl) ?_
                      rw [show (fx_cb .ge 45 46) = false from by decide]
                      dsimp only [cond]
                      refine fe_s 1 (pc' := 77) (lc' := [(6, .int 45), (5, .int 0), (4, .int 46), (3, .int 40), (2, .int 7), (0, .ref 0), (1, .ref 22)]) (stk' := [.int 0]) (mem' := fm g tp bt a b) (fun _ _ _ => rfl) ?_
                      refine fe_s 1 (pc' := cond (fx_cb .eq 0 0) 115 80) (lc' := [(6, .int 45), (5, .int 0), (4, .int 46), (3, .int 40), (2, .int 7), (0, .ref 0), (1, .ref 22)]) (stk' := []) (mem' := fm g tp bt a b) (fun _ _ _ => rfl) ?_
                      rw [show (fx_cb .eq 0 0) = true from by decide]
                      dsimp only [cond]
                      refine fe_s 1 (pc' := 117) (lc' := [(6, .int 45), (5, .int 0), (4, .int 46), (3, .int 40), (2, .int 7), (0, .ref 0), (1, .ref 22)]) (stk' := [.int 0]) (mem' := fm g tp bt a b) (fun _ _ _ => rfl) ?_
                      refine fe_s 1 (pc' := cond (fx_cb .eq 0 0) 122 120) (lc' := [(6, .int 45), (5, .int 0), (4, .int 46), (3, .int 40), (2, .int 7), (0, .ref 0), (1, .ref 22)]) (stk' := []) (mem' := fm g tp bt a b) (fun _ _ _ => rfl) ?_
                      rw [show (fx_cb .eq 0 0) = true from by decide]
                      dsimp only [cond]
                      refine fe_s 4 (pc' := 129) (lc' := [(2, .int (7 + 1)), (6, .int 45), (5, .int 0), (4, .int 46), (3, .int 40), (0, .ref 0), (1, .ref 22)]) (stk' := [.int (46 + 1)]) (mem' := fm g tp bt a b) (fun _ _ _ => rfl) ?_
                      rw [show (7 + 1 : Int32) = 8 from rfl]
                      rw [show (46 + 1 : Int32) = 47 from rfl]
                      refine fe_s 1 (pc' := 130) (lc' := [(3, .int 47), (2, .int 8), (6, .int 45), (5, .int 0), (4, .int 46), (0, .ref 0), (1, .ref 22)]) (stk' := []) (mem' := fm g tp bt a b) (fun _ _ _ => rfl) ?_
                      refine fe_s 1 (pc' := fx_to 130 (-116)) (lc' := [(3, .int 47), (2, .int 8), (6, .int 45), (5, .int 0), (4, .int 46), (0, .ref 0), (1, .ref 22)]) (stk' := []) (mem' := fm g tp bt a b) (fun _ _ _ => rfl) ?_
                      rw [show fx_to 130 (-116) = 14 from by decide]
                      refine fe_w (lc' := [(3, .int 47), (2, .int 8), (0, .ref 0), (1, .ref 22)]) ⟨rfl, rfl, rfl, rfl, trivial⟩ (by show List.Nodup [3, 2, 0, 1]; decide) (by show List.Nodup [3, 2, 6, 5, 4, 0, 1]; decide) ?_
                      exact fw_8 hxp
                    · rw [e19]
                      refine fe_s 1 (pc' := cond (fx_cb .ne 101 (nI n18)) 106 102) (lc' := [(6, .int 44), (5, .int 1), (4, .int 46), (3, .int 40), (2, .int 7), (0, .ref 0), (1, .ref 22)]) (stk' := []) (mem' := fm g tp bt a b) (fun _ _ _ => rfl) ?_
                      by_cases h21 : 101 = n18
                      · rw [show (fx_cb .ne 101 (nI n18)) = false from cb_neF (a := 101) (b := n18) (by omega) (by omega) (by omega)]
                        dsimp only [cond]
                        refine fe_s 4 (pc' := 112) (lc' := [(6, .int (44 + 1)), (5, .int 1), (4, .int 46), (3, .int 40), (2, .int 7), (0, .ref 0), (1, .ref 22)]) (stk' := []) (mem' := fm g tp bt a b) (fun _ _ _ => rfl) ?_
                        rw [show (44 + 1 : Int32) = 45 from rfl]
                        refine fe_s 3 (pc' := 72) (lc' := [(6, .int 45), (5, .int 1), (4, .int 46), (3, .int 40), (2, .int 7), (0, .ref 0), (1, .ref 22)]) (stk' := [.int 46, .int 45]) (mem' := fm g tp bt a b) (fun _ _ _ => rfl) ?_
                        refine fe_s 1 (pc' := cond (fx_cb .ge 45 46) 115 75) (lc' := [(6, .int 45), (5, .int 1), (4, .int 46), (3, .int 40), (2, .int 7), (0, .ref 0), (1, .ref 22)]) (stk' := []) (mem' := fm g tp bt a b) (fun _ _ _ => rfl) ?_
                        rw [show (fx_cb .ge 45 46) = false from by decide]
                        dsimp only [cond]
                        refine fe_s 1 (pc' := 77) (lc' := [(6, .int 45), (5, .int 1), (4, .int 46), (3, .int 40), (2, .int 7), (0, .ref 0), (1, .ref 22)]) (stk' := [.int 1]) (mem' := fm g tp bt a b) (fun _ _ _ => rfl) ?_
                        refine fe_s 1 (pc' := cond (fx_cb .eq 1 0) 115 80) (lc' := [(6, .int 45), (5, .int 1), (4, .int 46), (3, .int 40), (2, .int 7), (0, .ref 0), (1, .ref 22)]) (stk' := []) (mem' := fm g tp bt a b) (fun _ _ _ => rfl) ?_
                        rw [show (fx_cb .eq 1 0) = false from by decide]
                        dsimp only [cond]
                        refine fe_s 2 (pc' := 83) (lc' := [(6, .int 45), (5, .int 1), (4, .int 46), (3, .int 40), (2, .int 7), (0, .ref 0), (1, .ref 22)]) (stk' := [.int 45, .ref 22]) (mem' := fm g tp bt a b) (fun _ _ _ => rfl) ?_
                        refine fe_chr (i := 45) (by omega) (by rfl) (by rfl) ⟨by rfl, by rfl⟩ (by rfl) ?_
                        rw [show sk_b.getD 45 0 = 114 from rfl]
                        refine fe_s 4 (pc' := 93) (lc' := [(6, .int 45), (5, .int 1), (4, .int 46), (3, .int 40), (2, .int 7), (0, .ref 0), (1, .ref 22)]) (stk' := [.int 45, .int (g 13), .ref 0, .int 114]) (mem' := fm g tp bt a b) (fun _ _ _ => rfl) ?_
                        try rw [h13]
                        refine fe_s 3 (pc' := 96) (lc' := [(6, .int 45), (5, .int 1), (4, .int 46), (3, .int 40), (2, .int 7), (0, .ref 0), (1, .ref 22)]) (stk' := [.int (((nI F) + 45) - 40), .ref 0, .int 114]) (mem' := fm g tp bt a b) (fun _ _ _ => rfl) ?_
                        rw [show (((nI F) + 45) - 40 : Int32) = nI ((F + 45) - 40) from by simp only [show (45 : Int32) = nI 45 from rfl, show (40 : Int32) = nI 40 from rfl, tg_sub2 (x := F + 45) (y := 40) (by omega), nI_add, fm_mul]]
                        refine fe_ivV (fr_byteAt (S := S) (k := (F + 45) - 40) (g := g) (tp := tp) (bt := bt) (a := a) (b := b) h11 (by omega) (by omega)) (by omega) (by rfl) (by rfl) (by rfl) (by rfl) (by rfl) (by rfl) ?_
                        rcases fm_byte_or a S ((F + 45) - 40) with ⟨e23, q24⟩ | ⟨q24, n22, qn22, e23⟩
                        · rw [e23]
                          refine fe_s 1 (pc' := cond (fx_cb .ne 114 (-1)) 106 102) (lc' := [(6, .int 45), (5, .int 1), (4, .int 46), (3, .int 40), (2, .int 7), (0, .ref 0), (1, .ref 22)]) (stk' := []) (mem' := fm g tp bt a b) (fun _ _ _ => rfl) ?_
                          rw [show (fx_cb .ne 114 (-1)) = true from by decide]
                          dsimp only [cond]
                          refine fe_s 4 (pc' := 68) (lc' := [(6, .int (45 + 1)), (5, .int 0), (4, .int 46), (3, .int 40), (2, .int 7), (0, .ref 0), (1, .ref 22)]) (stk' := []) (mem' := fm g tp bt a b) (fun _ _ _ => rfl) ?_
                          rw [show (45 + 1 : Int32) = 46 from rfl]
                          refine fe_s 2 (pc' := 72) (lc' := [(6, .int 46), (5, .int 0), (4, .int 46), (3, .int 40), (2, .int 7), (0, .ref 0), (1, .ref 22)]) (stk' := [.int 46, .int 46]) (mem' := fm g tp bt a b) (fun _ _ _ => rfl) ?_
                          refine fe_s 1 (pc' := cond (fx_cb .ge 46 46) 115 75) (lc' := [(6, .int 46), (5, .int 0), (4, .int 46), (3, .int 40), (2, .int 7), (0, .ref 0), (1, .ref 22)]) (stk' := []) (mem' := fm g tp bt a b) (fun _ _ _ => rfl) ?_
                          rw [show (fx_cb .ge 46 46) = true from by decide]
                          dsimp only [cond]
                          refine fe_s 1 (pc' := 117) (lc' := [(6, .int 46), (5, .int 0), (4, .int 46), (3, .int 40), (2, .int 7), (0, .ref 0), (1, .ref 22)]) (stk' := [.int 0]) (mem' := fm g tp bt a b) (fun _ _ _ => rfl) ?_
                          refine fe_s 1 (pc' := cond (fx_cb .eq 0 0) 122 120) (lc' := [(6, .int 46), (5, .int 0), (4, .int 46), (3, .int 40), (2, .int 7), (0, .ref 0), (1, .ref 22)]) (stk' := []) (mem' := fm g tp bt a b) (fun _ _ _ => rfl) ?_
                          rw [show (fx_cb .eq 0 0) = true from by decide]
                          dsimp only [cond]
                          refine fe_s 4 (pc' := 129) (lc' := [(2, .int (7 + 1)), (6, .int 46), (5, .int 0), (4, .int 46), (3, .int 40), (0, .ref 0), (1, .ref 22)]) (stk' := [.int (46 + 1)]) (mem' := fm g tp bt a b) (fun _ _ _ => rfl) ?_
                          rw [show (7 + 1 : Int32) = 8 from rfl]
                          rw [show (46 + 1 : Int32) = 47 from rfl]
                          refine fe_s 1 (pc' := 130) (lc' := [(3, .int 47), (2, .int 8), (6, .int 46), (5, .int 0), (4, .int 46), (0, .ref 0), (1, .ref 22)]) (stk' := []) (mem' := fm g tp bt a b) (fun _ _ _ => rfl) ?_
                          refine fe_s 1 (pc' := fx_to 130 (-116)) (lc' := [(3, .int 47), (2, .int 8), (6, .int 46), (5, .int 0), (4, .int 46), (0, .ref 0), (1, .ref 22)]) (stk' := []) (mem' := fm g tp bt a b) (fun _ _ _ => rfl) ?_
                          rw [show fx_to 130 (-116) = 14 from by decide]
                          refine fe_w (lc' := [(3, .int 47), (2, .int 8), (0, .ref 0), (1, .ref 22)]) ⟨rfl, rfl, rfl, rfl, trivial⟩ (by show List.Nodup [3, 2, 0, 1]; decide) (by show List.Nodup [3, 2, 6, 5, 4, 0, 1]; decide) ?_
                          exact fw_8 hxp
                        · rw [e23]
                          refine fe_s 1 (pc' := cond (fx_cb .ne 114 (nI n22)) 106 102) (lc' := [(6, .int 45), (5, .int 1), (4, .int 46), (3, .int 40), (2, .int 7), (0, .ref 0), (1, .ref 22)]) (stk' := []) (mem' := fm g tp bt a b) (fun _ _ _ => rfl) ?_
                          by_cases h25 : 114 = n22
                          · rw [show (fx_cb .ne 114 (nI n22)) = false from cb_neF (a := 114) (b := n22) (by omega) (by omega) (by omega)]
                            dsimp only [cond]
                            refine fe_s 4 (pc' := 112) (lc' := [(6, .int (45 + 1)), (5, .int 1), (4, .int 46), (3, .int 40), (2, .int 7), (0, .ref 0), (1, .ref 22)]) (stk' := []) (mem' := fm g tp bt a b) (fun _ _ _ => rfl) ?_
                            rw [show (45 + 1 : Int32) = 46 from rfl]
                            refine fe_s 3 (pc' := 72) (lc' := [(6, .int 46), (5, .int 1), (4, .int 46), (3, .int 40), (2, .int 7), (0, .ref 0), (1, .ref 22)]) (stk' := [.int 46, .int 46]) (mem' := fm g tp bt a b) (fun _ _ _ => rfl) ?_
                            refine fe_s 1 (pc' := cond (fx_cb .ge 46 46) 115 75) (lc' := [(6, .int 46), (5, .int 1), (4, .int 46), (3, .int 40), (2, .int 7), (0, .ref 0), (1, .ref 22)]) (stk' := []) (mem' := fm g tp bt a b) (fun _ _ _ => rfl) ?_
                            rw [show (fx_cb .ge 46 46) = true from by decide]
                            dsimp only [cond]
                            refine fe_s 1 (pc' := 117) (lc' := [(6, .int 46), (5, .int 1), (4, .int 46), (3, .int 40), (2, .int 7), (0, .ref 0), (1, .ref 22)]) (stk' := [.int 1]) (mem' := fm g tp bt a b) (fun _ _ _ => rfl) ?_
                            refine fe_s 1 (pc' := cond (fx_cb .eq 1 0) 122 120) (lc' := [(6, .int 46), (5, .int 1), (4, .int 46), (3, .int 40), (2, .int 7), (0, .ref 0), (1, .ref 22)]) (stk' := []) (mem' := fm g tp bt a b) (fun _ _ _ => rfl) ?_
                            rw [show (fx_cb .eq 1 0) = false from by decide]
                            dsimp only [cond]
                            refine fe_s 1 (pc' := 121) (lc' := [(6, .int 46), (5, .int 1), (4, .int 46), (3, .int 40), (2, .int 7), (0, .ref 0), (1, .ref 22)]) (stk' := [.int 7]) (mem' := fm g tp bt a b) (fun _ _ _ => rfl) ?_
                            exact fe_ret ⟨_, Or.inr ⟨7, by omega, rfl⟩, rfl⟩ (by rfl) (by rfl) (by rfl)
                          · rw [show (fx_cb .ne 114 (nI n22)) = true from cb_neT (a := 114) (b := n22) (by omega) (by omega) (by omega)]
                            dsimp only [cond]
                            refine fe_s 4 (pc' := 68) (lc' := [(6, .int (45 + 1)), (5, .int 0), (4, .int 46), (3, .int 40), (2, .int 7), (0, .ref 0), (1, .ref 22)]) (stk' := []) (mem' := fm g tp bt a b) (fun _ _ _ => rfl) ?_
                            rw [show (45 + 1 : Int32) = 46 from rfl]
                            refine fe_s 2 (pc' := 72) (lc' := [(6, .int 46), (5, .int 0), (4, .int 46), (3, .int 40), (2, .int 7), (0, .ref 0), (1, .ref 22)]) (stk' := [.int 46, .int 46]) (mem' := fm g tp bt a b) (fun _ _ _ => rfl) ?_
                            refine fe_s 1 (pc' := cond (fx_cb .ge 46 46) 115 75) (lc' := [(6, .int 46), (5, .int 0), (4, .int 46), (3, .int 40), (2, .int 7), (0, .ref 0), (1, .ref 22)]) (stk' := []) (mem' := fm g tp bt a b) (fun _ _ _ => rfl) ?_
                            rw [show (fx_cb .ge 46 46) = true from by decide]
                            dsimp only [cond]
                            refine fe_s 1 (pc' := 117) (lc' := [(6, .int 46), (5, .int 0), (4, .int 46), (3, .int 40), (2, .int 7), (0, .ref 0), (1, .ref 22)]) (stk' := [.int 0]) (mem' := fm g tp bt a b) (fun _ _ _ => rfl) ?_
                            refine fe_s 1 (pc' := cond (fx_cb .eq 0 0) 122 120) (lc' := [(6, .int 46), (5, .int 0), (4, .int 46), (3, .int 40), (2, .int 7), (0, .ref 0), (1, .ref 22)]) (stk' := []) (mem' := fm g tp bt a b) (fun _ _ _ => rfl) ?_
                            rw [show (fx_cb .eq 0 0) = true from by decide]
                            dsimp only [cond]
                            refine fe_s 4 (pc' := 129) (lc' := [(2, .int (7 + 1)), (6, .int 46), (5, .int 0), (4, .int 46), (3, .int 40), (0, .ref 0), (1, .ref 22)]) (stk' := [.int (46 + 1)]) (mem' := fm g tp bt a b) (fun _ _ _ => rfl) ?_
                            rw [show (7 + 1 : Int32) = 8 from rfl]
                            rw [show (46 + 1 : Int32) = 47 from rfl]
                            refine fe_s 1 (pc' := 130) (lc' := [(3, .int 47), (2, .int 8), (6, .int 46), (5, .int 0), (4, .int 46), (0, .ref 0), (1, .ref 22)]) (stk' := []) (mem' := fm g tp bt a b) (fun _ _ _ => rfl) ?_
                            refine fe_s 1 (pc' := fx_to 130 (-116)) (lc' := [(3, .int 47), (2, .int 8), (6, .int 46), (5, .int 0), (4, .int 46), (0, .ref 0), (1, .ref 22)]) (stk' := []) (mem' := fm g tp bt a b) (fun _ _ _ => rfl) ?_
                            rw [show fx_to 130 (-116) = 14 from by decide]
                            refine fe_w (lc' := [(3, .int 47), (2, .int 8), (0, .ref 0), (1, .ref 22)]) ⟨rfl, rfl, rfl, rfl, trivial⟩ (by show List.Nodup [3, 2, 0, 1]; decide) (by show List.Nodup [3, 2, 6, 5, 4, 0, 1]; decide) ?_
                            exact fw_8 hxp
                      · rw [show (fx_cb .ne 101 (nI n18)) = true from cb_neT (a := 101) (b := n18) (by omega) (by omega) (by omega)]
                        dsimp only [cond]
                        refine fe_s 4 (pc' := 68) (lc' := [(6, .int (44 + 1)), (5, .int 0), (4, .int 46), (3, .int 40), (2, .int 7), (0, .ref 0), (1, .ref 22)]) (stk' := []) (mem' := fm g tp bt a b) (fun _ _ _ => rfl) ?_
                        rw [show (44 + 1 : Int32) = 45 from rfl]
                        refine fe_s 2 (pc' := 72) (lc' := [(6, .int 45), (5, .int 0), (4, .int 46), (3, .int 40), (2, .int 7), (0, .ref 0), (1, .ref 22)]) (stk' := [.int 46, .int 45]) (mem' := fm g tp bt a b) (fun _ _ _ => rfl) ?_
                        refine fe_s 1 (pc' := cond (fx_cb .ge 45 46) 115 75) (lc' := [(6, .int 45), (5, .int 0), (4, .int 46), (3, .int 40), (2, .int 7), (0, .ref 0), (1, .ref 22)]) (stk' := []) (mem' := fm g tp bt a b) (fun _ _ _ => rfl) ?_
                        rw [show (fx_cb .ge 45 46) = false from by decide]
                        dsimp only [cond]
                        refine fe_s 1 (pc' := 77) (lc' := [(6, .int 45), (5, .int 0), (4, .int 46), (3, .int 40), (2, .int 7), (0, .ref 0), (1, .ref 22)]) (stk' := [.int 0]) (mem' := fm g tp bt a b) (fun _ _ _ => rfl) ?_
                        refine fe_s 1 (pc' := cond (fx_cb .eq 0 0) 115 80) (lc' := [(6, .int 45), (5, .int 0), (4, .int 46), (3, .int 40), (2, .int 7), (0, .ref 0), (1, .ref 22)]) (stk' := []) (mem' := fm g tp bt a b) (fun _ _ _ => rfl) ?_
                        rw [show (fx_cb .eq 0 0) = true from by decide]
                        dsimp only [cond]
                        refine fe_s 1 (pc' := 117) (lc' := [(6, .int 45), (5, .int 0), (4, .int 46), (3, .int 40), (2, .int 7), (0, .ref 0), (1, .ref 22)]) (stk' := [.int 0]) (mem' := fm g tp bt a b) (fun _ _ _ => rfl) ?_
                        refine fe_s 1 (pc' := cond (fx_cb .eq 0 0) 122 120) (lc' := [(6, .int 45), (5, .int 0), (4, .int 46), (3, .int 40), (2, .int 7), (0, .ref 0), (1, .ref 22)]) (stk' := []) (mem' := fm g tp bt a b) (fun _ _ _ => rfl) ?_
                        rw [show (fx_cb .eq 0 0) = true from by decide]
                        dsimp only [cond]
                        refine fe_s 4 (pc' := 129) (lc' := [(2, .int (7 + 1)), (6, .int 45), (5, .int 0), (4, .int 46), (3, .int 40), (0, .ref 0), (1, .ref 22)]) (stk' := [.int (46 + 1)]) (mem' := fm g tp bt a b) (fun _ _ _ => rfl) ?_
                        rw [show (7 + 1 : Int32) = 8 from rfl]
                        rw [show (46 + 1 : Int32) = 47 from rfl]
                        refine fe_s 1 (pc' := 130) (lc' := [(3, .int 47), (2, .int 8), (6, .int 45), (5, .int 0), (4, .int 46), (0, .ref 0), (1, .ref 22)]) (stk' := []) (mem' := fm g tp bt a b) (fun _ _ _ => rfl) ?_
                        refine fe_s 1 (pc' := fx_to 130 (-116)) (lc' := [(3, .int 47), (2, .int 8), (6, .int 45), (5, .int 0), (4, .int 46), (0, .ref 0), (1, .ref 22)]) (stk' := []) (mem' := fm g tp bt a b) (fun _ _ _ => rfl) ?_
                        rw [show fx_to 130 (-116) = 14 from by decide]
                        refine fe_w (lc' := [(3, .int 47), (2, .int 8), (0, .ref 0), (1, .ref 22)]) ⟨rfl, rfl, rfl, rfl, trivial⟩ (by show List.Nodup [3, 2, 0, 1]; decide) (by show List.Nodup [3, 2, 6, 5, 4, 0, 1]; decide) ?_
                        exact fw_8 hxp
                  · rw [show (fx_cb .ne 116 (nI n14)) = true from cb_neT (a := 116) (b := n14) (by omega) (by omega) (by omega)]
                    dsimp only [cond]
                    refine fe_s 4 (pc' := 68) (lc' := [(6, .int (43 + 1)), (5, .int 0), (4, .int 46), (3, .int 40), (2, .int 7), (0, .ref 0), (1, .ref 22)]) (stk' := []) (mem' := fm g tp bt a b) (fun _ _ _ => rfl) ?_
                    rw [show (43 + 1 : Int32) = 44 from rfl]
                    refine fe_s 2 (pc' := 72) (lc' := [(6, .int 44), (5, .int 0), (4, .int 46), (3, .int 40), (2, .int 7), (0, .ref 0), (1, .ref 22)]) (stk' := [.int 46, .int 44]) (mem' := fm g tp bt a b) (fun _ _ _ => rfl) ?_
                    refine fe_s 1 (pc' := cond (fx_cb .ge 44 46) 115 75) (lc' := [(6, .int 44), (5, .int 0), (4, .int 46), (3, .int 40), (2, .int 7), (0, .ref 0), (1, .ref 22)]) (stk' := []) (mem' := fm g tp bt a b) (fun _ _ _ => rfl) ?_
                    rw [show (fx_cb .ge 44 46) = false from by decide]
                    dsimp only [cond]
                    refine fe_s 1 (pc' := 77) (lc' := [(6, .int 44), (5, .int 0), (4, .int 46), (3, .int 40), (2, .int 7), (0, .ref 0), (1, .ref 22)]) (stk' := [.int 0]) (mem' := fm g tp bt a b) (fun _ _ _ => rfl) ?_
                    refine fe_s 1 (pc' := cond (fx_cb .eq 0 0) 115 80) (lc' := [(6, .int 44), (5, .int 0), (4, .int 46), (3, .int 40), (2, .int 7), (0, .ref 0), (1, .ref 22)]) (stk' := []) (mem' := fm g tp bt a b) (fun _ _ _ => rfl) ?_
                    rw [show (fx_cb .eq 0 0) = true from by decide]
                    dsimp only [cond]
                    refine fe_s 1 (pc' := 117) (lc' := [(6, .int 44), (5, .int 0), (4, .int 46), (3, .int 40), (2, .int 7), (0, .ref 0), (1, .ref 22)]) (stk' := [.int 0]) (mem' := fm g tp bt a b) (fun _ _ _ => rfl) ?_
                    refine fe_s 1 (pc' := cond (fx_cb .eq 0 0) 122 120) (lc' := [(6, .int 44), (5, .int 0), (4, .int 46), (3, .int 40), (2, .int 7), (0, .ref 0), (1, .ref 22)]) (stk' := []) (mem' := fm g tp bt a b) (fun _ _ _ => rfl) ?_
                    rw [show (fx_cb .eq 0 0) = true from by decide]
                    dsimp only [cond]
                    refine fe_s 4 (pc' := 129) (lc' := [(2, .int (7 + 1)), (6, .int 44), (5, .int 0), (4, .int 46), (3, .int 40), (0, .ref 0), (1, .ref 22)]) (stk' := [.int (46 + 1)]) (mem' := fm g tp bt a b) (fun _ _ _ => rfl) ?_
                    rw [show (7 + 1 : Int32) = 8 from rfl]
                    rw [show (46 + 1 : Int32) = 47 from rfl]
                    refine fe_s 1 (pc' := 130) (lc' := [(3, .int 47), (2, .int 8), (6, .int 44), (5, .int 0), (4, .int 46), (0, .ref 0), (1, .ref 22)]) (stk' := []) (mem' := fm g tp bt a b) (fun _ _ _ => rfl) ?_
                    refine fe_s 1 (pc' := fx_to 130 (-116)) (lc' := [(3, .int 47), (2, .int 8), (6, .int 44), (5, .int 0), (4, .int 46), (0, .ref 0), (1, .ref 22)]) (stk' := []) (mem' := fm g tp bt a b) (fun _ _ _ => rfl) ?_
                    rw [show fx_to 130 (-116) = 14 from by decide]
                    refine fe_w (lc' := [(3, .int 47), (2, .int 8), (0, .ref 0), (1, .ref 22)]) ⟨rfl, rfl, rfl, rfl, trivial⟩ (by show List.Nodup [3, 2, 0, 1]; decide) (by show List.Nodup [3, 2, 6, 5, 4, 0, 1]; decide) ?_
                    exact fw_8 hxp
              · rw [show (fx_cb .ne 116 (nI n10)) = true from cb_neT (a := 116) (b := n10) (by omega) (by omega) (by omega)]
                dsimp only [cond]
                refine fe_s 4 (pc' := 68) (lc' := [(6, .int (42 + 1)), (5, .int 0), (4, .int 46), (3, .int 40), (2, .int 7), (0, .ref 0), (1, .ref 22)]) (stk' := []) (mem' := fm g tp bt a b) (fun _ _ _ => rfl) ?_
                rw [show (42 + 1 : Int32) = 43 from rfl]
                refine fe_s 2 (pc' := 72) (lc' := [(6, .int 43), (5, .int 0), (4, .int 46), (3, .int 40), (2, .int 7), (0, .ref 0), (1, .ref 22)]) (stk' := [.int 46, .int 43]) (mem' := fm g tp bt a b) (fun _ _ _ => rfl) ?_
                refine fe_s 1 (pc' := cond (fx_cb .ge 43 46) 115 75) (lc' := [(6, .int 43), (5, .int 0), (4, .int 46), (3, .int 40), (2, .int 7), (0, .ref 0), (1, .ref 22)]) (stk' := []) (mem' := fm g tp bt a b) (fun _ _ _ => rfl) ?_
                rw [show (fx_cb .ge 43 46) = false from by decide]
                dsimp only [cond]
                refine fe_s 1 (pc' := 77) (lc' := [(6, .int 43), (5, .int 0), (4, .int 46), (3, .int 40), (2, .int 7), (0, .ref 0), (1, .ref 22)]) (stk' := [.int 0]) (mem' := fm g tp bt a b) (fun _ _ _ => rfl) ?_
                refine fe_s 1 (pc' := cond (fx_cb .eq 0 0) 115 80) (lc' := [(6, .int 43), (5, .int 0), (4, .int 46), (3, .int 40), (2, .int 7), (0, .ref 0), (1, .ref 22)]) (stk' := []) (mem' := fm g tp bt a b) (fun _ _ _ => rfl) ?_
                rw [show (fx_cb .eq 0 0) = true from by decide]
                dsimp only [cond]
                refine fe_s 1 (pc' := 117) (lc' := [(6, .int 43), (5, .int 0), (4, .int 46), (3, .int 40), (2, .int 7), (0, .ref 0), (1, .ref 22)]) (stk' := [.int 0]) (mem' := fm g tp bt a b) (fun _ _ _ => rfl) ?_
                refine fe_s 1 (pc' := cond (fx_cb .eq 0 0) 122 120) (lc' := [(6, .int 43), (5, .int 0), (4, .int 46), (3, .int 40), (2, .int 7), (0, .ref 0), (1, .ref 22)]) (stk' := []) (mem' := fm g tp bt a b) (fun _ _ _ => rfl) ?_
                rw [show (fx_cb .eq 0 0) = true from by decide]
                dsimp only [cond]
                refine fe_s 4 (pc' := 129) (lc' := [(2, .int (7 + 1)), (6, .int 43), (5, .int 0), (4, .int 46), (3, .int 40), (0, .ref 0), (1, .ref 22)]) (stk' := [.int (46 + 1)]) (mem' := fm g tp bt a b) (fun _ _ _ => rfl) ?_
                rw [show (7 + 1 : Int32) = 8 from rfl]
                rw [show (46 + 1 : Int32) = 47 from rfl]
                refine fe_s 1 (pc' := 130) (lc' := [(3, .int 47), (2, .int 8), (6, .int 43), (5, .int 0), (4, .int 46), (0, .ref 0), (1, .ref 22)]) (stk' := []) (mem' := fm g tp bt a b) (fun _ _ _ => rfl) ?_
                refine fe_s 1 (pc' := fx_to 130 (-116)) (lc' := [(3, .int 47), (2, .int 8), (6, .int 43), (5, .int 0), (4, .int 46), (0, .ref 0), (1, .ref 22)]) (stk' := []) (mem' := fm g tp bt a b) (fun _ _ _ => rfl) ?_
                rw [show fx_to 130 (-116) = 14 from by decide]
                refine fe_w (lc' := [(3, .int 47), (2, .int 8), (0, .ref 0), (1, .ref 22)]) ⟨rfl, rfl, rfl, rfl, trivial⟩ (by show List.Nodup [3, 2, 0, 1]; decide) (by show List.Nodup [3, 2, 6, 5, 4, 0, 1]; decide) ?_
                exact fw_8 hxp
          · rw [show (fx_cb .ne 101 (nI n6)) = true from cb_neT (a := 101) (b := n6) (by omega) (by omega) (by omega)]
            dsimp only [cond]
            refine fe_s 4 (pc' := 68) (lc' := [(6, .int (41 + 1)), (5, .int 0), (4, .int 46), (3, .int 40), (2, .int 7), (0, .ref 0), (1, .ref 22)]) (stk' := []) (mem' := fm g tp bt a b) (fun _ _ _ => rfl) ?_
            rw [show (41 + 1 : Int32) = 42 from rfl]
            refine fe_s 2 (pc' := 72) (lc' := [(6, .int 42), (5, .int 0), (4, .int 46), (3, .int 40), (2, .int 7), (0, .ref 0), (1, .ref 22)]) (stk' := [.int 46, .int 42]) (mem' := fm g tp bt a b) (fun _ _ _ => rfl) ?_
            refine fe_s 1 (pc' := cond (fx_cb .ge 42 46) 115 75) (lc' := [(6, .int 42), (5, .int 0), (4, .int 46), (3, .int 40), (2, .int 7), (0, .ref 0), (1, .ref 22)]) (stk' := []) (mem' := fm g tp bt a b) (fun _ _ _ => rfl) ?_
            rw [show (fx_cb .ge 42 46) = false from by decide]
            dsimp only [cond]
            refine fe_s 1 (pc' := 77) (lc' := [(6, .int 42), (5, .int 0), (4, .int 46), (3, .int 40), (2, .int 7), (0, .ref 0), (1, .ref 22)]) (stk' := [.int 0]) (mem' := fm g tp bt a b) (fun _ _ _ => rfl) ?_
            refine fe_s 1 (pc' := cond (fx_cb .eq 0 0) 115 80) (lc' := [(6, .int 42), (5, .int 0), (4, .int 46), (3, .int 40), (2, .int 7), (0, .ref 0), (1, .ref 22)]) (stk' := []) (mem' := fm g tp bt a b) (fun _ _ _ => rfl) ?_
            rw [show (fx_cb .eq 0 0) = true from by decide]
            dsimp only [cond]
            refine fe_s 1 (pc' := 117) (lc' := [(6, .int 42), (5, .int 0), (4, .int 46), (3, .int 40), (2, .int 7), (0, .ref 0), (1, .ref 22)]) (stk' := [.int 0]) (mem' := fm g tp bt a b) (fun _ _ _ => rfl) ?_
            refine fe_s 1 (pc' := cond (fx_cb .eq 0 0) 122 120) (lc' := [(6, .int 42), (5, .int 0), (4, .int 46), (3, .int 40), (2, .int 7), (0, .ref 0), (1, .ref 22)]) (stk' := []) (mem' := fm g tp bt a b) (fun _ _ _ => rfl) ?_
            rw [show (fx_cb .eq 0 0) = true from by decide]
            dsimp only [cond]
            refine fe_s 4 (pc' := 129) (lc' := [(2, .int (7 + 1)), (6, .int 42), (5, .int 0), (4, .int 46), (3, .int 40), (0, .ref 0), (1, .ref 22)]) (stk' := [.int (46 + 1)]) (mem' := fm g tp bt a b) (fun _ _ _ => rfl) ?_
            rw [show (7 + 1 : Int32) = 8 from rfl]
            rw [show (46 + 1 : Int32) = 47 from rfl]
            refine fe_s 1 (pc' := 130) (lc' := [(3, .int 47), (2, .int 8), (6, .int 42), (5, .int 0), (4, .int 46), (0, .ref 0), (1, .ref 22)]) (stk' := []) (mem' := fm g tp bt a b) (fun _ _ _ => rfl) ?_
            refine fe_s 1 (pc' := fx_to 130 (-116)) (lc' := [(3, .int 47), (2, .int 8), (6, .int 42), (5, .int 0), (4, .int 46), (0, .ref 0), (1, .ref 22)]) (stk' := []) (mem' := fm g tp bt a b) (fun _ _ _ => rfl) ?_
            rw [show fx_to 130 (-116) = 14 from by decide]
            refine fe_w (lc' := [(3, .int 47), (2, .int 8), (0, .ref 0), (1, .ref 22)]) ⟨rfl, rfl, rfl, rfl, trivial⟩ (by show List.Nodup [3, 2, 0, 1]; decide) (by show List.Nodup [3, 2, 6, 5, 4, 0, 1]; decide) ?_
            exact fw_8 hxp
      · rw [show (fx_cb .ne 98 (nI n2)) = true from cb_neT (a := 98) (b := n2) (by omega) (by omega) (by omega)]
        dsimp only [cond]
        refine fe_s 4 (pc' := 68) (lc' := [(6, .int (40 + 1)), (5, .int 0), (4, .int 46), (3, .int 40), (2, .int 7), (0, .ref 0), (1, .ref 22)]) (stk' := []) (mem' := fm g tp bt a b) (fun _ _ _ => rfl) ?_
        rw [show (40 + 1 : Int32) = 41 from rfl]
        refine fe_s 2 (pc' := 72) (lc' := [(6, .int 41), (5, .int 0), (4, .int 46), (3, .int 40), (2, .int 7), (0, .ref 0), (1, .ref 22)]) (stk' := [.int 46, .int 41]) (mem' := fm g tp bt a b) (fun _ _ _ => rfl) ?_
        refine fe_s 1 (pc' := cond (fx_cb .ge 41 46) 115 75) (lc' := [(6, .int 41), (5, .int 0), (4, .int 46), (3, .int 40), (2, .int 7), (0, .ref 0), (1, .ref 22)]) (stk' := []) (mem' := fm g tp bt a b) (fun _ _ _ => rfl) ?_
        rw [show (fx_cb .ge 41 46) = false from by decide]
        dsimp only [cond]
        refine fe_s 1 (pc' := 77) (lc' := [(6, .int 41), (5, .int 0), (4, .int 46), (3, .int 40), (2, .int 7), (0, .ref 0), (1, .ref 22)]) (stk' := [.int 0]) (mem' := fm g tp bt a b) (fun _ _ _ => rfl) ?_
        refine fe_s 1 (pc' := cond (fx_cb .eq 0 0) 115 80) (lc' := [(6, .int 41), (5, .int 0), (4, .int 46), (3, .int 40), (2, .int 7), (0, .ref 0), (1, .ref 22)]) (stk' := []) (mem' := fm g tp bt a b) (fun _ _ _ => rfl) ?_
        rw [show (fx_cb .eq 0 0) = true from by decide]
        dsimp only [cond]
        refine fe_s 1 (pc' := 117) (lc' := [(6, .int 41), (5, .int 0), (4, .int 46), (3, .int 40), (2, .int 7), (0, .ref 0), (1, .ref 22)]) (stk' := [.int 0]) (mem' := fm g tp bt a b) (fun _ _ _ => rfl) ?_
        refine fe_s 1 (pc' := cond (fx_cb .eq 0 0) 122 120) (lc' := [(6, .int 41), (5, .int 0), (4, .int 46), (3, .int 40), (2, .int 7), (0, .ref 0), (1, .ref 22)]) (stk' := []) (mem' := fm g tp bt a b) (fun _ _ _ => rfl) ?_
        rw [show (fx_cb .eq 0 0) = true from by decide]
        dsimp only [cond]
        refine fe_s 4 (pc' := 129) (lc' := [(2, .int (7 + 1)), (6, .int 41), (5, .int 0), (4, .int 46), (3, .int 40), (0, .ref 0), (1, .ref 22)]) (stk' := [.int (46 + 1)]) (mem' := fm g tp bt a b) (fun _ _ _ => rfl) ?_
        rw [show (7 + 1 : Int32) = 8 from rfl]
        rw [show (46 + 1 : Int32) = 47 from rfl]
        refine fe_s 1 (pc' := 130) (lc' := [(3, .int 47), (2, .int 8), (6, .int 41), (5, .int 0), (4, .int 46), (0, .ref 0), (1, .ref 22)]) (stk' := []) (mem' := fm g tp bt a b) (fun _ _ _ => rfl) ?_
        refine fe_s 1 (pc' := fx_to 130 (-116)) (lc' := [(3, .int 47), (2, .int 8), (6, .int 41), (5, .int 0), (4, .int 46), (0, .ref 0), (1, .ref 22)]) (stk' := []) (mem' := fm g tp bt a b) (fun _ _ _ => rfl) ?_
        rw [show fx_to 130 (-116) = 14 from by decide]
        refine fe_w (lc' := [(3, .int 47), (2, .int 8), (0, .ref 0), (1, .ref 22)]) ⟨rfl, rfl, rfl, rfl, trivial⟩ (by show List.Nodup [3, 2, 0, 1]; decide) (by show List.Nodup [3, 2, 6, 5, 4, 0, 1]; decide) ?_
        exact fw_8 hxp
  · rw [show (fx_cb .ne 6 (nI (E - F))) = true from cb_neT (a := 6) (b := E - F) (by omega) (by omega) (by omega)]
    dsimp only [cond]
    refine fe_s 4 (pc' := 68) (lc' := [(6, .int 40), (5, .int 0), (4, .int 46), (3, .int 40), (2, .int 7), (0, .ref 0), (1, .ref 22)]) (stk' := []) (mem' := fm g tp bt a b) (fun _ _ _ => rfl) ?_
    refine fe_s 2 (pc' := 72) (lc' := [(6, .int 40), (5, .int 0), (4, .int 46), (3, .int 40), (2, .int 7), (0, .ref 0), (1, .ref 22)]) (stk' := [.int 46, .int 40]) (mem' := fm g tp bt a b) (fun _ _ _ => rfl) ?_
    refine fe_s 1 (pc' := cond (fx_cb .ge 40 46) 115 75) (lc' := [(6, .int 40), (5, .int 0), (4, .int 46), (3, .int 40), (2, .int 7), (0, .ref 0), (1, .ref 22)]) (stk' := []) (mem' := fm g tp bt a b) (fun _ _ _ => rfl) ?_
    rw [show (fx_cb .ge 40 46) = false from by decide]
    dsimp only [cond]
    refine fe_s 1 (pc' := 77) (lc' := [(6, .int 40), (5, .int 0), (4, .int 46), (3, .int 40), (2, .int 7), (0, .ref 0), (1, .ref 22)]) (stk' := [.int 0]) (mem' := fm g tp bt a b) (fun _ _ _ => rfl) ?_
    refine fe_s 1 (pc' := cond (fx_cb .eq 0 0) 115 80) (lc' := [(6, .int 40), (5, .int 0), (4, .int 46), (3, .int 40), (2, .int 7), (0, .ref 0), (1, .ref 22)]) (stk' := []) (mem' := fm g tp bt a b) (fun _ _ _ => rfl) ?_
    rw [show (fx_cb .eq 0 0) = true from by decide]
    dsimp only [cond]
    refine fe_s 1 (pc' := 117) (lc' := [(6, .int 40), (5, .int 0), (4, .int 46), (3, .int 40), (2, .int 7), (0, .ref 0), (1, .ref 22)]) (stk' := [.int 0]) (mem' := fm g tp bt a b) (fun _ _ _ => rfl) ?_
    refine fe_s 1 (pc' := cond (fx_cb .eq 0 0) 122 120) (lc' := [(6, .int 40), (5, .int 0), (4, .int 46), (3, .int 40), (2, .int 7), (0, .ref 0), (1, .ref 22)]) (stk' := []) (mem' := fm g tp bt a b) (fun _ _ _ => rfl) ?_
    rw [show (fx_cb .eq 0 0) = true from by decide]
    dsimp only [cond]
    refine fe_s 4 (pc' := 129) (lc' := [(2, .int (7 + 1)), (6, .int 40), (5, .int 0), (4, .int 46), (3, .int 40), (0, .ref 0), (1, .ref 22)]) (stk' := [.int (46 + 1)]) (mem' := fm g tp bt a b) (fun _ _ _ => rfl) ?_
    rw [show (7 + 1 : Int32) = 8 from rfl]
    rw [show (46 + 1 : Int32) = 47 from rfl]
    refine fe_s 1 (pc' := 130) (lc' := [(3, .int 47), (2, .int 8), (6, .int 40), (5, .int 0), (4, .int 46), (0, .ref 0), (1, .ref 22)]) (stk' := []) (mem' := fm g tp bt a b) (fun _ _ _ => rfl) ?_
    refine fe_s 1 (pc' := fx_to 130 (-116)) (lc' := [(3, .int 47), (2, .int 8), (6, .int 40), (5, .int 0), (4, .int 46), (0, .ref 0), (1, .ref 22)]) (stk' := []) (mem' := fm g tp bt a b) (fun _ _ _ => rfl) ?_
    rw [show fx_to 130 (-116) = 14 from by decide]
    refine fe_w (lc' := [(3, .int 47), (2, .int 8), (0, .ref 0), (1, .ref 22)]) ⟨rfl, rfl, rfl, rfl, trivial⟩ (by show List.Nodup [3, 2, 0, 1]; decide) (by show List.Nodup [3, 2, 6, 5, 4, 0, 1]; decide) ?_
    exact fw_8 hxp
end FIW5
