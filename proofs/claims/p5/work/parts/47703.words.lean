/-! ===== fx: which word it is (3) ===== -/
section FIW3
variable {g : Nat → Int32} {tp bt : Int64} {a : Nat → Nat → Int32} {b : Nat → Nat → Int64}
theorem fw_13 {S E F : Nat} (hxp : fm_xp g S E F) : fe_R 1 gk_m226 14 [(3, .int 73), (2, .int 13), (0, .ref 0), (1, .ref 22)] [] (fm g tp bt a b) (fm_FI (fm g tp bt a b)) := by
  obtain ⟨h11, hS9, h14, hES, h13, hFE, -, -, -⟩ := id hxp
  refine fe_s 2 (pc' := 16) (lc' := [(3, .int 73), (2, .int 13), (0, .ref 0), (1, .ref 22)]) (stk' := [.ref 22, .int 73]) (mem' := fm g tp bt a b) (fun _ _ _ => rfl) ?_
  refine fe_s 1 (pc' := 19) (lc' := [(3, .int 73), (2, .int 13), (0, .ref 0), (1, .ref 22)]) (stk' := [.int 117, .int 73]) (mem' := fm g tp bt a b) (fun _ _ _ => rfl) ?_
  refine fe_s 1 (pc' := cond (fx_cb .ge 73 117) 133 22) (lc' := [(3, .int 73), (2, .int 13), (0, .ref 0), (1, .ref 22)]) (stk' := []) (mem' := fm g tp bt a b) (fun _ _ _ => rfl) ?_
  rw [show (fx_cb .ge 73 117) = false from by decide]
  dsimp only [cond]
  refine fe_s 4 (pc' := 28) (lc' := [(4, .int 73), (3, .int 73), (2, .int 13), (0, .ref 0), (1, .ref 22)]) (stk' := [.int 73, .ref 22]) (mem' := fm g tp bt a b) (fun _ _ _ => rfl) ?_
  refine fe_chr (i := 73) (by omega) (by rfl) (by rfl) ⟨by rfl, by rfl⟩ (by rfl) ?_
  rw [show sk_b.getD 73 0 = 102 from rfl]
  refine fe_s 1 (pc' := 33) (lc' := [(4, .int 73), (3, .int 73), (2, .int 13), (0, .ref 0), (1, .ref 22)]) (stk' := [.int 32, .int 102]) (mem' := fm g tp bt a b) (fun _ _ _ => rfl) ?_
  refine fe_s 1 (pc' := cond (fx_cb .eq 102 32) 42 36) (lc' := [(4, .int 73), (3, .int 73), (2, .int 13), (0, .ref 0), (1, .ref 22)]) (stk' := []) (mem' := fm g tp bt a b) (fun _ _ _ => rfl) ?_
  rw [show (fx_cb .eq 102 32) = false from by decide]
  dsimp only [cond]
  refine fe_s 4 (pc' := 28) (lc' := [(4, .int (73 + 1)), (3, .int 73), (2, .int 13), (0, .ref 0), (1, .ref 22)]) (stk' := [.int (73 + 1), .ref 22]) (mem' := fm g tp bt a b) (fun _ _ _ => rfl) ?_
  rw [show (73 + 1 : Int32) = 74 from rfl]
  refine fe_chr (i := 74) (by omega) (by rfl) (by rfl) ⟨by rfl, by rfl⟩ (by rfl) ?_
  rw [show sk_b.getD 74 0 = 114 from rfl]
  refine fe_s 1 (pc' := 33) (lc' := [(4, .int 74), (3, .int 73), (2, .int 13), (0, .ref 0), (1, .ref 22)]) (stk' := [.int 32, .int 114]) (mem' := fm g tp bt a b) (fun _ _ _ => rfl) ?_
  refine fe_s 1 (pc' := cond (fx_cb .eq 114 32) 42 36) (lc' := [(4, .int 74), (3, .int 73), (2, .int 13), (0, .ref 0), (1, .ref 22)]) (stk' := []) (mem' := fm g tp bt a b) (fun _ _ _ => rfl) ?_
  rw [show (fx_cb .eq 114 32) = false from by decide]
  dsimp only [cond]
  refine fe_s 4 (pc' := 28) (lc' := [(4, .int (74 + 1)), (3, .int 73), (2, .int 13), (0, .ref 0), (1, .ref 22)]) (stk' := [.int (74 + 1), .ref 22]) (mem' := fm g tp bt a b) (fun _ _ _ => rfl) ?_
  rw [show (74 + 1 : Int32) = 75 from rfl]
  refine fe_chr (i := 75) (by omega) (by rfl) (by rfl) ⟨by rfl, by rfl⟩ (by rfl) ?_
  rw [show sk_b.getD 75 0 = 111 from rfl]
  refine fe_s 1 (pc' := 33) (lc' := [(4, .int 75), (3, .int 73), (2, .int 13), (0, .ref 0), (1, .ref 22)]) (stk' := [.int 32, .int 111]) (mem' := fm g tp bt a b) (fun _ _ _ => rfl) ?_
  refine fe_s 1 (pc' := cond (fx_cb .eq 111 32) 42 36) (lc' := [(4, .int 75), (3, .int 73), (2, .int 13), (0, .ref 0), (1, .ref 22)]) (stk' := []) (mem' := fm g tp bt a b) (fun _ _ _ => rfl) ?_
  rw [show (fx_cb .eq 111 32) = false from by decide]
  dsimp only [cond]
  refine fe_s 4 (pc' := 28) (lc' := [(4, .int (75 + 1)), (3, .int 73), (2, .int 13), (0, .ref 0), (1, .ref 22)]) (stk' := [.int (75 + 1), .ref 22]) (mem' := fm g tp bt a b) (fun _ _ _ => rfl) ?_
  rw [show (75 + 1 : Int32) = 76 from rfl]
  refine fe_chr (i := 76) (by omega) (by rfl) (by rfl) ⟨by rfl, by rfl⟩ (by rfl) ?_
  rw [show sk_b.getD 76 0 = 115 from rfl]
  refine fe_s 1 (pc' := 33) (lc' := [(4, .int 76), (3, .int 73), (2, .int 13), (0, .ref 0), (1, .ref 22)]) (stk' := [.int 32, .int 115]) (mem' := fm g tp bt a b) (fun _ _ _ => rfl) ?_
  refine fe_s 1 (pc' := cond (fx_cb .eq 115 32) 42 36) (lc' := [(4, .int 76), (3, .int 73), (2, .int 13), (0, .ref 0), (1, .ref 22)]) (stk' := []) (mem' := fm g tp bt a b) (fun _ _ _ => rfl) ?_
  rw [show (fx_cb .eq 115 32) = false from by decide]
  dsimp only [cond]
  refine fe_s 4 (pc' := 28) (lc' := [(4, .int (76 + 1)), (3, .int 73), (2, .int 13), (0, .ref 0), (1, .ref 22)]) (stk' := [.int (76 + 1), .ref 22]) (mem' := fm g tp bt a b) (fun _ _ _ => rfl) ?_
  rw [show (76 + 1 : Int32) = 77 from rfl]
  refine fe_chr (i := 77) (by omega) (by rfl) (by rfl) ⟨by rfl, by rfl⟩ (by rfl) ?_
  rw [show sk_b.getD 77 0 = 116 from rfl]
  refine fe_s 1 (pc' := 33) (lc' := [(4, .int 77), (3, .int 73), (2, .int 13), (0, .ref 0), (1, .ref 22)]) (stk' := [.int 32, .int 116]) (mem' := fm g tp bt a b) (fun _ _ _ => rfl) ?_
  refine fe_s 1 (pc' := cond (fx_cb .eq 116 32) 42 36) (lc' := [(4, .int 77), (3, .int 73), (2, .int 13), (0, .ref 0), (1, .ref 22)]) (stk' := []) (mem' := fm g tp bt a b) (fun _ _ _ => rfl) ?_
  rw [show (fx_cb .eq 116 32) = false from by decide]
  dsimp only [cond]
  refine fe_s 4 (pc' := 28) (lc' := [(4, .int (77 + 1)), (3, .int 73), (2, .int 13), (0, .ref 0), (1, .ref 22)]) (stk' := [.int (77 + 1), .ref 22]) (mem' := fm g tp bt a b) (fun _ _ _ => rfl) ?_
  rw [show (77 + 1 : Int32) = 78 from rfl]
  refine fe_chr (i := 78) (by omega) (by rfl) (by rfl) ⟨by rfl, by rfl⟩ (by rfl) ?_
  rw [show sk_b.getD 78 0 = 32 from rfl]
  refine fe_s 1 (pc' := 33) (lc' := [(4, .int 78), (3, .int 73), (2, .int 13), (0, .ref 0), (1, .ref 22)]) (stk' := [.int 32, .int 32]) (mem' := fm g tp bt a b) (fun _ _ _ => rfl) ?_
  refine fe_s 1 (pc' := cond (fx_cb .eq 32 32) 42 36) (lc' := [(4, .int 78), (3, .int 73), (2, .int 13), (0, .ref 0), (1, .ref 22)]) (stk' := []) (mem' := fm g tp bt a b) (fun _ _ _ => rfl) ?_
  rw [show (fx_cb .eq 32 32) = true from by decide]
  dsimp only [cond]
  refine fe_s 4 (pc' := 47) (lc' := [(4, .int 78), (3, .int 73), (2, .int 13), (0, .ref 0), (1, .ref 22)]) (stk' := [.ref 0, .int (78 - 73)]) (mem' := fm g tp bt a b) (fun _ _ _ => rfl) ?_
  rw [show (78 - 73 : Int32) = 5 from rfl]
  refine fe_s 4 (pc' := 55) (lc' := [(4, .int 78), (3, .int 73), (2, .int 13), (0, .ref 0), (1, .ref 22)]) (stk' := [.int ((g 14) - (g 13)), .int 5]) (mem' := fm g tp bt a b) (fun _ _ _ => rfl) ?_
  try rw [h14]
  try rw [h13]
  rw [show ((nI E) - (nI F) : Int32) = nI (E - F) from by simp only [tg_sub2 (x := E) (y := F) (by omega), nI_add, fm_mul]]
  refine fe_s 1 (pc' := cond (fx_cb .ne 5 (nI (E - F))) 62 58) (lc' := [(4, .int 78), (3, .int 73), (2, .int 13), (0, .ref 0), (1, .ref 22)]) (stk' := []) (mem' := fm g tp bt a b) (fun _ _ _ => rfl) ?_
  by_cases h1 : 5 = (E - F)
  · rw [show (fx_cb .ne 5 (nI (E - F))) = false from cb_neF (a := 5) (b := E - F) (by omega) (by omega) (by omega)]
    dsimp only [cond]
    refine fe_s 4 (pc' := 66) (lc' := [(5, .int 1), (4, .int 78), (3, .int 73), (2, .int 13), (0, .ref 0), (1, .ref 22)]) (stk' := [.int 73]) (mem' := fm g tp bt a b) (fun _ _ _ => rfl) ?_
    refine fe_s 3 (pc' := 72) (lc' := [(6, .int 73), (5, .int 1), (4, .int 78), (3, .int 73), (2, .int 13), (0, .ref 0), (1, .ref 22)]) (stk' := [.int 78, .int 73]) (mem' := fm g tp bt a b) (fun _ _ _ => rfl) ?_
    refine fe_s 1 (pc' := cond (fx_cb .ge 73 78) 115 75) (lc' := [(6, .int 73), (5, .int 1), (4, .int 78), (3, .int 73), (2, .int 13), (0, .ref 0), (1, .ref 22)]) (stk' := []) (mem' := fm g tp bt a b) (fun _ _ _ => rfl) ?_
    rw [show (fx_cb .ge 73 78) = false from by decide]
    dsimp only [cond]
    refine fe_s 1 (pc' := 77) (lc' := [(6, .int 73), (5, .int 1), (4, .int 78), (3, .int 73), (2, .int 13), (0, .ref 0), (1, .ref 22)]) (stk' := [.int 1]) (mem' := fm g tp bt a b) (fun _ _ _ => rfl) ?_
    refine fe_s 1 (pc' := cond (fx_cb .eq 1 0) 115 80) (lc' := [(6, .int 73), (5, .int 1), (4, .int 78), (3, .int 73), (2, .int 13), (0, .ref 0), (1, .ref 22)]) (stk' := []) (mem' := fm g tp bt a b) (fun _ _ _ => rfl) ?_
    rw [show (fx_cb .eq 1 0) = false from by decide]
    dsimp only [cond]
    refine fe_s 2 (pc' := 83) (lc' := [(6, .int 73), (5, .int 1), (4, .int 78), (3, .int 73), (2, .int 13), (0, .ref 0), (1, .ref 22)]) (stk' := [.int 73, .ref 22]) (mem' := fm g tp bt a b) (fun _ _ _ => rfl) ?_
    refine fe_chr (i := 73) (by omega) (by rfl) (by rfl) ⟨by rfl, by rfl⟩ (by rfl) ?_
    rw [show sk_b.getD 73 0 = 102 from rfl]
    refine fe_s 4 (pc' := 93) (lc' := [(6, .int 73), (5, .int 1), (4, .int 78), (3, .int 73), (2, .int 13), (0, .ref 0), (1, .ref 22)]) (stk' := [.int 73, .int (g 13), .ref 0, .int 102]) (mem' := fm g tp bt a b) (fun _ _ _ => rfl) ?_
    try rw [h13]
    refine fe_s 3 (pc' := 96) (lc' := [(6, .int 73), (5, .int 1), (4, .int 78), (3, .int 73), (2, .int 13), (0, .ref 0), (1, .ref 22)]) (stk' := [.int (((nI F) + 73) - 73), .ref 0, .int 102]) (mem' := fm g tp bt a b) (fun _ _ _ => rfl) ?_
    rw [show (((nI F) + 73) - 73 : Int32) = nI ((F + 73) - 73) from by simp only [show (73 : Int32) = nI 73 from rfl, tg_sub2 (x := F + 73) (y := 73) (by omega), nI_add, fm_mul]]
    refine fe_ivV (fr_byteAt (S := S) (k := (F + 73) - 73) (g := g) (tp := tp) (bt := bt) (a := a) (b := b) h11 (by omega) (by omega)) (by omega) (by rfl) (by rfl) (by rfl) (by rfl) (by rfl) (by rfl) ?_
    rcases fm_byte_or a S ((F + 73) - 73) with ⟨e3, q4⟩ | ⟨q4, n2, qn2, e3⟩
    · rw [e3]
      refine fe_s 1 (pc' := cond (fx_cb .ne 102 (-1)) 106 102) (lc' := [(6, .int 73), (5, .int 1), (4, .int 78), (3, .int 73), (2, .int 13), (0, .ref 0), (1, .ref 22)]) (stk' := []) (mem' := fm g tp bt a b) (fun _ _ _ => rfl) ?_
      rw [show (fx_cb .ne 102 (-1)) = true from by decide]
      dsimp only [cond]
      refine fe_s 4 (pc' := 68) (lc' := [(6, .int (73 + 1)), (5, .int 0), (4, .int 78), (3, .int 73), (2, .int 13), (0, .ref 0), (1, .ref 22)]) (stk' := []) (mem' := fm g tp bt a b) (fun _ _ _ => rfl) ?_
      rw [show (73 + 1 : Int32) = 74 from rfl]
      refine fe_s 2 (pc' := 72) (lc' := [(6, .int 74), (5, .int 0), (4, .int 78), (3, .int 73), (2, .int 13), (0, .ref 0), (1, .ref 22)]) (stk' := [.int 78, .int 74]) (mem' := fm g tp bt a b) (fun _ _ _ => rfl) ?_
      refine fe_s 1 (pc' := cond (fx_cb .ge 74 78) 115 75) (lc' := [(6, .int 74), (5, .int 0), (4, .int 78), (3, .int 73), (2, .int 13), (0, .ref 0), (1, .ref 22)]) (stk' := []) (mem' := fm g tp bt a b) (fun _ _ _ => rfl) ?_
      rw [show (fx_cb .ge 74 78) = false from by decide]
      dsimp only [cond]
      refine fe_s 1 (pc' := 77) (lc' := [(6, .int 74), (5, .int 0), (4, .int 78), (3, .int 73), (2, .int 13), (0, .ref 0), (1, .ref 22)]) (stk' := [.int 0]) (mem' := fm g tp bt a b) (fun _ _ _ => rfl) ?_
      refine fe_s 1 (pc' := cond (fx_cb .eq 0 0) 115 80) (lc' := [(6, .int 74), (5, .int 0), (4, .int 78), (3, .int 73), (2, .int 13), (0, .ref 0), (1, .ref 22)]) (stk' := []) (mem' := fm g tp bt a b) (fun _ _ _ => rfl) ?_
      rw [show (fx_cb .eq 0 0) = true from by decide]
      dsimp only [cond]
      refine fe_s 1 (pc' := 117) (lc' := [(6, .int 74), (5, .int 0), (4, .int 78), (3, .int 73), (2, .int 13), (0, .ref 0), (1, .ref 22)]) (stk' := [.int 0]) (mem' := fm g tp bt a b) (fun _ _ _ => rfl) ?_
      refine fe_s 1 (pc' := cond (fx_cb .eq 0 0) 122 120) (lc' := [(6, .int 74), (5, .int 0), (4, .int 78), (3, .int 73), (2, .int 13), (0, .ref 0), (1, .ref 22)]) (stk' := []) (mem' := fm g tp bt a b) (fun _ _ _ => rfl) ?_
      rw [show (fx_cb .eq 0 0) = true from by decide]
      dsimp only [cond]
      refine fe_s 4 (pc' := 129) (lc' := [(2, .int (13 + 1)), (6, .int 74), (5, .int 0), (4, .int 78), (3, .int 73), (0, .ref 0), (1, .ref 22)]) (stk' := [.int (78 + 1)]) (mem' := fm g tp bt a b) (fun _ _ _ => rfl) ?_
      rw [show (78 + 1 : Int32) = 79 from rfl]
      rw [show (13 + 1 : Int32) = 14 from rfl]
      refine fe_s 1 (pc' := 130) (lc' := [(3, .int 79), (2, .int 14), (6, .int 74), (5, .int 0), (4, .int 78), (0, .ref 0), (1, .ref 22)]) (stk' := []) (mem' := fm g tp bt a b) (fun _ _ _ => rfl) ?_
      refine fe_s 1 (pc' := fx_to 130 (-116)) (lc' := [(3, .int 79), (2, .int 14), (6, .int 74), (5, .int 0), (4, .int 78), (0, .ref 0), (1, .ref 22)]) (stk' := []) (mem' := fm g tp bt a b) (fun _ _ _ => rfl) ?_
      rw [show fx_to 130 (-116) = 14 from by decide]
      refine fe_w (lc' := [(3, .int 79), (2, .int 14), (0, .ref 0), (1, .ref 22)]) ⟨rfl, rfl, rfl, rfl, trivial⟩ (by show List.Nodup [3, 2, 0, 1]; decide) (by show List.Nodup [3, 2, 6, 5, 4, 0, 1]; decide) ?_
      exact fw_14 hxp
    · rw [e3]
      refine fe_s 1 (pc' := cond (fx_cb .ne 102 (nI n2)) 106 102) (lc' := [(6, .int 73), (5, .int 1), (4, .int 78), (3, .int 73), (2, .int 13), (0, .ref 0), (1, .ref 22)]) (stk' := []) (mem' := fm g tp bt a b) (fun _ _ _ => rfl) ?_
      by_cases h5 : 102 = n2
      · rw [show (fx_cb .ne 102 (nI n2)) = false from cb_neF (a := 102) (b := n2) (by omega) (by omega) (by omega)]
        dsimp only [cond]
        refine fe_s 4 (pc' := 112) (lc' := [(6, .int (73 + 1)), (5, .int 1), (4, .int 78), (3, .int 73), (2, .int 13), (0, .ref 0), (1, .ref 22)]) (stk' := []) (mem' := fm g tp bt a b) (fun _ _ _ => rfl) ?_
        rw [show (73 + 1 : Int32) = 74 from rfl]
        refine fe_s 3 (pc' := 72) (lc' := [(6, .int 74), (5, .int 1), (4, .int 78), (3, .int 73), (2, .int 13), (0, .ref 0), (1, .ref 22)]) (stk' := [.int 78, .int 74]) (mem' := fm g tp bt a b) (fun _ _ _ => rfl) ?_
        refine fe_s 1 (pc' := cond (fx_cb .ge 74 78) 115 75) (lc' := [(6, .int 74), (5, .int 1), (4, .int 78), (3, .int 73), (2, .int 13), (0, .ref 0), (1, .ref 22)]) (stk' := []) (mem' := fm g tp bt a b) (fun _ _ _ => rfl) ?_
        rw [show (fx_cb .ge 74 78) = false from by decide]
        dsimp only [cond]
        refine fe_s 1 (pc' := 77) (lc' := [(6, .int 74), (5, .int 1), (4, .int 78), (3, .int 73), (2, .int 13), (0, .ref 0), (1, .ref 22)]) (stk' := [.int 1]) (mem' := fm g tp bt a b) (fun _ _ _ => rfl) ?_
        refine fe_s 1 (pc' := cond (fx_cb .eq 1 0) 115 80) (lc' := [(6, .int 74), (5, .int 1), (4, .int 78), (3, .int 73), (2, .int 13), (0, .ref 0), (1, .ref 22)]) (stk' := []) (mem' := fm g tp bt a b) (fun _ _ _ => rfl) ?_
        rw [show (fx_cb .eq 1 0) = false from by decide]
        dsimp only [cond]
        refine fe_s 2 (pc' := 83) (lc' := [(6, .int 74), (5, .int 1), (4, .int 78), (3, .int 73), (2, .int 13), (0, .ref 0), (1, .ref 22)]) (stk' := [.int 74, .ref 22]) (mem' := fm g tp bt a b) (fun _ _ _ => rfl) ?_
        refine fe_chr (i := 74) (by omega) (by rfl) (by rfl) ⟨by rfl, by rfl⟩ (by rfl) ?_
        rw [show sk_b.getD 74 0 = 114 from rfl]
        refine fe_s 4 (pc' := 93) (lc' := [(6, .int 74), (5, .int 1), (4, .int 78), (3, .int 73), (2, .int 13), (0, .ref 0), (1, .ref 22)]) (stk' := [.int 74, .int (g 13), .ref 0, .int 114]) (mem' := fm g tp bt a b) (fun _ _ _ => rfl) ?_
        try rw [h13]
        refine fe_s 3 (pc' := 96) (lc' := [(6, .int 74), (5, .int 1), (4, .int 78), (3, .int 73), (2, .int 13), (0, .ref 0), (1, .ref 22)]) (stk' := [.int (((nI F) + 74) - 73), .ref 0, .int 114]) (mem' := fm g tp bt a b) (fun _ _ _ => rfl) ?_
        rw [show (((nI F) + 74) - 73 : Int32) = nI ((F + 74) - 73) from by simp only [show (74 : Int32) = nI 74 from rfl, show (73 : Int32) = nI 73 from rfl, tg_sub2 (x := F + 74) (y := 73) (by omega), nI_add, fm_mul]]
        refine fe_ivV (fr_byteAt (S := S) (k := (F + 74) - 73) (g := g) (tp := tp) (bt := bt) (a := a) (b := b) h11 (by omega) (by omega)) (by omega) (by rfl) (by rfl) (by rfl) (by rfl) (by rfl) (by rfl) ?_
        rcases fm_byte_or a S ((F + 74) - 73) with ⟨e7, q8⟩ | ⟨q8, n6, qn6, e7⟩
        · rw [e7]
          refine fe_s 1 (pc' := cond (fx_cb .ne 114 (-1)) 106 102) (lc' := [(6, .int 74), (5, .int 1), (4, .int 78), (3, .int 73), (2, .int 13), (0, .ref 0), (1, .ref 22)]) (stk' := []) (mem' := fm g tp bt a b) (fun _ _ _ => rfl) ?_
          rw [show (fx_cb .ne 114 (-1)) = true from by decide]
          dsimp only [cond]
          refine fe_s 4 (pc' := 68) (lc' := [(6, .int (74 + 1)), (5, .int 0), (4, .int 78), (3, .int 73), (2, .int 13), (0, .ref 0), (1, .ref 22)]) (stk' := []) (mem' := fm g tp bt a b) (fun _ _ _ => rfl) ?_
          rw [show (74 + 1 : Int32) = 75 from rfl]
          refine fe_s 2 (pc' := 72) (lc' := [(6, .int 75), (5, .int 0), (4, .int 78), (3, .int 73), (2, .int 13), (0, .ref 0), (1, .ref 22)]) (stk' := [.int 78, .int 75]) (mem' := fm g tp bt a b) (fun _ _ _ => rfl) ?_
          refine fe_s 1 (pc' := cond (fx_cb .ge 75 78) 115 75) (lc' := [(6, .int 75), (5, .int 0), (4, .int 78), (3, .int 73), (2, .int 13), (0, .ref 0), (1, .ref 22)]) (stk' := []) (mem' := fm g tp bt a b) (fun _ _ _ => rfl) ?_
          rw [show (fx_cb .ge 75 78) = false from by decide]
          dsimp only [cond]
          refine fe_s 1 (pc' := 77) (lc' := [(6, .int 75), (5, .int 0), (4, .int 78), (3, .int 73), (2, .int 13), (0, .ref 0), (1, .ref 22)]) (stk' := [.int 0]) (mem' := fm g tp bt a b) (fun _ _ _ => rfl) ?_
          refine fe_s 1 (pc' := cond (fx_cb .eq 0 0) 115 80) (lc' := [(6, .int 75), (5, .int 0), (4, .int 78), (3, .int 73), (2, .int 13), (0, .ref 0), (1, .ref 22)]) (stk' := []) (mem' := fm g tp bt a b) (fun _ _ _ => rfl) ?_
          rw [show (fx_cb .eq 0 0) = true from by decide]
          dsimp only [cond]
          refine fe_s 1 (pc' := 117) (lc' := [(6, .int 75), (5, .int 0), (4, .int 78), (3, .int 73), (2, .int 13), (0, .ref 0), (1, .ref 22)]) (stk' := [.int 0]) (mem' := fm g tp bt a b) (fun _ _ _ => rfl) ?_
          refine fe_s 1 (pc' := cond (fx_cb .eq 0 0) 122 120) (lc' := [(6, .int 75), (5, .int 0), (4, .int 78), (3, .int 73), (2, .int 13), (0, .ref 0), (1, .ref 22)]) (stk' := []) (mem' := fm g tp bt a b) (fun _ _ _ => rfl) ?_
          rw [show (fx_cb .eq 0 0) = true from by decide]
          dsimp only [cond]
          refine fe_s 4 (pc' := 129) (lc' := [(2, .int (13 + 1)), (6, .int 75), (5, .int 0), (4, .int 78), (3, .int 73), (0, .ref 0), (1, .ref 22)]) (stk' := [.int (78 + 1)]) (mem' := fm g tp bt a b) (fun _ _ _ => rfl) ?_
          rw [show (78 + 1 : Int32) = 79 from rfl]
          rw [show (13 + 1 : Int32) = 14 from rfl]
          refine fe_s 1 (pc' := 130) (lc' := [(3, .int 79), (2, .int 14), (6, .int 75), (5, .int 0), (4, .int 78), (0, .ref 0), (1, .ref 22)]) (stk' := []) (mem' := fm g tp bt a b) (fun _ _ _ => rfl) ?_
          refine fe_s 1 (pc' := fx_to 130 (-116)) (lc' := [(3, .int 79), (2, .int 14), (6, .int 75), (5, .int 0), (4, .int 78), (0, .ref 0), (1, .ref 22)]) (stk' := []) (mem' := fm g tp bt a b) (fun _ _ _ => rfl) ?_
          rw [show fx_to 130 (-116) = 14 from by decide]
          refine fe_w (lc' := [(3, .int 79), (2, .int 14), (0, .ref 0), (1, .ref 22)]) ⟨rfl, rfl, rfl, rfl, trivial⟩ (by show List.Nodup [3, 2, 0, 1]; decide) (by show List.Nodup [3, 2, 6, 5, 4, 0, 1]; decide) ?_
          exact fw_14 hxp
        · rw [e7]
          refine fe_s 1 (pc' := cond (fx_cb .ne 114 (nI n6)) 106 102) (lc' := [(6, .int 74), (5, .int 1), (4, .int 78), (3, .int 73), (2, .int 13), (0, .ref 0), (1, .ref 22)]) (stk' := []) (mem' := fm g tp bt a b) (fun _ _ _ => rfl) ?_
          by_cases h9 : 114 = n6
          · rw [show (fx_cb .ne 114 (nI n6)) = false from cb_neF (a := 114) (b := n6) (by omega) (by omega) (by omega)]
            dsimp only [cond]
            refine fe_s 4 (pc' := 112) (lc' := [(6, .int (74 + 1)), (5, .int 1), (4, .int 78), (3, .int 73), (2, .int 13), (0, .ref 0), (1, .ref 22)]) (stk' := []) (mem' := fm g tp bt a b) (fun _ _ _ => rfl) ?_
            rw [show (74 + 1 : Int32) = 75 from rfl]
            refine fe_s 3 (pc' := 72) (lc' := [(6, .int 75), (5, .int 1), (4, .int 78), (3, .int 73), (2, .int 13), (0, .ref 0), (1, .ref 22)]) (stk' := [.int 78, .int 75]) (mem' := fm g tp bt a b) (fun _ _ _ => rfl) ?_
            refine fe_s 1 (pc' := cond (fx_cb .ge 75 78) 115 75) (lc' := [(6, .int 75), (5, .int 1), (4, .int 78), (3, .int 73), (2, .int 13), (0, .ref 0), (1, .ref 22)]) (stk' := []) (mem' := fm g tp bt a b) (fun _ _ _ => rfl) ?_
            rw [show (fx_cb .ge 75 78) = false from by decide]
            dsimp only [cond]
            refine fe_s 1 (pc' := 77) (lc' := [(6, .int 75), (5, .int 1), (4, .int 78), (3, .int 73), (2, .int 13), (0, .ref 0), (1, .ref 22)]) (stk' := [.int 1]) (mem' := fm g tp bt a b) (fun _ _ _ => rfl) ?_
            refine fe_s 1 (pc' := cond (fx_cb .eq 1 0) 115 80) (lc' := [(6, .int 75), (5, .int 1), (4, .int 78), (3, .int 73), (2, .int 13), (0, .ref 0), (1, .ref 22)]) (stk' := []) (mem' := fm g tp bt a b) (fun _ _ _ => rfl) ?_
            rw [show (fx_cb .eq 1 0) = false from by decide]
            dsimp only [cond]
            refine fe_s 2 (pc' := 83) (lc' := [(6, .int 75), (5, .int 1), (4, .int 78), (3, .int 73), (2, .int 13), (0, .ref 0), (1, .ref 22)]) (stk' := [.int 75, .ref 22]) (mem' := fm g tp bt a b) (fun _ _ _ => rfl) ?_
            refine fe_chr (i := 75) (by omega) (by rfl) (by rfl) ⟨by rfl, by rfl⟩ (by rfl) ?_
            rw [show sk_b.getD 75 0 = 111 from rfl]
            refine fe_s 4 (pc' := 93) (lc' := [(6, .int 75), (5, .int 1), (4, .int 78), (3, .int 73), (2, .int 13), (0, .ref 0), (1, .ref 22)]) (stk' := [.int 75, .int (g 13), .ref 0, .int 111]) (mem' := fm g tp bt a b) (fun _ _ _ => rfl) ?_
            try rw [h13]
            refine fe_s 3 (pc' := 96) (lc' := [(6, .int 75), (5, .int 1), (4, .int 78), (3, .int 73), (2, .int 13), (0, .ref 0), (1, .ref 22)]) (stk' := [.int (((nI F) + 75) - 73), .ref 0, .int 111]) (mem' := fm g tp bt a b) (fun _ _ _ => rfl) ?_
            rw [show (((nI F) + 75) - 73 : Int32) = nI ((F + 75) - 73) from by simp only [show (75 : Int32) = nI 75 from rfl, show (73 : Int32) = nI 73 from rfl, tg_sub2 (x := F + 75) (y := 73) (by omega), nI_add, fm_mul]]
            refine fe_ivV (fr_byteAt (S := S) (k := (F + 75) - 73) (g := g) (tp := tp) (bt := bt) (a := a) (b := b) h11 (by omega) (by omega)) (by omega) (by rfl) (by rfl) (by rfl) (by rfl) (by rfl) (by rfl) ?_
            rcases fm_byte_or a S ((F + 75) - 73) with ⟨e11, q12⟩ | ⟨q12, n10, qn10, e11⟩
            · rw [e11]
              refine fe_s 1 (pc' := cond (fx_cb .ne 111 (-1)) 106 102) (lc' := [(6, .int 75), (5, .int 1), (4, .int 78), (3, .int 73), (2, .int 13), (0, .ref 0), (1, .ref 22)]) (stk' := []) (mem' := fm g tp bt a b) (fun _ _ _ => rfl) ?_
              rw [show (fx_cb .ne 111 (-1)) = true from by decide]
              dsimp only [cond]
              refine fe_s 4 (pc' := 68) (lc' := [(6, .int (75 + 1)), (5, .int 0), (4, .int 78), (3, .int 73), (2, .int 13), (0, .ref 0), (1, .ref 22)]) (stk' := []) (mem' := fm g tp bt a b) (fun _ _ _ => rfl) ?_
              rw [show (75 + 1 : Int32) = 76 from rfl]
              refine fe_s 2 (pc' := 72) (lc' := [(6, .int 76), (5, .int 0), (4, .int 78), (3, .int 73), (2, .int 13), (0, .ref 0), (1, .ref 22)]) (stk' := [.int 78, .int 76]) (mem' := fm g tp bt a b) (fun _ _ _ => rfl) ?_
              refine fe_s 1 (pc' := cond (fx_cb .ge 76 78) 115 75) (lc' := [(6, .int 76), (5, .int 0), (4, .int 78), (3, .int 73), (2, .int 13), (0, .ref 0), (1, .ref 22)]) (stk' := []) (mem' := fm g tp bt a b) (fun _ _ _ => rfl) ?_
              rw [show (fx_cb .ge 76 78) = false from by decide]
              dsimp only [cond]
              refine fe_s 1 (pc' := 77) (lc' := [(6, .int 76), (5, .int 0), (4, .int 78), (3, .int 73), (2, .int 13), (0, .ref 0), (1, .ref 22)]) (stk' := [.int 0]) (mem' := fm g tp bt a b) (fun _ _ _ => rfl) ?_
              refine fe_s 1 (pc' := cond (fx_cb .eq 0 0) 115 80) (lc' := [(6, .int 76), (5, .int 0), (4, .int 78), (3, .int 73), (2, .int 13), (0, .ref 0), (1, .ref 22)]) (stk' := []) (mem' := fm g tp bt a b) (fun _ _ _ => rfl) ?_
              rw [show (fx_cb .eq 0 0) = true from by decide]
              dsimp only [cond]
              refine fe_s 1 (pc' := 117) (lc' := [(6, .int 76), (5, .int 0), (4, .int 78), (3, .int 73), (2, .int 13), (0, .ref 0), (1, .ref 22)]) (stk' := [.int 0]) (mem' := fm g tp bt a b) (fun _ _ _ => rfl) ?_
              refine fe_s 1 (pc' := cond (fx_cb .eq 0 0) 122 120) (lc' := [(6, .int 76), (5, .int 0), (4, .int 78), (3, .int 73), (2, .int 13), (0, .ref 0), (1, .ref 22)]) (stk' := []) (mem' := fm g tp bt a b) (fun _ _ _ => rfl) ?_
              rw [show (fx_cb .eq 0 0) = true from by decide]
              dsimp only [cond]
              refine fe_s 4 (pc' := 129) (lc' := [(2, .int (13 + 1)), (6, .int 76), (5, .int 0), (4, .int 78), (3, .int 73), (0, .ref 0), (1, .ref 22)]) (stk' := [.int (78 + 1)]) (mem' := fm g tp bt a b) (fun _ _ _ => rfl) ?_
              rw [show (78 + 1 : Int32) = 79 from rfl]
              rw [show (13 + 1 : Int32) = 14 from rfl]
              refine fe_s 1 (pc' := 130) (lc' := [(3, .int 79), (2, .int 14), (6, .int 76), (5, .int 0), (4, .int 78), (0, .ref 0), (1, .ref 22)]) (stk' := []) (mem' := fm g tp bt a b) (fun _ _ _ => rfl) ?_
              refine fe_s 1 (pc' := fx_to 130 (-116)) (lc' := [(3, .int 79), (2, .int 14), (6, .int 76), (5, .int 0), (4, .int 78), (0, .ref 0), (1, .ref 22)]) (stk' := []) (mem' := fm g tp bt a b) (fun _ _ _ => rfl) ?_
              rw [show fx_to 130 (-116) = 14 from by decide]
              refine fe_w (lc' := [(3, .int 79), (2, .int 14), (0, .ref 0), (1, .ref 22)]) ⟨rfl, rfl, rfl, rfl, trivial⟩ (by show List.Nodup [3, 2, 0, 1]; decide) (by show List.Nodup [3, 2, 6, 5, 4, 0, 1]; decide) ?_
              exact fw_14 hxp
            · rw [e11]
              refine fe_s 1 (pc' := cond (fx_cb .ne 111 (nI n10)) 106 102) (lc' := [(6, .int 75), (5, .int 1), (4, .int 78), (3, .int 73), (2, .int 13), (0, .ref 0), (1, .ref 22)]) (stk' := []) (mem' := fm g tp bt a b) (fun _ _ _ => rfl) ?_
              by_cases h13 : 111 = n10
              · rw [show (fx_cb .ne 111 (nI n10)) = false from cb_neF (a := 111) (b := n10) (by omega) (by omega) (by omega)]
                dsimp only [cond]
                refine fe_s 4 (pc' := 112) (lc' := [(6, .int (75 + 1)), (5, .int 1), (4, .int 78), (3, .int 73), (2, .int 13), (0, .ref 0), (1, .ref 22)]) (stk' := []) (mem' := fm g tp bt a b) (fun _ _ _ => rfl) ?_
                rw [show (75 + 1 : Int32) = 76 from rfl]
                refine fe_s 3 (pc' := 72) (lc' := [(6, .int 76), (5, .int 1), (4, .int 78), (3, .int 73), (2, .int 13), (0, .ref 0), (1, .ref 22)]) (stk' := [.int 78, .int 76]) (mem' := fm g tp bt a b) (fun _ _ _ => rfl) ?_
                refine fe_s 1 (pc' := cond (fx_cb .ge 76 78) 115 75) (lc' := [(6, .int 76), (5, .int 1), (4, .int 78), (3, .int 73), (2, .int 13), (0, .ref 0), (1, .ref 22)]) (stk' := []) (mem' := fm g tp bt a b) (fun _ _ _ => rfl) ?_
                rw [show (fx_cb .ge 76 78) = false from by decide]
                dsimp only [cond]
                refine fe_s 1 (pc' := 77) (lc' := [(6, .int 76), (5, .int 1), (4, .int 78), (3, .int 73), (2, .int 13), (0, .ref 0), (1, .ref 22)]) (stk' := [.int 1]) (mem' := fm g tp bt a b) (fun _ _ _ => rfl) ?_
                refine fe_s 1 (pc' := cond (fx_cb .eq 1 0) 115 80) (lc' := [(6, .int 76), (5, .int 1), (4, .int 78), (3, .int 73), (2, .int 13), (0, .ref 0), (1, .ref 22)]) (stk' := []) (mem' := fm g tp bt a b) (fun _ _ _ => rfl) ?_
                rw [show (fx_cb .eq 1 0) = false from by decide]
                dsimp only [cond]
                refine fe_s 2 (pc' := 83) (lc' := [(6, .int 76), (5, .int 1), (4, .int 78), (3, .int 73), (2, .int 13), (0, .ref 0), (1, .ref 22)]) (stk' := [.int 76, .ref 22]) (mem' := fm g tp bt a b) (fun _ _ _ => rfl) ?_
                refine fe_chr (i := 76) (by omega) (by rfl) (by rfl) ⟨by rfl, by rfl⟩ (by rfl) ?_
                rw [show sk_b.getD 76 0 = 115 from rfl]
                refine fe_s 4 (pc' := 93) (lc' := [(6, .int 76), (5, .int 1), (4, .int 78), (3, .int 73), (2, .int 13), (0, .ref 0), (1, .ref 22)]) (stk' := [.int 76, .int (g 13), .ref 0, .int 115]) (mem' := fm g tp bt a b) (fun _ _ _ => rfl) ?_
                try rw [h13]
                refine fe_s 3 (pc' := 96) (lc' := [(6, .int 76), (5, .int 1), (4, .int 78), (3, .int 73), (2, .int 13), (0, .ref 0), (1, .ref 22)]) (stk' := [.int (((nI F) + 76) - 73), .ref 0, .int 115]) (mem' := fm g tp bt a b) (fun _ _ _ => rfl) ?_
                rw [show (((nI F) + 76) - 73 : Int32) = nI ((F + 76) - 73) from by simp only [show (76 : Int32) = nI 76 from rfl, show (73 : Int32) = nI 73 from rfl, tg_sub2 (x := F + 76) (y := 73) (by omega), nI_add, fm_mul]]
                refine fe_ivV (fr_byteAt (S := S) (k := (F + 76) - 73) (g := g) (tp := tp) (bt := bt) (a := a) (b := b) h11 (by omega) (by omega)) (by omega) (by rfl) (by rfl) (by rfl) (by rfl) (by rfl) (by rfl) ?_
                rcases fm_byte_or a S ((F + 76) - 73) with ⟨e15, q16⟩ | ⟨q16, n14, qn14, e15⟩
                · rw [e15]
                  refine fe_s 1 (pc' := cond (fx_cb .ne 115 (-1)) 106 102) (lc' := [(6, .int 76), (5, .int 1), (4, .int 78), (3, .int 73), (2, .int 13), (0, .ref 0), (1, .ref 22)]) (stk' := []) (mem' := fm g tp bt a b) (fun _ _ _ => rfl) ?_
                  rw [show (fx_cb .ne 115 (-1)) = true from by decide]
                  dsimp only [cond]
                  refine fe_s 4 (pc' := 68) (lc' := [(6, .int (76 + 1)), (5, .int 0), (4, .int 78), (3, .int 73), (2, .int 13), (0, .ref 0), (1, .ref 22)]) (stk' := []) (mem' := fm g tp bt a b) (fun _ _ _ => rfl) ?_
                  rw [show (76 + 1 : Int32) = 77 from rfl]
                  refine fe_s 2 (pc' := 72) (lc' := [(6, .int 77), (5, .int 0), (4, .int 78), (3, .int 73), (2, .int 13), (0, .ref 0), (1, .ref 22)]) (stk' := [.int 78, .int 77]) (mem' := fm g tp bt a b) (fun _ _ _ => rfl) ?_
                  refine fe_s 1 (pc' := cond (fx_cb .ge 77 78) 115 75) (lc' := [(6, .int 77), (5, .int 0), (4, .int 78), (3, .int 73), (2, .int 13), (0, .ref 0), (1, .ref 22)]) (stk' := []) (mem' := fm g tp bt a b) (fun _ _ _ => rfl) ?_
                  rw [show (fx_cb .ge 77 78) = false from by decide]
                  dsimp only [cond]
                  refine fe_s 1 (pc' := 77) (lc' := [(6, .int 77), (5, .int 0), (4, .int 78), (3, .int 73), (2, .int 13), (0, .ref 0), (1, .ref 22)]) (stk' := [.int 0]) (mem' := fm g tp bt a b) (fun _ _ _ => rfl) ?_
                  refine fe_s 1 (pc' := cond (fx_cb .eq 0 0) 115 80) (lc' := [(6, .int 77), (5, .int 0), (4, .int 78), (3, .int 73), (2, .int 13), (0, .ref 0), (1, .ref 22)]) (stk' := []) (mem' := fm g tp bt a b) (fun _ _ _ => rfl) ?_
                  rw [show (fx_cb .eq 0 0) = true from by decide]
                  dsimp only [cond]
                  refine fe_s 1 (pc' := 117) (lc' := [(6, .int 77), (5, .int 0), (4, .int 78), (3, .int 73), (2, .int 13), (0, .ref 0), (1, .ref 22)]) (stk' := [.int 0]) (mem' := fm g tp bt a b) (fun _ _ _ => rfl) ?_
                  refine fe_s 1 (pc' := cond (fx_cb .eq 0 0) 122 120) (lc' := [(6, .int 77), (5, .int 0), (4, .int 78), (3, .int 73), (2, .int 13), (0, .ref 0), (1, .ref 22)]) (stk' := []) (mem' := fm g tp bt a b) (fun _ _ _ => rfl) ?_
                  rw [show (fx_cb .eq 0 0) = true from by decide]
                  dsimp only [cond]
                  refine fe_s 4 (pc' := 129) (lc' := [(2, .int (13 + 1)), (6, .int 77), (5, .int 0), (4, .int 78), (3, .int 73), (0, .ref 0), (1, .ref 22)]) (stk' := [.int (78 + 1)]) (mem' := fm g tp bt a b) (fun _ _ _ => rfl) ?_
                  rw [show (78 + 1 : Int32) = 79 from rfl]
                  rw [show (13 + 1 : Int32) = 14 from rfl]
                  refine fe_s 1 (pc' := 130) (lc' := [(3, .int 79), (2, .int 14), (6, .int 77), (5, .int 0), (4, .int 78), (0, .ref 0), (1, .ref 22)]) (stk' := []) (mem' := fm g tp bt a b) (fun _ _ _ => rfl) ?_
                  refine fe_s 1 (pc' := fx_to 130 (-116)) (lc' := [(3, .int 79), (2, .int 14), (6, .int 77), (5, .int 0), (4, .int 78), (0, .ref 0), (1, .ref 22)]) (stk' := []) (mem' := fm g tp bt a b) (fun _ _ _ => rfl) ?_
                  rw [show fx_to 130 (-116) = 14 from by decide]
                  refine fe_w (lc' := [(3, .int 79), (2, .int 14), (0, .ref 0), (1, .ref 22)]) ⟨rfl, rfl, rfl, rfl, trivial⟩ (by show List.Nodup [3, 2, 0, 1]; decide) (by show List.Nodup [3, 2, 6, 5, 4, 0, 1]; decide) ?_
                  exact fw_14 hxp
                · rw [e15]
                  refine fe_s 1 (pc' := cond (fx_cb .ne 115 (nI n14)) 106 102) (lc' := [(6, .int 76), (5, .int 1), (4, .int 78), (3, .int 73), (2, .int 13), (0, .ref 0), (1, .ref 22)]) (stk' := []) (mem' := fm g tp bt a b) (fun _ _ _ => rfl) ?_
                  by_cases h17 : 115 = n14
                  · rw [show (fx_cb .ne 115 (nI n14)) = false from cb_neF (a := 115) (b := n14) (by omega) (by omega) (by omega)]
                    dsimp only [cond]
                    refine fe_s 4 (pc' := 112) (lc' := [(6, .int (76 + 1)), (5, .int 1), (4, .int 78), (3, .int 73), (2, .int 13), (0, .ref 0), (1, .ref 22)]) (stk' := []) (mem' := fm g tp bt a b) (fun _ _ _ => rfl) ?_
                    rw [show (76 + 1 : Int32) = 77 from rfl]
                    refine fe_s 3 (pc' := 72) (lc' := [(6, .int 77), (5, .int 1), (4, .int 78), (3, .int 73), (2, .int 13), (0, .ref 0), (1, .ref 22)]) (stk' := [.int 78, .int 77]) (mem' := fm g tp bt a b) (fun _ _ _ => rfl) ?_
                    refine fe_s 1 (pc' := cond (fx_cb .ge 77 78) 115 75) (lc' := [(6, .int 77), (5, .int 1), (4, .int 78), (3, .int 73), (2, .int 13), (0, .ref 0), (1, .ref 22)]) (stk' := []) (mem' := fm g tp bt a b) (fun _ _ _ => rfl) ?_
                    rw [show (fx_cb .ge 77 78) = false from by decide]
                    dsimp only [cond]
                    refine fe_s 1 (pc' := 77) (lc' := [(6, .int 77), (5, .int 1), (4, .int 78), (3, .int 73), (2, .int 13), (0, .ref 0), (1, .ref 22)]) (stk' := [.int 1]) (mem' := fm g tp bt a b) (fun _ _ _ => rfl) ?_
                    refine fe_s 1 (pc' := cond (fx_cb .eq 1 0) 115 80) (lc' := [(6, .int 77), (5, .int 1), (4, .int 78), (3, .int 73), (2, .int 13), (0, .ref 0), (1, .ref 22)]) (stk' := []) (mem' := fm g tp bt a b) (fun _ _ _ => rfl) ?_
                    rw [show (fx_cb .eq 1 0) = false from by decide]
                    dsimp only [cond]
                    refine fe_s 2 (pc' := 83) (lc' := [(6, .int 77), (5, .int 1), (4, .int 78), (3, .int 73), (2, .int 13), (0, .ref 0), (1, .ref 22)]) (stk' := [.int 77, .ref 22]) (mem' := fm g tp bt a b) (fun _ _ _ => rfl) ?_
                    refine fe_chr (i := 77) (by omega) (by rfl) (by rfl) ⟨by rfl, by rfl⟩ (by rfl) ?_
                    rw [show sk_b.getD 77 0 = 116 from rfl]
                    refine fe_s 4 (pc' := 93) (lc' := [(6, .int 77), (5, .int 1), (4, .int 78), (3, .int 73), (2, .int 13), (0, .ref 0), (1, .ref 22)]) (stk' := [.int 77, .int (g 13), .ref 0, .int 116]) (mem' := fm g tp bt a b) (fun _ _ _ => rfl) ?_
                    try rw [h13]
                    refine fe_s 3 (pc' := 96) (lc' := [(6, .int 77), (5, .int 1), (4, .int 78), (3, .int 73), (2, .int 13), (0, .ref 0), (1, .ref 22)]) (stk' := [.int (((nI F) + 77) - 73), .ref 0, .int 116]) (mem' := fm g tp bt a b) (fun _ _ _ => rfl) ?_
                    rw [show (((nI F) + 77) - 73 : Int32) = nI ((F + 77) - 73) from by simp only [show (77 : Int32) = nI 77 from rfl, show (73 : Int32) = nI 73 from rfl, tg_sub2 (x := F + 77) (y := 73) (by omega), nI_add, fm_mul]]
                    refine fe_ivV (fr_byteAt (S := S) (k := (F + 77) - 73) (g := g) (tp := tp) (bt := bt) (a := a) (b := b) h11 (by omega) (by omega)) (by omega) (by rfl) (by rfl) (by rfl) (by rfl) (by rfl) (by rfl) ?_
                    rcases fm_byte_or a S ((F + 77) - 73) with ⟨e19, q20⟩ | ⟨q20, n18, qn18, e19⟩
                    · rw [e19]
                      refine fe_s 1 (pc' := cond (fx_cb .ne 116 (-1)) 106 102) (lc' := [(6, .int 77), (5, .int 1), (4, .int 78), (3, .int 73), (2, .int 13), (0, .ref 0), (1, .ref 22)]) (stk' := []) (mem' := fm g tp bt a b) (fun _ _ _ => rfl) ?_
                      rw [show (fx_cb .ne 116 (-1)) = true from by decide]
                      dsimp only [cond]
                      refine fe_s 4 (pc' := 68) (lc' := [(6, .int (77 + 1)), (5, .int 0), (4, .int 78), (3, .int 73), (2, .int 13), (0, .ref 0), (1, .ref 22)]) (stk' := []) (mem' := fm g tp bt a b) (fun _ _ _ => rfl) ?_
                      rw [show (77 + 1 : Int32) = 78 from rfl]
                      refine fe_s 2 (pc' := 72) (lc' := [(6, .int 78), (5, .int 0), (4, .int 78), (3, .int 73), (2, .int 13), (0, .ref 0), (1, .ref 22)]) (stk' := [.int 78, .int 78]) (mem' := fm g tp bt a b) (fun _ _ _ => rfl) ?_
                      refine fe_s 1 (pc' := cond (fx_cb .ge 78 78) 115 75) (lc' := [(6, .int 78), (5, .int 0), (4, .int 78), (3, .int 73), (2, .int 13), (0, .ref 0), (1, .ref 22)]) (stk' := []) (mem' := fm g tp bt a b) (fun _ _ _ => rfl) ?_
                      rw [show (fx_cb .ge 78 78) = true from by decide]
                      dsimp only [cond]
                      refine fe_s 1 (pc' := 117) (lc' := [(6, .int 78), (5, .int 0), (4, .int 78), (3, .int 73), (2, .int 13), (0, .ref 0), (1, .ref 22)]) (stk' := [.int 0]) (mem' := fm g tp bt a b) (fun _ _ _ => rfl) ?_
                      refine fe_s 1 (pc' := cond (fx_cb .eq 0 0) 122 120) (lc' := [(6, .int 78), (5, .int 0), (4, .int 78), (3, .int 73), (2, .int 13), (0, .ref 0), (1, .ref 22)]) (stk' := []) (mem' := fm g tp bt a b) (fun _ _ _ => rfl) ?_
                      rw [show (fx_cb .eq 0 0) = true from by decide]
                      dsimp only [cond]
                      refine fe_s 4 (pc' := 129) (lc' := [(2, .int (13 + 1)), (6, .int 78), (5, .int 0), (4, .int 78), (3, .int 73), (0, .ref 0), (1, .ref 22)]) (stk' := [.int (78 + 1)]) (mem' := fm g tp bt a b) (fun _ _ _ => rfl) ?_
                      rw [show (78 + 1 : Int32) = 79 from rfl]
                      rw [show (13 + 1 : Int32) = 14 from rfl]
                      refine fe_s 1 (pc' := 130) (lc' := [(3, .int 79), (2, .int 14), (6, .int 78), (5, .int 0), (4, .int 78), (0, .ref 0), (1, .ref 22)]) (stk' := []) (mem' := fm g tp bt a b) (fun _ _ _ => rfl) ?_
                      refine fe_s 1 (pc' := fx_to 130 (-116)) (lc' := [(3, .int 79), (2, .int 14), (6, .int 78), (5, .int 0), (4, .int 78), (0, .ref 0), (1, .ref 22)]) (stk' := []) (mem' := fm g tp bt a b) (fun _ _ _ => rfl) ?_
                      rw [show fx_to 130 (-116) = 14 from by decide]
                      refine fe_w (lc' := [(3, .int 79), (2, .int 14), (0, .ref 0), (1, .ref 22)]) ⟨rfl, rfl, rfl, rfl, trivial⟩ (by show List.Nodup [3, 2, 0, 1]; decide) (by show List.Nodup [3, 2, 6, 5, 4, 0, 1]; decide) ?_
                      exact fw_14 hxp
                    · rw [e19]
                      refine fe_s 1 (pc' := cond (fx_cb .ne 116 (nI n18)) 106 102) (lc' := [(6, .int 77), (5, .int 1), (4, .int 78), (3, .int 73), (2, .int 13), (0, .ref 0), (1, .ref 22)]) (stk' := []) (mem' := fm g tp bt a b) (fun _ _ _ => rfl) ?_
                      by_cases h21 : 116 = n18
                      · rw [show (fx_cb .ne 116 (nI n18)) = false from cb_neF (a := 116) (b := n18) (by omega) (by omega) (by omega)]
                        dsimp only [cond]
                        refine fe_s 4 (pc' := 112) (lc' := [(6, .int (77 + 1)), (5, .int 1), (4, .int 78), (3, .int 73), (2, .int 13), (0, .ref 0), (1, .ref 22)]) (stk' := []) (mem' := fm g tp bt a b) (fun _ _ _ => rfl) ?_
                        rw [show (77 + 1 : Int32) = 78 from rfl]
                        refine fe_s 3 (pc' := 72) (lc' := [(6, .int 78), (5, .int 1), (4, .int 78), (3, .int 73), (2, .int 13), (0, .ref 0), (1, .ref 22)]) (stk' := [.int 78, .int 78]) (mem' := fm g tp bt a b) (fun _ _ _ => rfl) ?_
                        refine fe_s 1 (pc' := cond (fx_cb .ge 78 78) 115 75) (lc' := [(6, .int 78), (5, .int 1), (4, .int 78), (3, .int 73), (2, .int 13), (0, .ref 0), (1, .ref 22)]) (stk' := []) (mem' := fm g tp bt a b) (fun _ _ _ => rfl) ?_
                        rw [show (fx_cb .ge 78 78) = true from by decide]
                        dsimp only [cond]
                        refine fe_s 1 (pc' := 117) (lc' := [(6, .int 78), (5, .int 1), (4, .int 78), (3, .int 73), (2, .int 13), (0, .ref 0), (1, .ref 22)]) (stk' := [.int 1]) (mem' := fm g tp bt a b) (fun _ _ _ => rfl) ?_
                        refine fe_s 1 (pc' := cond (fx_cb .eq 1 0) 122 120) (lc' := [(6, .int 78), (5, .int 1), (4, .int 78), (3, .int 73), (2, .int 13), (0, .ref 0), (1, .ref 22)]) (stk' := []) (mem' := fm g tp bt a b) (fun _ _ _ => rfl) ?_
                        rw [show (fx_cb .eq 1 0) = false from by decide]
                        dsimp only [cond]
                        refine fe_s 1 (pc' := 121) (lc' := [(6, .int 78), (5, .int 1), (4, .int 78), (3, .int 73), (2, .int 13), (0, .ref 0), (1, .ref 22)]) (stk' := [.int 13]) (mem' := fm g tp bt a b) (fun _ _ _ => rfl) ?_
                        exact fe_ret ⟨_, Or.inr ⟨13, by omega, rfl⟩, rfl⟩ (by rfl) (by rfl) (by rfl)
                      · rw [show (fx_cb .ne 116 (nI n18)) = true from cb_neT (a := 116) (b := n18) (by omega) (by omega) (by omega)]
                        dsimp only [cond]
                        refine fe_s 4 (pc' := 68) (lc' := [(6, .int (77 + 1)), (5, .int 0), (4, .int 78), (3, .int 73), (2, .int 13), (0, .ref 0), (1, .ref 22)]) (stk' := []) (mem' := fm g tp bt a b) (fun _ _ _ => rfl) ?_
                        rw [show (77 + 1 : Int32) = 78 from rfl]
                        refine fe_s 2 (pc' := 72) (lc' := [(6, .int 78), (5, .int 0), (4, .int 78), (3, .int 73), (2, .int 13), (0, .ref 0), (1, .ref 22)]) (stk' := [.int 78, .int 78]) (mem' := fm g tp bt a b) (fun _ _ _ => rfl) ?_
                        refine fe_s 1 (pc' := cond (fx_cb .ge 78 78) 115 75) (lc' := [(6, .int 78), (5, .int 0), (4, .int 78), (3, .int 73), (2, .int 13), (0, .ref 0), (1, .ref 22)]) (stk' := []) (mem' := fm g tp bt a b) (fun _ _ _ => rfl) ?_
                        rw [show (fx_cb .ge 78 78) = true from by decide]
                        dsimp only [cond]
                        refine fe_s 1 (pc' := 117) (lc' := [(6, .int 78), (5, .int 0), (4, .int 78), (3, .int 73), (2, .int 13), (0, .ref 0), (1, .ref 22)]) (stk' := [.int 0]) (mem' := fm g tp bt a b) (fun _ _ _ => rfl) ?_
                        refine fe_s 1 (pc' := cond (fx_cb .eq 0 0) 122 120) (lc' := [(6, .int 78), (5, .int 0), (4, .int 78), (3, .int 73), (2, .int 13), (0, .ref 0), (1, .ref 22)]) (stk' := []) (mem' := fm g tp bt a b) (fun _ _ _ => rfl) ?_
                        rw [show (fx_cb .eq 0 0) = true from by decide]
                        dsimp only [cond]
                        refine fe_s 4 (pc' := 129) (lc' := [(2, .int (13 + 1)), (6, .int 78), (5, .int 0), (4, .int 78), (3, .int 73), (0, .ref 0), (1, .ref 22)]) (stk' := [.int (78 + 1)]) (mem' := fm g tp bt a b) (fun _ _ _ => rfl) ?_
                        rw [show (78 + 1 : Int32) = 79 from rfl]
                        rw [show (13 + 1 : Int32) = 14 from rfl]
                        refine fe_s 1 (pc' := 130) (lc' := [(3, .int 79), (2, .int 14), (6, .int 78), (5, .int 0), (4, .int 78), (0, .ref 0), (1, .ref 22)]) (stk' := []) (mem' := fm g tp bt a b) (fun _ _ _ => rfl) ?_
                        refine fe_s 1 (pc' := fx_to 130 (-116)) (lc' := [(3, .int 79), (2, .int 14), (6, .int 78), (5, .int 0), (4, .int 78), (0, .ref 0), (1, .ref 22)]) (stk' := []) (mem' := fm g tp bt a b) (fun _ _ _ => rfl) ?_
                        rw [show fx_to 130 (-116) = 14 from by decide]
                        refine fe_w (lc' := [(3, .int 79), (2, .int 14), (0, .ref 0), (1, .ref 22)]) ⟨rfl, rfl, rfl, rfl, trivial⟩ (by show List.Nodup [3, 2, 0, 1]; decide) (by show List.Nodup [3, 2, 6, 5, 4, 0, 1]; decide) ?_
                        exact fw_14 hxp
                  · rw [show (fx_cb .ne 115 (nI n14)) = true from cb_neT (a := 115) (b := n14) (by omega) (by omega) (by omega)]
                    dsimp only [cond]
                    refine fe_s 4 (pc' := 68) (lc' := [(6, .int (76 + 1)), (5, .int 0), (4, .int 78), (3, .int 73), (2, .int 13), (0, .ref 0), (1, .ref 22)]) (stk' := []) (mem' := fm g tp bt a b) (fun _ _ _ => rfl) ?_
                    rw [show (76 + 1 : Int32) = 77 from rfl]
                    refine fe_s 2 (pc' := 72) (lc' := [(6, .int 77), (5, .int 0), (4, .int 78), (3, .int 73), (2, .int 13), (0, .ref 0), (1, .ref 22)]) (stk' := [.int 78, .int 77]) (mem' := fm g tp bt a b) (fun _ _ _ => rfl) ?_
                    refine fe_s 1 (pc' := cond (fx_cb .ge 77 78) 115 75) (lc' := [(6, .int 77), (5, .int 0), (4, .int 78), (3, .int 73), (2, .int 13), (0, .ref 0), (1, .ref 22)]) (stk' := []) (mem' := fm g tp bt a b) (fun _ _ _ => rfl) ?_
                    rw [show (fx_cb .ge 77 78) = false from by decide]
                    dsimp only [cond]
                    refine fe_s 1 (pc' := 77) (lc' := [(6, .int 77), (5, .int 0), (4, .int 78), (3, .int 73), (2, .int 13), (0, .ref 0), (1, .ref 22)]) (stk' := [.int 0]) (mem' := fm g tp bt a b) (fun _ _ _ => rfl) ?_
                    refine fe_s 1 (pc' := cond (fx_cb .eq 0 0) 115 80) (lc' := [(6, .int 77), (5, .int 0), (4, .int 78), (3, .int 73), (2, .int 13), (0, .ref 0), (1, .ref 22)]) (stk' := []) (mem' := fm g tp bt a b) (fun _ _ _ => rfl) ?_
                    rw [show (fx_cb .eq 0 0) = true from by decide]
                    dsimp only [cond]
                    refine fe_s 1 (pc' := 117) (lc' := [(6, .int 77), (5, .int 0), (4, .int 78), (3, .int 73), (2, .int 13), (0, .ref 0), (1, .ref 22)]) (stk' := [.int 0]) (mem' := fm g tp bt a b) (fun _ _ _ => rfl) ?_
                    refine fe_s 1 (pc' := cond (fx_cb .eq 0 0) 122 120) (lc' := [(6, .int 77), (5, .int 0), (4, .int 78), (3, .int 73), (2, .int 13), (0, .ref 0), (1, .ref 22)]) (stk' := []) (mem' := fm g tp bt a b) (fun _ _ _ => rfl) ?_
                    rw [show (fx_cb .eq 0 0) = true from by decide]
                    dsimp only [cond]
                    refine fe_s 4 (pc' := 129) (lc' := [(2, .int (13 + 1)), (6, .int 77), (5, .int 0), (4, .int 78), (3, .int 73), (0, .ref 0), (1, .ref 22)]) (stk' := [.int (78 + 1)]) (mem' := fm g tp bt a b) (fun _ _ _ => rfl) ?_
                    rw [show (78 + 1 : Int32) = 79 from rfl]
                    rw [show (13 + 1 : Int32) = 14 from rfl]
                    refine fe_s 1 (pc' := 130) (lc' := [(3, .int 79), (2, .int 14), (6, .int 77), (5, .int 0), (4, .int 78), (0, .ref 0), (1, .ref 22)]) (stk' := []) (mem' := fm g tp bt a b) (fun _ _ _ => rfl) ?_
                    refine fe_s 1 (pc' := fx_to 130 (-116)) (lc' := [(3, .int 79), (2, .int 14), (6, .int 77), (5, .int 0), (4, .int 78), (0, .ref 0), (1, .ref 22)]) (stk' := []) (mem' := fm g tp bt a b) (fun _ _ _ => rfl) ?_
                    rw [show fx_to 130 (-116) = 14 from by decide]
                    refine fe_w (lc' := [(3, .int 79), (2, .int 14), (0, .ref 0), (1, .ref 22)]) ⟨rfl, rfl, rfl, rfl, trivial⟩ (by show List.Nodup [3, 2, 0, 1]; decide) (by show List.Nodup [3, 2, 6, 5, 4, 0, 1]; decide) ?_
                    exact fw_14 hxp
              · rw [show (fx_cb .ne 111 (nI n10)) = true from cb_neT (a := 111) (b := n10) (by omega) (by omega) (by omega)]
                dsimp only [cond]
                refine fe_s 4 (pc' := 68) (lc' := [(6, .int (75 + 1)), (5, .int 0), (4, .int 78), (3, .int 73), (2, .int 13), (0, .ref 0), (1, .ref 22)]) (stk' := []) (mem' := fm g tp bt a b) (fun _ _ _ => rfl) ?_
                rw [show (75 + 1 : Int32) = 76 from rfl]
                refine fe_s 2 (pc' := 72) (lc' := [(6, .int 76), (5, .int 0), (4, .int 78), (3, .int 73), (2, .int 13), (0, .ref 0), (1, .ref 22)]) (stk' := [.int 78, .int 76]) (mem' := fm g tp bt a b) (fun _ _ _ => rfl) ?_
                refine fe_s 1 (pc' := cond (fx_cb .ge 76 78) 115 75) (lc' := [(6, .int 76), (5, .int 0), (4, .int 78), (3, .int 73), (2, .int 13), (0, .ref 0), (1, .ref 22)]) (stk' := []) (mem' := fm g tp bt a b) (fun _ _ _ => rfl) ?_
                rw [show (fx_cb .ge 76 78) = false from by decide]
                dsimp only [cond]
                refine fe_s 1 (pc' := 77) (lc' := [(6, .int 76), (5, .int 0), (4, .int 78), (3, .int 73), (2, .int 13), (0, .ref 0), (1, .ref 22)]) (stk' := [.int 0]) (mem' := fm g tp bt a b) (fun _ _ _ => rfl) ?_
                refine fe_s 1 (pc' := cond (fx_cb .eq 0 0) 115 80) (lc' := [(6, .int 76), (5, .int 0), (4, .int 78), (3, .int 73), (2, .int 13), (0, .ref 0), (1, .ref 22)]) (stk' := []) (mem' := fm g tp bt a b) (fun _ _ _ => rfl) ?_
                rw [show (fx_cb .eq 0 0) = true from by decide]
                dsimp only [cond]
                refine fe_s 1 (pc' := 117) (lc' := [(6, .int 76), (5, .int 0), (4, .int 78), (3, .int 73), (2, .int 13), (0, .ref 0), (1, .ref 22)]) (stk' := [.int 0]) (mem' := fm g tp bt a b) (fun _ _ _ => rfl) ?_
                refine fe_s 1 (pc' := cond (fx_cb .eq 0 0) 122 120) (lc' := [(6, .int 76), (5, .int 0), (4, .int 78), (3, .int 73), (2, .int 13), (0, .ref 0), (1, .ref 22)]) (stk' := []) (mem' := fm g tp bt a b) (fun _ _ _ => rfl) ?_
                rw [show (fx_cb .eq 0 0) = true from by decide]
                dsimp only [cond]
                refine fe_s 4 (pc' := 129) (lc' := [(2, .int (13 + 1)), (6, .int 76), (5, .int 0), (4, .int 78), (3, .int 73), (0, .ref 0), (1, .ref 22)]) (stk' := [.int (78 + 1)]) (mem' := fm g tp bt a b) (fun _ _ _ => rfl) ?_
                rw [show (78 + 1 : Int32) = 79 from rfl]
                rw [show (13 + 1 : Int32) = 14 from rfl]
                refine fe_s 1 (pc' := 130) (lc' := [(3, .int 79), (2, .int 14), (6, .int 76), (5, .int 0), (4, .int 78), (0, .ref 0), (1, .ref 22)]) (stk' := []) (mem' := fm g tp bt a b) (fun _ _ _ => rfl) ?_
                refine fe_s 1 (pc' := fx_to 130 (-116)) (lc' := [(3, .int 79), (2, .int 14), (6, .int 76), (5, .int 0), (4, .int 78), (0, .ref 0), (1, .ref 22)]) (stk' := []) (mem' := fm g tp bt a b) (fun _ _ _ => rfl) ?_
                rw [show fx_to 130 (-116) = 14 from by decide]
                refine fe_w (lc' := [(3, .int 79), (2, .int 14), (0, .ref 0), (1, .ref 22)]) ⟨rfl, rfl, rfl, rfl, trivial⟩ (by show List.Nodup [3, 2, 0, 1]; decide) (by show List.Nodup [3, 2, 6, 5, 4, 0, 1]; decide) ?_
                exact fw_14 hxp
          · rw [show (fx_cb .ne 114 (nI n6)) = true from cb_neT (a := 114) (b := n6) (by omega) (by omega) (by omega)]
            dsimp only [cond]
            refine fe_s 4 (pc' := 68) (lc' := [(6, .int (74 + 1)), (5, .int 0), (4, .int 78), (3, .int 73), (2, .int 13), (0, .ref 0), (1, .ref 22)]) (stk' := []) (mem' := fm g tp bt a b) (fun _ _ _ => rfl) ?_
            rw [show (74 + 1 : Int32) = 75 from rfl]
            refine fe_s 2 (pc' := 72) (lc' := [(6, .int 75), (5, .int 0), (4, .int 78), (3, .int 73), (2, .int 13), (0, .ref 0), (1, .ref 22)]) (stk' := [.int 78, .int 75]) (mem' := fm g tp bt a b) (fun _ _ _ => rfl) ?_
            refine fe_s 1 (pc' := cond (fx_cb .ge 75 78) 115 75) (lc' := [(6, .int 75), (5, .int 0), (4, .int 78), (3, .int 73), (2, .int 13), (0, .ref 0), (1, .ref 22)]) (stk' := []) (mem' := fm g tp bt a b) (fun _ _ _ => rfl) ?_
            rw [show (fx_cb .ge 75 78) = false from by decide]
            dsimp only [cond]
            refine fe_s 1 (pc' := 77) (lc' := [(6, .int 75), (5, .int 0), (4, .int 78), (3, .int 73), (2, .int 13), (0, .ref 0), (1, .ref 22)]) (stk' := [.int 0]) (mem' := fm g tp bt a b) (fun _ _ _ => rfl) ?_
            refine fe_s 1 (pc' := cond (fx_cb .eq 0 0) 115 80) (lc' := [(6, .int 75), (5, .int 0), (4, .int 78), (3, .int 73), (2, .int 13), (0, .ref 0), (1, .ref 22)]) (stk' := []) (mem' := fm g tp bt a b) (fun _ _ _ => rfl) ?_
            rw [show (fx_cb .eq 0 0) = true from by decide]
            dsimp only [cond]
            refine fe_s 1 (pc' := 117) (lc' := [(6, .int 75), (5, .int 0), (4, .int 78), (3, .int 73), (2, .int 13), (0, .ref 0), (1, .ref 22)]) (stk' := [.int 0]) (mem' := fm g tp bt a b) (fun _ _ _ => rfl) ?_
            refine fe_s 1 (pc' := cond (fx_cb .eq 0 0) 122 120) (lc' := [(6, .int 75), (5, .int 0), (4, .int 78), (3, .int 73), (2, .int 13), (0, .ref 0), (1, .ref 22)]) (stk' := []) (mem' := fm g tp bt a b) (fun _ _ _ => rfl) ?_
            rw [show (fx_cb .eq 0 0) = true from by decide]
            dsimp only [cond]
            refine fe_s 4 (pc' := 129) (lc' := [(2, .int (13 + 1)), (6, .int 75), (5, .int 0), (4, .int 78), (3, .int 73), (0, .ref 0), (1, .ref 22)]) (stk' := [.int (78 + 1)]) (mem' := fm g tp bt a b) (fun _ _ _ => rfl) ?_
            rw [show (78 + 1 : Int32) = 79 from rfl]
            rw [show (13 + 1 : Int32) = 14 from rfl]
            refine fe_s 1 (pc' := 130) (lc' := [(3, .int 79), (2, .int 14), (6, .int 75), (5, .int 0), (4, .int 78), (0, .ref 0), (1, .ref 22)]) (stk' := []) (mem' := fm g tp bt a b) (fun _ _ _ => rfl) ?_
            refine fe_s 1 (pc' := fx_to 130 (-116)) (lc' := [(3, .int 79), (2, .int 14), (6, .int 75), (5, .int 0), (4, .int 78), (0, .ref 0), (1, .ref 22)]) (stk' := []) (mem' := fm g tp bt a b) (fun _ _ _ => rfl) ?_
            rw [show fx_to 130 (-116) = 14 from by decide]
            refine fe_w (lc' := [(3, .int 79), (2, .int 14), (0, .ref 0), (1, .ref 22)]) ⟨rfl, rfl, rfl, rfl, trivial⟩ (by show List.Nodup [3, 2, 0, 1]; decide) (by show List.Nodup [3, 2, 6, 5, 4, 0, 1]; decide) ?_
            exact fw_14 hxp
      · rw [show (fx_cb .ne 102 (nI n2)) = true from cb_neT (a := 102) (b := n2) (by omega) (by omega) (by omega)]
        dsimp only [cond]
        refine fe_s 4 (pc' := 68) (lc' := [(6, .int (73 + 1)), (5, .int 0), (4, .int 78), (3, .int 73), (2, .int 13), (0, .ref 0), (1, .ref 22)]) (stk' := []) (mem' := fm g tp bt a b) (fun _ _ _ => rfl) ?_
        rw [show (73 + 1 : Int32) = 74 from rfl]
        refine fe_s 2 (pc' := 72) (lc' := [(6, .int 74), (5, .int 0), (4, .int 78), (3, .int 73), (2, .int 13), (0, .ref 0), (1, .ref 22)]) (stk' := [.int 78, .int 74]) (mem' := fm g tp bt a b) (fun _ _ _ => rfl) ?_
        refine fe_s 1 (pc' := cond (fx_cb .ge 74 78) 115 75) (lc' := [(6, .int 74), (5, .int 0), (4, .int 78), (3, .int 73), (2, .int 13), (0, .ref 0), (1, .ref 22)]) (stk' := []) (mem' := fm g tp bt a b) (fun _ _ _ => rfl) ?_
        rw [show (fx_cb .ge 74 78) = false from by decide]
        dsimp only [cond]
        refine fe_s 1 (pc' := 77) (lc' := [(6, .int 74), (5, .int 0), (4, .int 78), (3, .int 73), (2, .int 13), (0, .ref 0), (1, .ref 22)]) (stk' := [.int 0]) (mem' := fm g tp bt a b) (fun _ _ _ => rfl) ?_
        refine fe_s 1 (pc' := cond (fx_cb .eq 0 0) 115 80) (lc' := [(6, .int 74), (5, .int 0), (4, .int 78), (3, .int 73), (2, .int 13), (0, .ref 0), (1, .ref 22)]) (stk' := []) (mem' := fm g tp bt a b) (fun _ _ _ => rfl) ?_
        rw [show (fx_cb .eq 0 0) = true from by decide]
        dsimp only [cond]
        refine fe_s 1 (pc' := 117) (lc' := [(6, .int 74), (5, .int 0), (4, .int 78), (3, .int 73), (2, .int 13), (0, .ref 0), (1, .ref 22)]) (stk' := [.int 0]) (mem' := fm g tp bt a b) (fun _ _ _ => rfl) ?_
        refine fe_s 1 (pc' := cond (fx_cb .eq 0 0) 122 120) (lc' := [(6, .int 74), (5, .int 0), (4, .int 78), (3, .int 73), (2, .int 13), (0, .ref 0), (1, .ref 22)]) (stk' := []) (mem' := fm g tp bt a b) (fun _ _ _ => rfl) ?_
        rw [show (fx_cb .eq 0 0) = true from by decide]
        dsimp only [cond]
        refine fe_s 4 (pc' := 129) (lc' := [(2, .int (13 + 1)), (6, .int 74), (5, .int 0), (4, .int 78), (3, .int 73), (0, .ref 0), (1, .ref 22)]) (stk' := [.int (78 + 1)]) (mem' := fm g tp bt a b) (fun _ _ _ => rfl) ?_
        rw [show (78 + 1 : Int32) = 79 from rfl]
        rw [show (13 + 1 : Int32) = 14 from rfl]
        refine fe_s 1 (pc' := 130) (lc' := [(3, .int 79), (2, .int 14), (6, .int 74), (5, .int 0), (4, .int 78), (0, .ref 0), (1, .ref 22)]) (stk' := []) (mem' := fm g tp bt a b) (fun _ _ _ => rfl) ?_
        refine fe_s 1 (pc' := fx_to 130 (-116)) (lc' := [(3, .int 79), (2, .int 14), (6, .int 74), (5, .int 0), (4, .int 78), (0, .ref 0), (1, .ref 22)]) (stk' := []) (mem' := fm g tp bt a b) (fun _ _ _ => rfl) ?_
        rw [show fx_to 130 (-116) = 14 from by decide]
        refine fe_w (lc' := [(3, .int 79), (2, .int 14), (0, .ref 0), (1, .ref 22)]) ⟨rfl, rfl, rfl, rfl, trivial⟩ (by show List.Nodup [3, 2, 0, 1]; decide) (by show List.Nodup [3, 2, 6, 5, 4, 0, 1]; decide) ?_
        exact fw_14 hxp
  · rw [show (fx_cb .ne 5 (nI (E - F))) = true from cb_neT (a := 5) (b := E - F) (by omega) (by omega) (by omega)]
    dsimp only [cond]
    refine fe_s 4 (pc' := 68) (lc' := [(6, .int 73), (5, .int 0), (4, .int 78), (3, .int 73), (2, .int 13), (0, .ref 0), (1, .ref 22)]) (stk' := []) (mem' := fm g tp bt a b) (fun _ _ _ => rfl) ?_
    refine fe_s 2 (pc' := 72) (lc' := [(6, .int 73), (5, .int 0), (4, .int 78), (3, .int 73), (2, .int 13), (0, .ref 0), (1, .ref 22)]) (stk' := [.int 78, .int 73]) (mem' := fm g tp bt a b) (fun _ _ _ => rfl) ?_
    refine fe_s 1 (pc' := cond (fx_cb .ge 73 78) 115 75) (lc' := [(6, .int 73), (5, .int 0), (4, .int 78), (3, .int 73), (2, .int 13), (0, .ref 0), (1, .ref 22)]) (stk' := []) (mem' := fm g tp bt a b) (fun _ _ _ => rfl) ?_
    rw [show (fx_cb .ge 73 78) = false from by decide]
    dsimp only [cond]
    refine fe_s 1 (pc' := 77) (lc' := [(6, .int 73), (5, .int 0), (4, .int 78), (3, .int 73), (2, .int 13), (0, .ref 0), (1, .ref 22)]) (stk' := [.int 0]) (mem' := fm g tp bt a b) (fun _ _ _ => rfl) ?_
    refine fe_s 1 (pc' := cond (fx_cb .eq 0 0) 115 80) (lc' := [(6, .int 73), (5, .int 0), (4, .int 78), (3, .int 73), (2, .int 13), (0, .ref 0), (1, .ref 22)]) (stk' := []) (mem' := fm g tp bt a b) (fun _ _ _ => rfl) ?_
    rw [show (fx_cb .eq 0 0) = true from by decide]
    dsimp only [cond]
    refine fe_s 1 (pc' := 117) (lc' := [(6, .int 73), (5, .int 0), (4, .int 78), (3, .int 73), (2, .int 13), (0, .ref 0), (1, .ref 22)]) (stk' := [.int 0]) (mem' := fm g tp bt a b) (fun _ _ _ => rfl) ?_
    refine fe_s 1 (pc' := cond (fx_cb .eq 0 0) 122 120) (lc' := [(6, .int 73), (5, .int 0), (4, .int 78), (3, .int 73), (2, .int 13), (0, .ref 0), (1, .ref 22)]) (stk' := []) (mem' := fm g tp bt a b) (fun _ _ _ => rfl) ?_
    rw [show (fx_cb .eq 0 0) = true from by decide]
    dsimp only [cond]
    refine fe_s 4 (pc' := 129) (lc' := [(2, .int (13 + 1)), (6, .int 73), (5, .int 0), (4, .int 78), (3, .int 73), (0, .ref 0), (1, .ref 22)]) (stk' := [.int (78 + 1)]) (mem' := fm g tp bt a b) (fun _ _ _ => rfl) ?_
    rw [show (78 + 1 : Int32) = 79 from rfl]
    rw [show (13 + 1 : Int32) = 14 from rfl]
    refine fe_s 1 (pc' := 130) (lc' := [(3, .int 79), (2, .int 14), (6, .int 73), (5, .int 0), (4, .int 78), (0, .ref 0), (1, .ref 22)]) (stk' := []) (mem' := fm g tp bt a b) (fun _ _ _ => rfl) ?_
    refine fe_s 1 (pc' := fx_to 130 (-116)) (lc' := [(3, .int 79), (2, .int 14), (6, .int 73), (5, .int 0), (4, .int 78), (0, .ref 0), (1, .ref 22)]) (stk' := []) (mem' := fm g tp bt a b) (fun _ _ _ => rfl) ?_
    rw [show fx_to 130 (-116) = 14 from by decide]
    refine fe_w (lc' := [(3, .int 79), (2, .int 14), (0, .ref 0), (1, .ref 22)]) ⟨rfl, rfl, rfl, rfl, trivial⟩ (by show List.Nodup [3, 2, 0, 1]; decide) (by show List.Nodup [3, 2, 6, 5, 4, 0, 1]; decide) ?_
    exact fw_14 hxp
theorem fw_12 {S E F : Nat} (hxp : fm_xp g S E F) : fe_R 1 gk_m226 14 [(3, .int 68), (2, .int 12), (0, .ref 0), (1, .ref 22)] [] (fm g tp bt a b) (fm_FI (fm g tp bt a b)) := by
  obtain ⟨h11, hS9, h14, hES, h13, hFE, -, -, -⟩ := id hxp
  refine fe_s 2 (pc' := 16) (lc' := [(3, .int 68), (2, .int 12), (0, .ref 0), (1, .ref 22)]) (stk' := [.ref 22, .int 68]) (mem' := fm g tp bt a b) (fun _ _ _ => rfl) ?_
  refine fe_s 1 (pc' := 19) (lc' := [(3, .int 68), (2, .int 12), (0, .ref 0), (1, .ref 22)]) (stk' := [.int 117, .int 68]) (mem' := fm g tp bt a b) (fun _ _ _ => rfl) ?_
  refine fe_s 1 (pc' := cond (fx_cb .ge 68 117) 133 22) (lc' := [(3, .int 68), (2, .int 12), (0, .ref 0), (1, .ref 22)]) (stk' := []) (mem' := fm g tp bt a b) (fun _ _ _ => rfl) ?_
  rw [show (fx_cb .ge 68 117) = false from by decide]
  dsimp only [cond]
  refine fe_s 4 (pc' := 28) (lc' := [(4, .int 68), (3, .int 68), (2, .int 12), (0, .ref 0), (1, .ref 22)]) (stk' := [.int 68, .ref 22]) (mem' := fm g tp bt a b) (fun _ _ _ => rfl) ?_
  refine fe_chr (i := 68) (by omega) (by rfl) (by rfl) ⟨by rfl, by rfl⟩ (by rfl) ?_
  rw [show sk_b.getD 68 0 = 115 from rfl]
  refine fe_s 1 (pc' := 33) (lc' := [(4, .int 68), (3, .int 68), (2, .int 12), (0, .ref 0), (1, .ref 22)]) (stk' := [.int 32, .int 115]) (mem' := fm g tp bt a b) (fun _ _ _ => rfl) ?_
  refine fe_s 1 (pc' := cond (fx_cb .eq 115 32) 42 36) (lc' := [(4, .int 68), (3, .int 68), (2, .int 12), (0, .ref 0), (1, .ref 22)]) (stk' := []) (mem' := fm g tp bt a b) (fun _ _ _ => rfl) ?_
  rw [show (fx_cb .eq 115 32) = false from by decide]
  dsimp only [cond]
  refine fe_s 4 (pc' := 28) (lc' := [(4, .int (68 + 1)), (3, .int 68), (2, .int 12), (0, .ref 0), (1, .ref 22)]) (stk' := [.int (68 + 1), .ref 22]) (mem' := fm g tp bt a b) (fun _ _ _ => rfl) ?_
  rw [show (68 + 1 : Int32) = 69 from rfl]
  refine fe_chr (i := 69) (by omega) (by rfl) (by rfl) ⟨by rfl, by rfl⟩ (by rfl) ?_
  rw [show sk_b.getD 69 0 = 116 from rfl]
  refine fe_s 1 (pc' := 33) (lc' := [(4, .int 69), (3, .int 68), (2, .int 12), (0, .ref 0), (1, .ref 22)]) (stk' := [.int 32, .int 116]) (mem' := fm g tp bt a b) (fun _ _ _ => rfl) ?_
  refine fe_s 1 (pc' := cond (fx_cb .eq 116 32) 42 36) (lc' := [(4, .int 69), (3, .int 68), (2, .int 12), (0, .ref 0), (1, .ref 22)]) (stk' := []) (mem' := fm g tp bt a b) (fun _ _ _ => rfl) ?_
  rw [show (fx_cb .eq 116 32) = false from by decide]
  dsimp only [cond]
  refine fe_s 4 (pc' := 28) (lc' := [(4, .int (69 + 1)), (3, .int 68), (2, .int 12), (0, .ref 0), (1, .ref 22)]) (stk' := [.int (69 + 1), .ref 22]) (mem' := fm g tp bt a b) (fun _ _ _ => rfl) ?_
  rw [show (69 + 1 : Int32) = 70 from rfl]
  refine fe_chr (i := 70) (by omega) (by rfl) (by rfl) ⟨by rfl, by rfl⟩ (by rfl) ?_
  rw [show sk_b.getD 70 0 = 101 from rfl]
  refine fe_s 1 (pc' := 33) (lc' := [(4, .int 70), (3, .int 68), (2, .int 12), (0, .ref 0), (1, .ref 22)]) (stk' := [.int 32, .int 101]) (mem' := fm g tp bt a b) (fun _ _ _ => rfl) ?_
  refine fe_s 1 (pc' := cond (fx_cb .eq 101 32) 42 36) (lc' := [(4, .int 70), (3, .int 68), (2, .int 12), (0, .ref 0), (1, .ref 22)]) (stk' := []) (mem' := fm g tp bt a b) (fun _ _ _ => rfl) ?_
  rw [show (fx_cb .eq 101 32) = false from by decide]
  dsimp only [cond]
  refine fe_s 4 (pc' := 28) (lc' := [(4, .int (70 + 1)), (3, .int 68), (2, .int 12), (0, .ref 0), (1, .ref 22)]) (stk' := [.int (70 + 1), .ref 22]) (mem' := fm g tp bt a b) (fun _ _ _ => rfl) ?_
  rw [show (70 + 1 : Int32) = 71 from rfl]
  refine fe_chr (i := 71) (by omega) (by rfl) (by rfl) ⟨by rfl, by rfl⟩ (by rfl) ?_
  rw [show sk_b.getD 71 0 = 112 from rfl]
  refine fe_s 1 (pc' := 33) (lc' := [(4, .int 71), (3, .int 68), (2, .int 12), (0, .ref 0), (1, .ref 22)]) (stk' := [.int 32, .int 112]) (mem' := fm g tp bt a b) (fun _ _ _ => rfl) ?_
  refine fe_s 1 (pc' := cond (fx_cb .eq 112 32) 42 36) (lc' := [(4, .int 71), (3, .int 68), (2, .int 12), (0, .ref 0), (1, .ref 22)]) (stk' := []) (mem' := fm g tp bt a b) (fun _ _ _ => rfl) ?_
  rw [show (fx_cb .eq 112 32) = false from by decide]
  dsimp only [cond]
  refine fe_s 4 (pc' := 28) (lc' := [(4, .int (71 + 1)), (3, .int 68), (2, .int 12), (0, .ref 0), (1, .ref 22)]) (stk' := [.int (71 + 1), .ref 22]) (mem' := fm g tp bt a b) (fun _ _ _ => rfl) ?_
  rw [show (71 + 1 : Int32) = 72 from rfl]
  refine fe_chr (i := 72) (by omega) (by rfl) (by rfl) ⟨by rfl, by rfl⟩ (by rfl) ?_
  rw [show sk_b.getD 72 0 = 32 from rfl]
  refine fe_s 1 (pc' := 33) (lc' := [(4, .int 72), (3, .int 68), (2, .int 12), (0, .ref 0), (1, .ref 22)]) (stk' := [.int 32, .int 32]) (mem' := fm g tp bt a b) (fun _ _ _ => rfl) ?_
  refine fe_s 1 (pc' := cond (fx_cb .eq 32 32) 42 36) (lc' := [(4, .int 72), (3, .int 68), (2, .int 12), (0, .ref 0), (1, .ref 22)]) (stk' := []) (mem' := fm g tp bt a b) (fun _ _ _ => rfl) ?_
  rw [show (fx_cb .eq 32 32) = true from by decide]
  dsimp only [cond]
  refine fe_s 4 (pc' := 47) (lc' := [(4, .int 72), (3, .int 68), (2, .int 12), (0, .ref 0), (1, .ref 22)]) (stk' := [.ref 0, .int (72 - 68)]) (mem' := fm g tp bt a b) (fun _ _ _ => rfl) ?_
  rw [show (72 - 68 : Int32) = 4 from rfl]
  refine fe_s 4 (pc' := 55) (lc' := [(4, .int 72), (3, .int 68), (2, .int 12), (0, .ref 0), (1, .ref 22)]) (stk' := [.int ((g 14) - (g 13)), .int 4]) (mem' := fm g tp bt a b) (fun _ _ _ => rfl) ?_
  try rw [h14]
  try rw [h13]
  rw [show ((nI E) - (nI F) : Int32) = nI (E - F) from by simp only [tg_sub2 (x := E) (y := F) (by omega), nI_add, fm_mul]]
  refine fe_s 1 (pc' := cond (fx_cb .ne 4 (nI (E - F))) 62 58) (lc' := [(4, .int 72), (3, .int 68), (2, .int 12), (0, .ref 0), (1, .ref 22)]) (stk' := []) (mem' := fm g tp bt a b) (fun _ _ _ => rfl) ?_
  by_cases h1 : 4 = (E - F)
  · rw [show (fx_cb .ne 4 (nI (E - F))) = false from cb_neF (a := 4) (b := E - F) (by omega) (by omega) (by omega)]
    dsimp only [cond]
    refine fe_s 4 (pc' := 66) (lc' := [(5, .int 1), (4, .int 72), (3, .int 68), (2, .int 12), (0, .ref 0), (1, .ref 22)]) (stk' := [.int 68]) (mem' := fm g tp bt a b) (fun _ _ _ => rfl) ?_
    refine fe_s 3 (pc' := 72) (lc' := [(6, .int 68), (5, .int 1), (4, .int 72), (3, .int 68), (2, .int 12), (0, .ref 0), (1, .ref 22)]) (stk' := [.int 72, .int 68]) (mem' := fm g tp bt a b) (fun _ _ _ => rfl) ?_
    refine fe_s 1 (pc' := cond (fx_cb .ge 68 72) 115 75) (lc' := [(6, .int 68), (5, .int 1), (4, .int 72), (3, .int 68), (2, .int 12), (0, .ref 0), (1, .ref 22)]) (stk' := []) (mem' := fm g tp bt a b) (fun _ _ _ => rfl) ?_
    rw [show (fx_cb .ge 68 72) = false from by decide]
    dsimp only [cond]
    refine fe_s 1 (pc' := 77) (lc' := [(6, .int 68), (5, .int 1), (4, .int 72), (3, .int 68), (2, .int 12), (0, .ref 0), (1, .ref 22)]) (stk' := [.int 1]) (mem' := fm g tp bt a b) (fun _ _ _ => rfl) ?_
    refine fe_s 1 (pc' := cond (fx_cb .eq 1 0) 115 80) (lc' := [(6, .int 68), (5, .int 1), (4, .int 72), (3, .int 68), (2, .int 12), (0, .ref 0), (1, .ref 22)]) (stk' := []) (mem' := fm g tp bt a b) (fun _ _ _ => rfl) ?_
    rw [show (fx_cb .eq 1 0) = false from by decide]
    dsimp only [cond]
    refine fe_s 2 (pc' := 83) (lc' := [(6, .int 68), (5, .int 1), (4, .int 72), (3, .int 68), (2, .int 12), (0, .ref 0), (1, .ref 22)]) (stk' := [.int 68, .ref 22]) (mem' := fm g tp bt a b) (fun _ _ _ => rfl) ?_
    refine fe_chr (i := 68) (by omega) (by rfl) (by rfl) ⟨by rfl, by rfl⟩ (by rfl) ?_
    rw [show sk_b.getD 68 0 = 115 from rfl]
    refine fe_s 4 (pc' := 93) (lc' := [(6, .int 68), (5, .int 1), (4, .int 72), (3, .int 68), (2, .int 12), (0, .ref 0), (1, .ref 22)]) (stk' := [.int 68, .int (g 13), .ref 0, .int 115]) (mem' := fm g tp bt a b) (fun _ _ _ => rfl) ?_
    try rw [h13]
    refine fe_s 3 (pc' := 96) (lc' := [(6, .int 68), (5, .int 1), (4, .int 72), (3, .int 68), (2, .int 12), (0, .ref 0), (1, .ref 22)]) (stk' := [.int (((nI F) + 68) - 68), .ref 0, .int 115]) (mem' := fm g tp bt a b) (fun _ _ _ => rfl) ?_
    rw [show (((nI F) + 68) - 68 : Int32) = nI ((F + 68) - 68) from by simp only [show (68 : Int32) = nI 68 from rfl, tg_sub2 (x := F + 68) (y := 68) (by omega), nI_add, fm_mul]]
    refine fe_ivV (fr_byteAt (S := S) (k := (F + 68) - 68) (g := g) (tp := tp) (bt := bt) (a := a) (b := b) h11 (by omega) (by omega)) (by omega) (by rfl) (by rfl) (by rfl) (by rfl) (by rfl) (by rfl) ?_
    rcases fm_byte_or a S ((F + 68) - 68) with ⟨e3, q4⟩ | ⟨q4, n2, qn2, e3⟩
    · rw [e3]
      refine fe_s 1 (pc' := cond (fx_cb .ne 115 (-1)) 106 102) (lc' := [(6, .int 68), (5, .int 1), (4, .int 72), (3, .int 68), (2, .int 12), (0, .ref 0), (1, .ref 22)]) (stk' := []) (mem' := fm g tp bt a b) (fun _ _ _ => rfl) ?_
      rw [show (fx_cb .ne 115 (-1)) = true from by decide]
      dsimp only [cond]
      refine fe_s 4 (pc' := 68) (lc' := [(6, .int (68 + 1)), (5, .int 0), (4, .int 72), (3, .int 68), (2, .int 12), (0, .ref 0), (1, .ref 22)]) (stk' := []) (mem' := fm g tp bt a b) (fun _ _ _ => rfl) ?_
      rw [show (68 + 1 : Int32) = 69 from rfl]
      refine fe_s 2 (pc' := 72) (lc' := [(6, .int 69), (5, .int 0), (4, .int 72), (3, .int 68), (2, .int 12), (0, .ref 0), (1, .ref 22)]) (stk' := [.int 72, .int 69]) (mem' := fm g tp bt a b) (fun _ _ _ => rfl) ?_
      refine fe_s 1 (pc' := cond (fx_cb .ge 69 72) 115 75) (lc' := [(6, .int 69), (5, .int 0), (4, .int 72), (3, .int 68), (2, .int 12), (0, .ref 0), (1, .ref 22)]) (stk' := []) (mem' := fm g tp bt a b) (fun _ _ _ => rfl) ?_
      rw [show (fx_cb .ge 69 72) = false from by decide]
      dsimp only [cond]
      refine fe_s 1 (pc' := 77) (lc' := [(6, .int 69), (5, .int 0), (4, .int 72), (3, .int 68), (2, .int 12), (0, .ref 0), (1, .ref 22)]) (stk' := [.int 0]) (mem' := fm g tp bt a b) (fun _ _ _ => rfl) ?_
      refine fe_s 1 (pc' := cond (fx_cb .eq 0 0) 115 80) (lc' := [(6, .int 69), (5, .int 0), (4, .int 72), (3, .int 68), (2, .int 12), (0, .ref 0), (1, .ref 22)]) (stk' := []) (mem' := fm g tp bt a b) (fun _ _ _ => rfl) ?_
      rw [show (fx_cb .eq 0 0) = true from by decide]
      dsimp only [cond]
      refine fe_s 1 (pc' := 117) (lc' := [(6, .int 69), (5, .int 0), (4, .int 72), (3, .int 68), (2, .int 12), (0, .ref 0), (1, .ref 22)]) (stk' := [.int 0]) (mem' := fm g tp bt a b) (fun _ _ _ => rfl) ?_
      refine fe_s 1 (pc' := cond (fx_cb .eq 0 0) 122 120) (lc' := [(6, .int 69), (5, .int 0), (4, .int 72), (3, .int 68), (2, .int 12), (0, .ref 0), (1, .ref 22)]) (stk' := []) (mem' := fm g tp bt a b) (fun _ _ _ => rfl) ?_
      rw [show (fx_cb .eq 0 0) = true from by decide]
      dsimp only [cond]
      refine fe_s 4 (pc' := 129) (lc' := [(2, .int (12 + 1)), (6, .int 69), (5, .int 0), (4, .int 72), (3, .int 68), (0, .ref 0), (1, .ref 22)]) (stk' := [.int (72 + 1)]) (mem' := fm g tp bt a b) (fun _ _ _ => rfl) ?_
      rw [show (72 + 1 : Int32) = 73 from rfl]
      rw [show (12 + 1 : Int32) = 13 from rfl]
      refine fe_s 1 (pc' := 130) (lc' := [(3, .int 73), (2, .int 13), (6, .int 69), (5, .int 0), (4, .int 72), (0, .ref 0), (1, .ref 22)]) (stk' := []) (mem' := fm g tp bt a b) (fun _ _ _ => rfl) ?_
      refine fe_s 1 (pc' := fx_to 130 (-116)) (lc' := [(3, .int 73), (2, .int 13), (6, .int 69), (5, .int 0), (4, .int 72), (0, .ref 0), (1, .ref 22)]) (stk' := []) (mem' := fm g tp bt a b) (fun _ _ _ => rfl) ?_
      rw [show fx_to 130 (-116) = 14 from by decide]
      refine fe_w (lc' := [(3, .int 73), (2, .int 13), (0, .ref 0), (1, .ref 22)]) ⟨rfl, rfl, rfl, rfl, trivial⟩ (by show List.Nodup [3, 2, 0, 1]; decide) (by show List.Nodup [3, 2, 6, 5, 4, 0, 1]; decide) ?_
      exact fw_13 hxp
    · rw [e3]
      refine fe_s 1 (pc' := cond (fx_cb .ne 115 (nI n2)) 106 102) (lc' := [(6, .int 68), (5, .int 1), (4, .int 72), (3, .int 68), (2, .int 12), (0, .ref 0), (1, .ref 22)]) (stk' := []) (mem' := fm g tp bt a b) (fun _ _ _ => rfl) ?_
      by_cases h5 : 115 = n2
      · rw [show (fx_cb .ne 115 (nI n2)) = false from cb_neF (a := 115) (b := n2) (by omega) (by omega) (by omega)]
        dsimp only [cond]
        refine fe_s 4 (pc' := 112) (lc' := [(6, .int (68 + 1)), (5, .int 1), (4, .int 72), (3, .int 68), (2, .int 12), (0, .ref 0), (1, .ref 22)]) (stk' := []) (mem' := fm g tp bt a b) (fun _ _ _ => rfl) ?_
        rw [show (68 + 1 : Int32) = 69 from rfl]
        refine fe_s 3 (pc' := 72) (lc' := [(6, .int 69), (5, .int 1), (4, .int 72), (3, .int 68), (2, .int 12), (0, .ref 0), (1, .ref 22)]) (stk' := [.int 72, .int 69]) (mem' := fm g tp bt a b) (fun _ _ _ => rfl) ?_
        refine fe_s 1 (pc' := cond (fx_cb .ge 69 72) 115 75) (lc' := [(6, .int 69), (5, .int 1), (4, .int 72), (3, .int 68), (2, .int 12), (0, .ref 0), (1, .ref 22)]) (stk' := []) (mem' := fm g tp bt a b) (fun _ _ _ => rfl) ?_
        rw [show (fx_cb .ge 69 72) = false from by decide]
        dsimp only [cond]
        refine fe_s 1 (pc' := 77) (lc' := [(6, .int 69), (5, .int 1), (4, .int 72), (3, .int 68), (2, .int 12), (0, .ref 0), (1, .ref 22)]) (stk' := [.int 1]) (mem' := fm g tp bt a b) (fun _ _ _ => rfl) ?_
        refine fe_s 1 (pc' := cond (fx_cb .eq 1 0) 115 80) (lc' := [(6, .int 69), (5, .int 1), (4, .int 72), (3, .int 68), (2, .int 12), (0, .ref 0), (1, .ref 22)]) (stk' := []) (mem' := fm g tp bt a b) (fun _ _ _ => rfl) ?_
        rw [show (fx_cb .eq 1 0) = false from by decide]
        dsimp only [cond]
        refine fe_s 2 (pc' := 83) (lc' := [(6, .int 69), (5, .int 1), (4, .int 72), (3, .int 68), (2, .int 12), (0, .ref 0), (1, .ref 22)]) (stk' := [.int 69, .ref 22]) (mem' := fm g tp bt a b) (fun _ _ _ => rfl) ?_
        refine fe_chr (i := 69) (by omega) (by rfl) (by rfl) ⟨by rfl, by rfl⟩ (by rfl) ?_
        rw [show sk_b.getD 69 0 = 116 from rfl]
        refine fe_s 4 (pc' := 93) (lc' := [(6, .int 69), (5, .int 1), (4, .int 72), (3, .int 68), (2, .int 12), (0, .ref 0), (1, .ref 22)]) (stk' := [.int 69, .int (g 13), .ref 0, .int 116]) (mem' := fm g tp bt a b) (fun _ _ _ => rfl) ?_
        try rw [h13]
        refine fe_s 3 (pc' := 96) (lc' := [(6, .int 69), (5, .int 1), (4, .int 72), (3, .int 68), (2, .int 12), (0, .ref 0), (1, .ref 22)]) (stk' := [.int (((nI F) + 69) - 68), .ref 0, .int 116]) (mem' := fm g tp bt a b) (fun _ _ _ => rfl) ?_
        rw [show (((nI F) + 69) - 68 : Int32) = nI ((F + 69) - 68) from by simp only [show (69 : Int32) = nI 69 from rfl, show (68 : Int32) = nI 68 from rfl, tg_sub2 (x := F + 69) (y := 68) (by omega), nI_add, fm_mul]]
        refine fe_ivV (fr_byteAt (S := S) (k := (F + 69) - 68) (g := g) (tp := tp) (bt := bt) (a := a) (b := b) h11 (by omega) (by omega)) (by omega) (by rfl) (by rfl) (by rfl) (by rfl) (by rfl) (by rfl) ?_
        rcases fm_byte_or a S ((F + 69) - 68) with ⟨e7, q8⟩ | ⟨q8, n6, qn6, e7⟩
        · rw [e7]
          refine fe_s 1 (pc' := cond (fx_cb .ne 116 (-1)) 106 102) (lc' := [(6, .int 69), (5, .int 1), (4, .int 72), (3, .int 68), (2, .int 12), (0, .ref 0), (1, .ref 22)]) (stk' := []) (mem' := fm g tp bt a b) (fun _ _ _ => rfl) ?_
          rw [show (fx_cb .ne 116 (-1)) = true from by decide]
          dsimp only [cond]
          refine fe_s 4 (pc' := 68) (lc' := [(6, .int (69 + 1)), (5, .int 0), (4, .int 72), (3, .int 68), (2, .int 12), (0, .ref 0), (1, .ref 22)]) (stk' := []) (mem' := fm g tp bt a b) (fun _ _ _ => rfl) ?_
          rw [show (69 + 1 : Int32) = 70 from rfl]
          refine fe_s 2 (pc' := 72) (lc' := [(6, .int 70), (5, .int 0), (4, .int 72), (3, .int 68), (2, .int 12), (0, .ref 0), (1, .ref 22)]) (stk' := [.int 72, .int 70]) (mem' := fm g tp bt a b) (fun _ _ _ => rfl) ?_
          refine fe_s 1 (pc' := cond (fx_cb .ge 70 72) 115 75) (lc' := [(6, .int 70), (5, .int 0), (4, .int 72), (3, .int 68), (2, .int 12), (0, .ref 0), (1, .ref 22)]) (stk' := []) (mem' := fm g tp bt a b) (fun _ _ _ => rfl) ?_
          rw [show (fx_cb .ge 70 72) = false from by decide]
          dsimp only [cond]
          refine fe_s 1 (pc' := 77) (lc' := [(6, .int 70), (5, .int 0), (4, .int 72), (3, .int 68), (2, .int 12), (0, .ref 0), (1, .ref 22)]) (stk' := [.int 0]) (mem' := fm g tp bt a b) (fun _ _ _ => rfl) ?_
          refine fe_s 1 (pc' := cond (fx_cb .eq 0 0) 115 80) (lc' := [(6, .int 70), (5, .int 0), (4, .int 72), (3, .int 68), (2, .int 12), (0, .ref 0), (1, .ref 22)]) (stk' := []) (mem' := fm g tp bt a b) (fun _ _ _ => rfl) ?_
          rw [show (fx_cb .eq 0 0) = true from by decide]
          dsimp only [cond]
          refine fe_s 1 (pc' := 117) (lc' := [(6, .int 70), (5, .int 0), (4, .int 72), (3, .int 68), (2, .int 12), (0, .ref 0), (1, .ref 22)]) (stk' := [.int 0]) (mem' := fm g tp bt a b) (fun _ _ _ => rfl) ?_
          refine fe_s 1 (pc' := cond (fx_cb .eq 0 0) 122 120) (lc' := [(6, .int 70), (5, .int 0), (4, .int 72), (3, .int 68), (2, .int 12), (0, .ref 0), (1, .ref 22)]) (stk' := []) (mem' := fm g tp bt a b) (fun _ _ _ => rfl) ?_
          rw [show (fx_cb .eq 0 0) = true from by decide]
          dsimp only [cond]
          refine fe_s 4 (pc' := 129) (lc' := [(2, .int (12 + 1)), (6, .int 70), (5, .int 0), (4, .int 72), (3, .int 68), (0, .ref 0), (1, .ref 22)]) (stk' := [.int (72 + 1)]) (mem' := fm g tp bt a b) (fun _ _ _ => rfl) ?_
          rw [show (72 + 1 : Int32) = 73 from rfl]
          rw [show (12 + 1 : Int32) = 13 from rfl]
          refine fe_s 1 (pc' := 130) (lc' := [(3, .int 73), (2, .int 13), (6, .int 70), (5, .int 0), (4, .int 72), (0, .ref 0), (1, .ref 22)]) (stk' := []) (mem' := fm g tp bt a b) (fun _ _ _ => rfl) ?_
          refine fe_s 1 (pc' := fx_to 130 (-116)) (lc' := [(3, .int 73), (2, .int 13), (6, .int 70), (5, .int 0), (4, .int 72), (0, .ref 0), (1, .ref 22)]) (stk' := []) (mem' := fm g tp bt a b) (fun _ _ _ => rfl) ?_
          rw [show fx_to 130 (-116) = 14 from by decide]
          refine fe_w (lc' := [(3, .int 73), (2, .int 13), (0, .ref 0), (1, .ref 22)]) ⟨rfl, rfl, rfl, rfl, trivial⟩ (by show List.Nodup [3, 2, 0, 1]; decide) (by show List.Nodup [3, 2, 6, 5, 4, 0, 1]; decide) ?_
          exact fw_13 hxp
        · rw [e7]
          refine fe_s 1 (pc' := cond (fx_cb .ne 116 (nI n6)) 106 102) (lc' := [(6, .int 69), (5, .int 1), (4, .int 72), (3, .int 68), (2, .int 12), (0, .ref 0), (1, .ref 22)]) (stk' := []) (mem' := fm g tp bt a b) (fun _ _ _ => rfl) ?_
          by_cases h9 : 116 = n6
          · rw [show (fx_cb .ne 116 (nI n6)) = false from cb_neF (a := 116) (b := n6) (by omega) (by omega) (by omega)]
            dsimp only [cond]
            refine fe_s 4 (pc' := 112) (lc' := [(6, .int (69 + 1)), (5, .int 1), (4, .int 72), (3, .int 68), (2, .int 12), (0, .ref 0), (1, .ref 22)]) (stk' := []) (mem' := fm g tp bt a b) (fun _ _ _ => rfl) ?_
            rw [show (69 + 1 : Int32) = 70 from rfl]
            refine fe_s 3 (pc' := 72) (lc' := [(6, .int 70), (5, .int 1), (4, .int 72), (3, .int 68), (2, .int 12), (0, .ref 0), (1, .ref 22)]) (stk' := [.int 72, .int 70]) (mem' := fm g tp bt a b) (fun _ _ _ => rfl) ?_
            refine fe_s 1 (pc' := cond (fx_cb .ge 70 72) 115 75) (lc' := [(6, .int 70), (5, .int 1), (4, .int 72), (3, .int 68), (2, .int 12), (0, .ref 0), (1, .ref 22)]) (stk' := []) (mem' := fm g tp bt a b) (fun _ _ _ => rfl) ?_
            rw [show (fx_cb .ge 70 72) = false from by decide]
            dsimp only [cond]
            refine fe_s 1 (pc' := 77) (lc' := [(6, .int 70), (5, .int 1), (4, .int 72), (3, .int 68), (2, .int 12), (0, .ref 0), (1, .ref 22)]) (stk' := [.int 1]) (mem' := fm g tp bt a b) (fun _ _ _ => rfl) ?_
            refine fe_s 1 (pc' := cond (fx_cb .eq 1 0) 115 80) (lc' := [(6, .int 70), (5, .int 1), (4, .int 72), (3, .int 68), (2, .int 12), (0, .ref 0), (1, .ref 22)]) (stk' := []) (mem' := fm g tp bt a b) (fun _ _ _ => rfl) ?_
            rw [show (fx_cb .eq 1 0) = false from by decide]
            dsimp only [cond]
            refine fe_s 2 (pc' := 83) (lc' := [(6, .int 70), (5, .int 1), (4, .int 72), (3, .int 68), (2, .int 12), (0, .ref 0), (1, .ref 22)]) (stk' := [.int 70, .ref 22]) (mem' := fm g tp bt a b) (fun _ _ _ => rfl) ?_
            refine fe_chr (i := 70) (by omega) (by rfl) (by rfl) ⟨by rfl, by rfl⟩ (by rfl) ?_
            rw [show sk_b.getD 70 0 = 101 from rfl]
            refine fe_s 4 (pc' := 93) (lc' := [(6, .int 70), (5, .int 1), (4, .int 72), (3, .int 68), (2, .int 12), (0, .ref 0), (1, .ref 22)]) (stk' := [.int 70, .int (g 13), .ref 0, .int 101]) (mem' := fm g tp bt a b) (fun _ _ _ => rfl) ?_
            try rw [h13]
            refine fe_s 3 (pc' := 96) (lc' := [(6, .int 70), (5, .int 1), (4, .int 72), (3, .int 68), (2, .int 12), (0, .ref 0), (1, .ref 22)]) (stk' := [.int (((nI F) + 70) - 68), .ref 0, .int 101]) (mem' := fm g tp bt a b) (fun _ _ _ => rfl) ?_
            rw [show (((nI F) + 70) - 68 : Int32) = nI ((F + 70) - 68) from by simp only [show (70 : Int32) = nI 70 from rfl, show (68 : Int32) = nI 68 from rfl, tg_sub2 (x := F + 70) (y := 68) (by omega), nI_add, fm_mul]]
            refine fe_ivV (fr_byteAt (S := S) (k := (F + 70) - 68) (g := g) (tp := tp) (bt := bt) (a := a) (b := b) h11 (by omega) (by omega)) (by omega) (by rfl) (by rfl) (by rfl) (by rfl) (by rfl) (by rfl) ?_
            rcases fm_byte_or a S ((F + 70) - 68) with ⟨e11, q12⟩ | ⟨q12, n10, qn10, e11⟩
            · rw [e11]
              refine fe_s 1 (pc' := cond (fx_cb .ne 101 (-1)) 106 102) (lc' := [(6, .int 70), (5, .int 1), (4, .int 72), (3, .int 68), (2, .int 12), (0, .ref 0), (1, .ref 22)]) (stk' := []) (mem' := fm g tp bt a b) (fun _ _ _ => rfl) ?_
              rw [show (fx_cb .ne 101 (-1)) = true from by decide]
              dsimp only [cond]
              refine fe_s 4 (pc' := 68) (lc' := [(6, .int (70 + 1)), (5, .int 0), (4, .int 72), (3, .int 68), (2, .int 12), (0, .ref 0), (1, .ref 22)]) (stk' := []) (mem' := fm g tp bt a b) (fun _ _ _ => rfl) ?_
              rw [show (70 + 1 : Int32) = 71 from rfl]
              refine fe_s 2 (pc' := 72) (lc' := [(6, .int 71), (5, .int 0), (4, .int 72), (3, .int 68), (2, .int 12), (0, .ref 0), (1, .ref 22)]) (stk' := [.int 72, .int 71]) (mem' := fm g tp bt a b) (fun _ _ _ => rfl) ?_
              refine fe_s 1 (pc' := cond (fx_cb .ge 71 72) 115 75) (lc' := [(6, .int 71), (5, .int 0), (4, .int 72), (3, .int 68), (2, .int 12), (0, .ref 0), (1, .ref 22)]) (stk' := []) (mem' := fm g tp bt a b) (fun _ _ _ => rfl) ?_
              rw [show (fx_cb .ge 71 72) = false from by decide]
              dsimp only [cond]
              refine fe_s 1 (pc' := 77) (lc' := [(6, .int 71), (5, .int 0), (4, .int 72), (3, .int 68), (2, .int 12), (0, .ref 0), (1, .ref 22)]) (stk' := [.int 0]) (mem' := fm g tp bt a b) (fun _ _ _ => rfl) ?_
              refine fe_s 1 (pc' := cond (fx_cb .eq 0 0) 115 80) (lc' := [(6, .int 71), (5, .int 0), (4, .int 72), (3, .int 68), (2, .int 12), (0, .ref 0), (1, .ref 22)]) (stk' := []) (mem' := fm g tp bt a b) (fun _ _ _ => rfl) ?_
              rw [show (fx_cb .eq 0 0) = true from by decide]
              dsimp only [cond]
              refine fe_s 1 (pc' := 117) (lc' := [(6, .int 71), (5, .int 0), (4, .int 72), (3, .int 68), (2, .int 12), (0, .ref 0), (1, .ref 22)]) (stk' := [.int 0]) (mem' := fm g tp bt a b) (fun _ _ _ => rfl) ?_
              refine fe_s 1 (pc' := cond (fx_cb .eq 0 0) 122 120) (lc' := [(6, .int 71), (5, .int 0), (4, .int 72), (3, .int 68), (2, .int 12), (0, .ref 0), (1, .ref 22)]) (stk' := []) (mem' := fm g tp bt a b) (fun _ _ _ => rfl) ?_
              rw [show (fx_cb .eq 0 0) = true from by decide]
              dsimp only [cond]
              refine fe_s 4 (pc' := 129) (lc' := [(2, .int (12 + 1)), (6, .int 71), (5, .int 0), (4, .int 72), (3, .int 68), (0, .ref 0), (1, .ref 22)]) (stk' := [.int (72 + 1)]) (mem' := fm g tp bt a b) (fun _ _ _ => rfl) ?_
              rw [show (72 + 1 : Int32) = 73 from rfl]
              rw [show (12 + 1 : Int32) = 13 from rfl]
              refine fe_s 1 (pc' := 130) (lc' := [(3, .int 73), (2, .int 13), (6, .int 71), (5, .int 0), (4, .int 72), (0, .ref 0), (1, .ref 22)]) (stk' := []) (mem' := fm g tp bt a b) (fun _ _ _ => rfl) ?_
              refine fe_s 1 (pc' := fx_to 130 (-116)) (lc' := [(3, .int 73), (2, .int 13), (6, .int 71), (5, .int 0), (4, .int 72), (0, .ref 0), (1, .ref 22)]) (stk' := []) (mem' := fm g tp bt a b) (fun _ _ _ => rfl) ?_
              rw [show fx_to 130 (-116) = 14 from by decide]
              refine fe_w (lc' := [(3, .int 73), (2, .int 13), (0, .ref 0), (1, .ref 22)]) ⟨rfl, rfl, rfl, rfl, trivial⟩ (by show List.Nodup [3, 2, 0, 1]; decide) (by show List.Nodup [3, 2, 6, 5, 4, 0, 1]; decide) ?_
              exact fw_13 hxp
            · rw [e11]
              refine fe_s 1 (pc' := cond (fx_cb .ne 101 (nI n10)) 106 102) (lc' := [(6, .int 70), (5, .int 1), (4, .int 72), (3, .int 68), (2, .int 12), (0, .ref 0), (1, .ref 22)]) (stk' := []) (mem' := fm g tp bt a b) (fun _ _ _ => rfl) ?_
              by_cases h13 : 101 = n10
              · rw [show (fx_cb .ne 101 (nI n10)) = false from cb_neF (a := 101) (b := n10) (by omega) (by omega) (by omega)]
                dsimp only [cond]
                refine fe_s 4 (pc' := 112) (lc' := [(6, .int (70 + 1)), (5, .int 1), (4, .int 72), (3, .int 68), (2, .int 12), (0, .ref 0), (1, .ref 22)]) (stk' := []) (mem' := fm g tp bt a b) (fun _ _ _ => rfl) ?_
                rw [show (70 + 1 : Int32) = 71 from rfl]
                refine fe_s 3 (pc' := 72) (lc' := [(6, .int 71), (5, .int 1), (4, .int 72), (3, .int 68), (2, .int 12), (0, .ref 0), (1, .ref 22)]) (stk' := [.int 72, .int 71]) (mem' := fm g tp bt a b) (fun _ _ _ => rfl) ?_
                refine fe_s 1 (pc' := cond (fx_cb .ge 71 72) 115 75) (lc' := [(6, .int 71), (5, .int 1), (4, .int 72), (3, .int 68), (2, .int 12), (0, .ref 0), (1, .ref 22)]) (stk' := []) (mem' := fm g tp bt a b) (fun _ _ _ => rfl) ?_
                rw [show (fx_cb .ge 71 72) = false from by decide]
                dsimp only [cond]
                refine fe_s 1 (pc' := 77) (lc' := [(6, .int 71), (5, .int 1), (4, .int 72), (3, .int 68), (2, .int 12), (0, .ref 0), (1, .ref 22)]) (stk' := [.int 1]) (mem' := fm g tp bt a b) (fun _ _ _ => rfl) ?_
                refine fe_s 1 (pc' := cond (fx_cb .eq 1 0) 115 80) (lc' := [(6, .int 71), (5, .int 1), (4, .int 72), (3, .int 68), (2, .int 12), (0, .ref 0), (1, .ref 22)]) (stk' := []) (mem' := fm g tp bt a b) (fun _ _ _ => rfl) ?_
                rw [show (fx_cb .eq 1 0) = false from by decide]
                dsimp only [cond]
                refine fe_s 2 (pc' := 83) (lc' := [(6, .int 71), (5, .int 1), (4, .int 72), (3, .int 68), (2, .int 12), (0, .ref 0), (1, .ref 22)]) (stk' := [.int 71, .ref 22]) (mem' := fm g tp bt a b) (fun _ _ _ => rfl) ?_
                refine fe_chr (i := 71) (by omega) (by rfl) (by rfl) ⟨by rfl, by rfl⟩ (by rfl) ?_
                rw [show sk_b.getD 71 0 = 112 from rfl]
                refine fe_s 4 (pc' := 93) (lc' := [(6, .int 71), (5, .int 1), (4, .int 72), (3, .int 68), (2, .int 12), (0, .ref 0), (1, .ref 22)]) (stk' := [.int 71, .int (g 13), .ref 0, .int 112]) (mem' := fm g tp bt a b) (fun _ _ _ => rfl) ?_
                try rw [h13]
                refine fe_s 3 (pc' := 96) (lc' := [(6, .int 71), (5, .int 1), (4, .int 72), (3, .int 68), (2, .int 12), (0, .ref 0), (1, .ref 22)]) (stk' := [.int (((nI F) + 71) - 68), .ref 0, .int 112]) (mem' := fm g tp bt a b) (fun _ _ _ => rfl) ?_
                rw [show (((nI F) + 71) - 68 : Int32) = nI ((F + 71) - 68) from by simp only [show (71 : Int32) = nI 71 from rfl, show (68 : Int32) = nI 68 from rfl, tg_sub2 (x := F + 71) (y := 68) (by omega), nI_add, fm_mul]]
                refine fe_ivV (fr_byteAt (S := S) (k := (F + 71) - 68) (g := g) (tp := tp) (bt := bt) (a := a) (b := b) h11 (by omega) (by omega)) (by omega) (by rfl) (by rfl) (by rfl) (by rfl) (by rfl) (by rfl) ?_
                rcases fm_byte_or a S ((F + 71) - 68) with ⟨e15, q16⟩ | ⟨q16, n14, qn14, e15⟩
                · rw [e15]
                  refine fe_s 1 (pc' := cond (fx_cb .ne 112 (-1)) 106 102) (lc' := [(6, .int 71), (5, .int 1), (4, .int 72), (3, .int 68), (2, .int 12), (0, .ref 0), (1, .ref 22)]) (stk' := []) (mem' := fm g tp bt a b) (fun _ _ _ => rfl) ?_
                  rw [show (fx_cb .ne 112 (-1)) = true from by decide]
                  dsimp only [cond]
                  refine fe_s 4 (pc' := 68) (lc' := [(6, .int (71 + 1)), (5, .int 0), (4, .int 72), (3, .int 68), (2, .int 12), (0, .ref 0), (1, .ref 22)]) (stk' := []) (mem' := fm g tp bt a b) (fun _ _ _ => rfl) ?_
                  rw [show (71 + 1 : Int32) = 72 from rfl]
                  refine fe_s 2 (pc' := 72) (lc' := [(6, .int 72), (5, .int 0), (4, .int 72), (3, .int 68), (2, .int 12), (0, .ref 0), (1, .ref 22)]) (stk' := [.int 72, .int 72]) (mem' := fm g tp bt a b) (fun _ _ _ => rfl) ?_
                  refine fe_s 1 (pc' := cond (fx_cb .ge 72 72) 115 75) (lc' := [(6, .int 72), (5, .int 0), (4, .int 72), (3, .int 68), (2, .int 12), (0, .ref 0), (1, .ref 22)]) (stk' := []) (mem' := fm g tp bt a b) (fun _ _ _ => rfl) ?_
                  rw [show (fx_cb .ge 72 72) = true from by decide]
                  dsimp only [cond]
                  refine fe_s 1 (pc' := 117) (lc' := [(6, .int 72), (5, .int 0), (4, .int 72), (3, .int 68), (2, .int 12), (0, .ref 0), (1, .ref 22)]) (stk' := [.int 0]) (mem' := fm g tp bt a b) (fun _ _ _ => rfl) ?_
                  refine fe_s 1 (pc' := cond (fx_cb .eq 0 0) 122 120) (lc' := [(6, .int 72), (5, .int 0), (4, .int 72), (3, .int 68), (2, .int 12), (0, .ref 0), (1, .ref 22)]) (stk' := []) (mem' := fm g tp bt a b) (fun _ _ _ => rfl) ?_
                  rw [show (fx_cb .eq 0 0) = true from by decide]
                  dsimp only [cond]
                  refine fe_s 4 (pc' := 129) (lc' := [(2, .int (12 + 1)), (6, .int 72), (5, .int 0), (4, .int 72), (3, .int 68), (0, .ref 0), (1, .ref 22)]) (stk' := [.int (72 + 1)]) (mem' := fm g tp bt a b) (fun _ _ _ => rfl) ?_
                  rw [show (72 + 1 : Int32) = 73 from rfl]
                  rw [show (12 + 1 : Int32) = 13 from rfl]
                  refine fe_s 1 (pc' := 130) (lc' := [(3, .int 73), (2, .int 13), (6, .int 72), (5, .int 0), (4, .int 72), (0, .ref 0), (1, .ref 22)]) (stk' := []) (mem' := fm g tp bt a b) (fun _ _ _ => rfl) ?_
                  refine fe_s 1 (pc' := fx_to 130 (-116)) (lc' := [(3, .int 73), (2, .int 13), (6, .int 72), (5, .int 0), (4, .int 72), (0, .ref 0), (1, .ref 22)]) (stk' := []) (mem' := fm g tp bt a b) (fun _ _ _ => rfl) ?_
                  rw [show fx_to 130 (-116) = 14 from by decide]
                  refine fe_w (lc' := [(3, .int 73), (2, .int 13), (0, .ref 0), (1, .ref 22)]) ⟨rfl, rfl, rfl, rfl, trivial⟩ (by show List.Nodup [3, 2, 0, 1]; decide) (by show List.Nodup [3, 2, 6, 5, 4, 0, 1]; decide) ?_
                  exact fw_13 hxp
                · rw [e15]
                  refine fe_s 1 (pc' := cond (fx_cb .ne 112 (nI n14)) 106 102) (lc' := [(6, .int 71), (5, .int 1), (4, .int 72), (3, .int 68), (2, .int 12), (0, .ref 0), (1, .ref 22)]) (stk' := []) (mem' := fm g tp bt a b) (fun _ _ _ => rfl) ?_
                  by_cases h17 : 112 = n14
                  · rw [show (fx_cb .ne 112 (nI n14)) = false from cb_neF (a := 112) (b := n14) (by omega) (by omega) (by omega)]
                    dsimp only [cond]
                    refine fe_s 4 (pc' := 112) (lc' := [(6, .int (71 + 1)), (5, .int 1), (4, .int 72), (3, .int 68), (2, .int 12), (0, .ref 0), (1, .ref 22)]) (stk' := []) (mem' := fm g tp bt a b) (fun _ _ _ => rfl) ?_
                    rw [show (71 + 1 : Int32) = 72 from rfl]
                    refine fe_s 3 (pc' := 72) (lc' := [(6, .int 72), (5, .int 1), (4, .int 72), (3, .int 68), (2, .int 12), (0, .ref 0), (1, .ref 22)]) (stk' := [.int 72, .int 72]) (mem' := fm g tp bt a b) (fun _ _ _ => rfl) ?_
                    refine fe_s 1 (pc' := cond (fx_cb .ge 72 72) 115 75) (lc' := [(6, .int 72), (5, .int 1), (4, .int 72), (3, .int 68), (2, .int 12), (0, .ref 0), (1, .ref 22)]) (stk' := []) (mem' := fm g tp bt a b) (fun _ _ _ => rfl) ?_
                    rw [show (fx_cb .ge 72 72) = true from by decide]
                    dsimp only [cond]
                    refine fe_s 1 (pc' := 117) (lc' := [(6, .int 72), (5, .int 1), (4, .int 72), (3, .int 68), (2, .int 12), (0, .ref 0), (1, .ref 22)]) (stk' := [.int 1]) (mem' := fm g tp bt a b) (fun _ _ _ => rfl) ?_
                    refine fe_s 1 (pc' := cond (fx_cb .eq 1 0) 122 120) (lc' := [(6, .int 72), (5, .int 1), (4, .int 72), (3, .int 68), (2, .int 12), (0, .ref 0), (1, .ref 22)]) (stk' := []) (mem' := fm g tp bt a b) (fun _ _ _ => rfl) ?_
                    rw [show (fx_cb .eq 1 0) = false from by decide]
                    dsimp only [cond]
                    refine fe_s 1 (pc' := 121) (lc' := [(6, .int 72), (5, .int 1), (4, .int 72), (3, .int 68), (2, .int 12), (0, .ref 0), (1, .ref 22)]) (stk' := [.int 12]) (mem' := fm g tp bt a b) (fun _ _ _ => rfl) ?_
                    exact fe_ret ⟨_, Or.inr ⟨12, by omega, rfl⟩, rfl⟩ (by rfl) (by rfl) (by rfl)
                  · rw [show (fx_cb .ne 112 (nI n14)) = true from cb_neT (a := 112) (b := n14) (by omega) (by omega) (by omega)]
                    dsimp only [cond]
                    refine fe_s 4 (pc' := 68) (lc' := [(6, .int (71 + 1)), (5, .int 0), (4, .int 72), (3, .int 68), (2, .int 12), (0, .ref 0), (1, .ref 22)]) (stk' := []) (mem' := fm g tp bt a b) (fun _ _ _ => rfl) ?_
                    rw [show (71 + 1 : Int32) = 72 from rfl]
                    refine fe_s 2 (pc' := 72) (lc' := [(6, .int 72), (5, .int 0), (4, .int 72), (3, .int 68), (2, .int 12), (0, .ref 0), (1, .ref 22)]) (stk' := [.int 72, .int 72]) (mem' := fm g tp bt a b) (fun _ _ _ => rfl) ?_
                    refine fe_s 1 (pc' := cond (fx_cb .ge 72 72) 115 75) (lc' := [(6, .int 72), (5, .int 0), (4, .int 72), (3, .int 68), (2, .int 12), (0, .ref 0), (1, .ref 22)]) (stk' := []) (mem' := fm g tp bt a b) (fun _ _ _ => rfl) ?_
                    rw [show (fx_cb .ge 72 72) = true from by decide]
                    dsimp only [cond]
                    refine fe_s 1 (pc' := 117) (lc' := [(6, .int 72), (5, .int 0), (4, .int 72), (3, .int 68), (2, .int 12), (0, .ref 0), (1, .ref 22)]) (stk' := [.int 0]) (mem' := fm g tp bt a b) (fun _ _ _ => rfl) ?_
                    refine fe_s 1 (pc' := cond (fx_cb .eq 0 0) 122 120) (lc' := [(6, .int 72), (5, .int 0), (4, .int 72), (3, .int 68), (2, .int 12), (0, .ref 0), (1, .ref 22)]) (stk' := []) (mem' := fm g tp bt a b) (fun _ _ _ => rfl) ?_
                    rw [show (fx_cb .eq 0 0) = true from by decide]
                    dsimp only [cond]
                    refine fe_s 4 (pc' := 129) (lc' := [(2, .int (12 + 1)), (6, .int 72), (5, .int 0), (4, .int 72), (3, .int 68), (0, .ref 0), (1, .ref 22)]) (stk' := [.int (72 + 1)]) (mem' := fm g tp bt a b) (fun _ _ _ => rfl) ?_
                    rw [show (72 + 1 : Int32) = 73 from rfl]
                    rw [show (12 + 1 : Int32) = 13 from rfl]
                    refine fe_s 1 (pc' := 130) (lc' := [(3, .int 73), (2, .int 13), (6, .int 72), (5, .int 0), (4, .int 72), (0, .ref 0), (1, .ref 22)]) (stk' := []) (mem' := fm g tp bt a b) (fun _ _ _ => rfl) ?_
                    refine fe_s 1 (pc' := fx_to 130 (-116)) (lc' := [(3, .int 73), (2, .int 13), (6, .int 72), (5, .int 0), (4, .int 72), (0, .ref 0), (1, .ref 22)]) (stk' := []) (mem' := fm g tp bt a b) (fun _ _ _ => rfl) ?_
                    rw [show fx_to 130 (-116) = 14 from by decide]
                    refine fe_w (lc' := [(3, .int 73), (2, .int 13), (0, .ref 0), (1, .ref 22)]) ⟨rfl, rfl, rfl, rfl, trivial⟩ (by show List.Nodup [3, 2, 0, 1]; decide) (by show List.Nodup [3, 2, 6, 5, 4, 0, 1]; decide) ?_
                    exact fw_13 hxp
              · rw [show (fx_cb .ne 101 (nI n10)) = true from cb_neT (a := 101) (b := n10) (by omega) (by omega) (by omega)]
                dsimp only [cond]
                refine fe_s 4 (pc' := 68) (lc' := [(6, .int (70 + 1)), (5, .int 0), (4, .int 72), (3, .int 68), (2, .int 12), (0, .ref 0), (1, .ref 22)]) (stk' := []) (mem' := fm g tp bt a b) (fun _ _ _ => rfl) ?_
                rw [show (70 + 1 : Int32) = 71 from rfl]
                refine fe_s 2 (pc' := 72) (lc' := [(6, .int 71), (5, .int 0), (4, .int 72), (3, .int 68), (2, .int 12), (0, .ref 0), (1, .ref 22)]) (stk' := [.int 72, .int 71]) (mem' := fm g tp bt a b) (fun _ _ _ => rfl) ?_
                refine fe_s 1 (pc' := cond (fx_cb .ge 71 72) 115 75) (lc' := [(6, .int 71), (5, .int 0), (4, .int 72), (3, .int 68), (2, .int 12), (0, .ref 0), (1, .ref 22)]) (stk' := []) (mem' := fm g tp bt a b) (fun _ _ _ => rfl) ?_
                rw [show (fx_cb .ge 71 72) = false from by decide]
                dsimp only [cond]
                refine fe_s 1 (pc' := 77) (lc' := [(6, .int 71), (5, .int 0), (4, .int 72), (3, .int 68), (2, .int 12), (0, .ref 0), (1, .ref 22)]) (stk' := [.int 0]) (mem' := fm g tp bt a b) (fun _ _ _ => rfl) ?_
                refine fe_s 1 (pc' := cond (fx_cb .eq 0 0) 115 80) (lc' := [(6, .int 71), (5, .int 0), (4, .int 72), (3, .int 68), (2, .int 12), (0, .ref 0), (1, .ref 22)]) (stk' := []) (mem' := fm g tp bt a b) (fun _ _ _ => rfl) ?_
                rw [show (fx_cb .eq 0 0) = true from by decide]
                dsimp only [cond]
                refine fe_s 1 (pc' := 117) (lc' := [(6, .int 71), (5, .int 0), (4, .int 72), (3, .int 68), (2, .int 12), (0, .ref 0), (1, .ref 22)]) (stk' := [.int 0]) (mem' := fm g tp bt a b) (fun _ _ _ => rfl) ?_
                refine fe_s 1 (pc' := cond (fx_cb .eq 0 0) 122 120) (lc' := [(6, .int 71), (5, .int 0), (4, .int 72), (3, .int 68), (2, .int 12), (0, .ref 0), (1, .ref 22)]) (stk' := []) (mem' := fm g tp bt a b) (fun _ _ _ => rfl) ?_
                rw [show (fx_cb .eq 0 0) = true from by decide]
                dsimp only [cond]
                refine fe_s 4 (pc' := 129) (lc' := [(2, .int (12 + 1)), (6, .int 71), (5, .int 0), (4, .int 72), (3, .int 68), (0, .ref 0), (1, .ref 22)]) (stk' := [.int (72 + 1)]) (mem' := fm g tp bt a b) (fun _ _ _ => rfl) ?_
                rw [show (72 + 1 : Int32) = 73 from rfl]
                rw [show (12 + 1 : Int32) = 13 from rfl]
                refine fe_s 1 (pc' := 130) (lc' := [(3, .int 73), (2, .int 13), (6, .int 71), (5, .int 0), (4, .int 72), (0, .ref 0), (1, .ref 22)]) (stk' := []) (mem' := fm g tp bt a b) (fun _ _ _ => rfl) ?_
                refine fe_s 1 (pc' := fx_to 130 (-116)) (lc' := [(3, .int 73), (2, .int 13), (6, .int 71), (5, .int 0), (4, .int 72), (0, .ref 0), (1, .ref 22)]) (stk' := []) (mem' := fm g tp bt a b) (fun _ _ _ => rfl) ?_
                rw [show fx_to 130 (-116) = 14 from by decide]
                refine fe_w (lc' := [(3, .int 73), (2, .int 13), (0, .ref 0), (1, .ref 22)]) ⟨rfl, rfl, rfl, rfl, trivial⟩ (by show List.Nodup [3, 2, 0, 1]; decide) (by show List.Nodup [3, 2, 6, 5, 4, 0, 1]; decide) ?_
                exact fw_13 hxp
          · rw [show (fx_cb .ne 116 (nI n6)) = true from cb_neT (a := 116) (b := n6) (by omega) (by omega) (by omega)]
            dsimp only [cond]
            refine fe_s 4 (pc' := 68) (lc' := [(6, .int (69 + 1)), (5, .int 0), (4, .int 72), (3, .int 68), (2, .int 12), (0, .ref 0), (1, .ref 22)]) (stk' := []) (mem' := fm g tp bt a b) (fun _ _ _ => rfl) ?_
            rw [show (69 + 1 : Int32) = 70 from rfl]
            refine fe_s 2 (pc' := 72) (lc' := [(6, .int 70), (5, .int 0), (4, .int 72), (3, .int 68), (2, .int 12), (0, .ref 0), (1, .ref 22)]) (stk' := [.int 72, .int 70]) (mem' := fm g tp bt a b) (fun _ _ _ => rfl) ?_
            refine fe_s 1 (pc' := cond (fx_cb .ge 70 72) 115 75) (lc' := [(6, .int 70), (5, .int 0), (4, .int 72), (3, .int 68), (2, .int 12), (0, .ref 0), (1, .ref 22)]) (stk' := []) (mem' := fm g tp bt a b) (fun _ _ _ => rfl) ?_
            rw [show (fx_cb .ge 70 72) = false from by decide]
            dsimp only [cond]
            refine fe_s 1 (pc' := 77) (lc' := [(6, .int 70), (5, .int 0), (4, .int 72), (3, .int 68), (2, .int 12), (0, .ref 0), (1, .ref 22)]) (stk' := [.int 0]) (mem' := fm g tp bt a b) (fun _ _ _ => rfl) ?_
            refine fe_s 1 (pc' := cond (fx_cb .eq 0 0) 115 80) (lc' := [(6, .int 70), (5, .int 0), (4, .int 72), (3, .int 68), (2, .int 12), (0, .ref 0), (1, .ref 22)]) (stk' := []) (mem' := fm g tp bt a b) (fun _ _ _ => rfl) ?_
            rw [show (fx_cb .eq 0 0) = true from by decide]
            dsimp only [cond]
            refine fe_s 1 (pc' := 117) (lc' := [(6, .int 70), (5, .int 0), (4, .int 72), (3, .int 68), (2, .int 12), (0, .ref 0), (1, .ref 22)]) (stk' := [.int 0]) (mem' := fm g tp bt a b) (fun _ _ _ => rfl) ?_
            refine fe_s 1 (pc' := cond (fx_cb .eq 0 0) 122 120) (lc' := [(6, .int 70), (5, .int 0), (4, .int 72), (3, .int 68), (2, .int 12), (0, .ref 0), (1, .ref 22)]) (stk' := []) (mem' := fm g tp bt a b) (fun _ _ _ => rfl) ?_
            rw [show (fx_cb .eq 0 0) = true from by decide]
            dsimp only [cond]
            refine fe_s 4 (pc' := 129) (lc' := [(2, .int (12 + 1)), (6, .int 70), (5, .int 0), (4, .int 72), (3, .int 68), (0, .ref 0), (1, .ref 22)]) (stk' := [.int (72 + 1)]) (mem' := fm g tp bt a b) (fun _ _ _ => rfl) ?_
            rw [show (72 + 1 : Int32) = 73 from rfl]
            rw [show (12 + 1 : Int32) = 13 from rfl]
            refine fe_s 1 (pc' := 130) (lc' := [(3, .int 73), (2, .int 13), (6, .int 70), (5, .int 0), (4, .int 72), (0, .ref 0), (1, .ref 22)]) (stk' := []) (mem' := fm g tp bt a b) (fun _ _ _ => rfl) ?_
            refine fe_s 1 (pc' := fx_to 130 (-116)) (lc' := [(3, .int 73), (2, .int 13), (6, .int 70), (5, .int 0), (4, .int 72), (0, .ref 0), (1, .ref 22)]) (stk' := []) (mem' := fm g tp bt a b) (fun _ _ _ => rfl) ?_
            rw [show fx_to 130 (-116) = 14 from by decide]
            refine fe_w (lc' := [(3, .int 73), (2, .int 13), (0, .ref 0), (1, .ref 22)]) ⟨rfl, rfl, rfl, rfl, trivial⟩ (by show List.Nodup [3, 2, 0, 1]; decide) (by show List.Nodup [3, 2, 6, 5, 4, 0, 1]; decide) ?_
            exact fw_13 hxp
      · rw [show (fx_cb .ne 115 (nI n2)) = true from cb_neT (a := 115) (b := n2) (by omega) (by omega) (by omega)]
        dsimp only [cond]
        refine fe_s 4 (pc' := 68) (lc' := [(6, .int (68 + 1)), (5, .int 0), (4, .int 72), (3, .int 68), (2, .int 12), (0, .ref 0), (1, .ref 22)]) (stk' := []) (mem' := fm g tp bt a b) (fun _ _ _ => rfl) ?_
        rw [show (68 + 1 : Int32) = 69 from rfl]
        refine fe_s 2 (pc' := 72) (lc' := [(6, .int 69), (5, .int 0), (4, .int 72), (3, .int 68), (2, .int 12), (0, .ref 0), (1, .ref 22)]) (stk' := [.int 72, .int 69]) (mem' := fm g tp bt a b) (fun _ _ _ => rfl) ?_
        refine fe_s 1 (pc' := cond (fx_cb .ge 69 72) 115 75) (lc' := [(6, .int 69), (5, .int 0), (4, .int 72), (3, .int 68), (2, .int 12), (0, .ref 0), (1, .ref 22)]) (stk' := []) (mem' := fm g tp bt a b) (fun _ _ _ => rfl) ?_
        rw [show (fx_cb .ge 69 72) = false from by decide]
        dsimp only [cond]
        refine fe_s 1 (pc' := 77) (lc' := [(6, .int 69), (5, .int 0), (4, .int 72), (3, .int 68), (2, .int 12), (0, .ref 0), (1, .ref 22)]) (stk' := [.int 0]) (mem' := fm g tp bt a b) (fun _ _ _ => rfl) ?_
        refine fe_s 1 (pc' := cond (fx_cb .eq 0 0) 115 80) (lc' := [(6, .int 69), (5, .int 0), (4, .int 72), (3, .int 68), (2, .int 12), (0, .ref 0), (1, .ref 22)]) (stk' := []) (mem' := fm g tp bt a b) (fun _ _ _ => rfl) ?_
        rw [show (fx_cb .eq 0 0) = true from by decide]
        dsimp only [cond]
        refine fe_s 1 (pc' := 117) (lc' := [(6, .int 69), (5, .int 0), (4, .int 72), (3, .int 68), (2, .int 12), (0, .ref 0), (1, .ref 22)]) (stk' := [.int 0]) (mem' := fm g tp bt a b) (fun _ _ _ => rfl) ?_
        refine fe_s 1 (pc' := cond (fx_cb .eq 0 0) 122 120) (lc' := [(6, .int 69), (5, .int 0), (4, .int 72), (3, .int 68), (2, .int 12), (0, .ref 0), (1, .ref 22)]) (stk' := []) (mem' := fm g tp bt a b) (fun _ _ _ => rfl) ?_
        rw [show (fx_cb .eq 0 0) = true from by decide]
        dsimp only [cond]
        refine fe_s 4 (pc' := 129) (lc' := [(2, .int (12 + 1)), (6, .int 69), (5, .int 0), (4, .int 72), (3, .int 68), (0, .ref 0), (1, .ref 22)]) (stk' := [.int (72 + 1)]) (mem' := fm g tp bt a b) (fun _ _ _ => rfl) ?_
        rw [show (72 + 1 : Int32) = 73 from rfl]
        rw [show (12 + 1 : Int32) = 13 from rfl]
        refine fe_s 1 (pc' := 130) (lc' := [(3, .int 73), (2, .int 13), (6, .int 69), (5, .int 0), (4, .int 72), (0, .ref 0), (1, .ref 22)]) (stk' := []) (mem' := fm g tp bt a b) (fun _ _ _ => rfl) ?_
        refine fe_s 1 (pc' := fx_to 130 (-116)) (lc' := [(3, .int 73), (2, .int 13), (6, .int 69), (5, .int 0), (4, .int 72), (0, .ref 0), (1, .ref 22)]) (stk' := []) (mem' := fm g tp bt a b) (fun _ _ _ => rfl) ?_
        rw [show fx_to 130 (-116) = 14 from by decide]
        refine fe_w (lc' := [(3, .int 73), (2, .int 13), (0, .ref 0), (1, .ref 22)]) ⟨rfl, rfl, rfl, rfl, trivial⟩ (by show List.Nodup [3, 2, 0, 1]; decide) (by show List.Nodup [3, 2, 6, 5, 4, 0, 1]; decide) ?_
        exact fw_13 hxp
  · rw [show (fx_cb .ne 4 (nI (E - F))) = true from cb_neT (a := 4) (b := E - F) (by omega) (by omega) (by omega)]
    dsimp only [cond]
    refine fe_s 4 (pc' := 68) (lc' := [(6, .int 68), (5, .int 0), (4, .int 72), (3, .int 68), (2, .int 12), (0, .ref 0), (1, .ref 22)]) (stk' := []) (mem' := fm g tp bt a b) (fun _ _ _ => rfl) ?_
    refine fe_s 2 (pc' := 72) (lc' := [(6, .int 68), (5, .int 0), (4, .int 72), (3, .int 68), (2, .int 12), (0, .ref 0), (1, .ref 22)]) (stk' := [.int 72, .int 68]) (mem' := fm g tp bt a b) (fun _ _ _ => rfl) ?_
    refine fe_s 1 (pc' := cond (fx_cb .ge 68 72) 115 75) (lc' := [(6, .int 68), (5, .int 0), (4, .int 72), (3, .int 68), (2, .int 12), (0, .ref 0), (1, .ref 22)]) (stk' := []) (mem' := fm g tp bt a b) (fun _ _ _ => rfl) ?_
    rw [show (fx_cb .ge 68 72) = false from by decide]
    dsimp only [cond]
    refine fe_s 1 (pc' := 77) (lc' := [(6, .int 68), (5, .int 0), (4, .int 72), (3, .int 68), (2, .int 12), (0, .ref 0), (1, .ref 22)]) (stk' := [.int 0]) (mem' := fm g tp bt a b) (fun _ _ _ => rfl) ?_
    refine fe_s 1 (pc' := cond (fx_cb .eq 0 0) 115 80) (lc' := [(6, .int 68), (5, .int 0), (4, .int 72), (3, .int 68), (2, .int 12), (0, .ref 0), (1, .ref 22)]) (stk' := []) (mem' := fm g tp bt a b) (fun _ _ _ => rfl) ?_
    rw [show (fx_cb .eq 0 0) = true from by decide]
    dsimp only [cond]
    refine fe_s 1 (pc' := 117) (lc' := [(6, .int 68), (5, .int 0), (4, .int 72), (3, .int 68), (2, .int 12), (0, .ref 0), (1, .ref 22)]) (stk' := [.int 0]) (mem' := fm g tp bt a b) (fun _ _ _ => rfl) ?_
    refine fe_s 1 (pc' := cond (fx_cb .eq 0 0) 122 120) (lc' := [(6, .int 68), (5, .int 0), (4, .int 72), (3, .int 68), (2, .int 12), (0, .ref 0), (1, .ref 22)]) (stk' := []) (mem' := fm g tp bt a b) (fun _ _ _ => rfl) ?_
    rw [show (fx_cb .eq 0 0) = true from by decide]
    dsimp only [cond]
    refine fe_s 4 (pc' := 129) (lc' := [(2, .int (12 + 1)), (6, .int 68), (5, .int 0), (4, .int 72), (3, .int 68), (0, .ref 0), (1, .ref 22)]) (stk' := [.int (72 + 1)]) (mem' := fm g tp bt a b) (fun _ _ _ => rfl) ?_
    rw [show (72 + 1 : Int32) = 73 from rfl]
    rw [show (12 + 1 : Int32) = 13 from rfl]
    refine fe_s 1 (pc' := 130) (lc' := [(3, .int 73), (2, .int 13), (6, .int 68), (5, .int 0), (4, .int 72), (0, .ref 0), (1, .ref 22)]) (stk' := []) (mem' := fm g tp bt a b) (fun _ _ _ => rfl) ?_
    refine fe_s 1 (pc' := fx_to 130 (-116)) (lc' := [(3, .int 73), (2, .int 13), (6, .int 68), (5, .int 0), (4, .int 72), (0, .ref 0), (1, .ref 22)]) (stk' := []) (mem' := fm g tp bt a b) (fun _ _ _ => rfl) ?_
    rw [show fx_to 130 (-116) = 14 from by decide]
    refine fe_w (lc' := [(3, .int 73), (2, .int 13), (0, .ref 0), (1, .ref 22)]) ⟨rfl, rfl, rfl, rfl, trivial⟩ (by show List.Nodup [3, 2, 0, 1]; decide) (by show List.Nodup [3, 2, 6, 5, 4, 0, 1]; decide) ?_
    exact fw_13 hxp
end FIW3
