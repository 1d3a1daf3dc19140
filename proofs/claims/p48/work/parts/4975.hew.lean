/-! ===== fx: a WAY is hewn; MARKS ===== -/
section FHW
variable {g : Nat → Int32} {tp bt : Int64} {a0 a : Nat → Nat → Int32} {b : Nat → Nat → Int64}
theorem fr_isx0 : fr_T 1 206 [.ref 0, .int 0] (fm g tp bt a b) (some (.int 1)) (fm (upd g 2 0) tp bt a b) := by
  refine fr_meth (by rfl) (by rfl) ?_
  refine fr_s 4 (pc' := 6) (lc' := [(0, .ref 0), (1, .int 0)]) (stk' := [.int 0]) (mem' := fm (upd g 2 0) tp bt a b) (fun _ _ _ => rfl) ?_
  refine fr_s 1 (pc' := cond (fx_cb .ne 0 0) 13 9) (lc' := [(0, .ref 0), (1, .int 0)]) (stk' := []) (mem' := fm (upd g 2 0) tp bt a b) (fun _ _ _ => rfl) ?_
  rw [show (fx_cb .ne 0 0) = false from by decide]
  dsimp only [cond]
  refine fr_s 2 (pc' := 14) (lc' := [(0, .ref 0), (1, .int 0)]) (stk' := [.int 1]) (mem' := fm (upd g 2 0) tp bt a b) (fun _ _ _ => rfl) ?_
  exact fr_ret (by rfl) (by rfl) (by rfl)
theorem fr_isx1 : fr_T 1 206 [.ref 0, .int 1] (fm g tp bt a b) (some (.int 0)) (fm (upd g 2 1) tp bt a b) := by
  refine fr_meth (by rfl) (by rfl) ?_
  refine fr_s 4 (pc' := 6) (lc' := [(0, .ref 0), (1, .int 1)]) (stk' := [.int 1]) (mem' := fm (upd g 2 1) tp bt a b) (fun _ _ _ => rfl) ?_
  refine fr_s 1 (pc' := cond (fx_cb .ne 1 0) 13 9) (lc' := [(0, .ref 0), (1, .int 1)]) (stk' := []) (mem' := fm (upd g 2 1) tp bt a b) (fun _ _ _ => rfl) ?_
  rw [show (fx_cb .ne 1 0) = true from by decide]
  dsimp only [cond]
  refine fr_s 1 (pc' := 14) (lc' := [(0, .ref 0), (1, .int 1)]) (stk' := [.int 0]) (mem' := fm (upd g 2 1) tp bt a b) (fun _ _ _ => rfl) ?_
  exact fr_ret (by rfl) (by rfl) (by rfl)
theorem fr_isx2 : fr_T 1 206 [.ref 0, .int 2] (fm g tp bt a b) (some (.int 0)) (fm (upd g 2 2) tp bt a b) := by
  refine fr_meth (by rfl) (by rfl) ?_
  refine fr_s 4 (pc' := 6) (lc' := [(0, .ref 0), (1, .int 2)]) (stk' := [.int 2]) (mem' := fm (upd g 2 2) tp bt a b) (fun _ _ _ => rfl) ?_
  refine fr_s 1 (pc' := cond (fx_cb .ne 2 0) 13 9) (lc' := [(0, .ref 0), (1, .int 2)]) (stk' := []) (mem' := fm (upd g 2 2) tp bt a b) (fun _ _ _ => rfl) ?_
  rw [show (fx_cb .ne 2 0) = true from by decide]
  dsimp only [cond]
  refine fr_s 1 (pc' := 14) (lc' := [(0, .ref 0), (1, .int 2)]) (stk' := [.int 0]) (mem' := fm (upd g 2 2) tp bt a b) (fun _ _ _ => rfl) ?_
  exact fr_ret (by rfl) (by rfl) (by rfl)
theorem fr_isx3 : fr_T 1 206 [.ref 0, .int 3] (fm g tp bt a b) (some (.int 0)) (fm (upd g 2 3) tp bt a b) := by
  refine fr_meth (by rfl) (by rfl) ?_
  refine fr_s 4 (pc' := 6) (lc' := [(0, .ref 0), (1, .int 3)]) (stk' := [.int 3]) (mem' := fm (upd g 2 3) tp bt a b) (fun _ _ _ => rfl) ?_
  refine fr_s 1 (pc' := cond (fx_cb .ne 3 0) 13 9) (lc' := [(0, .ref 0), (1, .int 3)]) (stk' := []) (mem' := fm (upd g 2 3) tp bt a b) (fun _ _ _ => rfl) ?_
  rw [show (fx_cb .ne 3 0) = true from by decide]
  dsimp only [cond]
  refine fr_s 1 (pc' := 14) (lc' := [(0, .ref 0), (1, .int 3)]) (stk' := [.int 0]) (mem' := fm (upd g 2 3) tp bt a b) (fun _ _ _ => rfl) ?_
  exact fr_ret (by rfl) (by rfl) (by rfl)
theorem fr_isx4 : fr_T 1 206 [.ref 0, .int 4] (fm g tp bt a b) (some (.int 0)) (fm (upd g 2 4) tp bt a b) := by
  refine fr_meth (by rfl) (by rfl) ?_
  refine fr_s 4 (pc' := 6) (lc' := [(0, .ref 0), (1, .int 4)]) (stk' := [.int 4]) (mem' := fm (upd g 2 4) tp bt a b) (fun _ _ _ => rfl) ?_
  refine fr_s 1 (pc' := cond (fx_cb .ne 4 0) 13 9) (lc' := [(0, .ref 0), (1, .int 4)]) (stk' := []) (mem' := fm (upd g 2 4) tp bt a b) (fun _ _ _ => rfl) ?_
  rw [show (fx_cb .ne 4 0) = true from by decide]
  dsimp only [cond]
  refine fr_s 1 (pc' := 14) (lc' := [(0, .ref 0), (1, .int 4)]) (stk' := [.int 0]) (mem' := fm (upd g 2 4) tp bt a b) (fun _ _ _ => rfl) ?_
  exact fr_ret (by rfl) (by rfl) (by rfl)
theorem fr_isx5 : fr_T 1 206 [.ref 0, .int 5] (fm g tp bt a b) (some (.int 0)) (fm (upd g 2 5) tp bt a b) := by
  refine fr_meth (by rfl) (by rfl) ?_
  refine fr_s 4 (pc' := 6) (lc' := [(0, .ref 0), (1, .int 5)]) (stk' := [.int 5]) (mem' := fm (upd g 2 5) tp bt a b) (fun _ _ _ => rfl) ?_
  refine fr_s 1 (pc' := cond (fx_cb .ne 5 0) 13 9) (lc' := [(0, .ref 0), (1, .int 5)]) (stk' := []) (mem' := fm (upd g 2 5) tp bt a b) (fun _ _ _ => rfl) ?_
  rw [show (fx_cb .ne 5 0) = true from by decide]
  dsimp only [cond]
  refine fr_s 1 (pc' := 14) (lc' := [(0, .ref 0), (1, .int 5)]) (stk' := [.int 0]) (mem' := fm (upd g 2 5) tp bt a b) (fun _ _ _ => rfl) ?_
  exact fr_ret (by rfl) (by rfl) (by rfl)
theorem fr_isx6 : fr_T 1 206 [.ref 0, .int 6] (fm g tp bt a b) (some (.int 0)) (fm (upd g 2 6) tp bt a b) := by
  refine fr_meth (by rfl) (by rfl) ?_
  refine fr_s 4 (pc' := 6) (lc' := [(0, .ref 0), (1, .int 6)]) (stk' := [.int 6]) (mem' := fm (upd g 2 6) tp bt a b) (fun _ _ _ => rfl) ?_
  refine fr_s 1 (pc' := cond (fx_cb .ne 6 0) 13 9) (lc' := [(0, .ref 0), (1, .int 6)]) (stk' := []) (mem' := fm (upd g 2 6) tp bt a b) (fun _ _ _ => rfl) ?_
  rw [show (fx_cb .ne 6 0) = true from by decide]
  dsimp only [cond]
  refine fr_s 1 (pc' := 14) (lc' := [(0, .ref 0), (1, .int 6)]) (stk' := [.int 0]) (mem' := fm (upd g 2 6) tp bt a b) (fun _ _ _ => rfl) ?_
  exact fr_ret (by rfl) (by rfl) (by rfl)
theorem fr_isx7 : fr_T 1 206 [.ref 0, .int 7] (fm g tp bt a b) (some (.int 0)) (fm (upd g 2 7) tp bt a b) := by
  refine fr_meth (by rfl) (by rfl) ?_
  refine fr_s 4 (pc' := 6) (lc' := [(0, .ref 0), (1, .int 7)]) (stk' := [.int 7]) (mem' := fm (upd g 2 7) tp bt a b) (fun _ _ _ => rfl) ?_
  refine fr_s 1 (pc' := cond (fx_cb .ne 7 0) 13 9) (lc' := [(0, .ref 0), (1, .int 7)]) (stk' := []) (mem' := fm (upd g 2 7) tp bt a b) (fun _ _ _ => rfl) ?_
  rw [show (fx_cb .ne 7 0) = true from by decide]
  dsimp only [cond]
  refine fr_s 1 (pc' := 14) (lc' := [(0, .ref 0), (1, .int 7)]) (stk' := [.int 0]) (mem' := fm (upd g 2 7) tp bt a b) (fun _ _ _ => rfl) ?_
  exact fr_ret (by rfl) (by rfl) (by rfl)
theorem fr_isx8 : fr_T 1 206 [.ref 0, .int 8] (fm g tp bt a b) (some (.int 0)) (fm (upd g 2 8) tp bt a b) := by
  refine fr_meth (by rfl) (by rfl) ?_
  refine fr_s 4 (pc' := 6) (lc' := [(0, .ref 0), (1, .int 8)]) (stk' := [.int 8]) (mem' := fm (upd g 2 8) tp bt a b) (fun _ _ _ => rfl) ?_
  refine fr_s 1 (pc' := cond (fx_cb .ne 8 0) 13 9) (lc' := [(0, .ref 0), (1, .int 8)]) (stk' := []) (mem' := fm (upd g 2 8) tp bt a b) (fun _ _ _ => rfl) ?_
  rw [show (fx_cb .ne 8 0) = true from by decide]
  dsimp only [cond]
  refine fr_s 1 (pc' := 14) (lc' := [(0, .ref 0), (1, .int 8)]) (stk' := [.int 0]) (mem' := fm (upd g 2 8) tp bt a b) (fun _ _ _ => rfl) ?_
  exact fr_ret (by rfl) (by rfl) (by rfl)
theorem fr_isx9 : fr_T 1 206 [.ref 0, .int 9] (fm g tp bt a b) (some (.int 0)) (fm (upd g 2 9) tp bt a b) := by
  refine fr_meth (by rfl) (by rfl) ?_
  refine fr_s 4 (pc' := 6) (lc' := [(0, .ref 0), (1, .int 9)]) (stk' := [.int 9]) (mem' := fm (upd g 2 9) tp bt a b) (fun _ _ _ => rfl) ?_
  refine fr_s 1 (pc' := cond (fx_cb .ne 9 0) 13 9) (lc' := [(0, .ref 0), (1, .int 9)]) (stk' := []) (mem' := fm (upd g 2 9) tp bt a b) (fun _ _ _ => rfl) ?_
  rw [show (fx_cb .ne 9 0) = true from by decide]
  dsimp only [cond]
  refine fr_s 1 (pc' := 14) (lc' := [(0, .ref 0), (1, .int 9)]) (stk' := [.int 0]) (mem' := fm (upd g 2 9) tp bt a b) (fun _ _ _ => rfl) ?_
  exact fr_ret (by rfl) (by rfl) (by rfl)
theorem fr_areTwo {x y : Int32} {NC : Nat} (eN : a 1 0 = nI NC) (hN : NC ≤ 10) : ∃ (r : Option Value) (mem' : fx_M), (fun R => ∃ z : Int32, (z = 0 ∨ z = 1 ∧ ∃ A B : Nat, A < 10 ∧ B < 10 ∧ ¬ A = B ∧ x = nI A ∧ y = nI B) ∧ R = (some (.int z), fm g tp bt a b)) (r, mem') ∧ fr_T 3 278 [.ref 0, .int x, .int y] (fm g tp bt a b) r mem' := by
  refine fe_meth (F := fun R => ∃ z : Int32, (z = 0 ∨ z = 1 ∧ ∃ A B : Nat, A < 10 ∧ B < 10 ∧ ¬ A = B ∧ x = nI A ∧ y = nI B) ∧ R = (some (.int z), fm g tp bt a b)) (M := gk_m278) (by rfl) (by rfl) ?_
  refine fe_s 3 (pc' := 3) (lc' := [(0, .ref 0), (1, .int x), (2, .int y)]) (stk' := [.long (x.toInt64), .ref 0]) (mem' := fm g tp bt a b) (fun _ _ _ => rfl) ?_
  obtain ⟨vc1, memc1, ⟨xc1, hxc1, hRc1⟩, hfrc1⟩ := fr_isCellX (c := x.toInt64) (g := g) (tp := tp) (bt := bt) (b := b) eN hN
  cases hRc1
  refine fe_ivV hfrc1 (by omega) (by rfl) (by rfl) (by rfl) (by rfl) (by rfl) (by rfl) ?_
  rcases hxc1 with rfl | ⟨rfl, Cc1, hCc1, ec1⟩
  · refine fe_s 1 (pc' := cond (fx_cb .eq 0 0) 27 9) (lc' := [(0, .ref 0), (1, .int x), (2, .int y)]) (stk' := []) (mem' := fm g tp bt a b) (fun _ _ _ => rfl) ?_
    rw [show (fx_cb .eq 0 0) = true from by decide]
    dsimp only [cond]
    refine fe_s 1 (pc' := 28) (lc' := [(0, .ref 0), (1, .int x), (2, .int y)]) (stk' := [.int 0]) (mem' := fm g tp bt a b) (fun _ _ _ => rfl) ?_
    exact fe_ret ⟨_, Or.inl rfl, rfl⟩ (by rfl) (by rfl) (by rfl)
  · obtain rfl := fm_i64c ec1 (by omega)
    refine fe_s 1 (pc' := cond (fx_cb .eq 1 0) 27 9) (lc' := [(0, .ref 0), (1, .int (nI Cc1)), (2, .int y)]) (stk' := []) (mem' := fm g tp bt a b) (fun _ _ _ => rfl) ?_
    rw [show (fx_cb .eq 1 0) = false from by decide]
    dsimp only [cond]
    refine fe_s 3 (pc' := 12) (lc' := [(0, .ref 0), (1, .int (nI Cc1)), (2, .int y)]) (stk' := [.long (y.toInt64), .ref 0]) (mem' := fm g tp bt a b) (fun _ _ _ => rfl) ?_
    obtain ⟨vc2, memc2, ⟨xc2, hxc2, hRc2⟩, hfrc2⟩ := fr_isCellX (c := y.toInt64) (g := g) (tp := tp) (bt := bt) (b := b) eN hN
    cases hRc2
    refine fe_ivV hfrc2 (by omega) (by rfl) (by rfl) (by rfl) (by rfl) (by rfl) (by rfl) ?_
    rcases hxc2 with rfl | ⟨rfl, Cc2, hCc2, ec2⟩
    · refine fe_s 1 (pc' := cond (fx_cb .eq 0 0) 27 18) (lc' := [(0, .ref 0), (1, .int (nI Cc1)), (2, .int y)]) (stk' := []) (mem' := fm g tp bt a b) (fun _ _ _ => rfl) ?_
      rw [show (fx_cb .eq 0 0) = true from by decide]
      dsimp only [cond]
      refine fe_s 1 (pc' := 28) (lc' := [(0, .ref 0), (1, .int (nI Cc1)), (2, .int y)]) (stk' := [.int 0]) (mem' := fm g tp bt a b) (fun _ _ _ => rfl) ?_
      exact fe_ret ⟨_, Or.inl rfl, rfl⟩ (by rfl) (by rfl) (by rfl)
    · obtain rfl := fm_i64c ec2 (by omega)
      refine fe_s 1 (pc' := cond (fx_cb .eq 1 0) 27 18) (lc' := [(0, .ref 0), (1, .int (nI Cc1)), (2, .int (nI Cc2))]) (stk' := []) (mem' := fm g tp bt a b) (fun _ _ _ => rfl) ?_
      rw [show (fx_cb .eq 1 0) = false from by decide]
      dsimp only [cond]
      refine fe_s 2 (pc' := 20) (lc' := [(0, .ref 0), (1, .int (nI Cc1)), (2, .int (nI Cc2))]) (stk' := [.int (nI Cc2), .int (nI Cc1)]) (mem' := fm g tp bt a b) (fun _ _ _ => rfl) ?_
      refine fe_s 1 (pc' := cond (fx_cb .eq (nI Cc1) (nI Cc2)) 27 23) (lc' := [(0, .ref 0), (1, .int (nI Cc1)), (2, .int (nI Cc2))]) (stk' := []) (mem' := fm g tp bt a b) (fun _ _ _ => rfl) ?_
      by_cases h3 : Cc1 = Cc2
      · rw [show (fx_cb .eq (nI Cc1) (nI Cc2)) = true from cb_eqT (a := Cc1) (b := Cc2) (by omega) (by omega) (by omega)]
        dsimp only [cond]
        refine fe_s 1 (pc' := 28) (lc' := [(0, .ref 0), (1, .int (nI Cc1)), (2, .int (nI Cc2))]) (stk' := [.int 0]) (mem' := fm g tp bt a b) (fun _ _ _ => rfl) ?_
        exact fe_ret ⟨_, Or.inl rfl, rfl⟩ (by rfl) (by rfl) (by rfl)
      · rw [show (fx_cb .eq (nI Cc1) (nI Cc2)) = false from cb_eqF (a := Cc1) (b := Cc2) (by omega) (by omega) (by omega)]
        dsimp only [cond]
        refine fe_s 2 (pc' := 28) (lc' := [(0, .ref 0), (1, .int (nI Cc1)), (2, .int (nI Cc2))]) (stk' := [.int 1]) (mem' := fm g tp bt a b) (fun _ _ _ => rfl) ?_
        exact fe_ret ⟨_, Or.inr ⟨rfl, Cc1, Cc2, by omega, by omega, by omega, rfl, rfl⟩, rfl⟩ (by rfl) (by rfl) (by rfl)
theorem fr_hew {x y z : Int32} (hBa : fm_B a) (hgb : fm_gb g) : ∃ (v : Option Value) (mem' : fx_M), (fm_PW g tp bt a b) (v, mem') ∧ fr_T 9 301 [.ref 0, .int x, .int y, .int z] (fm g tp bt a b) v mem' := by
  have hG := fm_G_rf hgb
  have hB := hBa
  obtain ⟨NC, hNC, eNC⟩ := fm_B_0 hB (i := 0) (n := 10) (by decide) rfl
  obtain ⟨NW, hNW, eNW⟩ := fm_B_0 hB (i := 1) (n := 8) (by decide) rfl
  obtain ⟨NG, hNG, eNG⟩ := fm_B_0 hB (i := 3) (n := 20) (by decide) rfl
  obtain ⟨T, hT9, eT⟩ := fm_T5 hB
  have hD : fm_D a a T := fm_D_rf hB eT (by omega)
  refine fe_meth (F := fm_PW g tp bt a b) (M := gk_m301) (by rfl) (by rfl) ?_
  refine fe_s 3 (pc' := 3) (lc' := [(0, .ref 0), (1, .int x), (2, .int y), (3, .int z)]) (stk' := [.int y, .int x, .ref 0]) (mem' := fm g tp bt a b) (fun _ _ _ => rfl) ?_
  obtain ⟨vw1, memw1, ⟨xw1, hxw1, hRw1⟩, hfrw1⟩ := fr_areTwo (x := x) (y := y) (g := g) (tp := tp) (bt := bt) (b := b) eNC hNC
  cases hRw1
  refine fe_ivV hfrw1 (by omega) (by rfl) (by rfl) (by rfl) (by rfl) (by rfl) (by rfl) ?_
  rcases hxw1 with rfl | ⟨rfl, A, B, hA, hB2, hAB, rfl, rfl⟩
  · refine fe_s 1 (pc' := cond (fx_cb .ne 0 0) 15 9) (lc' := [(0, .ref 0), (1, .int x), (2, .int y), (3, .int z)]) (stk' := []) (mem' := fm g tp bt a b) (fun _ _ _ => rfl) ?_
    rw [show (fx_cb .ne 0 0) = false from by decide]
    dsimp only [cond]
    refine fe_s 2 (pc' := 11) (lc' := [(0, .ref 0), (1, .int x), (2, .int y), (3, .int z)]) (stk' := [.int 1, .ref 0]) (mem' := fm g tp bt a b) (fun _ _ _ => rfl) ?_
    refine fe_ivV fr_isx1 (by omega) (by rfl) (by rfl) (by rfl) (by rfl) (by rfl) (by rfl) ?_
    exact fe_ret ⟨_, _, _, _, _, _, Or.inl rfl, (fm_E_w (fm_E_rf hBa)), (fm_G_2 hG (by decide) (by decide)), (fun _ _ _ => rfl), rfl⟩ (by rfl) (by rfl) (by rfl)
  · refine fe_s 1 (pc' := cond (fx_cb .ne 1 0) 15 9) (lc' := [(0, .ref 0), (1, .int (nI A)), (2, .int (nI B)), (3, .int z)]) (stk' := []) (mem' := fm g tp bt a b) (fun _ _ _ => rfl) ?_
    rw [show (fx_cb .ne 1 0) = true from by decide]
    dsimp only [cond]
    refine fe_s 3 (pc' := 18) (lc' := [(0, .ref 0), (1, .int (nI A)), (2, .int (nI B)), (3, .int z)]) (stk' := [.int (nI B), .int (nI A), .ref 0]) (mem' := fm g tp bt a b) (fun _ _ _ => rfl) ?_
    refine fe_ivV (fr_isWay (A := A) (B := nI B) (g := g) (tp := tp) (bt := bt) (a := a) (b := b) (by omega)) (by omega) (by rfl) (by rfl) (by rfl) (by rfl) (by rfl) (by rfl) ?_
    rcases fm_b_01 (a 1 (10 + 6 * A)) (nI B) with q2 | q2
    · rw [q2]
      refine fe_s 1 (pc' := 22) (lc' := [(0, .ref 0), (1, .int (nI A)), (2, .int (nI B)), (3, .int z)]) (stk' := [.int z, .int 0]) (mem' := fm g tp bt a b) (fun _ _ _ => rfl) ?_
      refine fe_s 1 (pc' := cond (fx_cb .ne 0 z) 32 25) (lc' := [(0, .ref 0), (1, .int (nI A)), (2, .int (nI B)), (3, .int z)]) (stk' := []) (mem' := fm g tp bt a b) (fun _ _ _ => rfl) ?_
      cases h3 : fx_cb .ne 0 z
      · refine fe_s 2 (pc' := 28) (lc' := [(0, .ref 0), (1, .int (nI A)), (2, .int (nI B)), (3, .int z)]) (stk' := [.int 7, .ref 0]) (mem' := fm g tp bt a b) (fun _ _ _ => rfl) ?_
        refine fe_ivV fr_isx7 (by omega) (by rfl) (by rfl) (by rfl) (by rfl) (by rfl) (by rfl) ?_
        exact fe_ret ⟨_, _, _, _, _, _, Or.inl rfl, (fm_E_w (fm_E_rf hBa)), (fm_G_2 hG (by decide) (by decide)), (fun _ _ _ => rfl), rfl⟩ (by rfl) (by rfl) (by rfl)
      · refine fe_s 3 (pc' := 37) (lc' := [(0, .ref 0), (1, .int (nI A)), (2, .int (nI B)), (3, .int z)]) (stk' := [.int (nI A), .ref 1]) (mem' := fm g tp bt a b) (fun _ _ _ => rfl) ?_
        refine fe_ivS fr_cellRow (by omega) (by rfl) (by rfl) (by rfl) (by rfl) (by rfl) ?_
        rw [show (8 + 6 * (nI A) : Int32) = nI (8 + (6 * A)) from by simp only [show (8 : Int32) = nI 8 from rfl, show (6 : Int32) = nI 6 from rfl, nI_add, fm_mul]]
        refine fe_s 3 (pc' := 43) (lc' := [(0, .ref 0), (1, .int (nI A)), (2, .int (nI B)), (3, .int z)]) (stk' := [.int ((nI (8 + (6 * A))) + 2), .ref 1, .int ((nI (8 + (6 * A))) + 2), .ref 1]) (mem' := fm g tp bt a b) (fun _ _ _ => rfl) ?_
        rw [show ((nI (8 + (6 * A))) + 2 : Int32) = nI ((8 + (6 * A)) + 2) from by simp only [show (2 : Int32) = nI 2 from rfl, nI_add, fm_mul]]
        refine fe_ldI (by rfl) (by rfl) (fx_inN (i := (8 + (6 * A)) + 2) (by omega) (by omega)) ?_
        rw [show Int32.toNatClampNeg (nI ((8 + (6 * A)) + 2)) = (8 + (6 * A)) + 2 from nI_clamp (by omega)]
        refine fe_s 4 (pc' := 48) (lc' := [(0, .ref 0), (1, .int (nI A)), (2, .int (nI B)), (3, .int z)]) (stk' := [.int ((a 1 ((8 + (6 * A)) + 2)) ^^^ ((1 : Int32) <<< ((nI B) &&& 31))), .int (nI ((8 + (6 * A)) + 2)), .ref 1]) (mem' := fm g tp bt a b) (fun _ _ _ => rfl) ?_
        refine fe_stI (mem' := fm g tp bt (fm_u a 1 (nI ((8 + (6 * A)) + 2) : Int32).toNatClampNeg ((a 1 ((8 + (6 * A)) + 2)) ^^^ ((1 : Int32) <<< ((nI B) &&& 31)))) b) (by rfl) (by rfl) (fx_inN (i := (8 + (6 * A)) + 2) (by omega) (by omega)) (by rfl) ?_
        rw [show Int32.toNatClampNeg (nI ((8 + (6 * A)) + 2)) = (8 + (6 * A)) + 2 from nI_clamp (by omega)]
        refine fe_s 3 (pc' := 54) (lc' := [(0, .ref 0), (1, .int (nI A)), (2, .int (nI B)), (3, .int z)]) (stk' := [.int (nI B), .ref 1]) (mem' := fm g tp bt (fm_u a 1 ((8 + (6 * A)) + 2) ((a 1 ((8 + (6 * A)) + 2)) ^^^ ((1 : Int32) <<< ((nI B) &&& 31)))) b) (fun _ _ _ => rfl) ?_
        refine fe_ivS fr_cellRow (by omega) (by rfl) (by rfl) (by rfl) (by rfl) (by rfl) ?_
        rw [show (8 + 6 * (nI B) : Int32) = nI (8 + (6 * B)) from by simp only [show (8 : Int32) = nI 8 from rfl, show (6 : Int32) = nI 6 from rfl, nI_add, fm_mul]]
        refine fe_s 3 (pc' := 60) (lc' := [(0, .ref 0), (1, .int (nI A)), (2, .int (nI B)), (3, .int z)]) (stk' := [.int ((nI (8 + (6 * B))) + 2), .ref 1, .int ((nI (8 + (6 * B))) + 2), .ref 1]) (mem' := fm g tp bt (fm_u a 1 ((8 + (6 * A)) + 2) ((a 1 ((8 + (6 * A)) + 2)) ^^^ ((1 : Int32) <<< ((nI B) &&& 31)))) b) (fun _ _ _ => rfl) ?_
        rw [show ((nI (8 + (6 * B))) + 2 : Int32) = nI ((8 + (6 * B)) + 2) from by simp only [show (2 : Int32) = nI 2 from rfl, nI_add, fm_mul]]
        refine fe_ldI (by rfl) (by rfl) (fx_inN (i := (8 + (6 * B)) + 2) (by omega) (by omega)) ?_
        rw [show Int32.toNatClampNeg (nI ((8 + (6 * B)) + 2)) = (8 + (6 * B)) + 2 from nI_clamp (by omega)]
        refine fe_s 4 (pc' := 65) (lc' := [(0, .ref 0), (1, .int (nI A)), (2, .int (nI B)), (3, .int z)]) (stk' := [.int (((fm_u a 1 ((8 + (6 * A)) + 2) ((a 1 ((8 + (6 * A)) + 2)) ^^^ ((1 : Int32) <<< ((nI B) &&& 31)))) 1 ((8 + (6 * B)) + 2)) ^^^ ((1 : Int32) <<< ((nI A) &&& 31))), .int (nI ((8 + (6 * B)) + 2)), .ref 1]) (mem' := fm g tp bt (fm_u a 1 ((8 + (6 * A)) + 2) ((a 1 ((8 + (6 * A)) + 2)) ^^^ ((1 : Int32) <<< ((nI B) &&& 31)))) b) (fun _ _ _ => rfl) ?_
        refine fe_stI (mem' := fm g tp bt (fm_u (fm_u a 1 ((8 + (6 * A)) + 2) ((a 1 ((8 + (6 * A)) + 2)) ^^^ ((1 : Int32) <<< ((nI B) &&& 31)))) 1 (nI ((8 + (6 * B)) + 2) : Int32).toNatClampNeg (((fm_u a 1 ((8 + (6 * A)) + 2) ((a 1 ((8 + (6 * A)) + 2)) ^^^ ((1 : Int32) <<< ((nI B) &&& 31)))) 1 ((8 + (6 * B)) + 2)) ^^^ ((1 : Int32) <<< ((nI A) &&& 31)))) b) (by rfl) (by rfl) (fx_inN (i := (8 + (6 * B)) + 2) (by omega) (by omega)) (by rfl) ?_
        rw [show Int32.toNatClampNeg (nI ((8 + (6 * B)) + 2)) = (8 + (6 * B)) + 2 from nI_clamp (by omega)]
        have hEx : fm_Ew a (fm_u (fm_u a 1 ((8 + (6 * A)) + 2) ((a 1 ((8 + (6 * A)) + 2)) ^^^ ((1 : Int32) <<< ((nI B) &&& 31)))) 1 ((8 + (6 * B)) + 2) (((fm_u a 1 ((8 + (6 * A)) + 2) ((a 1 ((8 + (6 * A)) + 2)) ^^^ ((1 : Int32) <<< ((nI B) &&& 31)))) 1 ((8 + (6 * B)) + 2)) ^^^ ((1 : Int32) <<< ((nI A) &&& 31)))) := by
          refine ⟨?_, fun t ht => ?_⟩
          · rw [show (8 + (6 * A)) + 2 = 10 + 6 * A by omega, show (8 + (6 * B)) + 2 = 10 + 6 * B by omega]; exact fm_B_hew hB (by omega) (by omega) hAB
          · have h1 : t ≠ 1 := fun e => by subst e; exact absurd ht (by decide)
            rw [fm_ut h1, fm_ut h1]
        refine fe_s 2 (pc' := 68) (lc' := [(0, .ref 0), (1, .int (nI A)), (2, .int (nI B)), (3, .int z)]) (stk' := [.int 0, .ref 0]) (mem' := fm g tp bt (fm_u (fm_u a 1 ((8 + (6 * A)) + 2) ((a 1 ((8 + (6 * A)) + 2)) ^^^ ((1 : Int32) <<< ((nI B) &&& 31)))) 1 ((8 + (6 * B)) + 2) (((fm_u a 1 ((8 + (6 * A)) + 2) ((a 1 ((8 + (6 * A)) + 2)) ^^^ ((1 : Int32) <<< ((nI B) &&& 31)))) 1 ((8 + (6 * B)) + 2)) ^^^ ((1 : Int32) <<< ((nI A) &&& 31)))) b) (fun _ _ _ => rfl) ?_
        refine fe_ivV fr_isx0 (by omega) (by rfl) (by rfl) (by rfl) (by rfl) (by rfl) (by rfl) ?_
        exact fe_ret ⟨_, _, _, _, _, _, Or.inr rfl, hEx, (fm_G_2 hG (by decide) (by decide)), (fun _ _ _ => rfl), rfl⟩ (by rfl) (by rfl) (by rfl)
    · rw [q2]
      refine fe_s 1 (pc' := 22) (lc' := [(0, .ref 0), (1, .int (nI A)), (2, .int (nI B)), (3, .int z)]) (stk' := [.int z, .int 1]) (mem' := fm g tp bt a b) (fun _ _ _ => rfl) ?_
      refine fe_s 1 (pc' := cond (fx_cb .ne 1 z) 32 25) (lc' := [(0, .ref 0), (1, .int (nI A)), (2, .int (nI B)), (3, .int z)]) (stk' := []) (mem' := fm g tp bt a b) (fun _ _ _ => rfl) ?_
      cases h4 : fx_cb .ne 1 z
      · refine fe_s 2 (pc' := 28) (lc' := [(0, .ref 0), (1, .int (nI A)), (2, .int (nI B)), (3, .int z)]) (stk' := [.int 7, .ref 0]) (mem' := fm g tp bt a b) (fun _ _ _ => rfl) ?_
        refine fe_ivV fr_isx7 (by omega) (by rfl) (by rfl) (by rfl) (by rfl) (by rfl) (by rfl) ?_
        exact fe_ret ⟨_, _, _, _, _, _, Or.inl rfl, (fm_E_w (fm_E_rf hBa)), (fm_G_2 hG (by decide) (by decide)), (fun _ _ _ => rfl), rfl⟩ (by rfl) (by rfl) (by rfl)
      · refine fe_s 3 (pc' := 37) (lc' := [(0, .ref 0), (1, .int (nI A)), (2, .int (nI B)), (3, .int z)]) (stk' := [.int (nI A), .ref 1]) (mem' := fm g tp bt a b) (fun _ _ _ => rfl) ?_
        refine fe_ivS fr_cellRow (by omega) (by rfl) (by rfl) (by rfl) (by rfl) (by rfl) ?_
        rw [show (8 + 6 * (nI A) : Int32) = nI (8 + (6 * A)) from by simp only [show (8 : Int32) = nI 8 from rfl, show (6 : Int32) = nI 6 from rfl, nI_add, fm_mul]]
        refine fe_s 3 (pc' := 43) (lc' := [(0, .ref 0), (1, .int (nI A)), (2, .int (nI B)), (3, .int z)]) (stk' := [.int ((nI (8 + (6 * A))) + 2), .ref 1, .int ((nI (8 + (6 * A))) + 2), .ref 1]) (mem' := fm g tp bt a b) (fun _ _ _ => rfl) ?_
        rw [show ((nI (8 + (6 * A))) + 2 : Int32) = nI ((8 + (6 * A)) + 2) from by simp only [show (2 : Int32) = nI 2 from rfl, nI_add, fm_mul]]
        refine fe_ldI (by rfl) (by rfl) (fx_inN (i := (8 + (6 * A)) + 2) (by omega) (by omega)) ?_
        rw [show Int32.toNatClampNeg (nI ((8 + (6 * A)) + 2)) = (8 + (6 * A)) + 2 from nI_clamp (by omega)]
        refine fe_s 4 (pc' := 48) (lc' := [(0, .ref 0), (1, .int (nI A)), (2, .int (nI B)), (3, .int z)]) (stk' := [.int ((a 1 ((8 + (6 * A)) + 2)) ^^^ ((1 : Int32) <<< ((nI B) &&& 31))), .int (nI ((8 + (6 * A)) + 2)), .ref 1]) (mem' := fm g tp bt a b) (fun _ _ _ => rfl) ?_
        refine fe_stI (mem' := fm g tp bt (fm_u a 1 (nI ((8 + (6 * A)) + 2) : Int32).toNatClampNeg ((a 1 ((8 + (6 * A)) + 2)) ^^^ ((1 : Int32) <<< ((nI B) &&& 31)))) b) (by rfl) (by rfl) (fx_inN (i := (8 + (6 * A)) + 2) (by omega) (by omega)) (by rfl) ?_
        rw [show Int32.toNatClampNeg (nI ((8 + (6 * A)) + 2)) = (8 + (6 * A)) + 2 from nI_clamp (by omega)]
        refine fe_s 3 (pc' := 54) (lc' := [(0, .ref 0), (1, .int (nI A)), (2, .int (nI B)), (3, .int z)]) (stk' := [.int (nI B), .ref 1]) (mem' := fm g tp bt (fm_u a 1 ((8 + (6 * A)) + 2) ((a 1 ((8 + (6 * A)) + 2)) ^^^ ((1 : Int32) <<< ((nI B) &&& 31)))) b) (fun _ _ _ => rfl) ?_
        refine fe_ivS fr_cellRow (by omega) (by rfl) (by rfl) (by rfl) (by rfl) (by rfl) ?_
        rw [show (8 + 6 * (nI B) : Int32) = nI (8 + (6 * B)) from by simp only [show (8 : Int32) = nI 8 from rfl, show (6 : Int32) = nI 6 from rfl, nI_add, fm_mul]]
        refine fe_s 3 (pc' := 60) (lc' := [(0, .ref 0), (1, .int (nI A)), (2, .int (nI B)), (3, .int z)]) (stk' := [.int ((nI (8 + (6 * B))) + 2), .ref 1, .int ((nI (8 + (6 * B))) + 2), .ref 1]) (mem' := fm g tp bt (fm_u a 1 ((8 + (6 * A)) + 2) ((a 1 ((8 + (6 * A)) + 2)) ^^^ ((1 : Int32) <<< ((nI B) &&& 31)))) b) (fun _ _ _ => rfl) ?_
        rw [show ((nI (8 + (6 * B))) + 2 : Int32) = nI ((8 + (6 * B)) + 2) from by simp only [show (2 : Int32) = nI 2 from rfl, nI_add, fm_mul]]
        refine fe_ldI (by rfl) (by rfl) (fx_inN (i := (8 + (6 * B)) + 2) (by omega) (by omega)) ?_
        rw [show Int32.toNatClampNeg (nI ((8 + (6 * B)) + 2)) = (8 + (6 * B)) + 2 from nI_clamp (by omega)]
        refine fe_s 4 (pc' := 65) (lc' := [(0, .ref 0), (1, .int (nI A)), (2, .int (nI B)), (3, .int z)]) (stk' := [.int (((fm_u a 1 ((8 + (6 * A)) + 2) ((a 1 ((8 + (6 * A)) + 2)) ^^^ ((1 : Int32) <<< ((nI B) &&& 31)))) 1 ((8 + (6 * B)) + 2)) ^^^ ((1 : Int32) <<< ((nI A) &&& 31))), .int (nI ((8 + (6 * B)) + 2)), .ref 1]) (mem' := fm g tp bt (fm_u a 1 ((8 + (6 * A)) + 2) ((a 1 ((8 + (6 * A)) + 2)) ^^^ ((1 : Int32) <<< ((nI B) &&& 31)))) b) (fun _ _ _ => rfl) ?_
        refine fe_stI (mem' := fm g tp bt (fm_u (fm_u a 1 ((8 + (6 * A)) + 2) ((a 1 ((8 + (6 * A)) + 2)) ^^^ ((1 : Int32) <<< ((nI B) &&& 31)))) 1 (nI ((8 + (6 * B)) + 2) : Int32).toNatClampNeg (((fm_u a 1 ((8 + (6 * A)) + 2) ((a 1 ((8 + (6 * A)) + 2)) ^^^ ((1 : Int32) <<< ((nI B) &&& 31)))) 1 ((8 + (6 * B)) + 2)) ^^^ ((1 : Int32) <<< ((nI A) &&& 31)))) b) (by rfl) (by rfl) (fx_inN (i := (8 + (6 * B)) + 2) (by omega) (by omega)) (by rfl) ?_
        rw [show Int32.toNatClampNeg (nI ((8 + (6 * B)) + 2)) = (8 + (6 * B)) + 2 from nI_clamp (by omega)]
        have hEx : fm_Ew a (fm_u (fm_u a 1 ((8 + (6 * A)) + 2) ((a 1 ((8 + (6 * A)) + 2)) ^^^ ((1 : Int32) <<< ((nI B) &&& 31)))) 1 ((8 + (6 * B)) + 2) (((fm_u a 1 ((8 + (6 * A)) + 2) ((a 1 ((8 + (6 * A)) + 2)) ^^^ ((1 : Int32) <<< ((nI B) &&& 31)))) 1 ((8 + (6 * B)) + 2)) ^^^ ((1 : Int32) <<< ((nI A) &&& 31)))) := by
          refine ⟨?_, fun t ht => ?_⟩
          · rw [show (8 + (6 * A)) + 2 = 10 + 6 * A by omega, show (8 + (6 * B)) + 2 = 10 + 6 * B by omega]; exact fm_B_hew hB (by omega) (by omega) hAB
          · have h1 : t ≠ 1 := fun e => by subst e; exact absurd ht (by decide)
            rw [fm_ut h1, fm_ut h1]
        refine fe_s 2 (pc' := 68) (lc' := [(0, .ref 0), (1, .int (nI A)), (2, .int (nI B)), (3, .int z)]) (stk' := [.int 0, .ref 0]) (mem' := fm g tp bt (fm_u (fm_u a 1 ((8 + (6 * A)) + 2) ((a 1 ((8 + (6 * A)) + 2)) ^^^ ((1 : Int32) <<< ((nI B) &&& 31)))) 1 ((8 + (6 * B)) + 2) (((fm_u a 1 ((8 + (6 * A)) + 2) ((a 1 ((8 + (6 * A)) + 2)) ^^^ ((1 : Int32) <<< ((nI B) &&& 31)))) 1 ((8 + (6 * B)) + 2)) ^^^ ((1 : Int32) <<< ((nI A) &&& 31)))) b) (fun _ _ _ => rfl) ?_
        refine fe_ivV fr_isx0 (by omega) (by rfl) (by rfl) (by rfl) (by rfl) (by rfl) (by rfl) ?_
        exact fe_ret ⟨_, _, _, _, _, _, Or.inr rfl, hEx, (fm_G_2 hG (by decide) (by decide)), (fun _ _ _ => rfl), rfl⟩ (by rfl) (by rfl) (by rfl)
theorem fr_copies {s d : Nat} (hs : s < 4) (hd : d < 4) (hne : ¬ s = d) : ∃ (v : Option Value) (mem' : fx_M), (fun R => ∃ (a' : Nat → Nat → Int32) (b' : Nat → Nat → Int64), fm_cpy a a' s d ∧ (∀ t, t ≠ 2 → b' t = b t) ∧ R = (none, fm g tp bt a' b')) (v, mem') ∧ fr_T 1 369 [.ref 0, .int (nI s), .int (nI d)] (fm g tp bt a b) v mem' := by
  refine fe_meth (F := fun R => ∃ (a' : Nat → Nat → Int32) (b' : Nat → Nat → Int64), fm_cpy a a' s d ∧ (∀ t, t ≠ 2 → b' t = b t) ∧ R = (none, fm g tp bt a' b')) (M := gk_m369) (by rfl) (by rfl) ?_
  have l41 : ∀ (r k : Nat), k + r = 18 → ∀ (a' : Nat → Nat → Int32) (b' : Nat → Nat → Int64), fm_cpy a a' s d → (∀ t, t ≠ 2 → b' t = b t) → fe_R 0 gk_m369 41 [(3, .int (nI k)), (0, .ref 0), (1, .int (nI s)), (2, .int (nI d))] [] (fm g tp bt a' b') (fun R => ∃ (a' : Nat → Nat → Int32) (b' : Nat → Nat → Int64), fm_cpy a a' s d ∧ (∀ t, t ≠ 2 → b' t = b t) ∧ R = (none, fm g tp bt a' b')) := by
    intro r
    induction r with
    | zero =>
      intro k hk a' b' h1 h2
      obtain rfl : k = 18 := by omega
      refine fe_s 2 (pc' := 44) (lc' := [(3, .int (nI 18)), (0, .ref 0), (1, .int (nI s)), (2, .int (nI d))]) (stk' := [.int 18, .int (nI 18)]) (mem' := fm g tp bt a' b') (fun _ _ _ => rfl) ?_
      refine fe_s 1 (pc' := cond (fx_cb .ge (nI 18) 18) 75 47) (lc' := [(3, .int (nI 18)), (0, .ref 0), (1, .int (nI s)), (2, .int (nI d))]) (stk' := []) (mem' := fm g tp bt a' b') (fun _ _ _ => rfl) ?_
      rw [show (fx_cb .ge (nI 18) 18) = true from cb_geT (a := 18) (b := 18) (by omega) (by omega) (by omega)]
      dsimp only [cond]
      exact fe_ret ⟨a', b', h1, h2, rfl⟩ (by rfl) (by rfl) (by rfl)
    | succ r ih =>
      intro k hk a' b' h1 h2
      refine fe_s 2 (pc' := 44) (lc' := [(3, .int (nI k)), (0, .ref 0), (1, .int (nI s)), (2, .int (nI d))]) (stk' := [.int 18, .int (nI k)]) (mem' := fm g tp bt a' b') (fun _ _ _ => rfl) ?_
      refine fe_s 1 (pc' := cond (fx_cb .ge (nI k) 18) 75 47) (lc' := [(3, .int (nI k)), (0, .ref 0), (1, .int (nI s)), (2, .int (nI d))]) (stk' := []) (mem' := fm g tp bt a' b') (fun _ _ _ => rfl) ?_
      rw [show (fx_cb .ge (nI k) 18) = false from cb_geF (a := k) (b := 18) (by omega) (by omega) (by omega)]
      dsimp only [cond]
      refine fe_s 14 (pc' := 67) (lc' := [(3, .int (nI k)), (0, .ref 0), (1, .int (nI s)), (2, .int (nI d))]) (stk' := [.int ((18 * (nI s)) + (nI k)), .ref 2, .int ((18 * (nI d)) + (nI k)), .ref 2]) (mem' := fm g tp bt a' b') (fun _ _ _ => rfl) ?_
      rw [show ((18 * (nI s)) + (nI k) : Int32) = nI ((18 * s) + k) from by simp only [show (18 : Int32) = nI 18 from rfl, nI_add, fm_mul]]
      rw [show ((18 * (nI d)) + (nI k) : Int32) = nI ((18 * d) + k) from by simp only [show (18 : Int32) = nI 18 from rfl, nI_add, fm_mul]]
      refine fe_ldL (by rfl) (by rfl) (fx_inN (i := (18 * s) + k) (by omega) (by omega)) ?_
      rw [show Int32.toNatClampNeg (nI ((18 * s) + k)) = (18 * s) + k from nI_clamp (by omega)]
      refine fe_stL (mem' := fm g tp bt a' (fm_uL b' 2 (nI ((18 * d) + k) : Int32).toNatClampNeg (b' 2 ((18 * s) + k)))) (by rfl) (by rfl) (fx_inN (i := (18 * d) + k) (by omega) (by omega)) (by rfl) ?_
      rw [show Int32.toNatClampNeg (nI ((18 * d) + k)) = (18 * d) + k from nI_clamp (by omega)]
      refine fe_s 2 (pc' := 41) (lc' := [(3, .int ((nI k) + 1)), (0, .ref 0), (1, .int (nI s)), (2, .int (nI d))]) (stk' := []) (mem' := fm g tp bt a' (fm_uL b' 2 ((18 * d) + k) (b' 2 ((18 * s) + k)))) (fun _ _ _ => rfl) ?_
      rw [show ((nI k) + 1 : Int32) = nI (k + 1) from by simp only [show (1 : Int32) = nI 1 from rfl, nI_add, fm_mul]]
      exact ih (k + 1) (by omega) a' _ h1 (fun t ht => by rw [fm_uL_t ht]; exact h2 t ht)
  have l2 : ∀ (r k : Nat), k + r = 842 → ∀ a' : Nat → Nat → Int32, (∀ t, t ≠ 1 → a' t = a t) → (∀ i, ¬ (842 * d ≤ i ∧ i < 842 * d + k) → a' 1 i = a 1 i) → (∀ i, i < k → a' 1 (842 * d + i) = a 1 (842 * s + i)) → fe_R 0 gk_m369 2 [(3, .int (nI k)), (0, .ref 0), (1, .int (nI s)), (2, .int (nI d))] [] (fm g tp bt a' b) (fun R => ∃ (a' : Nat → Nat → Int32) (b' : Nat → Nat → Int64), fm_cpy a a' s d ∧ (∀ t, t ≠ 2 → b' t = b t) ∧ R = (none, fm g tp bt a' b')) := by
    intro r
    induction r with
    | zero =>
      intro k hk a' h1 h2 h3
      obtain rfl : k = 842 := by omega
      refine fe_s 2 (pc' := 6) (lc' := [(3, .int (nI 842)), (0, .ref 0), (1, .int (nI s)), (2, .int (nI d))]) (stk' := [.int 842, .int (nI 842)]) (mem' := fm g tp bt a' b) (fun _ _ _ => rfl) ?_
      refine fe_s 1 (pc' := cond (fx_cb .ge (nI 842) 842) 39 9) (lc' := [(3, .int (nI 842)), (0, .ref 0), (1, .int (nI s)), (2, .int (nI d))]) (stk' := []) (mem' := fm g tp bt a' b) (fun _ _ _ => rfl) ?_
      rw [show (fx_cb .ge (nI 842) 842) = true from cb_geT (a := 842) (b := 842) (by omega) (by omega) (by omega)]
      dsimp only [cond]
      refine fe_s 2 (pc' := 41) (lc' := [(3, .int 0), (0, .ref 0), (1, .int (nI s)), (2, .int (nI d))]) (stk' := []) (mem' := fm g tp bt a' b) (fun _ _ _ => rfl) ?_
      refine fe_w (lc' := [(3, .int (nI 0)), (0, .ref 0), (1, .int (nI s)), (2, .int (nI d))]) ⟨rfl, rfl, rfl, rfl, trivial⟩ (by show List.Nodup [3, 0, 1, 2]; decide) (by show List.Nodup [3, 0, 1, 2]; decide) (l41 18 0 (by omega) a' b ⟨h1, h2, h3⟩ (fun _ _ => rfl))
    | succ r ih =>
      intro k hk a' h1 h2 h3
      refine fe_s 2 (pc' := 6) (lc' := [(3, .int (nI k)), (0, .ref 0), (1, .int (nI s)), (2, .int (nI d))]) (stk' := [.int 842, .int (nI k)]) (mem' := fm g tp bt a' b) (fun _ _ _ => rfl) ?_
      refine fe_s 1 (pc' := cond (fx_cb .ge (nI k) 842) 39 9) (lc' := [(3, .int (nI k)), (0, .ref 0), (1, .int (nI s)), (2, .int (nI d))]) (stk' := []) (mem' := fm g tp bt a' b) (fun _ _ _ => rfl) ?_
      rw [show (fx_cb .ge (nI k) 842) = false from cb_geF (a := k) (b := 842) (by omega) (by omega) (by omega)]
      dsimp only [cond]
      refine fe_s 14 (pc' := 31) (lc' := [(3, .int (nI k)), (0, .ref 0), (1, .int (nI s)), (2, .int (nI d))]) (stk' := [.int ((842 * (nI s)) + (nI k)), .ref 1, .int ((842 * (nI d)) + (nI k)), .ref 1]) (mem' := fm g tp bt a' b) (fun _ _ _ => rfl) ?_
      rw [show ((842 * (nI s)) + (nI k) : Int32) = nI ((842 * s) + k) from by simp only [show (842 : Int32) = nI 842 from rfl, nI_add, fm_mul]]
      rw [show ((842 * (nI d)) + (nI k) : Int32) = nI ((842 * d) + k) from by simp only [show (842 : Int32) = nI 842 from rfl, nI_add, fm_mul]]
      refine fe_ldI (by rfl) (by rfl) (fx_inN (i := (842 * s) + k) (by omega) (by omega)) ?_
      rw [show Int32.toNatClampNeg (nI ((842 * s) + k)) = (842 * s) + k from nI_clamp (by omega)]
      refine fe_stI (mem' := fm g tp bt (fm_u a' 1 (nI ((842 * d) + k) : Int32).toNatClampNeg (a' 1 ((842 * s) + k))) b) (by rfl) (by rfl) (fx_inN (i := (842 * d) + k) (by omega) (by omega)) (by rfl) ?_
      rw [show Int32.toNatClampNeg (nI ((842 * d) + k)) = (842 * d) + k from nI_clamp (by omega)]
      refine fe_s 2 (pc' := 2) (lc' := [(3, .int ((nI k) + 1)), (0, .ref 0), (1, .int (nI s)), (2, .int (nI d))]) (stk' := []) (mem' := fm g tp bt (fm_u a' 1 ((842 * d) + k) (a' 1 ((842 * s) + k))) b) (fun _ _ _ => rfl) ?_
      rw [show ((nI k) + 1 : Int32) = nI (k + 1) from by simp only [show (1 : Int32) = nI 1 from rfl, nI_add, fm_mul]]
      refine ih (k + 1) (by omega) _ (fun t ht => by rw [fm_ut ht]; exact h1 t ht) (fun i hi => by rw [fm_u1, if_neg (by omega)]; exact h2 i (by omega)) (fun i hi => ?_)
      rw [fm_u1]
      by_cases e : i = k
      · rw [if_pos (by omega), h2 _ (by omega), e]
      · rw [if_neg (by omega)]; exact h3 i (by omega)
  refine fe_s 2 (pc' := 2) (lc' := [(3, .int 0), (0, .ref 0), (1, .int (nI s)), (2, .int (nI d))]) (stk' := []) (mem' := fm g tp bt a b) (fun _ _ _ => rfl) ?_
  exact l2 842 0 (by omega) a (fun _ _ => rfl) (fun _ _ => rfl) (fun i hi => absurd hi (Nat.not_lt_zero i))
theorem fr_mark {m : Nat} (hB : fm_B a) (hm : g 42 = nI m) (hm3 : m ≤ 3) : ∃ (v : Option Value) (mem' : fx_M), (fun R => ∃ (v : Int32) (g' : Nat → Int32) (a' : Nat → Nat → Int32) (b' : Nat → Nat → Int64), (m = 3 ∧ v = -1 ∧ g' = upd g 2 4 ∧ a' = a ∧ b' = b ∨ m < 3 ∧ v = nI (m + 1) ∧ g' = upd (upd g 42 (nI (m + 1))) 2 0 ∧ fm_B a' ∧ (∀ t, t ≠ 1 → a' t = a t) ∧ ∀ t, t ≠ 2 → b' t = b t) ∧ R = (some (.int v), fm g' tp bt a' b')) (v, mem') ∧ fr_T 2 370 [.ref 0] (fm g tp bt a b) v mem' := by
  refine fe_meth (F := fun R => ∃ (v : Int32) (g' : Nat → Int32) (a' : Nat → Nat → Int32) (b' : Nat → Nat → Int64), (m = 3 ∧ v = -1 ∧ g' = upd g 2 4 ∧ a' = a ∧ b' = b ∨ m < 3 ∧ v = nI (m + 1) ∧ g' = upd (upd g 42 (nI (m + 1))) 2 0 ∧ fm_B a' ∧ (∀ t, t ≠ 1 → a' t = a t) ∧ ∀ t, t ≠ 2 → b' t = b t) ∧ R = (some (.int v), fm g' tp bt a' b')) (M := gk_m370) (by rfl) (by rfl) ?_
  refine fe_s 3 (pc' := 5) (lc' := [(0, .ref 0)]) (stk' := [.int 3, .int (g 42)]) (mem' := fm g tp bt a b) (fun _ _ _ => rfl) ?_
  try rw [hm]
  refine fe_s 1 (pc' := cond (fx_cb .ne (nI m) 3) 14 8) (lc' := [(0, .ref 0)]) (stk' := []) (mem' := fm g tp bt a b) (fun _ _ _ => rfl) ?_
  by_cases h1 : m = 3
  · rw [show (fx_cb .ne (nI m) 3) = false from cb_neF (a := m) (b := 3) (by omega) (by omega) (by omega)]
    dsimp only [cond]
    refine fe_s 2 (pc' := 10) (lc' := [(0, .ref 0)]) (stk' := [.int 4, .ref 0]) (mem' := fm g tp bt a b) (fun _ _ _ => rfl) ?_
    refine fe_ivV (fr_refuse (x := 4)) (by omega) (by rfl) (by rfl) (by rfl) (by rfl) (by rfl) (by rfl) ?_
    exact fe_ret ⟨_, _, a, b, Or.inl ⟨by omega, rfl, rfl, rfl, rfl⟩, rfl⟩ (by rfl) (by rfl) (by rfl)
  · rw [show (fx_cb .ne (nI m) 3) = true from cb_neT (a := m) (b := 3) (by omega) (by omega) (by omega)]
    dsimp only [cond]
    refine fe_s 10 (pc' := 30) (lc' := [(0, .ref 0)]) (stk' := [.int ((g 42) + 1), .int 0, .ref 0]) (mem' := fm (upd g 42 ((g 42) + 1)) tp bt a b) (fun _ _ _ => rfl) ?_
    try rw [hm]
    rw [show ((nI m) + 1 : Int32) = nI (m + 1) from by simp only [show (1 : Int32) = nI 1 from rfl, nI_add, fm_mul]]
    obtain ⟨v5, mem5, ⟨a5, b5, hc5, hb5, hR5⟩, hfr5⟩ := fr_copies (s := 0) (d := m + 1) (g := (upd g 42 (nI (m + 1)))) (tp := tp) (bt := bt) (a := a) (b := b) (by omega) (by omega) (by omega)
    cases hR5
    refine fe_ivV hfr5 (by omega) (by rfl) (by rfl) (by rfl) (by rfl) (by rfl) (by rfl) ?_
    refine fe_s 3 (pc' := 38) (lc' := [(0, .ref 0)]) (stk' := [.int (nI (m + 1)), .ref 0]) (mem' := fm (upd g 42 (nI (m + 1))) tp bt a5 b5) (fun _ _ _ => rfl) ?_
    refine fe_ivV (fr_gives (x := nI (m + 1))) (by omega) (by rfl) (by rfl) (by rfl) (by rfl) (by rfl) (by rfl) ?_
    exact fe_ret ⟨_, _, a5, b5, Or.inr ⟨by omega, rfl, rfl, fm_B_cpy hB (by omega) (by omega) hc5, hc5.1, hb5⟩, rfl⟩ (by rfl) (by rfl) (by rfl)
theorem fr_undo {m : Nat} (hB : fm_B a) (hm : g 42 = nI m) (hm3 : m ≤ 3) : ∃ (v : Option Value) (mem' : fx_M), (fun R => ∃ (v : Int32) (g' : Nat → Int32) (a' : Nat → Nat → Int32) (b' : Nat → Nat → Int64), (m = 0 ∧ v = -1 ∧ g' = upd g 2 6 ∧ a' = a ∧ b' = b ∨ 0 < m ∧ v = nI (m - 1) ∧ g' = upd (upd g 42 (nI (m - 1))) 2 0 ∧ fm_B a' ∧ (∀ t, t ≠ 1 → a' t = a t) ∧ ∀ t, t ≠ 2 → b' t = b t) ∧ R = (some (.int v), fm g' tp bt a' b')) (v, mem') ∧ fr_T 2 371 [.ref 0] (fm g tp bt a b) v mem' := by
  refine fe_meth (F := fun R => ∃ (v : Int32) (g' : Nat → Int32) (a' : Nat → Nat → Int32) (b' : Nat → Nat → Int64), (m = 0 ∧ v = -1 ∧ g' = upd g 2 6 ∧ a' = a ∧ b' = b ∨ 0 < m ∧ v = nI (m - 1) ∧ g' = upd (upd g 42 (nI (m - 1))) 2 0 ∧ fm_B a' ∧ (∀ t, t ≠ 1 → a' t = a t) ∧ ∀ t, t ≠ 2 → b' t = b t) ∧ R = (some (.int v), fm g' tp bt a' b')) (M := gk_m371) (by rfl) (by rfl) ?_
  refine fe_s 2 (pc' := 4) (lc' := [(0, .ref 0)]) (stk' := [.int (g 42)]) (mem' := fm g tp bt a b) (fun _ _ _ => rfl) ?_
  try rw [hm]
  refine fe_s 1 (pc' := cond (fx_cb .ne (nI m) 0) 14 7) (lc' := [(0, .ref 0)]) (stk' := []) (mem' := fm g tp bt a b) (fun _ _ _ => rfl) ?_
  by_cases h1 : m = 0
  · rw [show (fx_cb .ne (nI m) 0) = false from cb_neF (a := m) (b := 0) (by omega) (by omega) (by omega)]
    dsimp only [cond]
    refine fe_s 2 (pc' := 10) (lc' := [(0, .ref 0)]) (stk' := [.int 6, .ref 0]) (mem' := fm g tp bt a b) (fun _ _ _ => rfl) ?_
    refine fe_ivV (fr_refuse (x := 6)) (by omega) (by rfl) (by rfl) (by rfl) (by rfl) (by rfl) (by rfl) ?_
    exact fe_ret ⟨_, _, a, b, Or.inl ⟨by omega, rfl, rfl, rfl, rfl⟩, rfl⟩ (by rfl) (by rfl) (by rfl)
  · rw [show (fx_cb .ne (nI m) 0) = true from cb_neT (a := m) (b := 0) (by omega) (by omega) (by omega)]
    dsimp only [cond]
    refine fe_s 4 (pc' := 20) (lc' := [(0, .ref 0)]) (stk' := [.int 0, .int (g 42), .ref 0]) (mem' := fm g tp bt a b) (fun _ _ _ => rfl) ?_
    try rw [hm]
    obtain ⟨v5, mem5, ⟨a5, b5, hc5, hb5, hR5⟩, hfr5⟩ := fr_copies (s := m) (d := 0) (g := g) (tp := tp) (bt := bt) (a := a) (b := b) (by omega) (by omega) (by omega)
    cases hR5
    refine fe_ivV hfr5 (by omega) (by rfl) (by rfl) (by rfl) (by rfl) (by rfl) (by rfl) ?_
    refine fe_s 9 (pc' := 38) (lc' := [(0, .ref 0)]) (stk' := [.int ((g 42) - 1), .ref 0]) (mem' := fm (upd g 42 ((g 42) - 1)) tp bt a5 b5) (fun _ _ _ => rfl) ?_
    try rw [hm]
    rw [show ((nI m) - 1 : Int32) = nI (m - 1) from by simp only [show (1 : Int32) = nI 1 from rfl, tg_sub2 (x := m) (y := 1) (by omega), nI_add, fm_mul]]
    refine fe_ivV (fr_gives (x := nI (m - 1))) (by omega) (by rfl) (by rfl) (by rfl) (by rfl) (by rfl) (by rfl) ?_
    exact fe_ret ⟨_, _, a5, b5, Or.inr ⟨by omega, rfl, rfl, fm_B_cpy hB (by omega) (by omega) hc5, hc5.1, hb5⟩, rfl⟩ (by rfl) (by rfl) (by rfl)
end FHW
