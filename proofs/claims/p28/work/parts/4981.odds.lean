/-! ===== fx: odds, best day, mean ===== -/
section FDZ
variable {g : Nat → Int32} {tp bt : Int64} {a0 a : Nat → Nat → Int32} {b : Nat → Nat → Int64}
theorem fr_waysTo {C : Nat} {m : Int32} (hC : C < 10) : ∃ (v : Option Value) (mem' : fx_M), (fun R => ∃ x : Int64, R = (some (.long x), fm g tp bt a b)) (v, mem') ∧ fr_T 3 353 [.ref 0, .int (nI C), .int m] (fm g tp bt a b) v mem' := by
  refine fe_meth (F := fun R => ∃ x : Int64, R = (some (.long x), fm g tp bt a b)) (M := gk_m353) (by rfl) (by rfl) ?_
  refine fe_s 4 (pc' := 5) (lc' := [(5, .int 0), (3, .long (0 : Int64)), (0, .ref 0), (1, .int (nI C)), (2, .int m)]) (stk' := []) (mem' := fm g tp bt a b) (fun _ _ _ => rfl) ?_
  have loop101 : ∀ (r i101 : Nat), i101 + r = 21 → ∀ x3_101 : Int64, fe_R 2 gk_m353 5 [(5, .int (nI i101)), (3, .long x3_101), (0, .ref 0), (1, .int (nI C)), (2, .int m)] [] (fm g tp bt a b) (fun R => ∃ x : Int64, R = (some (.long x), fm g tp bt a b)) := by
    intro r
    induction r with
    | zero =>
      intro i101 hi101 x3_101
      obtain rfl : i101 = 21 := by omega
      refine fe_s 2 (pc' := 9) (lc' := [(5, .int (nI 21)), (3, .long x3_101), (0, .ref 0), (1, .int (nI C)), (2, .int m)]) (stk' := [.int 21, .int (nI 21)]) (mem' := fm g tp bt a b) (fun _ _ _ => rfl) ?_
      refine fe_s 1 (pc' := cond (fx_cb .ge (nI 21) 21) 47 12) (lc' := [(5, .int (nI 21)), (3, .long x3_101), (0, .ref 0), (1, .int (nI C)), (2, .int m)]) (stk' := []) (mem' := fm g tp bt a b) (fun _ _ _ => rfl) ?_
      rw [show (fx_cb .ge (nI 21) 21) = true from cb_geT (a := 21) (b := 21) (by omega) (by omega) (by omega)]
      dsimp only [cond]
      refine fe_s 1 (pc' := 48) (lc' := [(5, .int (nI 21)), (3, .long x3_101), (0, .ref 0), (1, .int (nI C)), (2, .int m)]) (stk' := [.long x3_101]) (mem' := fm g tp bt a b) (fun _ _ _ => rfl) ?_
      exact fe_ret ⟨_, rfl⟩ (by rfl) (by rfl) (by rfl)
    | succ r ih101 =>
      intro i101 hi101 x3_101
      have hl101 : i101 < 21 := by omega
      refine fe_s 2 (pc' := 9) (lc' := [(5, .int (nI i101)), (3, .long x3_101), (0, .ref 0), (1, .int (nI C)), (2, .int m)]) (stk' := [.int 21, .int (nI i101)]) (mem' := fm g tp bt a b) (fun _ _ _ => rfl) ?_
      refine fe_s 1 (pc' := cond (fx_cb .ge (nI i101) 21) 47 12) (lc' := [(5, .int (nI i101)), (3, .long x3_101), (0, .ref 0), (1, .int (nI C)), (2, .int m)]) (stk' := []) (mem' := fm g tp bt a b) (fun _ _ _ => rfl) ?_
      rw [show (fx_cb .ge (nI i101) 21) = false from cb_geF (a := i101) (b := 21) (by omega) (by omega) (by omega)]
      dsimp only [cond]
      refine fe_s 3 (pc' := 15) (lc' := [(5, .int (nI i101)), (3, .long x3_101), (0, .ref 0), (1, .int (nI C)), (2, .int m)]) (stk' := [.int (nI C), .ref 0, .long x3_101]) (mem' := fm g tp bt a b) (fun _ _ _ => rfl) ?_
      obtain ⟨v102, hv102⟩ := fq_bearsNow (C := C) (g := g) (tp := tp) (bt := bt) (a := a) (b := b) (by omega)
      refine fe_ivV hv102 (by omega) (by rfl) (by rfl) (by rfl) (by rfl) (by rfl) (by rfl) ?_
      refine fe_s 5 (pc' := 25) (lc' := [(5, .int (nI i101)), (3, .long x3_101), (0, .ref 0), (1, .int (nI C)), (2, .int m)]) (stk' := [.int m, .int ((v102 + (nI i101)) - 10), .long x3_101]) (mem' := fm g tp bt a b) (fun _ _ _ => rfl) ?_
      refine fe_s 1 (pc' := cond (fx_cb .lt ((v102 + (nI i101)) - 10) m) 38 28) (lc' := [(5, .int (nI i101)), (3, .long x3_101), (0, .ref 0), (1, .int (nI C)), (2, .int m)]) (stk' := [.long x3_101]) (mem' := fm g tp bt a b) (fun _ _ _ => rfl) ?_
      cases h103 : fx_cb .lt ((v102 + (nI i101)) - 10) m
      · refine fe_s 3 (pc' := 34) (lc' := [(5, .int (nI i101)), (3, .long x3_101), (0, .ref 0), (1, .int (nI C)), (2, .int m)]) (stk' := [.int (nI i101), .ref 17, .long x3_101]) (mem' := fm g tp bt a b) (fun _ _ _ => rfl) ?_
        refine fe_ldL (by rfl) (by rfl) (fx_inN (i := i101) (by omega) (by omega)) ?_
        rw [show Int32.toNatClampNeg (nI i101) = i101 from nI_clamp (by omega)]
        refine fe_s 5 (pc' := 5) (lc' := [(5, .int ((nI i101) + 1)), (3, .long (x3_101 + (b 17 i101))), (0, .ref 0), (1, .int (nI C)), (2, .int m)]) (stk' := []) (mem' := fm g tp bt a b) (fun _ _ _ => rfl) ?_
        rw [show ((nI i101) + 1 : Int32) = nI (i101 + 1) from by simp only [show (1 : Int32) = nI 1 from rfl, nI_add, fm_mul]]
        refine fe_w (lc' := [(5, .int (nI (i101 + 1))), (3, .long (x3_101 + (b 17 i101))), (0, .ref 0), (1, .int (nI C)), (2, .int m)]) ⟨rfl, rfl, rfl, rfl, rfl, trivial⟩ (by show List.Nodup [5, 3, 0, 1, 2]; decide) (by show List.Nodup [5, 3, 0, 1, 2]; decide) ?_
        exact ih101 (i101 + 1) (by omega) _
      · refine fe_s 5 (pc' := 5) (lc' := [(5, .int ((nI i101) + 1)), (3, .long (x3_101 + (0 : Int64))), (0, .ref 0), (1, .int (nI C)), (2, .int m)]) (stk' := []) (mem' := fm g tp bt a b) (fun _ _ _ => rfl) ?_
        rw [show ((nI i101) + 1 : Int32) = nI (i101 + 1) from by simp only [show (1 : Int32) = nI 1 from rfl, nI_add, fm_mul]]
        refine fe_w (lc' := [(5, .int (nI (i101 + 1))), (3, .long (x3_101 + (0 : Int64))), (0, .ref 0), (1, .int (nI C)), (2, .int m)]) ⟨rfl, rfl, rfl, rfl, rfl, trivial⟩ (by show List.Nodup [5, 3, 0, 1, 2]; decide) (by show List.Nodup [5, 3, 0, 1, 2]; decide) ?_
        exact ih101 (i101 + 1) (by omega) _
  exact loop101 (21) (0) (by omega) _
theorem fr_areDays {c days f t : Int32} {NCa : Nat} (eNCa : a 1 0 = nI NCa) (hNCa : NCa ≤ 10) : ∃ (v : Option Value) (mem' : fx_M), (fun R => ∃ z : Int32, (z = 0 ∨ z = 1 ∧ ∃ C d : Nat, C < 10 ∧ d ≤ 10 ∧ c = nI C ∧ days = nI d) ∧ R = (some (.int z), fm g tp bt a b)) (v, mem') ∧ fr_T 4 354 [.ref 0, .int c, .int days, .int f, .int t] (fm g tp bt a b) v mem' := by
  refine fe_meth (F := fun R => ∃ z : Int32, (z = 0 ∨ z = 1 ∧ ∃ C d : Nat, C < 10 ∧ d ≤ 10 ∧ c = nI C ∧ days = nI d) ∧ R = (some (.int z), fm g tp bt a b)) (M := gk_m354) (by rfl) (by rfl) ?_
  refine fe_s 2 (pc' := 2) (lc' := [(0, .ref 0), (1, .int c), (2, .int days), (3, .int f), (4, .int t)]) (stk' := [.int c, .ref 0]) (mem' := fm g tp bt a b) (fun _ _ _ => rfl) ?_
  obtain ⟨vj101, memj101, ⟨xj101, hxj101, hRj101⟩, hfrj101⟩ := fr_isIceX (c := c) (g := g) (tp := tp) (bt := bt) (b := b) eNCa hNCa
  cases hRj101
  refine fe_ivV hfrj101 (by omega) (by rfl) (by rfl) (by rfl) (by rfl) (by rfl) (by rfl) ?_
  rcases hxj101 with rfl | ⟨rfl, Cj101, hCj101, rfl⟩
  · refine fe_s 1 (pc' := cond (fx_cb .eq 0 0) 52 8) (lc' := [(0, .ref 0), (1, .int c), (2, .int days), (3, .int f), (4, .int t)]) (stk' := []) (mem' := fm g tp bt a b) (fun _ _ _ => rfl) ?_
    rw [show (fx_cb .eq 0 0) = true from by decide]
    dsimp only [cond]
    refine fe_s 1 (pc' := 53) (lc' := [(0, .ref 0), (1, .int c), (2, .int days), (3, .int f), (4, .int t)]) (stk' := [.int 0]) (mem' := fm g tp bt a b) (fun _ _ _ => rfl) ?_
    exact fe_ret ⟨_, Or.inl rfl, rfl⟩ (by rfl) (by rfl) (by rfl)
  · refine fe_s 1 (pc' := cond (fx_cb .eq 1 0) 52 8) (lc' := [(0, .ref 0), (1, .int (nI Cj101)), (2, .int days), (3, .int f), (4, .int t)]) (stk' := []) (mem' := fm g tp bt a b) (fun _ _ _ => rfl) ?_
    rw [show (fx_cb .eq 1 0) = false from by decide]
    dsimp only [cond]
    refine fe_s 4 (pc' := 14) (lc' := [(0, .ref 0), (1, .int (nI Cj101)), (2, .int days), (3, .int f), (4, .int t)]) (stk' := [.long 10, .long (0 : Int64), .long (days.toInt64)]) (mem' := fm g tp bt a b) (fun _ _ _ => rfl) ?_
    obtain ⟨vf102, memf102, ⟨xf102, hxf102, hRf102⟩, hfrf102⟩ := fr_isFrom (v := days.toInt64) (l := (0 : Int64)) (m := 10) (mem := fm g tp bt a b)
    cases hRf102
    refine fe_ivS hfrf102 (by omega) (by rfl) (by rfl) (by rfl) (by rfl) (by rfl) ?_
    rcases hxf102 with ⟨rfl, -⟩ | ⟨rfl, hlf102, hmf102⟩
    · refine fe_s 1 (pc' := cond (fx_cb .eq 0 0) 52 20) (lc' := [(0, .ref 0), (1, .int (nI Cj101)), (2, .int days), (3, .int f), (4, .int t)]) (stk' := []) (mem' := fm g tp bt a b) (fun _ _ _ => rfl) ?_
      rw [show (fx_cb .eq 0 0) = true from by decide]
      dsimp only [cond]
      refine fe_s 1 (pc' := 53) (lc' := [(0, .ref 0), (1, .int (nI Cj101)), (2, .int days), (3, .int f), (4, .int t)]) (stk' := [.int 0]) (mem' := fm g tp bt a b) (fun _ _ _ => rfl) ?_
      exact fe_ret ⟨_, Or.inl rfl, rfl⟩ (by rfl) (by rfl) (by rfl)
    · obtain ⟨d, hd, rfl⟩ : ∃ qq, qq ≤ 10 ∧ days = nI qq := by
        rw [Int32.toInt_toInt64] at hlf102 hmf102
        rw [show (((10 : Int64)).toInt) = 10 from rfl] at hmf102
        rw [show (((0 : Int64)).toInt) = 0 from rfl] at hlf102
        exact nI_bd (n := 10) (by omega) hmf102
      refine fe_s 1 (pc' := cond (fx_cb .eq 1 0) 52 20) (lc' := [(0, .ref 0), (1, .int (nI Cj101)), (2, .int (nI d)), (3, .int f), (4, .int t)]) (stk' := []) (mem' := fm g tp bt a b) (fun _ _ _ => rfl) ?_
      rw [show (fx_cb .eq 1 0) = false from by decide]
      dsimp only [cond]
      refine fe_s 4 (pc' := 26) (lc' := [(0, .ref 0), (1, .int (nI Cj101)), (2, .int (nI d)), (3, .int f), (4, .int t)]) (stk' := [.long 16, .long (0 : Int64), .long (f.toInt64)]) (mem' := fm g tp bt a b) (fun _ _ _ => rfl) ?_
      obtain ⟨vf103, memf103, ⟨xf103, hxf103, hRf103⟩, hfrf103⟩ := fr_isFrom (v := f.toInt64) (l := (0 : Int64)) (m := 16) (mem := fm g tp bt a b)
      cases hRf103
      refine fe_ivS hfrf103 (by omega) (by rfl) (by rfl) (by rfl) (by rfl) (by rfl) ?_
      rcases hxf103 with ⟨rfl, -⟩ | ⟨rfl, hlf103, hmf103⟩
      · refine fe_s 1 (pc' := cond (fx_cb .eq 0 0) 52 32) (lc' := [(0, .ref 0), (1, .int (nI Cj101)), (2, .int (nI d)), (3, .int f), (4, .int t)]) (stk' := []) (mem' := fm g tp bt a b) (fun _ _ _ => rfl) ?_
        rw [show (fx_cb .eq 0 0) = true from by decide]
        dsimp only [cond]
        refine fe_s 1 (pc' := 53) (lc' := [(0, .ref 0), (1, .int (nI Cj101)), (2, .int (nI d)), (3, .int f), (4, .int t)]) (stk' := [.int 0]) (mem' := fm g tp bt a b) (fun _ _ _ => rfl) ?_
        exact fe_ret ⟨_, Or.inl rfl, rfl⟩ (by rfl) (by rfl) (by rfl)
      · refine fe_s 1 (pc' := cond (fx_cb .eq 1 0) 52 32) (lc' := [(0, .ref 0), (1, .int (nI Cj101)), (2, .int (nI d)), (3, .int f), (4, .int t)]) (stk' := []) (mem' := fm g tp bt a b) (fun _ _ _ => rfl) ?_
        rw [show (fx_cb .eq 1 0) = false from by decide]
        dsimp only [cond]
        refine fe_s 7 (pc' := 42) (lc' := [(0, .ref 0), (1, .int (nI Cj101)), (2, .int (nI d)), (3, .int f), (4, .int t)]) (stk' := [.long (16 - (f.toInt64)), .long (0 : Int64), .long (t.toInt64)]) (mem' := fm g tp bt a b) (fun _ _ _ => rfl) ?_
        obtain ⟨vf104, memf104, ⟨xf104, hxf104, hRf104⟩, hfrf104⟩ := fr_isFrom (v := t.toInt64) (l := (0 : Int64)) (m := 16 - (f.toInt64)) (mem := fm g tp bt a b)
        cases hRf104
        refine fe_ivS hfrf104 (by omega) (by rfl) (by rfl) (by rfl) (by rfl) (by rfl) ?_
        rcases hxf104 with ⟨rfl, -⟩ | ⟨rfl, hlf104, hmf104⟩
        · refine fe_s 1 (pc' := cond (fx_cb .eq 0 0) 52 48) (lc' := [(0, .ref 0), (1, .int (nI Cj101)), (2, .int (nI d)), (3, .int f), (4, .int t)]) (stk' := []) (mem' := fm g tp bt a b) (fun _ _ _ => rfl) ?_
          rw [show (fx_cb .eq 0 0) = true from by decide]
          dsimp only [cond]
          refine fe_s 1 (pc' := 53) (lc' := [(0, .ref 0), (1, .int (nI Cj101)), (2, .int (nI d)), (3, .int f), (4, .int t)]) (stk' := [.int 0]) (mem' := fm g tp bt a b) (fun _ _ _ => rfl) ?_
          exact fe_ret ⟨_, Or.inl rfl, rfl⟩ (by rfl) (by rfl) (by rfl)
        · refine fe_s 1 (pc' := cond (fx_cb .eq 1 0) 52 48) (lc' := [(0, .ref 0), (1, .int (nI Cj101)), (2, .int (nI d)), (3, .int f), (4, .int t)]) (stk' := []) (mem' := fm g tp bt a b) (fun _ _ _ => rfl) ?_
          rw [show (fx_cb .eq 1 0) = false from by decide]
          dsimp only [cond]
          refine fe_s 2 (pc' := 53) (lc' := [(0, .ref 0), (1, .int (nI Cj101)), (2, .int (nI d)), (3, .int f), (4, .int t)]) (stk' := [.int 1]) (mem' := fm g tp bt a b) (fun _ _ _ => rfl) ?_
          exact fe_ret ⟨_, Or.inr ⟨rfl, Cj101, d, by omega, by omega, rfl, rfl⟩, rfl⟩ (by rfl) (by rfl) (by rfl)
theorem fr_odds {c m dd f t : Int32} (hBa : fm_B a) (hgb : fm_gb g) : ∃ (v : Option Value) (mem' : fx_M), (fm_PZ g tp bt a b) (v, mem') ∧ fr_T 9 355 [.ref 0, .int c, .int m, .int dd, .int f, .int t] (fm g tp bt a b) v mem' := by
  have hG := fm_G_rf hgb
  obtain ⟨NCa, hNCa, eNCa⟩ := fm_B_0 hBa (i := 0) (n := 10) (by decide) rfl
  obtain ⟨NWa, hNWa, eNWa⟩ := fm_B_0 hBa (i := 1) (n := 8) (by decide) rfl
  refine fe_meth (F := fm_PZ g tp bt a b) (M := gk_m355) (by rfl) (by rfl) ?_
  refine fe_s 5 (pc' := 7) (lc' := [(0, .ref 0), (1, .int c), (2, .int m), (3, .int dd), (4, .int f), (5, .int t)]) (stk' := [.int t, .int f, .int dd, .int c, .ref 0]) (mem' := fm g tp bt a b) (fun _ _ _ => rfl) ?_
  obtain ⟨vw1, memw1, ⟨xw1, hxw1, hRw1⟩, hfrw1⟩ := fr_areDays (c := c) (days := dd) (f := f) (t := t) (g := g) (tp := tp) (bt := bt) (a := a) (b := b) eNCa hNCa
  cases hRw1
  refine fe_ivV hfrw1 (by omega) (by rfl) (by rfl) (by rfl) (by rfl) (by rfl) (by rfl) ?_
  rcases hxw1 with rfl | ⟨rfl, C, d, hC, hd, rfl, rfl⟩
  · refine fe_s 1 (pc' := cond (fx_cb .eq 0 0) 25 13) (lc' := [(0, .ref 0), (1, .int c), (2, .int m), (3, .int dd), (4, .int f), (5, .int t)]) (stk' := []) (mem' := fm g tp bt a b) (fun _ _ _ => rfl) ?_
    rw [show (fx_cb .eq 0 0) = true from by decide]
    dsimp only [cond]
    refine fe_s 2 (pc' := 27) (lc' := [(0, .ref 0), (1, .int c), (2, .int m), (3, .int dd), (4, .int f), (5, .int t)]) (stk' := [.int 1, .ref 0]) (mem' := fm g tp bt a b) (fun _ _ _ => rfl) ?_
    refine fe_ivV fr_isx1 (by omega) (by rfl) (by rfl) (by rfl) (by rfl) (by rfl) (by rfl) ?_
    exact fe_ret ⟨_, _, _, _, _, _, Or.inl rfl, (fm_E_rf hBa), (fm_G_2 hG (by decide) (by decide)), (fun _ _ _ => rfl), rfl⟩ (by rfl) (by rfl) (by rfl)
  · refine fe_s 1 (pc' := cond (fx_cb .eq 1 0) 25 13) (lc' := [(0, .ref 0), (1, .int (nI C)), (2, .int m), (3, .int (nI d)), (4, .int f), (5, .int t)]) (stk' := []) (mem' := fm g tp bt a b) (fun _ _ _ => rfl) ?_
    rw [show (fx_cb .eq 1 0) = false from by decide]
    dsimp only [cond]
    refine fe_s 4 (pc' := 19) (lc' := [(0, .ref 0), (1, .int (nI C)), (2, .int m), (3, .int (nI d)), (4, .int f), (5, .int t)]) (stk' := [.long 999, .long (0 : Int64), .long (m.toInt64)]) (mem' := fm g tp bt a b) (fun _ _ _ => rfl) ?_
    obtain ⟨vf2, memf2, ⟨xf2, hxf2, hRf2⟩, hfrf2⟩ := fr_isFrom (v := m.toInt64) (l := (0 : Int64)) (m := 999) (mem := fm g tp bt a b)
    cases hRf2
    refine fe_ivS hfrf2 (by omega) (by rfl) (by rfl) (by rfl) (by rfl) (by rfl) ?_
    rcases hxf2 with ⟨rfl, -⟩ | ⟨rfl, hlf2, hmf2⟩
    · refine fe_s 1 (pc' := cond (fx_cb .ne 0 0) 31 25) (lc' := [(0, .ref 0), (1, .int (nI C)), (2, .int m), (3, .int (nI d)), (4, .int f), (5, .int t)]) (stk' := []) (mem' := fm g tp bt a b) (fun _ _ _ => rfl) ?_
      rw [show (fx_cb .ne 0 0) = false from by decide]
      dsimp only [cond]
      refine fe_s 2 (pc' := 27) (lc' := [(0, .ref 0), (1, .int (nI C)), (2, .int m), (3, .int (nI d)), (4, .int f), (5, .int t)]) (stk' := [.int 1, .ref 0]) (mem' := fm g tp bt a b) (fun _ _ _ => rfl) ?_
      refine fe_ivV fr_isx1 (by omega) (by rfl) (by rfl) (by rfl) (by rfl) (by rfl) (by rfl) ?_
      exact fe_ret ⟨_, _, _, _, _, _, Or.inl rfl, (fm_E_rf hBa), (fm_G_2 hG (by decide) (by decide)), (fun _ _ _ => rfl), rfl⟩ (by rfl) (by rfl) (by rfl)
    · refine fe_s 1 (pc' := cond (fx_cb .ne 1 0) 31 25) (lc' := [(0, .ref 0), (1, .int (nI C)), (2, .int m), (3, .int (nI d)), (4, .int f), (5, .int t)]) (stk' := []) (mem' := fm g tp bt a b) (fun _ _ _ => rfl) ?_
      rw [show (fx_cb .ne 1 0) = true from by decide]
      dsimp only [cond]
      refine fe_s 5 (pc' := 38) (lc' := [(0, .ref 0), (1, .int (nI C)), (2, .int m), (3, .int (nI d)), (4, .int f), (5, .int t)]) (stk' := [.int t, .int f, .int (nI d), .int (nI C), .ref 0]) (mem' := fm g tp bt a b) (fun _ _ _ => rfl) ?_
      obtain ⟨vy3, memy3, ⟨xy3, by3, hxy3, hby3, hRy3⟩, hfry3⟩ := fr_laysDays (C := C) (days := d) (f := f) (t := t) (g := g) (tp := tp) (bt := bt) (a := a) (b := b) (by omega) (by omega)
      cases hRy3
      have hbby3 : ∀ t, t ≠ 17 → t ≠ 18 → by3 t = b t := fun t h7 h8 => (hby3 t h7 h8).trans ((fun _ _ _ => rfl) t h7 h8)
      refine fe_ivV hfry3 (by omega) (by rfl) (by rfl) (by rfl) (by rfl) (by rfl) (by rfl) ?_
      refine fe_s 5 (pc' := 47) (lc' := [(6, .long xy3), (0, .ref 0), (1, .int (nI C)), (2, .int m), (3, .int (nI d)), (4, .int f), (5, .int t)]) (stk' := [.int m, .int (nI C), .ref 0, .ref 0]) (mem' := fm g tp bt a by3) (fun _ _ _ => rfl) ?_
      obtain ⟨vu4, memu4, ⟨xu4, hRu4⟩, hfru4⟩ := fr_waysTo (C := C) (m := m) (g := g) (tp := tp) (bt := bt) (a := a) (b := by3) (by omega)
      cases hRu4
      refine fe_ivV hfru4 (by omega) (by rfl) (by rfl) (by rfl) (by rfl) (by rfl) (by rfl) ?_
      refine fe_s 1 (pc' := 52) (lc' := [(6, .long xy3), (0, .ref 0), (1, .int (nI C)), (2, .int m), (3, .int (nI d)), (4, .int f), (5, .int t)]) (stk' := [.long xy3, .long xu4, .ref 0]) (mem' := fm g tp bt a by3) (fun _ _ _ => rfl) ?_
      obtain ⟨vt5, memt5, ⟨tt5, ut5, hRt5⟩, hfrt5⟩ := fr_tellsByX (n := xu4) (d := xy3) (g := g) (tp := tp) (bt := bt) (a := a) (b := by3) (by rw [hxy3]; exact fm_16n _ (by omega))
      cases hRt5
      refine fe_ivV hfrt5 (by omega) (by rfl) (by rfl) (by rfl) (by rfl) (by rfl) (by rfl) ?_
      exact fe_ret ⟨_, _, _, _, _, _, Or.inr rfl, (fm_E_rf hBa), (fm_G_2 hG (by decide) (by decide)), hbby3, rfl⟩ (by rfl) (by rfl) (by rfl)
theorem fr_meanIn {c dd f t : Int32} (hBa : fm_B a) (hgb : fm_gb g) : ∃ (v : Option Value) (mem' : fx_M), (fm_PZ g tp bt a b) (v, mem') ∧ fr_T 9 357 [.ref 0, .int c, .int dd, .int f, .int t] (fm g tp bt a b) v mem' := by
  have hG := fm_G_rf hgb
  obtain ⟨NCa, hNCa, eNCa⟩ := fm_B_0 hBa (i := 0) (n := 10) (by decide) rfl
  obtain ⟨NWa, hNWa, eNWa⟩ := fm_B_0 hBa (i := 1) (n := 8) (by decide) rfl
  refine fe_meth (F := fm_PZ g tp bt a b) (M := gk_m357) (by rfl) (by rfl) ?_
  refine fe_s 5 (pc' := 6) (lc' := [(0, .ref 0), (1, .int c), (2, .int dd), (3, .int f), (4, .int t)]) (stk' := [.int t, .int f, .int dd, .int c, .ref 0]) (mem' := fm g tp bt a b) (fun _ _ _ => rfl) ?_
  obtain ⟨vw1, memw1, ⟨xw1, hxw1, hRw1⟩, hfrw1⟩ := fr_areDays (c := c) (days := dd) (f := f) (t := t) (g := g) (tp := tp) (bt := bt) (a := a) (b := b) eNCa hNCa
  cases hRw1
  refine fe_ivV hfrw1 (by omega) (by rfl) (by rfl) (by rfl) (by rfl) (by rfl) (by rfl) ?_
  rcases hxw1 with rfl | ⟨rfl, C, d, hC, hd, rfl, rfl⟩
  · refine fe_s 1 (pc' := cond (fx_cb .ne 0 0) 18 12) (lc' := [(0, .ref 0), (1, .int c), (2, .int dd), (3, .int f), (4, .int t)]) (stk' := []) (mem' := fm g tp bt a b) (fun _ _ _ => rfl) ?_
    rw [show (fx_cb .ne 0 0) = false from by decide]
    dsimp only [cond]
    refine fe_s 2 (pc' := 14) (lc' := [(0, .ref 0), (1, .int c), (2, .int dd), (3, .int f), (4, .int t)]) (stk' := [.int 1, .ref 0]) (mem' := fm g tp bt a b) (fun _ _ _ => rfl) ?_
    refine fe_ivV fr_isx1 (by omega) (by rfl) (by rfl) (by rfl) (by rfl) (by rfl) (by rfl) ?_
    exact fe_ret ⟨_, _, _, _, _, _, Or.inl rfl, (fm_E_rf hBa), (fm_G_2 hG (by decide) (by decide)), (fun _ _ _ => rfl), rfl⟩ (by rfl) (by rfl) (by rfl)
  · refine fe_s 1 (pc' := cond (fx_cb .ne 1 0) 18 12) (lc' := [(0, .ref 0), (1, .int (nI C)), (2, .int (nI d)), (3, .int f), (4, .int t)]) (stk' := []) (mem' := fm g tp bt a b) (fun _ _ _ => rfl) ?_
    rw [show (fx_cb .ne 1 0) = true from by decide]
    dsimp only [cond]
    refine fe_s 5 (pc' := 24) (lc' := [(0, .ref 0), (1, .int (nI C)), (2, .int (nI d)), (3, .int f), (4, .int t)]) (stk' := [.int t, .int f, .int (nI d), .int (nI C), .ref 0]) (mem' := fm g tp bt a b) (fun _ _ _ => rfl) ?_
    obtain ⟨vy2, memy2, ⟨xy2, by2, hxy2, hby2, hRy2⟩, hfry2⟩ := fr_laysDays (C := C) (days := d) (f := f) (t := t) (g := g) (tp := tp) (bt := bt) (a := a) (b := b) (by omega) (by omega)
    cases hRy2
    have hbby2 : ∀ t, t ≠ 17 → t ≠ 18 → by2 t = b t := fun t h7 h8 => (hby2 t h7 h8).trans ((fun _ _ _ => rfl) t h7 h8)
    refine fe_ivV hfry2 (by omega) (by rfl) (by rfl) (by rfl) (by rfl) (by rfl) (by rfl) ?_
    refine fe_s 5 (pc' := 35) (lc' := [(9, .int 0), (7, .long (0 : Int64)), (5, .long xy2), (0, .ref 0), (1, .int (nI C)), (2, .int (nI d)), (3, .int f), (4, .int t)]) (stk' := []) (mem' := fm g tp bt a by2) (fun _ _ _ => rfl) ?_
    have loop3 : ∀ (r i3 : Nat), i3 + r = 21 → ∀ x7_3 : Int64, fe_R 8 gk_m357 35 [(9, .int (nI i3)), (7, .long x7_3), (5, .long xy2), (0, .ref 0), (1, .int (nI C)), (2, .int (nI d)), (3, .int f), (4, .int t)] [] (fm g tp bt a by2) (fm_PZ g tp bt a b) := by
      intro r
      induction r with
      | zero =>
        intro i3 hi3 x7_3
        obtain rfl : i3 = 21 := by omega
        refine fe_s 2 (pc' := 39) (lc' := [(9, .int (nI 21)), (7, .long x7_3), (5, .long xy2), (0, .ref 0), (1, .int (nI C)), (2, .int (nI d)), (3, .int f), (4, .int t)]) (stk' := [.int 21, .int (nI 21)]) (mem' := fm g tp bt a by2) (fun _ _ _ => rfl) ?_
        refine fe_s 1 (pc' := cond (fx_cb .ge (nI 21) 21) 73 42) (lc' := [(9, .int (nI 21)), (7, .long x7_3), (5, .long xy2), (0, .ref 0), (1, .int (nI C)), (2, .int (nI d)), (3, .int f), (4, .int t)]) (stk' := []) (mem' := fm g tp bt a by2) (fun _ _ _ => rfl) ?_
        rw [show (fx_cb .ge (nI 21) 21) = true from cb_geT (a := 21) (b := 21) (by omega) (by omega) (by omega)]
        dsimp only [cond]
        refine fe_s 3 (pc' := 78) (lc' := [(9, .int (nI 21)), (7, .long x7_3), (5, .long xy2), (0, .ref 0), (1, .int (nI C)), (2, .int (nI d)), (3, .int f), (4, .int t)]) (stk' := [.long xy2, .long x7_3, .ref 0]) (mem' := fm g tp bt a by2) (fun _ _ _ => rfl) ?_
        obtain ⟨vt4, memt4, ⟨tt4, ut4, hRt4⟩, hfrt4⟩ := fr_tellsByX (n := x7_3) (d := xy2) (g := g) (tp := tp) (bt := bt) (a := a) (b := by2) (by rw [hxy2]; exact fm_16n _ (by omega))
        cases hRt4
        refine fe_ivV hfrt4 (by omega) (by rfl) (by rfl) (by rfl) (by rfl) (by rfl) (by rfl) ?_
        exact fe_ret ⟨_, _, _, _, _, _, Or.inr rfl, (fm_E_rf hBa), (fm_G_2 hG (by decide) (by decide)), hbby2, rfl⟩ (by rfl) (by rfl) (by rfl)
      | succ r ih3 =>
        intro i3 hi3 x7_3
        have hl3 : i3 < 21 := by omega
        refine fe_s 2 (pc' := 39) (lc' := [(9, .int (nI i3)), (7, .long x7_3), (5, .long xy2), (0, .ref 0), (1, .int (nI C)), (2, .int (nI d)), (3, .int f), (4, .int t)]) (stk' := [.int 21, .int (nI i3)]) (mem' := fm g tp bt a by2) (fun _ _ _ => rfl) ?_
        refine fe_s 1 (pc' := cond (fx_cb .ge (nI i3) 21) 73 42) (lc' := [(9, .int (nI i3)), (7, .long x7_3), (5, .long xy2), (0, .ref 0), (1, .int (nI C)), (2, .int (nI d)), (3, .int f), (4, .int t)]) (stk' := []) (mem' := fm g tp bt a by2) (fun _ _ _ => rfl) ?_
        rw [show (fx_cb .ge (nI i3) 21) = false from cb_geF (a := i3) (b := 21) (by omega) (by omega) (by omega)]
        dsimp only [cond]
        refine fe_s 4 (pc' := 50) (lc' := [(9, .int (nI i3)), (7, .long x7_3), (5, .long xy2), (0, .ref 0), (1, .int (nI C)), (2, .int (nI d)), (3, .int f), (4, .int t)]) (stk' := [.int (nI i3), .ref 17, .long x7_3]) (mem' := fm g tp bt a by2) (fun _ _ _ => rfl) ?_
        refine fe_ldL (by rfl) (by rfl) (fx_inN (i := i3) (by omega) (by omega)) ?_
        rw [show Int32.toNatClampNeg (nI i3) = i3 from nI_clamp (by omega)]
        refine fe_s 2 (pc' := 53) (lc' := [(9, .int (nI i3)), (7, .long x7_3), (5, .long xy2), (0, .ref 0), (1, .int (nI C)), (2, .int (nI d)), (3, .int f), (4, .int t)]) (stk' := [.int (nI C), .ref 0, .long (by2 17 i3), .long x7_3]) (mem' := fm g tp bt a by2) (fun _ _ _ => rfl) ?_
        obtain ⟨v5, hv5⟩ := fq_bearsNow (C := C) (g := g) (tp := tp) (bt := bt) (a := a) (b := by2) (by omega)
        refine fe_ivV hv5 (by omega) (by rfl) (by rfl) (by rfl) (by rfl) (by rfl) (by rfl) ?_
        refine fe_s 10 (pc' := 35) (lc' := [(9, .int ((nI i3) + 1)), (7, .long (x7_3 + ((by2 17 i3) * (((v5 + (nI i3)) - 10).toInt64)))), (5, .long xy2), (0, .ref 0), (1, .int (nI C)), (2, .int (nI d)), (3, .int f), (4, .int t)]) (stk' := []) (mem' := fm g tp bt a by2) (fun _ _ _ => rfl) ?_
        rw [show ((nI i3) + 1 : Int32) = nI (i3 + 1) from by simp only [show (1 : Int32) = nI 1 from rfl, nI_add, fm_mul]]
        refine fe_w (lc' := [(9, .int (nI (i3 + 1))), (7, .long (x7_3 + ((by2 17 i3) * (((v5 + (nI i3)) - 10).toInt64)))), (5, .long xy2), (0, .ref 0), (1, .int (nI C)), (2, .int (nI d)), (3, .int f), (4, .int t)]) ⟨rfl, rfl, rfl, rfl, rfl, rfl, rfl, rfl, trivial⟩ (by show List.Nodup [9, 7, 5, 0, 1, 2, 3, 4]; decide) (by show List.Nodup [9, 7, 5, 0, 1, 2, 3, 4]; decide) ?_
        exact ih3 (i3 + 1) (by omega) _
    exact loop3 (21) (0) (by omega) _
theorem fr_bestDay {c m dd f t : Int32} (hBa : fm_B a) (hgb : fm_gb g) : ∃ (v : Option Value) (mem' : fx_M), (fm_PO g tp bt a b) (v, mem') ∧ fr_T 9 356 [.ref 0, .int c, .int m, .int dd, .int f, .int t] (fm g tp bt a b) v mem' := by
  have hG := fm_G_rf hgb
  obtain ⟨NCa, hNCa, eNCa⟩ := fm_B_0 hBa (i := 0) (n := 10) (by decide) rfl
  obtain ⟨NWa, hNWa, eNWa⟩ := fm_B_0 hBa (i := 1) (n := 8) (by decide) rfl
  refine fe_meth (F := fm_PO g tp bt a b) (M := gk_m356) (by rfl) (by rfl) ?_
  refine fe_s 5 (pc' := 7) (lc' := [(0, .ref 0), (1, .int c), (2, .int m), (3, .int dd), (4, .int f), (5, .int t)]) (stk' := [.int t, .int f, .int dd, .int c, .ref 0]) (mem' := fm g tp bt a b) (fun _ _ _ => rfl) ?_
  obtain ⟨vw1, memw1, ⟨xw1, hxw1, hRw1⟩, hfrw1⟩ := fr_areDays (c := c) (days := dd) (f := f) (t := t) (g := g) (tp := tp) (bt := bt) (a := a) (b := b) eNCa hNCa
  cases hRw1
  refine fe_ivV hfrw1 (by omega) (by rfl) (by rfl) (by rfl) (by rfl) (by rfl) (by rfl) ?_
  rcases hxw1 with rfl | ⟨rfl, C, d, hC, hd, rfl, rfl⟩
  · refine fe_s 1 (pc' := cond (fx_cb .eq 0 0) 25 13) (lc' := [(0, .ref 0), (1, .int c), (2, .int m), (3, .int dd), (4, .int f), (5, .int t)]) (stk' := []) (mem' := fm g tp bt a b) (fun _ _ _ => rfl) ?_
    rw [show (fx_cb .eq 0 0) = true from by decide]
    dsimp only [cond]
    refine fe_s 2 (pc' := 27) (lc' := [(0, .ref 0), (1, .int c), (2, .int m), (3, .int dd), (4, .int f), (5, .int t)]) (stk' := [.int 1, .ref 0]) (mem' := fm g tp bt a b) (fun _ _ _ => rfl) ?_
    refine fe_ivV (fr_refuse (x := 1)) (by omega) (by rfl) (by rfl) (by rfl) (by rfl) (by rfl) (by rfl) ?_
    exact fe_ret ⟨_, _, _, _, _, _, (fm_E_rf hBa), (fm_G_2 hG (by decide) (by decide)), (fun _ _ _ => rfl), rfl⟩ (by rfl) (by rfl) (by rfl)
  · refine fe_s 1 (pc' := cond (fx_cb .eq 1 0) 25 13) (lc' := [(0, .ref 0), (1, .int (nI C)), (2, .int m), (3, .int (nI d)), (4, .int f), (5, .int t)]) (stk' := []) (mem' := fm g tp bt a b) (fun _ _ _ => rfl) ?_
    rw [show (fx_cb .eq 1 0) = false from by decide]
    dsimp only [cond]
    refine fe_s 4 (pc' := 19) (lc' := [(0, .ref 0), (1, .int (nI C)), (2, .int m), (3, .int (nI d)), (4, .int f), (5, .int t)]) (stk' := [.long 999, .long (0 : Int64), .long (m.toInt64)]) (mem' := fm g tp bt a b) (fun _ _ _ => rfl) ?_
    obtain ⟨vf2, memf2, ⟨xf2, hxf2, hRf2⟩, hfrf2⟩ := fr_isFrom (v := m.toInt64) (l := (0 : Int64)) (m := 999) (mem := fm g tp bt a b)
    cases hRf2
    refine fe_ivS hfrf2 (by omega) (by rfl) (by rfl) (by rfl) (by rfl) (by rfl) ?_
    rcases hxf2 with ⟨rfl, -⟩ | ⟨rfl, hlf2, hmf2⟩
    · refine fe_s 1 (pc' := cond (fx_cb .ne 0 0) 31 25) (lc' := [(0, .ref 0), (1, .int (nI C)), (2, .int m), (3, .int (nI d)), (4, .int f), (5, .int t)]) (stk' := []) (mem' := fm g tp bt a b) (fun _ _ _ => rfl) ?_
      rw [show (fx_cb .ne 0 0) = false from by decide]
      dsimp only [cond]
      refine fe_s 2 (pc' := 27) (lc' := [(0, .ref 0), (1, .int (nI C)), (2, .int m), (3, .int (nI d)), (4, .int f), (5, .int t)]) (stk' := [.int 1, .ref 0]) (mem' := fm g tp bt a b) (fun _ _ _ => rfl) ?_
      refine fe_ivV (fr_refuse (x := 1)) (by omega) (by rfl) (by rfl) (by rfl) (by rfl) (by rfl) (by rfl) ?_
      exact fe_ret ⟨_, _, _, _, _, _, (fm_E_rf hBa), (fm_G_2 hG (by decide) (by decide)), (fun _ _ _ => rfl), rfl⟩ (by rfl) (by rfl) (by rfl)
    · refine fe_s 1 (pc' := cond (fx_cb .ne 1 0) 31 25) (lc' := [(0, .ref 0), (1, .int (nI C)), (2, .int m), (3, .int (nI d)), (4, .int f), (5, .int t)]) (stk' := []) (mem' := fm g tp bt a b) (fun _ _ _ => rfl) ?_
      rw [show (fx_cb .ne 1 0) = true from by decide]
      dsimp only [cond]
      refine fe_s 6 (pc' := 42) (lc' := [(9, .int 0), (7, .long (-1)), (6, .int (-1)), (0, .ref 0), (1, .int (nI C)), (2, .int m), (3, .int (nI d)), (4, .int f), (5, .int t)]) (stk' := []) (mem' := fm g tp bt a b) (fun _ _ _ => rfl) ?_
      have loop : ∀ (r i : Nat), i + r = d + 1 → ∀ (y6 : Int32) (y7 : Int64) (b1 : Nat → Nat → Int64), (∀ t, t ≠ 17 → t ≠ 18 → b1 t = b t) → fe_R 8 gk_m356 42 [(9, .int (nI i)), (7, .long y7), (6, .int y6), (0, .ref 0), (1, .int (nI C)), (2, .int m), (3, .int (nI d)), (4, .int f), (5, .int t)] [] (fm g tp bt a b1) (fm_PO g tp bt a b) := by
        intro r
        induction r with
        | zero =>
          intro i hi y6 y7 b1 hb1
          obtain rfl : i = d + 1 := by omega
          refine fe_s 2 (pc' := 45) (lc' := [(9, .int (nI (d + 1))), (7, .long y7), (6, .int y6), (0, .ref 0), (1, .int (nI C)), (2, .int m), (3, .int (nI d)), (4, .int f), (5, .int t)]) (stk' := [.int (nI d), .int (nI (d + 1))]) (mem' := fm g tp bt a b1) (fun _ _ _ => rfl) ?_
          refine fe_s 1 (pc' := cond (fx_cb .gt (nI (d + 1)) (nI d)) 117 48) (lc' := [(9, .int (nI (d + 1))), (7, .long y7), (6, .int y6), (0, .ref 0), (1, .int (nI C)), (2, .int m), (3, .int (nI d)), (4, .int f), (5, .int t)]) (stk' := []) (mem' := fm g tp bt a b1) (fun _ _ _ => rfl) ?_
          rw [show (fx_cb .gt (nI (d + 1)) (nI d)) = true from cb_gtT (a := d + 1) (b := d) (by omega) (by omega) (by omega)]
          dsimp only [cond]
          refine fe_s 2 (pc' := 120) (lc' := [(9, .int (nI (d + 1))), (7, .long y7), (6, .int y6), (0, .ref 0), (1, .int (nI C)), (2, .int m), (3, .int (nI d)), (4, .int f), (5, .int t)]) (stk' := [.int y6, .ref 0]) (mem' := fm g tp bt a b1) (fun _ _ _ => rfl) ?_
          refine fe_ivV (fr_gives (x := y6)) (by omega) (by rfl) (by rfl) (by rfl) (by rfl) (by rfl) (by rfl) ?_
          exact fe_ret ⟨_, _, _, _, _, _, (fm_E_rf hBa), (fm_G_2 hG (by decide) (by decide)), hb1, rfl⟩ (by rfl) (by rfl) (by rfl)
        | succ r ih =>
          intro i hi y6 y7 b1 hb1
          have hid : i ≤ d := by omega
          refine fe_s 2 (pc' := 45) (lc' := [(9, .int (nI i)), (7, .long y7), (6, .int y6), (0, .ref 0), (1, .int (nI C)), (2, .int m), (3, .int (nI d)), (4, .int f), (5, .int t)]) (stk' := [.int (nI d), .int (nI i)]) (mem' := fm g tp bt a b1) (fun _ _ _ => rfl) ?_
          refine fe_s 1 (pc' := cond (fx_cb .gt (nI i) (nI d)) 117 48) (lc' := [(9, .int (nI i)), (7, .long y7), (6, .int y6), (0, .ref 0), (1, .int (nI C)), (2, .int m), (3, .int (nI d)), (4, .int f), (5, .int t)]) (stk' := []) (mem' := fm g tp bt a b1) (fun _ _ _ => rfl) ?_
          rw [show (fx_cb .gt (nI i) (nI d)) = false from cb_gtF (a := i) (b := d) (by omega) (by omega) (by omega)]
          dsimp only [cond]
          refine fe_s 5 (pc' := 56) (lc' := [(9, .int (nI i)), (7, .long y7), (6, .int y6), (0, .ref 0), (1, .int (nI C)), (2, .int m), (3, .int (nI d)), (4, .int f), (5, .int t)]) (stk' := [.int t, .int f, .int (nI i), .int (nI C), .ref 0]) (mem' := fm g tp bt a b1) (fun _ _ _ => rfl) ?_
          obtain ⟨vy3, memy3, ⟨xy3, by3, hxy3, hby3, hRy3⟩, hfry3⟩ := fr_laysDays (C := C) (days := i) (f := f) (t := t) (g := g) (tp := tp) (bt := bt) (a := a) (b := b1) (by omega) (by omega)
          cases hRy3
          have hbby3 : ∀ t, t ≠ 17 → t ≠ 18 → by3 t = b t := fun t h7 h8 => (hby3 t h7 h8).trans (hb1 t h7 h8)
          refine fe_ivV hfry3 (by omega) (by rfl) (by rfl) (by rfl) (by rfl) (by rfl) (by rfl) ?_
          refine fe_s 1 (pc' := 60) (lc' := [(9, .int (nI i)), (7, .long y7), (6, .int y6), (0, .ref 0), (1, .int (nI C)), (2, .int m), (3, .int (nI d)), (4, .int f), (5, .int t)]) (stk' := []) (mem' := fm g tp bt a by3) (fun _ _ _ => rfl) ?_
          refine fe_s 3 (pc' := 63) (lc' := [(9, .int (nI i)), (7, .long y7), (6, .int y6), (0, .ref 0), (1, .int (nI C)), (2, .int m), (3, .int (nI d)), (4, .int f), (5, .int t)]) (stk' := [.int m, .int (nI C), .ref 0]) (mem' := fm g tp bt a by3) (fun _ _ _ => rfl) ?_
          obtain ⟨vu4, memu4, ⟨xu4, hRu4⟩, hfru4⟩ := fr_waysTo (C := C) (m := m) (g := g) (tp := tp) (bt := bt) (a := a) (b := by3) (by omega)
          cases hRu4
          refine fe_ivV hfru4 (by omega) (by rfl) (by rfl) (by rfl) (by rfl) (by rfl) (by rfl) ?_
          refine fe_s 3 (pc' := 72) (lc' := [(12, .int (nI i)), (10, .long xu4), (9, .int (nI i)), (7, .long y7), (6, .int y6), (0, .ref 0), (1, .int (nI C)), (2, .int m), (3, .int (nI d)), (4, .int f), (5, .int t)]) (stk' := []) (mem' := fm g tp bt a by3) (fun _ _ _ => rfl) ?_
          have loop5 : ∀ (r i5 : Nat), i5 + r = d → ∀ x10_5 : Int64, fe_R 8 gk_m356 72 [(12, .int (nI i5)), (10, .long x10_5), (9, .int (nI i)), (7, .long y7), (6, .int y6), (0, .ref 0), (1, .int (nI C)), (2, .int m), (3, .int (nI d)), (4, .int f), (5, .int t)] [] (fm g tp bt a by3) (fm_PO g tp bt a b) := by
            intro r
            induction r with
            | zero =>
              intro i5 hi5 x10_5
              obtain rfl : d = i5 := by omega
              refine fe_s 2 (pc' := 75) (lc' := [(12, .int (nI d)), (10, .long x10_5), (9, .int (nI i)), (7, .long y7), (6, .int y6), (0, .ref 0), (1, .int (nI C)), (2, .int m), (3, .int (nI d)), (4, .int f), (5, .int t)]) (stk' := [.int (nI d), .int (nI d)]) (mem' := fm g tp bt a by3) (fun _ _ _ => rfl) ?_
              refine fe_s 1 (pc' := cond (fx_cb .ge (nI d) (nI d)) 92 78) (lc' := [(12, .int (nI d)), (10, .long x10_5), (9, .int (nI i)), (7, .long y7), (6, .int y6), (0, .ref 0), (1, .int (nI C)), (2, .int m), (3, .int (nI d)), (4, .int f), (5, .int t)]) (stk' := []) (mem' := fm g tp bt a by3) (fun _ _ _ => rfl) ?_
              rw [show (fx_cb .ge (nI d) (nI d)) = true from cb_geT (a := d) (b := d) (by omega) (by omega) (by omega)]
              dsimp only [cond]
              refine fe_s 3 (pc' := 97) (lc' := [(12, .int (nI d)), (10, .long x10_5), (9, .int (nI i)), (7, .long y7), (6, .int y6), (0, .ref 0), (1, .int (nI C)), (2, .int m), (3, .int (nI d)), (4, .int f), (5, .int t)]) (stk' := [.int (lg_cmp x10_5 y7)]) (mem' := fm g tp bt a by3) (fun _ _ _ => rfl) ?_
              refine fe_s 1 (pc' := cond (fx_cb .gt (lg_cmp x10_5 y7) 0) 103 100) (lc' := [(12, .int (nI d)), (10, .long x10_5), (9, .int (nI i)), (7, .long y7), (6, .int y6), (0, .ref 0), (1, .int (nI C)), (2, .int m), (3, .int (nI d)), (4, .int f), (5, .int t)]) (stk' := []) (mem' := fm g tp bt a by3) (fun _ _ _ => rfl) ?_
              cases h6 : fx_cb .gt (lg_cmp x10_5 y7) 0
              · refine fe_s 2 (pc' := 114) (lc' := [(9, .int ((nI i) + 1)), (12, .int (nI d)), (10, .long x10_5), (7, .long y7), (6, .int y6), (0, .ref 0), (1, .int (nI C)), (2, .int m), (3, .int (nI d)), (4, .int f), (5, .int t)]) (stk' := []) (mem' := fm g tp bt a by3) (fun _ _ _ => rfl) ?_
                rw [show ((nI i) + 1 : Int32) = nI (i + 1) from by simp only [show (1 : Int32) = nI 1 from rfl, nI_add, fm_mul]]
                refine fe_s 1 (pc' := fx_to 114 (-72)) (lc' := [(9, .int (nI (i + 1))), (12, .int (nI d)), (10, .long x10_5), (7, .long y7), (6, .int y6), (0, .ref 0), (1, .int (nI C)), (2, .int m), (3, .int (nI d)), (4, .int f), (5, .int t)]) (stk' := []) (mem' := fm g tp bt a by3) (fun _ _ _ => rfl) ?_
                rw [show fx_to 114 (-72) = 42 from by decide]
                refine fe_w (lc' := [(9, .int (nI (i + 1))), (7, .long y7), (6, .int y6), (0, .ref 0), (1, .int (nI C)), (2, .int m), (3, .int (nI d)), (4, .int f), (5, .int t)]) ⟨rfl, rfl, rfl, rfl, rfl, rfl, rfl, rfl, rfl, trivial⟩ (by show List.Nodup [9, 7, 6, 0, 1, 2, 3, 4, 5]; decide) (by show List.Nodup [9, 12, 10, 7, 6, 0, 1, 2, 3, 4, 5]; decide) ?_
                exact ih (i + 1) (by omega) _ _ _ hbby3
              · refine fe_s 5 (pc' := 114) (lc' := [(9, .int ((nI i) + 1)), (6, .int (nI i)), (7, .long x10_5), (12, .int (nI d)), (10, .long x10_5), (0, .ref 0), (1, .int (nI C)), (2, .int m), (3, .int (nI d)), (4, .int f), (5, .int t)]) (stk' := []) (mem' := fm g tp bt a by3) (fun _ _ _ => rfl) ?_
                rw [show ((nI i) + 1 : Int32) = nI (i + 1) from by simp only [show (1 : Int32) = nI 1 from rfl, nI_add, fm_mul]]
                refine fe_s 1 (pc' := fx_to 114 (-72)) (lc' := [(9, .int (nI (i + 1))), (6, .int (nI i)), (7, .long x10_5), (12, .int (nI d)), (10, .long x10_5), (0, .ref 0), (1, .int (nI C)), (2, .int m), (3, .int (nI d)), (4, .int f), (5, .int t)]) (stk' := []) (mem' := fm g tp bt a by3) (fun _ _ _ => rfl) ?_
                rw [show fx_to 114 (-72) = 42 from by decide]
                refine fe_w (lc' := [(9, .int (nI (i + 1))), (7, .long x10_5), (6, .int (nI i)), (0, .ref 0), (1, .int (nI C)), (2, .int m), (3, .int (nI d)), (4, .int f), (5, .int t)]) ⟨rfl, rfl, rfl, rfl, rfl, rfl, rfl, rfl, rfl, trivial⟩ (by show List.Nodup [9, 7, 6, 0, 1, 2, 3, 4, 5]; decide) (by show List.Nodup [9, 6, 7, 12, 10, 0, 1, 2, 3, 4, 5]; decide) ?_
                exact ih (i + 1) (by omega) _ _ _ hbby3
            | succ r ih5 =>
              intro i5 hi5 x10_5
              have hl5 : i5 < d := by omega
              refine fe_s 2 (pc' := 75) (lc' := [(12, .int (nI i5)), (10, .long x10_5), (9, .int (nI i)), (7, .long y7), (6, .int y6), (0, .ref 0), (1, .int (nI C)), (2, .int m), (3, .int (nI d)), (4, .int f), (5, .int t)]) (stk' := [.int (nI d), .int (nI i5)]) (mem' := fm g tp bt a by3) (fun _ _ _ => rfl) ?_
              refine fe_s 1 (pc' := cond (fx_cb .ge (nI i5) (nI d)) 92 78) (lc' := [(12, .int (nI i5)), (10, .long x10_5), (9, .int (nI i)), (7, .long y7), (6, .int y6), (0, .ref 0), (1, .int (nI C)), (2, .int m), (3, .int (nI d)), (4, .int f), (5, .int t)]) (stk' := []) (mem' := fm g tp bt a by3) (fun _ _ _ => rfl) ?_
              rw [show (fx_cb .ge (nI i5) (nI d)) = false from cb_geF (a := i5) (b := d) (by omega) (by omega) (by omega)]
              dsimp only [cond]
              refine fe_s 6 (pc' := 72) (lc' := [(12, .int ((nI i5) + 1)), (10, .long (x10_5 * 16)), (9, .int (nI i)), (7, .long y7), (6, .int y6), (0, .ref 0), (1, .int (nI C)), (2, .int m), (3, .int (nI d)), (4, .int f), (5, .int t)]) (stk' := []) (mem' := fm g tp bt a by3) (fun _ _ _ => rfl) ?_
              rw [show ((nI i5) + 1 : Int32) = nI (i5 + 1) from by simp only [show (1 : Int32) = nI 1 from rfl, nI_add, fm_mul]]
              refine fe_w (lc' := [(12, .int (nI (i5 + 1))), (10, .long (x10_5 * 16)), (9, .int (nI i)), (7, .long y7), (6, .int y6), (0, .ref 0), (1, .int (nI C)), (2, .int m), (3, .int (nI d)), (4, .int f), (5, .int t)]) ⟨rfl, rfl, rfl, rfl, rfl, rfl, rfl, rfl, rfl, rfl, rfl, trivial⟩ (by show List.Nodup [12, 10, 9, 7, 6, 0, 1, 2, 3, 4, 5]; decide) (by show List.Nodup [12, 10, 9, 7, 6, 0, 1, 2, 3, 4, 5]; decide) ?_
              exact ih5 (i5 + 1) (by omega) _
          exact loop5 (d - i) (i) (by omega) _
      refine fe_w (lc' := [(9, .int 0), (7, .long (-1)), (6, .int (-1)), (0, .ref 0), (1, .int (nI C)), (2, .int m), (3, .int (nI d)), (4, .int f), (5, .int t)]) ⟨rfl, rfl, rfl, rfl, rfl, rfl, rfl, rfl, rfl, trivial⟩ (by show List.Nodup [9, 7, 6, 0, 1, 2, 3, 4, 5]; decide) (by show List.Nodup [9, 7, 6, 0, 1, 2, 3, 4, 5]; decide) ?_
      exact loop (d + 1) 0 (by omega) _ _ _ (fun _ _ _ => rfl)
end FDZ
