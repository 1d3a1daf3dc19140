/-! ===== fx: queues: one order with its gaps ===== -/
section FQ2
variable {g : Nat → Int32} {tp bt : Int64} {a0 a : Nat → Nat → Int32} {b : Nat → Nat → Int64}
set_option maxHeartbeats 8000000 in
theorem fr_queued {n t N m1 m2 : Nat} (hBa : fm_B a) (hgb : fm_gb g) (hn1 : 1 ≤ n) (hn4 : n ≤ 4) (htu : fm_tu n a m1) (hga : fm_ga n a m2) (ht : t < 4) (hN : N ≤ 12) (hc : ∀ k, k < N → ∃ C, C < 10 ∧ b 5 (60 * t + k) = Int64.ofNat C)  : ∃ (v : Option Value) (mem' : fx_M), (fun R => ∃ (v : Int32) (a' : Nat → Nat → Int32), fm_B a' ∧ (∀ t, fm_okt t = false → a' t = a t) ∧ (∀ i, fm_st i = true → a' 1 i = a 1 i) ∧ R = (some (.int v), fm g tp bt a' b)) (v, mem') ∧ fr_T 9 329 [.ref 0, .int (nI n), .int (nI t), .int (nI N)] (fm g tp bt a b) v mem' := by
  have hG := fm_G_rf hgb
  refine fe_meth (F := fun R => ∃ (v : Int32) (a' : Nat → Nat → Int32), fm_B a' ∧ (∀ t, fm_okt t = false → a' t = a t) ∧ (∀ i, fm_st i = true → a' 1 i = a 1 i) ∧ R = (some (.int v), fm g tp bt a' b)) (M := gk_m329) (by rfl) (by rfl) ?_
  refine fe_s 2 (pc' := 4) (lc' := [(0, .ref 0), (1, .int (nI n)), (2, .int (nI t)), (3, .int (nI N))]) (stk' := [.int 5052, .ref 0]) (mem' := fm g tp bt a b) (by intro _ _ _; eq_refl) ?_
  obtain ⟨vK, memK, ⟨a0, hK, hRK⟩, hfrK⟩ := fr_keeps5052 (g := g) (tp := tp) (bt := bt) (a := a) (b := b)
  cases hRK
  have hB : fm_B a0 := fm_kept hBa (by decide) hK
  obtain ⟨NC, hNC, eNC⟩ := fm_B_0 hB (i := 0) (n := 10) (by decide) rfl
  obtain ⟨NW, hNW, eNW⟩ := fm_B_0 hB (i := 1) (n := 8) (by decide) rfl
  obtain ⟨NG, hNG, eNG⟩ := fm_B_0 hB (i := 3) (n := 20) (by decide) rfl
  obtain ⟨T, hT9, eT⟩ := fm_T5 hB
  have hD : fm_D a0 a0 T := fm_D_rf hB eT (by omega)
  refine fe_ivV hfrK (by omega) (by rfl) (by rfl) (by rfl) (by rfl) (by rfl) (by rfl) ?_
  refine fe_s 1 (pc' := 8) (lc' := [(0, .ref 0), (1, .int (nI n)), (2, .int (nI t)), (3, .int (nI N))]) (stk' := [.ref 0]) (mem' := fm g tp bt a0 b) (by intro _ _ _; eq_refl) ?_
  obtain ⟨vd101, memd101, ⟨ad101, hDd101, hRd101⟩, hfrd101⟩ := fr_stills (g := g) (tp := tp) (bt := bt) (a := a0) (b := b) hB hD
  cases hRd101
  refine fe_ivV hfrd101 (by omega) (by rfl) (by rfl) (by rfl) (by rfl) (by rfl) (by rfl) ?_
  refine fe_s 4 (pc' := 17) (lc' := [(5, .int 1), (4, .int (nI N)), (0, .ref 0), (1, .int (nI n)), (2, .int (nI t)), (3, .int (nI N))]) (stk' := []) (mem' := fm g tp bt ad101 b) (by intro _ _ _; eq_refl) ?_
  have loop102 : ∀ (r i102 : Nat), i102 + r = n → ∀ x4_102 : Nat, x4_102 ≤ 6 + 6 * i102 → ∀ a_102 : Nat → Nat → Int32, fm_D a0 a_102 T → fe_R 8 gk_m329 17 [(5, .int (nI i102)), (4, .int (nI x4_102)), (0, .ref 0), (1, .int (nI n)), (2, .int (nI t)), (3, .int (nI N))] [] (fm g tp bt a_102 b) (fun R => ∃ (v : Int32) (a' : Nat → Nat → Int32), fm_B a' ∧ (∀ t, fm_okt t = false → a' t = a t) ∧ (∀ i, fm_st i = true → a' 1 i = a 1 i) ∧ R = (some (.int v), fm g tp bt a' b)) := by
    intro r
    induction r with
    | zero =>
      intro i102 hi102 x4_102 hx4_102 a_102 hD_102
      obtain rfl : n = i102 := by omega
      refine fe_s 2 (pc' := 20) (lc' := [(5, .int (nI n)), (4, .int (nI x4_102)), (0, .ref 0), (1, .int (nI n)), (2, .int (nI t)), (3, .int (nI N))]) (stk' := [.int (nI n), .int (nI n)]) (mem' := fm g tp bt a_102 b) (by intro _ _ _; eq_refl) ?_
      refine fe_s 1 (pc' := cond (fx_cb .ge (nI n) (nI n)) 41 23) (lc' := [(5, .int (nI n)), (4, .int (nI x4_102)), (0, .ref 0), (1, .int (nI n)), (2, .int (nI t)), (3, .int (nI N))]) (stk' := []) (mem' := fm g tp bt a_102 b) (by intro _ _ _; eq_refl) ?_
      rw [show (fx_cb .ge (nI n) (nI n)) = true from cb_geT (a := n) (b := n) (by omega) (by omega) (by omega)]
      dsimp only [cond]
      refine fe_s 8 (pc' := 53) (lc' := [(8, .int 0), (7, .int 1), (6, .int 0), (5, .int 0), (4, .int (nI x4_102)), (0, .ref 0), (1, .int (nI n)), (2, .int (nI t)), (3, .int (nI N))]) (stk' := []) (mem' := fm g tp bt a_102 b) (by intro _ _ _; eq_refl) ?_
      obtain ⟨L, hL⟩ : ∃ L, L = x4_102 := ⟨_, rfl⟩
      rw [← hL]
      have hL30 : L ≤ 30 := by omega
      have loop103 : ∀ (r i103 : Nat), i103 + r = L → ∀ x7_103 : Int32, ∀ x6_103 : Nat, ∀ x5_103 : Int32, x6_103 ≤ n → ∀ T_103 : Nat, T_103 ≤ T + i103 → ∀ a_103 : Nat → Nat → Int32, fm_D a0 a_103 T_103 → fe_R 8 gk_m329 53 [(8, .int (nI i103)), (7, .int x7_103), (6, .int (nI x6_103)), (5, .int x5_103), (4, .int (nI L)), (0, .ref 0), (1, .int (nI n)), (2, .int (nI t)), (3, .int (nI N))] [] (fm g tp bt a_103 b) (fun R => ∃ (v : Int32) (a' : Nat → Nat → Int32), fm_B a' ∧ (∀ t, fm_okt t = false → a' t = a t) ∧ (∀ i, fm_st i = true → a' 1 i = a 1 i) ∧ R = (some (.int v), fm g tp bt a' b)) := by
        intro r
        induction r with
        | zero =>
          intro i103 hi103 x7_103 x6_103 x5_103 hx6_103 T_103 hT103 a_103 hD_103
          obtain rfl : L = i103 := by omega
          refine fe_s 2 (pc' := 57) (lc' := [(8, .int (nI L)), (7, .int x7_103), (6, .int (nI x6_103)), (5, .int x5_103), (4, .int (nI L)), (0, .ref 0), (1, .int (nI n)), (2, .int (nI t)), (3, .int (nI N))]) (stk' := [.int (nI L), .int (nI L)]) (mem' := fm g tp bt a_103 b) (by intro _ _ _; eq_refl) ?_
          refine fe_s 1 (pc' := cond (fx_cb .ge (nI L) (nI L)) 175 60) (lc' := [(8, .int (nI L)), (7, .int x7_103), (6, .int (nI x6_103)), (5, .int x5_103), (4, .int (nI L)), (0, .ref 0), (1, .int (nI n)), (2, .int (nI t)), (3, .int (nI N))]) (stk' := []) (mem' := fm g tp bt a_103 b) (by intro _ _ _; eq_refl) ?_
          rw [show (fx_cb .ge (nI L) (nI L)) = true from cb_geT (a := L) (b := L) (by omega) (by omega) (by omega)]
          dsimp only [cond]
          refine fe_s 2 (pc' := 179) (lc' := [(8, .int (nI L)), (7, .int x7_103), (6, .int (nI x6_103)), (5, .int x5_103), (4, .int (nI L)), (0, .ref 0), (1, .int (nI n)), (2, .int (nI t)), (3, .int (nI N))]) (stk' := [.int 5052, .ref 0]) (mem' := fm g tp bt a_103 b) (by intro _ _ _; eq_refl) ?_
          obtain ⟨vz104, memz104, ⟨az104, hSz104, hRz104⟩, hfrz104⟩ := fr_restores5052 (g := g) (tp := tp) (bt := bt) (a := a_103) (b := b)
          cases hRz104
          have hZz104 := fm_restd hB (by decide) hK hD_103 hSz104
          have hEz104 : fm_E a az104 := ⟨hZz104.1, fun t ht => hZz104.2.2 t (fm_okE_t ht), fun i hi => hZz104.2.1 i (by have := fm_st_n hi; omega)⟩
          refine fe_ivV hfrz104 (by omega) (by rfl) (by rfl) (by rfl) (by rfl) (by rfl) (by rfl) ?_
          refine fe_s 1 (pc' := 184) (lc' := [(8, .int (nI L)), (7, .int x7_103), (6, .int (nI x6_103)), (5, .int x5_103), (4, .int (nI L)), (0, .ref 0), (1, .int (nI n)), (2, .int (nI t)), (3, .int (nI N))]) (stk' := [.int x7_103]) (mem' := fm g tp bt az104 b) (by intro _ _ _; eq_refl) ?_
          refine fe_s 1 (pc' := cond (fx_cb .eq x7_103 0) 192 187) (lc' := [(8, .int (nI L)), (7, .int x7_103), (6, .int (nI x6_103)), (5, .int x5_103), (4, .int (nI L)), (0, .ref 0), (1, .int (nI n)), (2, .int (nI t)), (3, .int (nI N))]) (stk' := []) (mem' := fm g tp bt az104 b) (by intro _ _ _; eq_refl) ?_
          cases h105 : fx_cb .eq x7_103 0
          · refine fe_s 2 (pc' := 195) (lc' := [(8, .int (nI L)), (7, .int x7_103), (6, .int (nI x6_103)), (5, .int x5_103), (4, .int (nI L)), (0, .ref 0), (1, .int (nI n)), (2, .int (nI t)), (3, .int (nI N))]) (stk' := [.int (nI L)]) (mem' := fm g tp bt az104 b) (by intro _ _ _; eq_refl) ?_
            exact fe_ret ⟨_, _, hZz104.1, hZz104.2.2, (fun i hi => hZz104.2.1 i (by have := fm_st_n hi; omega)), rfl⟩ (by rfl) (by rfl) (by rfl)
          · refine fe_s 1 (pc' := 195) (lc' := [(8, .int (nI L)), (7, .int x7_103), (6, .int (nI x6_103)), (5, .int x5_103), (4, .int (nI L)), (0, .ref 0), (1, .int (nI n)), (2, .int (nI t)), (3, .int (nI N))]) (stk' := [.int 1000000]) (mem' := fm g tp bt az104 b) (by intro _ _ _; eq_refl) ?_
            exact fe_ret ⟨_, _, hZz104.1, hZz104.2.2, (fun i hi => hZz104.2.1 i (by have := fm_st_n hi; omega)), rfl⟩ (by rfl) (by rfl) (by rfl)
        | succ r ih103 =>
          intro i103 hi103 x7_103 x6_103 x5_103 hx6_103 T_103 hT103 a_103 hD_103
          have hl103 : i103 < L := by omega
          refine fe_s 2 (pc' := 57) (lc' := [(8, .int (nI i103)), (7, .int x7_103), (6, .int (nI x6_103)), (5, .int x5_103), (4, .int (nI L)), (0, .ref 0), (1, .int (nI n)), (2, .int (nI t)), (3, .int (nI N))]) (stk' := [.int (nI L), .int (nI i103)]) (mem' := fm g tp bt a_103 b) (by intro _ _ _; eq_refl) ?_
          refine fe_s 1 (pc' := cond (fx_cb .ge (nI i103) (nI L)) 175 60) (lc' := [(8, .int (nI i103)), (7, .int x7_103), (6, .int (nI x6_103)), (5, .int x5_103), (4, .int (nI L)), (0, .ref 0), (1, .int (nI n)), (2, .int (nI t)), (3, .int (nI N))]) (stk' := []) (mem' := fm g tp bt a_103 b) (by intro _ _ _; eq_refl) ?_
          rw [show (fx_cb .ge (nI i103) (nI L)) = false from cb_geF (a := i103) (b := L) (by omega) (by omega) (by omega)]
          dsimp only [cond]
          refine fe_s 1 (pc' := 62) (lc' := [(8, .int (nI i103)), (7, .int x7_103), (6, .int (nI x6_103)), (5, .int x5_103), (4, .int (nI L)), (0, .ref 0), (1, .int (nI n)), (2, .int (nI t)), (3, .int (nI N))]) (stk' := [.int x7_103]) (mem' := fm g tp bt a_103 b) (by intro _ _ _; eq_refl) ?_
          refine fe_s 1 (pc' := cond (fx_cb .eq x7_103 0) 175 65) (lc' := [(8, .int (nI i103)), (7, .int x7_103), (6, .int (nI x6_103)), (5, .int x5_103), (4, .int (nI L)), (0, .ref 0), (1, .int (nI n)), (2, .int (nI t)), (3, .int (nI N))]) (stk' := []) (mem' := fm g tp bt a_103 b) (by intro _ _ _; eq_refl) ?_
          cases h106 : fx_cb .eq x7_103 0
          · refine fe_s 2 (pc' := 68) (lc' := [(8, .int (nI i103)), (7, .int x7_103), (6, .int (nI x6_103)), (5, .int x5_103), (4, .int (nI L)), (0, .ref 0), (1, .int (nI n)), (2, .int (nI t)), (3, .int (nI N))]) (stk' := [.int (nI n), .int (nI x6_103)]) (mem' := fm g tp bt a_103 b) (by intro _ _ _; eq_refl) ?_
            refine fe_s 1 (pc' := cond (fx_cb .ge (nI x6_103) (nI n)) 116 71) (lc' := [(8, .int (nI i103)), (7, .int x7_103), (6, .int (nI x6_103)), (5, .int x5_103), (4, .int (nI L)), (0, .ref 0), (1, .int (nI n)), (2, .int (nI t)), (3, .int (nI N))]) (stk' := []) (mem' := fm g tp bt a_103 b) (by intro _ _ _; eq_refl) ?_
            by_cases h107 : n ≤ x6_103
            · rw [show (fx_cb .ge (nI x6_103) (nI n)) = true from cb_geT (a := x6_103) (b := n) (by omega) (by omega) (by omega)]
              dsimp only [cond]
              refine fe_s 1 (pc' := 117) (lc' := [(8, .int (nI i103)), (7, .int x7_103), (6, .int (nI x6_103)), (5, .int x5_103), (4, .int (nI L)), (0, .ref 0), (1, .int (nI n)), (2, .int (nI t)), (3, .int (nI N))]) (stk' := [.ref 0]) (mem' := fm g tp bt a_103 b) (by intro _ _ _; eq_refl) ?_
              obtain ⟨vd108, memd108, ⟨xd108, ad108, hDd108, hRd108⟩, hfrd108⟩ := fr_goes (T := T_103) (g := g) (tp := tp) (bt := bt) (a := a_103) (b := b) hB hD_103 (by omega)
              cases hRd108
              refine fe_ivV hfrd108 (by omega) (by rfl) (by rfl) (by rfl) (by rfl) (by rfl) (by rfl) ?_
              refine fe_s 1 (pc' := cond (fx_cb .ne xd108 0) 127 123) (lc' := [(8, .int (nI i103)), (7, .int x7_103), (6, .int (nI x6_103)), (5, .int x5_103), (4, .int (nI L)), (0, .ref 0), (1, .int (nI n)), (2, .int (nI t)), (3, .int (nI N))]) (stk' := []) (mem' := fm g tp bt ad108 b) (by intro _ _ _; eq_refl) ?_
              cases h109 : fx_cb .ne xd108 0
              · refine fe_s 5 (pc' := 133) (lc' := [(9, .int 0), (7, .int 1), (8, .int (nI i103)), (6, .int (nI x6_103)), (5, .int x5_103), (4, .int (nI L)), (0, .ref 0), (1, .int (nI n)), (2, .int (nI t)), (3, .int (nI N))]) (stk' := []) (mem' := fm g tp bt ad108 b) (by intro _ _ _; eq_refl) ?_
                have loop110 : ∀ (r i110 : Nat), i110 + r = n → ∀ x7_110 : Int32, ∀ a_110 : Nat → Nat → Int32, fm_D a0 a_110 (T_103 + 1) → fe_R 8 gk_m329 133 [(9, .int (nI i110)), (7, .int x7_110), (8, .int (nI i103)), (6, .int (nI x6_103)), (5, .int x5_103), (4, .int (nI L)), (0, .ref 0), (1, .int (nI n)), (2, .int (nI t)), (3, .int (nI N))] [] (fm g tp bt a_110 b) (fun R => ∃ (v : Int32) (a' : Nat → Nat → Int32), fm_B a' ∧ (∀ t, fm_okt t = false → a' t = a t) ∧ (∀ i, fm_st i = true → a' 1 i = a 1 i) ∧ R = (some (.int v), fm g tp bt a' b)) := by
                  intro r
                  induction r with
                  | zero =>
                    intro i110 hi110 x7_110 a_110 hD_110
                    obtain rfl : n = i110 := by omega
                    refine fe_s 2 (pc' := 136) (lc' := [(9, .int (nI n)), (7, .int x7_110), (8, .int (nI i103)), (6, .int (nI x6_103)), (5, .int x5_103), (4, .int (nI L)), (0, .ref 0), (1, .int (nI n)), (2, .int (nI t)), (3, .int (nI N))]) (stk' := [.int (nI n), .int (nI n)]) (mem' := fm g tp bt a_110 b) (by intro _ _ _; eq_refl) ?_
                    refine fe_s 1 (pc' := cond (fx_cb .ge (nI n) (nI n)) 169 139) (lc' := [(9, .int (nI n)), (7, .int x7_110), (8, .int (nI i103)), (6, .int (nI x6_103)), (5, .int x5_103), (4, .int (nI L)), (0, .ref 0), (1, .int (nI n)), (2, .int (nI t)), (3, .int (nI N))]) (stk' := []) (mem' := fm g tp bt a_110 b) (by intro _ _ _; eq_refl) ?_
                    rw [show (fx_cb .ge (nI n) (nI n)) = true from cb_geT (a := n) (b := n) (by omega) (by omega) (by omega)]
                    dsimp only [cond]
                    refine fe_s 1 (pc' := 172) (lc' := [(8, .int ((nI i103) + 1)), (9, .int (nI n)), (7, .int x7_110), (6, .int (nI x6_103)), (5, .int x5_103), (4, .int (nI L)), (0, .ref 0), (1, .int (nI n)), (2, .int (nI t)), (3, .int (nI N))]) (stk' := []) (mem' := fm g tp bt a_110 b) (by intro _ _ _; eq_refl) ?_
                    rw [show ((nI i103) + 1 : Int32) = nI (i103 + 1) from by simp only [show (1 : Int32) = nI 1 from rfl, nI_add, fm_mul]]
                    refine fe_s 1 (pc' := fx_to 172 (-119)) (lc' := [(8, .int (nI (i103 + 1))), (9, .int (nI n)), (7, .int x7_110), (6, .int (nI x6_103)), (5, .int x5_103), (4, .int (nI L)), (0, .ref 0), (1, .int (nI n)), (2, .int (nI t)), (3, .int (nI N))]) (stk' := []) (mem' := fm g tp bt a_110 b) (by intro _ _ _; eq_refl) ?_
                    rw [show fx_to 172 (-119) = 53 from by decide]
                    refine fe_w (lc' := [(8, .int (nI (i103 + 1))), (7, .int x7_110), (6, .int (nI x6_103)), (5, .int x5_103), (4, .int (nI L)), (0, .ref 0), (1, .int (nI n)), (2, .int (nI t)), (3, .int (nI N))]) ⟨rfl, rfl, rfl, rfl, rfl, rfl, rfl, rfl, rfl, trivial⟩ (by show List.Nodup [8, 7, 6, 5, 4, 0, 1, 2, 3]; decide) (by show List.Nodup [8, 9, 7, 6, 5, 4, 0, 1, 2, 3]; decide) ?_
                    exact ih103 (i103 + 1) (by omega) _ _ _ (by omega) (T_103 + 1) (by omega) a_110 hD_110
                  | succ r ih110 =>
                    intro i110 hi110 x7_110 a_110 hD_110
                    have hl110 : i110 < n := by omega
                    refine fe_s 2 (pc' := 136) (lc' := [(9, .int (nI i110)), (7, .int x7_110), (8, .int (nI i103)), (6, .int (nI x6_103)), (5, .int x5_103), (4, .int (nI L)), (0, .ref 0), (1, .int (nI n)), (2, .int (nI t)), (3, .int (nI N))]) (stk' := [.int (nI n), .int (nI i110)]) (mem' := fm g tp bt a_110 b) (by intro _ _ _; eq_refl) ?_
                    refine fe_s 1 (pc' := cond (fx_cb .ge (nI i110) (nI n)) 169 139) (lc' := [(9, .int (nI i110)), (7, .int x7_110), (8, .int (nI i103)), (6, .int (nI x6_103)), (5, .int x5_103), (4, .int (nI L)), (0, .ref 0), (1, .int (nI n)), (2, .int (nI t)), (3, .int (nI N))]) (stk' := []) (mem' := fm g tp bt a_110 b) (by intro _ _ _; eq_refl) ?_
                    rw [show (fx_cb .ge (nI i110) (nI n)) = false from cb_geF (a := i110) (b := n) (by omega) (by omega) (by omega)]
                    dsimp only [cond]
                    refine fe_s 5 (pc' := 148) (lc' := [(9, .int (nI i110)), (7, .int x7_110), (8, .int (nI i103)), (6, .int (nI x6_103)), (5, .int x5_103), (4, .int (nI L)), (0, .ref 0), (1, .int (nI n)), (2, .int (nI t)), (3, .int (nI N))]) (stk' := [.int (nI i110), .ref 10, .ref 0, .int x7_110]) (mem' := fm g tp bt a_110 b) (by intro _ _ _; eq_refl) ?_
                    refine fe_ldI (by rfl) (by rfl) (fx_inN (i := i110) (by omega) (by omega)) ?_
                    rw [show Int32.toNatClampNeg (nI i110) = i110 from nI_clamp (by omega)]
                    obtain ⟨u111, hu111, eu111⟩ := fm_tu_at htu hn4 (i := i110) (by omega)
                    rw [show a_110 10 (i110) = nI u111 from by rw [hD_110.1 10 rfl, hK.1 10 (by decide)]; exact eu111]
                    obtain ⟨v112, z113, hv112⟩ := fq_isWet (V := u111) (g := g) (tp := tp) (bt := bt) (a := a_110) (b := b) (by omega)
                    refine fe_ivV hv112 (by omega) (by rfl) (by rfl) (by rfl) (by rfl) (by rfl) (by rfl) ?_
                    rcases z113 with rfl | rfl
                    · refine fe_s 1 (pc' := cond (fx_cb .ne 0 0) 159 155) (lc' := [(9, .int (nI i110)), (7, .int x7_110), (8, .int (nI i103)), (6, .int (nI x6_103)), (5, .int x5_103), (4, .int (nI L)), (0, .ref 0), (1, .int (nI n)), (2, .int (nI t)), (3, .int (nI N))]) (stk' := [.int x7_110]) (mem' := fm g tp bt a_110 b) (by intro _ _ _; eq_refl) ?_
                      rw [show (fx_cb .ne 0 0) = false from by decide]
                      dsimp only [cond]
                      refine fe_s 6 (pc' := 133) (lc' := [(9, .int ((nI i110) + 1)), (7, .int (x7_110 &&& 1)), (8, .int (nI i103)), (6, .int (nI x6_103)), (5, .int x5_103), (4, .int (nI L)), (0, .ref 0), (1, .int (nI n)), (2, .int (nI t)), (3, .int (nI N))]) (stk' := []) (mem' := fm g tp bt a_110 b) (by intro _ _ _; eq_refl) ?_
                      rw [show ((nI i110) + 1 : Int32) = nI (i110 + 1) from by simp only [show (1 : Int32) = nI 1 from rfl, nI_add, fm_mul]]
                      refine fe_w (lc' := [(9, .int (nI (i110 + 1))), (7, .int (x7_110 &&& 1)), (8, .int (nI i103)), (6, .int (nI x6_103)), (5, .int x5_103), (4, .int (nI L)), (0, .ref 0), (1, .int (nI n)), (2, .int (nI t)), (3, .int (nI N))]) ⟨rfl, rfl, rfl, rfl, rfl, rfl, rfl, rfl, rfl, rfl, trivial⟩ (by show List.Nodup [9, 7, 8, 6, 5, 4, 0, 1, 2, 3]; decide) (by show List.Nodup [9, 7, 8, 6, 5, 4, 0, 1, 2, 3]; decide) ?_
                      exact ih110 (i110 + 1) (by omega) _ a_110 hD_110
                    · refine fe_s 1 (pc' := cond (fx_cb .ne 1 0) 159 155) (lc' := [(9, .int (nI i110)), (7, .int x7_110), (8, .int (nI i103)), (6, .int (nI x6_103)), (5, .int x5_103), (4, .int (nI L)), (0, .ref 0), (1, .int (nI n)), (2, .int (nI t)), (3, .int (nI N))]) (stk' := [.int x7_110]) (mem' := fm g tp bt a_110 b) (by intro _ _ _; eq_refl) ?_
                      rw [show (fx_cb .ne 1 0) = true from by decide]
                      dsimp only [cond]
                      refine fe_s 5 (pc' := 133) (lc' := [(9, .int ((nI i110) + 1)), (7, .int (x7_110 &&& 0)), (8, .int (nI i103)), (6, .int (nI x6_103)), (5, .int x5_103), (4, .int (nI L)), (0, .ref 0), (1, .int (nI n)), (2, .int (nI t)), (3, .int (nI N))]) (stk' := []) (mem' := fm g tp bt a_110 b) (by intro _ _ _; eq_refl) ?_
                      rw [show ((nI i110) + 1 : Int32) = nI (i110 + 1) from by simp only [show (1 : Int32) = nI 1 from rfl, nI_add, fm_mul]]
                      refine fe_w (lc' := [(9, .int (nI (i110 + 1))), (7, .int (x7_110 &&& 0)), (8, .int (nI i103)), (6, .int (nI x6_103)), (5, .int x5_103), (4, .int (nI L)), (0, .ref 0), (1, .int (nI n)), (2, .int (nI t)), (3, .int (nI N))]) ⟨rfl, rfl, rfl, rfl, rfl, rfl, rfl, rfl, rfl, rfl, trivial⟩ (by show List.Nodup [9, 7, 8, 6, 5, 4, 0, 1, 2, 3]; decide) (by show List.Nodup [9, 7, 8, 6, 5, 4, 0, 1, 2, 3]; decide) ?_
                      exact ih110 (i110 + 1) (by omega) _ a_110 hD_110
                refine fe_w (lc' := [(9, .int (nI 0)), (7, .int 1), (8, .int (nI i103)), (6, .int (nI x6_103)), (5, .int x5_103), (4, .int (nI L)), (0, .ref 0), (1, .int (nI n)), (2, .int (nI t)), (3, .int (nI N))]) ⟨rfl, rfl, rfl, rfl, rfl, rfl, rfl, rfl, rfl, rfl, trivial⟩ (by show List.Nodup [9, 7, 8, 6, 5, 4, 0, 1, 2, 3]; decide) (by show List.Nodup [9, 7, 8, 6, 5, 4, 0, 1, 2, 3]; decide) ?_
                exact loop110 (n - 0) 0 (by omega) _ ad108 hDd108
              · refine fe_s 4 (pc' := 133) (lc' := [(9, .int 0), (7, .int 0), (8, .int (nI i103)), (6, .int (nI x6_103)), (5, .int x5_103), (4, .int (nI L)), (0, .ref 0), (1, .int (nI n)), (2, .int (nI t)), (3, .int (nI N))]) (stk' := []) (mem' := fm g tp bt ad108 b) (by intro _ _ _; eq_refl) ?_
                have loop114 : ∀ (r i114 : Nat), i114 + r = n → ∀ x7_114 : Int32, ∀ a_114 : Nat → Nat → Int32, fm_D a0 a_114 (T_103 + 1) → fe_R 8 gk_m329 133 [(9, .int (nI i114)), (7, .int x7_114), (8, .int (nI i103)), (6, .int (nI x6_103)), (5, .int x5_103), (4, .int (nI L)), (0, .ref 0), (1, .int (nI n)), (2, .int (nI t)), (3, .int (nI N))] [] (fm g tp bt a_114 b) (fun R => ∃ (v : Int32) (a' : Nat → Nat → Int32), fm_B a' ∧ (∀ t, fm_okt t = false → a' t = a t) ∧ (∀ i, fm_st i = true → a' 1 i = a 1 i) ∧ R = (some (.int v), fm g tp bt a' b)) := by
                  intro r
                  induction r with
                  | zero =>
                    intro i114 hi114 x7_114 a_114 hD_114
                    obtain rfl : n = i114 := by omega
                    refine fe_s 2 (pc' := 136) (lc' := [(9, .int (nI n)), (7, .int x7_114), (8, .int (nI i103)), (6, .int (nI x6_103)), (5, .int x5_103), (4, .int (nI L)), (0, .ref 0), (1, .int (nI n)), (2, .int (nI t)), (3, .int (nI N))]) (stk' := [.int (nI n), .int (nI n)]) (mem' := fm g tp bt a_114 b) (by intro _ _ _; eq_refl) ?_
                    refine fe_s 1 (pc' := cond (fx_cb .ge (nI n) (nI n)) 169 139) (lc' := [(9, .int (nI n)), (7, .int x7_114), (8, .int (nI i103)), (6, .int (nI x6_103)), (5, .int x5_103), (4, .int (nI L)), (0, .ref 0), (1, .int (nI n)), (2, .int (nI t)), (3, .int (nI N))]) (stk' := []) (mem' := fm g tp bt a_114 b) (by intro _ _ _; eq_refl) ?_
                    rw [show (fx_cb .ge (nI n) (nI n)) = true from cb_geT (a := n) (b := n) (by omega) (by omega) (by omega)]
                    dsimp only [cond]
                    refine fe_s 1 (pc' := 172) (lc' := [(8, .int ((nI i103) + 1)), (9, .int (nI n)), (7, .int x7_114), (6, .int (nI x6_103)), (5, .int x5_103), (4, .int (nI L)), (0, .ref 0), (1, .int (nI n)), (2, .int (nI t)), (3, .int (nI N))]) (stk' := []) (mem' := fm g tp bt a_114 b) (by intro _ _ _; eq_refl) ?_
                    rw [show ((nI i103) + 1 : Int32) = nI (i103 + 1) from by simp only [show (1 : Int32) = nI 1 from rfl, nI_add, fm_mul]]
                    refine fe_s 1 (pc' := fx_to 172 (-119)) (lc' := [(8, .int (nI (i103 + 1))), (9, .int (nI n)), (7, .int x7_114), (6, .int (nI x6_103)), (5, .int x5_103), (4, .int (nI L)), (0, .ref 0), (1, .int (nI n)), (2, .int (nI t)), (3, .int (nI N))]) (stk' := []) (mem' := fm g tp bt a_114 b) (by intro _ _ _; eq_refl) ?_
                    rw [show fx_to 172 (-119) = 53 from by decide]
                    refine fe_w (lc' := [(8, .int (nI (i103 + 1))), (7, .int x7_114), (6, .int (nI x6_103)), (5, .int x5_103), (4, .int (nI L)), (0, .ref 0), (1, .int (nI n)), (2, .int (nI t)), (3, .int (nI N))]) ⟨rfl, rfl, rfl, rfl, rfl, rfl, rfl, rfl, rfl, trivial⟩ (by show List.Nodup [8, 7, 6, 5, 4, 0, 1, 2, 3]; decide) (by show List.Nodup [8, 9, 7, 6, 5, 4, 0, 1, 2, 3]; decide) ?_
                    exact ih103 (i103 + 1) (by omega) _ _ _ (by omega) (T_103 + 1) (by omega) a_114 hD_114
                  | succ r ih114 =>
                    intro i114 hi114 x7_114 a_114 hD_114
                    have hl114 : i114 < n := by omega
                    refine fe_s 2 (pc' := 136) (lc' := [(9, .int (nI i114)), (7, .int x7_114), (8, .int (nI i103)), (6, .int (nI x6_103)), (5, .int x5_103), (4, .int (nI L)), (0, .ref 0), (1, .int (nI n)), (2, .int (nI t)), (3, .int (nI N))]) (stk' := [.int (nI n), .int (nI i114)]) (mem' := fm g tp bt a_114 b) (by intro _ _ _; eq_refl) ?_
                    refine fe_s 1 (pc' := cond (fx_cb .ge (nI i114) (nI n)) 169 139) (lc' := [(9, .int (nI i114)), (7, .int x7_114), (8, .int (nI i103)), (6, .int (nI x6_103)), (5, .int x5_103), (4, .int (nI L)), (0, .ref 0), (1, .int (nI n)), (2, .int (nI t)), (3, .int (nI N))]) (stk' := []) (mem' := fm g tp bt a_114 b) (by intro _ _ _; eq_refl) ?_
                    rw [show (fx_cb .ge (nI i114) (nI n)) = false from cb_geF (a := i114) (b := n) (by omega) (by omega) (by omega)]
                    dsimp only [cond]
                    refine fe_s 5 (pc' := 148) (lc' := [(9, .int (nI i114)), (7, .int x7_114), (8, .int (nI i103)), (6, .int (nI x6_103)), (5, .int x5_103), (4, .int (nI L)), (0, .ref 0), (1, .int (nI n)), (2, .int (nI t)), (3, .int (nI N))]) (stk' := [.int (nI i114), .ref 10, .ref 0, .int x7_114]) (mem' := fm g tp bt a_114 b) (by intro _ _ _; eq_refl) ?_
                    refine fe_ldI (by rfl) (by rfl) (fx_inN (i := i114) (by omega) (by omega)) ?_
                    rw [show Int32.toNatClampNeg (nI i114) = i114 from nI_clamp (by omega)]
                    obtain ⟨u115, hu115, eu115⟩ := fm_tu_at htu hn4 (i := i114) (by omega)
                    rw [show a_114 10 (i114) = nI u115 from by rw [hD_114.1 10 rfl, hK.1 10 (by decide)]; exact eu115]
                    obtain ⟨v116, z117, hv116⟩ := fq_isWet (V := u115) (g := g) (tp := tp) (bt := bt) (a := a_114) (b := b) (by omega)
                    refine fe_ivV hv116 (by omega) (by rfl) (by rfl) (by rfl) (by rfl) (by rfl) (by rfl) ?_
                    rcases z117 with rfl | rfl
                    · refine fe_s 1 (pc' := cond (fx_cb .ne 0 0) 159 155) (lc' := [(9, .int (nI i114)), (7, .int x7_114), (8, .int (nI i103)), (6, .int (nI x6_103)), (5, .int x5_103), (4, .int (nI L)), (0, .ref 0), (1, .int (nI n)), (2, .int (nI t)), (3, .int (nI N))]) (stk' := [.int x7_114]) (mem' := fm g tp bt a_114 b) (by intro _ _ _; eq_refl) ?_
                      rw [show (fx_cb .ne 0 0) = false from by decide]
                      dsimp only [cond]
                      refine fe_s 6 (pc' := 133) (lc' := [(9, .int ((nI i114) + 1)), (7, .int (x7_114 &&& 1)), (8, .int (nI i103)), (6, .int (nI x6_103)), (5, .int x5_103), (4, .int (nI L)), (0, .ref 0), (1, .int (nI n)), (2, .int (nI t)), (3, .int (nI N))]) (stk' := []) (mem' := fm g tp bt a_114 b) (by intro _ _ _; eq_refl) ?_
                      rw [show ((nI i114) + 1 : Int32) = nI (i114 + 1) from by simp only [show (1 : Int32) = nI 1 from rfl, nI_add, fm_mul]]
                      refine fe_w (lc' := [(9, .int (nI (i114 + 1))), (7, .int (x7_114 &&& 1)), (8, .int (nI i103)), (6, .int (nI x6_103)), (5, .int x5_103), (4, .int (nI L)), (0, .ref 0), (1, .int (nI n)), (2, .int (nI t)), (3, .int (nI N))]) ⟨rfl, rfl, rfl, rfl, rfl, rfl, rfl, rfl, rfl, rfl, trivial⟩ (by show List.Nodup [9, 7, 8, 6, 5, 4, 0, 1, 2, 3]; decide) (by show List.Nodup [9, 7, 8, 6, 5, 4, 0, 1, 2, 3]; decide) ?_
                      exact ih114 (i114 + 1) (by omega) _ a_114 hD_114
                    · refine fe_s 1 (pc' := cond (fx_cb .ne 1 0) 159 155) (lc' := [(9, .int (nI i114)), (7, .int x7_114), (8, .int (nI i103)), (6, .int (nI x6_103)), (5, .int x5_103), (4, .int (nI L)), (0, .ref 0), (1, .int (nI n)), (2, .int (nI t)), (3, .int (nI N))]) (stk' := [.int x7_114]) (mem' := fm g tp bt a_114 b) (by intro _ _ _; eq_refl) ?_
                      rw [show (fx_cb .ne 1 0) = true from by decide]
                      dsimp only [cond]
                      refine fe_s 5 (pc' := 133) (lc' := [(9, .int ((nI i114) + 1)), (7, .int (x7_114 &&& 0)), (8, .int (nI i103)), (6, .int (nI x6_103)), (5, .int x5_103), (4, .int (nI L)), (0, .ref 0), (1, .int (nI n)), (2, .int (nI t)), (3, .int (nI N))]) (stk' := []) (mem' := fm g tp bt a_114 b) (by intro _ _ _; eq_refl) ?_
                      rw [show ((nI i114) + 1 : Int32) = nI (i114 + 1) from by simp only [show (1 : Int32) = nI 1 from rfl, nI_add, fm_mul]]
                      refine fe_w (lc' := [(9, .int (nI (i114 + 1))), (7, .int (x7_114 &&& 0)), (8, .int (nI i103)), (6, .int (nI x6_103)), (5, .int x5_103), (4, .int (nI L)), (0, .ref 0), (1, .int (nI n)), (2, .int (nI t)), (3, .int (nI N))]) ⟨rfl, rfl, rfl, rfl, rfl, rfl, rfl, rfl, rfl, rfl, trivial⟩ (by show List.Nodup [9, 7, 8, 6, 5, 4, 0, 1, 2, 3]; decide) (by show List.Nodup [9, 7, 8, 6, 5, 4, 0, 1, 2, 3]; decide) ?_
                      exact ih114 (i114 + 1) (by omega) _ a_114 hD_114
                refine fe_w (lc' := [(9, .int (nI 0)), (7, .int 0), (8, .int (nI i103)), (6, .int (nI x6_103)), (5, .int x5_103), (4, .int (nI L)), (0, .ref 0), (1, .int (nI n)), (2, .int (nI t)), (3, .int (nI N))]) ⟨rfl, rfl, rfl, rfl, rfl, rfl, rfl, rfl, rfl, rfl, trivial⟩ (by show List.Nodup [9, 7, 8, 6, 5, 4, 0, 1, 2, 3]; decide) (by show List.Nodup [9, 7, 8, 6, 5, 4, 0, 1, 2, 3]; decide) ?_
                exact loop114 (n - 0) 0 (by omega) _ ad108 hDd108
            · rw [show (fx_cb .ge (nI x6_103) (nI n)) = false from cb_geF (a := x6_103) (b := n) (by omega) (by omega) (by omega)]
              dsimp only [cond]
              refine fe_s 2 (pc' := 75) (lc' := [(8, .int (nI i103)), (7, .int x7_103), (6, .int (nI x6_103)), (5, .int x5_103), (4, .int (nI L)), (0, .ref 0), (1, .int (nI n)), (2, .int (nI t)), (3, .int (nI N))]) (stk' := [.int x5_103, .int (nI i103)]) (mem' := fm g tp bt a_103 b) (by intro _ _ _; eq_refl) ?_
              refine fe_s 1 (pc' := cond (fx_cb .ne (nI i103) x5_103) 116 78) (lc' := [(8, .int (nI i103)), (7, .int x7_103), (6, .int (nI x6_103)), (5, .int x5_103), (4, .int (nI L)), (0, .ref 0), (1, .int (nI n)), (2, .int (nI t)), (3, .int (nI N))]) (stk' := []) (mem' := fm g tp bt a_103 b) (by intro _ _ _; eq_refl) ?_
              cases h118 : fx_cb .ne (nI i103) x5_103
              · refine fe_s 4 (pc' := 85) (lc' := [(8, .int (nI i103)), (7, .int x7_103), (6, .int (nI x6_103)), (5, .int x5_103), (4, .int (nI L)), (0, .ref 0), (1, .int (nI n)), (2, .int (nI t)), (3, .int (nI N))]) (stk' := [.int (nI x6_103), .ref 10, .ref 0]) (mem' := fm g tp bt a_103 b) (by intro _ _ _; eq_refl) ?_
                refine fe_ldI (by rfl) (by rfl) (fx_inN (i := x6_103) (by omega) (by omega)) ?_
                rw [show Int32.toNatClampNeg (nI x6_103) = x6_103 from nI_clamp (by omega)]
                obtain ⟨u119, hu119, eu119⟩ := fm_tu_at htu hn4 (i := x6_103) (by omega)
                rw [show a_103 10 (x6_103) = nI u119 from by rw [hD_103.1 10 rfl, hK.1 10 (by decide)]; exact eu119]
                refine fe_s 2 (pc' := 88) (lc' := [(8, .int (nI i103)), (7, .int x7_103), (6, .int (nI x6_103)), (5, .int x5_103), (4, .int (nI L)), (0, .ref 0), (1, .int (nI n)), (2, .int (nI t)), (3, .int (nI N))]) (stk' := [.int (nI N), .int (nI t), .int (nI u119), .ref 0]) (mem' := fm g tp bt a_103 b) (by intro _ _ _; eq_refl) ?_
                obtain ⟨vd120, memd120, ⟨ad120, hDd120, hRd120⟩, hfrd120⟩ := fr_sets (W := u119) (t := t) (n := N) (g := g) (tp := tp) (bt := bt) (a := a_103) (b := b) hB hD_103 (by omega) (by omega) (by omega) hc
                cases hRd120
                refine fe_ivV hfrd120 (by omega) (by rfl) (by rfl) (by rfl) (by rfl) (by rfl) (by rfl) ?_
                refine fe_s 4 (pc' := 99) (lc' := [(6, .int ((nI x6_103) + 1)), (8, .int (nI i103)), (7, .int x7_103), (5, .int x5_103), (4, .int (nI L)), (0, .ref 0), (1, .int (nI n)), (2, .int (nI t)), (3, .int (nI N))]) (stk' := [.int (nI n), .int ((nI x6_103) + 1), .int x5_103]) (mem' := fm g tp bt ad120 b) (by intro _ _ _; eq_refl) ?_
                rw [show ((nI x6_103) + 1 : Int32) = nI (x6_103 + 1) from by simp only [show (1 : Int32) = nI 1 from rfl, nI_add, fm_mul]]
                refine fe_s 1 (pc' := cond (fx_cb .ge (nI (x6_103 + 1)) (nI n)) 112 102) (lc' := [(6, .int (nI (x6_103 + 1))), (8, .int (nI i103)), (7, .int x7_103), (5, .int x5_103), (4, .int (nI L)), (0, .ref 0), (1, .int (nI n)), (2, .int (nI t)), (3, .int (nI N))]) (stk' := [.int x5_103]) (mem' := fm g tp bt ad120 b) (by intro _ _ _; eq_refl) ?_
                by_cases h121 : n ≤ (x6_103 + 1)
                · rw [show (fx_cb .ge (nI (x6_103 + 1)) (nI n)) = true from cb_geT (a := x6_103 + 1) (b := n) (by omega) (by omega) (by omega)]
                  dsimp only [cond]
                  refine fe_s 4 (pc' := 117) (lc' := [(5, .int (x5_103 + 0)), (6, .int (nI (x6_103 + 1))), (8, .int (nI i103)), (7, .int x7_103), (4, .int (nI L)), (0, .ref 0), (1, .int (nI n)), (2, .int (nI t)), (3, .int (nI N))]) (stk' := [.ref 0]) (mem' := fm g tp bt ad120 b) (by intro _ _ _; eq_refl) ?_
                  obtain ⟨vd122, memd122, ⟨xd122, ad122, hDd122, hRd122⟩, hfrd122⟩ := fr_goes (T := T_103) (g := g) (tp := tp) (bt := bt) (a := ad120) (b := b) hB hDd120 (by omega)
                  cases hRd122
                  refine fe_ivV hfrd122 (by omega) (by rfl) (by rfl) (by rfl) (by rfl) (by rfl) (by rfl) ?_
                  refine fe_s 1 (pc' := cond (fx_cb .ne xd122 0) 127 123) (lc' := [(5, .int (x5_103 + 0)), (6, .int (nI (x6_103 + 1))), (8, .int (nI i103)), (7, .int x7_103), (4, .int (nI L)), (0, .ref 0), (1, .int (nI n)), (2, .int (nI t)), (3, .int (nI N))]) (stk' := []) (mem' := fm g tp bt ad122 b) (by intro _ _ _; eq_refl) ?_
                  cases h123 : fx_cb .ne xd122 0
                  · refine fe_s 5 (pc' := 133) (lc' := [(9, .int 0), (7, .int 1), (5, .int (x5_103 + 0)), (6, .int (nI (x6_103 + 1))), (8, .int (nI i103)), (4, .int (nI L)), (0, .ref 0), (1, .int (nI n)), (2, .int (nI t)), (3, .int (nI N))]) (stk' := []) (mem' := fm g tp bt ad122 b) (by intro _ _ _; eq_refl) ?_
                    have loop124 : ∀ (r i124 : Nat), i124 + r = n → ∀ x7_124 : Int32, ∀ a_124 : Nat → Nat → Int32, fm_D a0 a_124 (T_103 + 1) → fe_R 8 gk_m329 133 [(9, .int (nI i124)), (7, .int x7_124), (5, .int (x5_103 + 0)), (6, .int (nI (x6_103 + 1))), (8, .int (nI i103)), (4, .int (nI L)), (0, .ref 0), (1, .int (nI n)), (2, .int (nI t)), (3, .int (nI N))] [] (fm g tp bt a_124 b) (fun R => ∃ (v : Int32) (a' : Nat → Nat → Int32), fm_B a' ∧ (∀ t, fm_okt t = false → a' t = a t) ∧ (∀ i, fm_st i = true → a' 1 i = a 1 i) ∧ R = (some (.int v), fm g tp bt a' b)) := by
                      intro r
                      induction r with
                      | zero =>
                        intro i124 hi124 x7_124 a_124 hD_124
                        obtain rfl : n = i124 := by omega
                        refine fe_s 2 (pc' := 136) (lc' := [(9, .int (nI n)), (7, .int x7_124), (5, .int (x5_103 + 0)), (6, .int (nI (x6_103 + 1))), (8, .int (nI i103)), (4, .int (nI L)), (0, .ref 0), (1, .int (nI n)), (2, .int (nI t)), (3, .int (nI N))]) (stk' := [.int (nI n), .int (nI n)]) (mem' := fm g tp bt a_124 b) (by intro _ _ _; eq_refl) ?_
                        refine fe_s 1 (pc' := cond (fx_cb .ge (nI n) (nI n)) 169 139) (lc' := [(9, .int (nI n)), (7, .int x7_124), (5, .int (x5_103 + 0)), (6, .int (nI (x6_103 + 1))), (8, .int (nI i103)), (4, .int (nI L)), (0, .ref 0), (1, .int (nI n)), (2, .int (nI t)), (3, .int (nI N))]) (stk' := []) (mem' := fm g tp bt a_124 b) (by intro _ _ _; eq_refl) ?_
                        rw [show (fx_cb .ge (nI n) (nI n)) = true from cb_geT (a := n) (b := n) (by omega) (by omega) (by omega)]
                        dsimp only [cond]
                        refine fe_s 1 (pc' := 172) (lc' := [(8, .int ((nI i103) + 1)), (9, .int (nI n)), (7, .int x7_124), (5, .int (x5_103 + 0)), (6, .int (nI (x6_103 + 1))), (4, .int (nI L)), (0, .ref 0), (1, .int (nI n)), (2, .int (nI t)), (3, .int (nI N))]) (stk' := []) (mem' := fm g tp bt a_124 b) (by intro _ _ _; eq_refl) ?_
                        rw [show ((nI i103) + 1 : Int32) = nI (i103 + 1) from by simp only [show (1 : Int32) = nI 1 from rfl, nI_add, fm_mul]]
                        refine fe_s 1 (pc' := fx_to 172 (-119)) (lc' := [(8, .int (nI (i103 + 1))), (9, .int (nI n)), (7, .int x7_124), (5, .int (x5_103 + 0)), (6, .int (nI (x6_103 + 1))), (4, .int (nI L)), (0, .ref 0), (1, .int (nI n)), (2, .int (nI t)), (3, .int (nI N))]) (stk' := []) (mem' := fm g tp bt a_124 b) (by intro _ _ _; eq_refl) ?_
                        rw [show fx_to 172 (-119) = 53 from by decide]
                        refine fe_w (lc' := [(8, .int (nI (i103 + 1))), (7, .int x7_124), (6, .int (nI (x6_103 + 1))), (5, .int (x5_103 + 0)), (4, .int (nI L)), (0, .ref 0), (1, .int (nI n)), (2, .int (nI t)), (3, .int (nI N))]) ⟨rfl, rfl, rfl, rfl, rfl, rfl, rfl, rfl, rfl, trivial⟩ (by show List.Nodup [8, 7, 6, 5, 4, 0, 1, 2, 3]; decide) (by show List.Nodup [8, 9, 7, 5, 6, 4, 0, 1, 2, 3]; decide) ?_
                        exact ih103 (i103 + 1) (by omega) _ _ _ (by omega) (T_103 + 1) (by omega) a_124 hD_124
                      | succ r ih124 =>
                        intro i124 hi124 x7_124 a_124 hD_124
                        have hl124 : i124 < n := by omega
                        refine fe_s 2 (pc' := 136) (lc' := [(9, .int (nI i124)), (7, .int x7_124), (5, .int (x5_103 + 0)), (6, .int (nI (x6_103 + 1))), (8, .int (nI i103)), (4, .int (nI L)), (0, .ref 0), (1, .int (nI n)), (2, .int (nI t)), (3, .int (nI N))]) (stk' := [.int (nI n), .int (nI i124)]) (mem' := fm g tp bt a_124 b) (by intro _ _ _; eq_refl) ?_
                        refine fe_s 1 (pc' := cond (fx_cb .ge (nI i124) (nI n)) 169 139) (lc' := [(9, .int (nI i124)), (7, .int x7_124), (5, .int (x5_103 + 0)), (6, .int (nI (x6_103 + 1))), (8, .int (nI i103)), (4, .int (nI L)), (0, .ref 0), (1, .int (nI n)), (2, .int (nI t)), (3, .int (nI N))]) (stk' := []) (mem' := fm g tp bt a_124 b) (by intro _ _ _; eq_refl) ?_
                        rw [show (fx_cb .ge (nI i124) (nI n)) = false from cb_geF (a := i124) (b := n) (by omega) (by omega) (by omega)]
                        dsimp only [cond]
                        refine fe_s 5 (pc' := 148) (lc' := [(9, .int (nI i124)), (7, .int x7_124), (5, .int (x5_103 + 0)), (6, .int (nI (x6_103 + 1))), (8, .int (nI i103)), (4, .int (nI L)), (0, .ref 0), (1, .int (nI n)), (2, .int (nI t)), (3, .int (nI N))]) (stk' := [.int (nI i124), .ref 10, .ref 0, .int x7_124]) (mem' := fm g tp bt a_124 b) (by intro _ _ _; eq_refl) ?_
                        refine fe_ldI (by rfl) (by rfl) (fx_inN (i := i124) (by omega) (by omega)) ?_
                        rw [show Int32.toNatClampNeg (nI i124) = i124 from nI_clamp (by omega)]
                        obtain ⟨u125, hu125, eu125⟩ := fm_tu_at htu hn4 (i := i124) (by omega)
                        rw [show a_124 10 (i124) = nI u125 from by rw [hD_124.1 10 rfl, hK.1 10 (by decide)]; exact eu125]
                        obtain ⟨v126, z127, hv126⟩ := fq_isWet (V := u125) (g := g) (tp := tp) (bt := bt) (a := a_124) (b := b) (by omega)
                        refine fe_ivV hv126 (by omega) (by rfl) (by rfl) (by rfl) (by rfl) (by rfl) (by rfl) ?_
                        rcases z127 with rfl | rfl
                        · refine fe_s 1 (pc' := cond (fx_cb .ne 0 0) 159 155) (lc' := [(9, .int (nI i124)), (7, .int x7_124), (5, .int (x5_103 + 0)), (6, .int (nI (x6_103 + 1))), (8, .int (nI i103)), (4, .int (nI L)), (0, .ref 0), (1, .int (nI n)), (2, .int (nI t)), (3, .int (nI N))]) (stk' := [.int x7_124]) (mem' := fm g tp bt a_124 b) (by intro _ _ _; eq_refl) ?_
                          rw [show (fx_cb .ne 0 0) = false from by decide]
                          dsimp only [cond]
                          refine fe_s 6 (pc' := 133) (lc' := [(9, .int ((nI i124) + 1)), (7, .int (x7_124 &&& 1)), (5, .int (x5_103 + 0)), (6, .int (nI (x6_103 + 1))), (8, .int (nI i103)), (4, .int (nI L)), (0, .ref 0), (1, .int (nI n)), (2, .int (nI t)), (3, .int (nI N))]) (stk' := []) (mem' := fm g tp bt a_124 b) (by intro _ _ _; eq_refl) ?_
                          rw [show ((nI i124) + 1 : Int32) = nI (i124 + 1) from by simp only [show (1 : Int32) = nI 1 from rfl, nI_add, fm_mul]]
                          refine fe_w (lc' := [(9, .int (nI (i124 + 1))), (7, .int (x7_124 &&& 1)), (5, .int (x5_103 + 0)), (6, .int (nI (x6_103 + 1))), (8, .int (nI i103)), (4, .int (nI L)), (0, .ref 0), (1, .int (nI n)), (2, .int (nI t)), (3, .int (nI N))]) ⟨rfl, rfl, rfl, rfl, rfl, rfl, rfl, rfl, rfl, rfl, trivial⟩ (by show List.Nodup [9, 7, 5, 6, 8, 4, 0, 1, 2, 3]; decide) (by show List.Nodup [9, 7, 5, 6, 8, 4, 0, 1, 2, 3]; decide) ?_
                          exact ih124 (i124 + 1) (by omega) _ a_124 hD_124
                        · refine fe_s 1 (pc' := cond (fx_cb .ne 1 0) 159 155) (lc' := [(9, .int (nI i124)), (7, .int x7_124), (5, .int (x5_103 + 0)), (6, .int (nI (x6_103 + 1))), (8, .int (nI i103)), (4, .int (nI L)), (0, .ref 0), (1, .int (nI n)), (2, .int (nI t)), (3, .int (nI N))]) (stk' := [.int x7_124]) (mem' := fm g tp bt a_124 b) (by intro _ _ _; eq_refl) ?_
                          rw [show (fx_cb .ne 1 0) = true from by decide]
                          dsimp only [cond]
                          refine fe_s 5 (pc' := 133) (lc' := [(9, .int ((nI i124) + 1)), (7, .int (x7_124 &&& 0)), (5, .int (x5_103 + 0)), (6, .int (nI (x6_103 + 1))), (8, .int (nI i103)), (4, .int (nI L)), (0, .ref 0), (1, .int (nI n)), (2, .int (nI t)), (3, .int (nI N))]) (stk' := []) (mem' := fm g tp bt a_124 b) (by intro _ _ _; eq_refl) ?_
                          rw [show ((nI i124) + 1 : Int32) = nI (i124 + 1) from by simp only [show (1 : Int32) = nI 1 from rfl, nI_add, fm_mul]]
                          refine fe_w (lc' := [(9, .int (nI (i124 + 1))), (7, .int (x7_124 &&& 0)), (5, .int (x5_103 + 0)), (6, .int (nI (x6_103 + 1))), (8, .int (nI i103)), (4, .int (nI L)), (0, .ref 0), (1, .int (nI n)), (2, .int (nI t)), (3, .int (nI N))]) ⟨rfl, rfl, rfl, rfl, rfl, rfl, rfl, rfl, rfl, rfl, trivial⟩ (by show List.Nodup [9, 7, 5, 6, 8, 4, 0, 1, 2, 3]; decide) (by show List.Nodup [9, 7, 5, 6, 8, 4, 0, 1, 2, 3]; decide) ?_
                          exact ih124 (i124 + 1) (by omega) _ a_124 hD_124
                    refine fe_w (lc' := [(9, .int (nI 0)), (7, .int 1), (5, .int (x5_103 + 0)), (6, .int (nI (x6_103 + 1))), (8, .int (nI i103)), (4, .int (nI L)), (0, .ref 0), (1, .int (nI n)), (2, .int (nI t)), (3, .int (nI N))]) ⟨rfl, rfl, rfl, rfl, rfl, rfl, rfl, rfl, rfl, rfl, trivial⟩ (by show List.Nodup [9, 7, 5, 6, 8, 4, 0, 1, 2, 3]; decide) (by show List.Nodup [9, 7, 5, 6, 8, 4, 0, 1, 2, 3]; decide) ?_
                    exact loop124 (n - 0) 0 (by omega) _ ad122 hDd122
                  · refine fe_s 4 (pc' := 133) (lc' := [(9, .int 0), (7, .int 0), (5, .int (x5_103 + 0)), (6, .int (nI (x6_103 + 1))), (8, .int (nI i103)), (4, .int (nI L)), (0, .ref 0), (1, .int (nI n)), (2, .int (nI t)), (3, .int (nI N))]) (stk' := []) (mem' := fm g tp bt ad122 b) (by intro _ _ _; eq_refl) ?_
                    have loop128 : ∀ (r i128 : Nat), i128 + r = n → ∀ x7_128 : Int32, ∀ a_128 : Nat → Nat → Int32, fm_D a0 a_128 (T_103 + 1) → fe_R 8 gk_m329 133 [(9, .int (nI i128)), (7, .int x7_128), (5, .int (x5_103 + 0)), (6, .int (nI (x6_103 + 1))), (8, .int (nI i103)), (4, .int (nI L)), (0, .ref 0), (1, .int (nI n)), (2, .int (nI t)), (3, .int (nI N))] [] (fm g tp bt a_128 b) (fun R => ∃ (v : Int32) (a' : Nat → Nat → Int32), fm_B a' ∧ (∀ t, fm_okt t = false → a' t = a t) ∧ (∀ i, fm_st i = true → a' 1 i = a 1 i) ∧ R = (some (.int v), fm g tp bt a' b)) := by
                      intro r
                      induction r with
                      | zero =>
                        intro i128 hi128 x7_128 a_128 hD_128
                        obtain rfl : n = i128 := by omega
                        refine fe_s 2 (pc' := 136) (lc' := [(9, .int (nI n)), (7, .int x7_128), (5, .int (x5_103 + 0)), (6, .int (nI (x6_103 + 1))), (8, .int (nI i103)), (4, .int (nI L)), (0, .ref 0), (1, .int (nI n)), (2, .int (nI t)), (3, .int (nI N))]) (stk' := [.int (nI n), .int (nI n)]) (mem' := fm g tp bt a_128 b) (by intro _ _ _; eq_refl) ?_
                        refine fe_s 1 (pc' := cond (fx_cb .ge (nI n) (nI n)) 169 139) (lc' := [(9, .int (nI n)), (7, .int x7_128), (5, .int (x5_103 + 0)), (6, .int (nI (x6_103 + 1))), (8, .int (nI i103)), (4, .int (nI L)), (0, .ref 0), (1, .int (nI n)), (2, .int (nI t)), (3, .int (nI N))]) (stk' := []) (mem' := fm g tp bt a_128 b) (by intro _ _ _; eq_refl) ?_
                        rw [show (fx_cb .ge (nI n) (nI n)) = true from cb_geT (a := n) (b := n) (by omega) (by omega) (by omega)]
                        dsimp only [cond]
                        refine fe_s 1 (pc' := 172) (lc' := [(8, .int ((nI i103) + 1)), (9, .int (nI n)), (7, .int x7_128), (5, .int (x5_103 + 0)), (6, .int (nI (x6_103 + 1))), (4, .int (nI L)), (0, .ref 0), (1, .int (nI n)), (2, .int (nI t)), (3, .int (nI N))]) (stk' := []) (mem' := fm g tp bt a_128 b) (by intro _ _ _; eq_refl) ?_
                        rw [show ((nI i103) + 1 : Int32) = nI (i103 + 1) from by simp only [show (1 : Int32) = nI 1 from rfl, nI_add, fm_mul]]
                        refine fe_s 1 (pc' := fx_to 172 (-119)) (lc' := [(8, .int (nI (i103 + 1))), (9, .int (nI n)), (7, .int x7_128), (5, .int (x5_103 + 0)), (6, .int (nI (x6_103 + 1))), (4, .int (nI L)), (0, .ref 0), (1, .int (nI n)), (2, .int (nI t)), (3, .int (nI N))]) (stk' := []) (mem' := fm g tp bt a_128 b) (by intro _ _ _; eq_refl) ?_
                        rw [show fx_to 172 (-119) = 53 from by decide]
                        refine fe_w (lc' := [(8, .int (nI (i103 + 1))), (7, .int x7_128), (6, .int (nI (x6_103 + 1))), (5, .int (x5_103 + 0)), (4, .int (nI L)), (0, .ref 0), (1, .int (nI n)), (2, .int (nI t)), (3, .int (nI N))]) ⟨rfl, rfl, rfl, rfl, rfl, rfl, rfl, rfl, rfl, trivial⟩ (by show List.Nodup [8, 7, 6, 5, 4, 0, 1, 2, 3]; decide) (by show List.Nodup [8, 9, 7, 5, 6, 4, 0, 1, 2, 3]; decide) ?_
                        exact ih103 (i103 + 1) (by omega) _ _ _ (by omega) (T_103 + 1) (by omega) a_128 hD_128
                      | succ r ih128 =>
                        intro i128 hi128 x7_128 a_128 hD_128
                        have hl128 : i128 < n := by omega
                        refine fe_s 2 (pc' := 136) (lc' := [(9, .int (nI i128)), (7, .int x7_128), (5, .int (x5_103 + 0)), (6, .int (nI (x6_103 + 1))), (8, .int (nI i103)), (4, .int (nI L)), (0, .ref 0), (1, .int (nI n)), (2, .int (nI t)), (3, .int (nI N))]) (stk' := [.int (nI n), .int (nI i128)]) (mem' := fm g tp bt a_128 b) (by intro _ _ _; eq_refl) ?_
                        refine fe_s 1 (pc' := cond (fx_cb .ge (nI i128) (nI n)) 169 139) (lc' := [(9, .int (nI i128)), (7, .int x7_128), (5, .int (x5_103 + 0)), (6, .int (nI (x6_103 + 1))), (8, .int (nI i103)), (4, .int (nI L)), (0, .ref 0), (1, .int (nI n)), (2, .int (nI t)), (3, .int (nI N))]) (stk' := []) (mem' := fm g tp bt a_128 b) (by intro _ _ _; eq_refl) ?_
                        rw [show (fx_cb .ge (nI i128) (nI n)) = false from cb_geF (a := i128) (b := n) (by omega) (by omega) (by omega)]
                        dsimp only [cond]
                        refine fe_s 5 (pc' := 148) (lc' := [(9, .int (nI i128)), (7, .int x7_128), (5, .int (x5_103 + 0)), (6, .int (nI (x6_103 + 1))), (8, .int (nI i103)), (4, .int (nI L)), (0, .ref 0), (1, .int (nI n)), (2, .int (nI t)), (3, .int (nI N))]) (stk' := [.int (nI i128), .ref 10, .ref 0, .int x7_128]) (mem' := fm g tp bt a_128 b) (by intro _ _ _; eq_refl) ?_
                        refine fe_ldI (by rfl) (by rfl) (fx_inN (i := i128) (by omega) (by omega)) ?_
                        rw [show Int32.toNatClampNeg (nI i128) = i128 from nI_clamp (by omega)]
                        obtain ⟨u129, hu129, eu129⟩ := fm_tu_at htu hn4 (i := i128) (by omega)
                        rw [show a_128 10 (i128) = nI u129 from by rw [hD_128.1 10 rfl, hK.1 10 (by decide)]; exact eu129]
                        obtain ⟨v130, z131, hv130⟩ := fq_isWet (V := u129) (g := g) (tp := tp) (bt := bt) (a := a_128) (b := b) (by omega)
                        refine fe_ivV hv130 (by omega) (by rfl) (by rfl) (by rfl) (by rfl) (by rfl) (by rfl) ?_
                        rcases z131 with rfl | rfl
                        · refine fe_s 1 (pc' := cond (fx_cb .ne 0 0) 159 155) (lc' := [(9, .int (nI i128)), (7, .int x7_128), (5, .int (x5_103 + 0)), (6, .int (nI (x6_103 + 1))), (8, .int (nI i103)), (4, .int (nI L)), (0, .ref 0), (1, .int (nI n)), (2, .int (nI t)), (3, .int (nI N))]) (stk' := [.int x7_128]) (mem' := fm g tp bt a_128 b) (by intro _ _ _; eq_refl) ?_
                          rw [show (fx_cb .ne 0 0) = false from by decide]
                          dsimp only [cond]
                          refine fe_s 6 (pc' := 133) (lc' := [(9, .int ((nI i128) + 1)), (7, .int (x7_128 &&& 1)), (5, .int (x5_103 + 0)), (6, .int (nI (x6_103 + 1))), (8, .int (nI i103)), (4, .int (nI L)), (0, .ref 0), (1, .int (nI n)), (2, .int (nI t)), (3, .int (nI N))]) (stk' := []) (mem' := fm g tp bt a_128 b) (by intro _ _ _; eq_refl) ?_
                          rw [show ((nI i128) + 1 : Int32) = nI (i128 + 1) from by simp only [show (1 : Int32) = nI 1 from rfl, nI_add, fm_mul]]
                          refine fe_w (lc' := [(9, .int (nI (i128 + 1))), (7, .int (x7_128 &&& 1)), (5, .int (x5_103 + 0)), (6, .int (nI (x6_103 + 1))), (8, .int (nI i103)), (4, .int (nI L)), (0, .ref 0), (1, .int (nI n)), (2, .int (nI t)), (3, .int (nI N))]) ⟨rfl, rfl, rfl, rfl, rfl, rfl, rfl, rfl, rfl, rfl, trivial⟩ (by show List.Nodup [9, 7, 5, 6, 8, 4, 0, 1, 2, 3]; decide) (by show List.Nodup [9, 7, 5, 6, 8, 4, 0, 1, 2, 3]; decide) ?_
                          exact ih128 (i128 + 1) (by omega) _ a_128 hD_128
                        · refine fe_s 1 (pc' := cond (fx_cb .ne 1 0) 159 155) (lc' := [(9, .int (nI i128)), (7, .int x7_128), (5, .int (x5_103 + 0)), (6, .int (nI (x6_103 + 1))), (8, .int (nI i103)), (4, .int (nI L)), (0, .ref 0), (1, .int (nI n)), (2, .int (nI t)), (3, .int (nI N))]) (stk' := [.int x7_128]) (mem' := fm g tp bt a_128 b) (by intro _ _ _; eq_refl) ?_
                          rw [show (fx_cb .ne 1 0) = true from by decide]
                          dsimp only [cond]
                          refine fe_s 5 (pc' := 133) (lc' := [(9, .int ((nI i128) + 1)), (7, .int (x7_128 &&& 0)), (5, .int (x5_103 + 0)), (6, .int (nI (x6_103 + 1))), (8, .int (nI i103)), (4, .int (nI L)), (0, .ref 0), (1, .int (nI n)), (2, .int (nI t)), (3, .int (nI N))]) (stk' := []) (mem' := fm g tp bt a_128 b) (by intro _ _ _; eq_refl) ?_
                          rw [show ((nI i128) + 1 : Int32) = nI (i128 + 1) from by simp only [show (1 : Int32) = nI 1 from rfl, nI_add, fm_mul]]
                          refine fe_w (lc' := [(9, .int (nI (i128 + 1))), (7, .int (x7_128 &&& 0)), (5, .int (x5_103 + 0)), (6, .int (nI (x6_103 + 1))), (8, .int (nI i103)), (4, .int (nI L)), (0, .ref 0), (1, .int (nI n)), (2, .int (nI t)), (3, .int (nI N))]) ⟨rfl, rfl, rfl, rfl, rfl, rfl, rfl, rfl, rfl, rfl, trivial⟩ (by show List.Nodup [9, 7, 5, 6, 8, 4, 0, 1, 2, 3]; decide) (by show List.Nodup [9, 7, 5, 6, 8, 4, 0, 1, 2, 3]; decide) ?_
                          exact ih128 (i128 + 1) (by omega) _ a_128 hD_128
                    refine fe_w (lc' := [(9, .int (nI 0)), (7, .int 0), (5, .int (x5_103 + 0)), (6, .int (nI (x6_103 + 1))), (8, .int (nI i103)), (4, .int (nI L)), (0, .ref 0), (1, .int (nI n)), (2, .int (nI t)), (3, .int (nI N))]) ⟨rfl, rfl, rfl, rfl, rfl, rfl, rfl, rfl, rfl, rfl, trivial⟩ (by show List.Nodup [9, 7, 5, 6, 8, 4, 0, 1, 2, 3]; decide) (by show List.Nodup [9, 7, 5, 6, 8, 4, 0, 1, 2, 3]; decide) ?_
                    exact loop128 (n - 0) 0 (by omega) _ ad122 hDd122
                · rw [show (fx_cb .ge (nI (x6_103 + 1)) (nI n)) = false from cb_geF (a := x6_103 + 1) (b := n) (by omega) (by omega) (by omega)]
                  dsimp only [cond]
                  refine fe_s 3 (pc' := 108) (lc' := [(6, .int (nI (x6_103 + 1))), (8, .int (nI i103)), (7, .int x7_103), (5, .int x5_103), (4, .int (nI L)), (0, .ref 0), (1, .int (nI n)), (2, .int (nI t)), (3, .int (nI N))]) (stk' := [.int (nI (x6_103 + 1)), .ref 11, .int x5_103]) (mem' := fm g tp bt ad120 b) (by intro _ _ _; eq_refl) ?_
                  refine fe_ldI (by rfl) (by rfl) (fx_inN (i := x6_103 + 1) (by omega) (by omega)) ?_
                  rw [show Int32.toNatClampNeg (nI (x6_103 + 1)) = x6_103 + 1 from nI_clamp (by omega)]
                  obtain ⟨u132, hu132, eu132⟩ := fm_ga_at hga hn4 (i := x6_103 + 1) (by omega)
                  rw [show ad120 11 (x6_103 + 1) = nI u132 from by rw [hDd120.1 11 rfl, hK.1 11 (by decide)]; exact eu132]
                  refine fe_s 4 (pc' := 117) (lc' := [(5, .int (x5_103 + (nI u132))), (6, .int (nI (x6_103 + 1))), (8, .int (nI i103)), (7, .int x7_103), (4, .int (nI L)), (0, .ref 0), (1, .int (nI n)), (2, .int (nI t)), (3, .int (nI N))]) (stk' := [.ref 0]) (mem' := fm g tp bt ad120 b) (by intro _ _ _; eq_refl) ?_
                  obtain ⟨vd133, memd133, ⟨xd133, ad133, hDd133, hRd133⟩, hfrd133⟩ := fr_goes (T := T_103) (g := g) (tp := tp) (bt := bt) (a := ad120) (b := b) hB hDd120 (by omega)
                  cases hRd133
                  refine fe_ivV hfrd133 (by omega) (by rfl) (by rfl) (by rfl) (by rfl) (by rfl) (by rfl) ?_
                  refine fe_s 1 (pc' := cond (fx_cb .ne xd133 0) 127 123) (lc' := [(5, .int (x5_103 + (nI u132))), (6, .int (nI (x6_103 + 1))), (8, .int (nI i103)), (7, .int x7_103), (4, .int (nI L)), (0, .ref 0), (1, .int (nI n)), (2, .int (nI t)), (3, .int (nI N))]) (stk' := []) (mem' := fm g tp bt ad133 b) (by intro _ _ _; eq_refl) ?_
                  cases h134 : fx_cb .ne xd133 0
                  · refine fe_s 5 (pc' := 133) (lc' := [(9, .int 0), (7, .int 1), (5, .int (x5_103 + (nI u132))), (6, .int (nI (x6_103 + 1))), (8, .int (nI i103)), (4, .int (nI L)), (0, .ref 0), (1, .int (nI n)), (2, .int (nI t)), (3, .int (nI N))]) (stk' := []) (mem' := fm g tp bt ad133 b) (by intro _ _ _; eq_refl) ?_
                    have loop135 : ∀ (r i135 : Nat), i135 + r = n → ∀ x7_135 : Int32, ∀ a_135 : Nat → Nat → Int32, fm_D a0 a_135 (T_103 + 1) → fe_R 8 gk_m329 133 [(9, .int (nI i135)), (7, .int x7_135), (5, .int (x5_103 + (nI u132))), (6, .int (nI (x6_103 + 1))), (8, .int (nI i103)), (4, .int (nI L)), (0, .ref 0), (1, .int (nI n)), (2, .int (nI t)), (3, .int (nI N))] [] (fm g tp bt a_135 b) (fun R => ∃ (v : Int32) (a' : Nat → Nat → Int32), fm_B a' ∧ (∀ t, fm_okt t = false → a' t = a t) ∧ (∀ i, fm_st i = true → a' 1 i = a 1 i) ∧ R = (some (.int v), fm g tp bt a' b)) := by
                      intro r
                      induction r with
                      | zero =>
                        intro i135 hi135 x7_135 a_135 hD_135
                        obtain rfl : n = i135 := by omega
                        refine fe_s 2 (pc' := 136) (lc' := [(9, .int (nI n)), (7, .int x7_135), (5, .int (x5_103 + (nI u132))), (6, .int (nI (x6_103 + 1))), (8, .int (nI i103)), (4, .int (nI L)), (0, .ref 0), (1, .int (nI n)), (2, .int (nI t)), (3, .int (nI N))]) (stk' := [.int (nI n), .int (nI n)]) (mem' := fm g tp bt a_135 b) (by intro _ _ _; eq_refl) ?_
                        refine fe_s 1 (pc' := cond (fx_cb .ge (nI n) (nI n)) 169 139) (lc' := [(9, .int (nI n)), (7, .int x7_135), (5, .int (x5_103 + (nI u132))), (6, .int (nI (x6_103 + 1))), (8, .int (nI i103)), (4, .int (nI L)), (0, .ref 0), (1, .int (nI n)), (2, .int (nI t)), (3, .int (nI N))]) (stk' := []) (mem' := fm g tp bt a_135 b) (by intro _ _ _; eq_refl) ?_
                        rw [show (fx_cb .ge (nI n) (nI n)) = true from cb_geT (a := n) (b := n) (by omega) (by omega) (by omega)]
                        dsimp only [cond]
                        refine fe_s 1 (pc' := 172) (lc' := [(8, .int ((nI i103) + 1)), (9, .int (nI n)), (7, .int x7_135), (5, .int (x5_103 + (nI u132))), (6, .int (nI (x6_103 + 1))), (4, .int (nI L)), (0, .ref 0), (1, .int (nI n)), (2, .int (nI t)), (3, .int (nI N))]) (stk' := []) (mem' := fm g tp bt a_135 b) (by intro _ _ _; eq_refl) ?_
                        rw [show ((nI i103) + 1 : Int32) = nI (i103 + 1) from by simp only [show (1 : Int32) = nI 1 from rfl, nI_add, fm_mul]]
                        refine fe_s 1 (pc' := fx_to 172 (-119)) (lc' := [(8, .int (nI (i103 + 1))), (9, .int (nI n)), (7, .int x7_135), (5, .int (x5_103 + (nI u132))), (6, .int (nI (x6_103 + 1))), (4, .int (nI L)), (0, .ref 0), (1, .int (nI n)), (2, .int (nI t)), (3, .int (nI N))]) (stk' := []) (mem' := fm g tp bt a_135 b) (by intro _ _ _; eq_refl) ?_
                        rw [show fx_to 172 (-119) = 53 from by decide]
                        refine fe_w (lc' := [(8, .int (nI (i103 + 1))), (7, .int x7_135), (6, .int (nI (x6_103 + 1))), (5, .int (x5_103 + (nI u132))), (4, .int (nI L)), (0, .ref 0), (1, .int (nI n)), (2, .int (nI t)), (3, .int (nI N))]) ⟨rfl, rfl, rfl, rfl, rfl, rfl, rfl, rfl, rfl, trivial⟩ (by show List.Nodup [8, 7, 6, 5, 4, 0, 1, 2, 3]; decide) (by show List.Nodup [8, 9, 7, 5, 6, 4, 0, 1, 2, 3]; decide) ?_
                        exact ih103 (i103 + 1) (by omega) _ _ _ (by omega) (T_103 + 1) (by omega) a_135 hD_135
                      | succ r ih135 =>
                        intro i135 hi135 x7_135 a_135 hD_135
                        have hl135 : i135 < n := by omega
                        refine fe_s 2 (pc' := 136) (lc' := [(9, .int (nI i135)), (7, .int x7_135), (5, .int (x5_103 + (nI u132))), (6, .int (nI (x6_103 + 1))), (8, .int (nI i103)), (4, .int (nI L)), (0, .ref 0), (1, .int (nI n)), (2, .int (nI t)), (3, .int (nI N))]) (stk' := [.int (nI n), .int (nI i135)]) (mem' := fm g tp bt a_135 b) (by intro _ _ _; eq_refl) ?_
                        refine fe_s 1 (pc' := cond (fx_cb .ge (nI i135) (nI n)) 169 139) (lc' := [(9, .int (nI i135)), (7, .int x7_135), (5, .int (x5_103 + (nI u132))), (6, .int (nI (x6_103 + 1))), (8, .int (nI i103)), (4, .int (nI L)), (0, .ref 0), (1, .int (nI n)), (2, .int (nI t)), (3, .int (nI N))]) (stk' := []) (mem' := fm g tp bt a_135 b) (by intro _ _ _; eq_refl) ?_
                        rw [show (fx_cb .ge (nI i135) (nI n)) = false from cb_geF (a := i135) (b := n) (by omega) (by omega) (by omega)]
                        dsimp only [cond]
                        refine fe_s 5 (pc' := 148) (lc' := [(9, .int (nI i135)), (7, .int x7_135), (5, .int (x5_103 + (nI u132))), (6, .int (nI (x6_103 + 1))), (8, .int (nI i103)), (4, .int (nI L)), (0, .ref 0), (1, .int (nI n)), (2, .int (nI t)), (3, .int (nI N))]) (stk' := [.int (nI i135), .ref 10, .ref 0, .int x7_135]) (mem' := fm g tp bt a_135 b) (by intro _ _ _; eq_refl) ?_
                        refine fe_ldI (by rfl) (by rfl) (fx_inN (i := i135) (by omega) (by omega)) ?_
                        rw [show Int32.toNatClampNeg (nI i135) = i135 from nI_clamp (by omega)]
                        obtain ⟨u136, hu136, eu136⟩ := fm_tu_at htu hn4 (i := i135) (by omega)
                        rw [show a_135 10 (i135) = nI u136 from by rw [hD_135.1 10 rfl, hK.1 10 (by decide)]; exact eu136]
                        obtain ⟨v137, z138, hv137⟩ := fq_isWet (V := u136) (g := g) (tp := tp) (bt := bt) (a := a_135) (b := b) (by omega)
                        refine fe_ivV hv137 (by omega) (by rfl) (by rfl) (by rfl) (by rfl) (by rfl) (by rfl) ?_
                        rcases z138 with rfl | rfl
                        · refine fe_s 1 (pc' := cond (fx_cb .ne 0 0) 159 155) (lc' := [(9, .int (nI i135)), (7, .int x7_135), (5, .int (x5_103 + (nI u132))), (6, .int (nI (x6_103 + 1))), (8, .int (nI i103)), (4, .int (nI L)), (0, .ref 0), (1, .int (nI n)), (2, .int (nI t)), (3, .int (nI N))]) (stk' := [.int x7_135]) (mem' := fm g tp bt a_135 b) (by intro _ _ _; eq_refl) ?_
                          rw [show (fx_cb .ne 0 0) = false from by decide]
                          dsimp only [cond]
                          refine fe_s 6 (pc' := 133) (lc' := [(9, .int ((nI i135) + 1)), (7, .int (x7_135 &&& 1)), (5, .int (x5_103 + (nI u132))), (6, .int (nI (x6_103 + 1))), (8, .int (nI i103)), (4, .int (nI L)), (0, .ref 0), (1, .int (nI n)), (2, .int (nI t)), (3, .int (nI N))]) (stk' := []) (mem' := fm g tp bt a_135 b) (by intro _ _ _; eq_refl) ?_
                          rw [show ((nI i135) + 1 : Int32) = nI (i135 + 1) from by simp only [show (1 : Int32) = nI 1 from rfl, nI_add, fm_mul]]
                          refine fe_w (lc' := [(9, .int (nI (i135 + 1))), (7, .int (x7_135 &&& 1)), (5, .int (x5_103 + (nI u132))), (6, .int (nI (x6_103 + 1))), (8, .int (nI i103)), (4, .int (nI L)), (0, .ref 0), (1, .int (nI n)), (2, .int (nI t)), (3, .int (nI N))]) ⟨rfl, rfl, rfl, rfl, rfl, rfl, rfl, rfl, rfl, rfl, trivial⟩ (by show List.Nodup [9, 7, 5, 6, 8, 4, 0, 1, 2, 3]; decide) (by show List.Nodup [9, 7, 5, 6, 8, 4, 0, 1, 2, 3]; decide) ?_
                          exact ih135 (i135 + 1) (by omega) _ a_135 hD_135
                        · refine fe_s 1 (pc' := cond (fx_cb .ne 1 0) 159 155) (lc' := [(9, .int (nI i135)), (7, .int x7_135), (5, .int (x5_103 + (nI u132))), (6, .int (nI (x6_103 + 1))), (8, .int (nI i103)), (4, .int (nI L)), (0, .ref 0), (1, .int (nI n)), (2, .int (nI t)), (3, .int (nI N))]) (stk' := [.int x7_135]) (mem' := fm g tp bt a_135 b) (by intro _ _ _; eq_refl) ?_
                          rw [show (fx_cb .ne 1 0) = true from by decide]
                          dsimp only [cond]
                          refine fe_s 5 (pc' := 133) (lc' := [(9, .int ((nI i135) + 1)), (7, .int (x7_135 &&& 0)), (5, .int (x5_103 + (nI u132))), (6, .int (nI (x6_103 + 1))), (8, .int (nI i103)), (4, .int (nI L)), (0, .ref 0), (1, .int (nI n)), (2, .int (nI t)), (3, .int (nI N))]) (stk' := []) (mem' := fm g tp bt a_135 b) (by intro _ _ _; eq_refl) ?_
                          rw [show ((nI i135) + 1 : Int32) = nI (i135 + 1) from by simp only [show (1 : Int32) = nI 1 from rfl, nI_add, fm_mul]]
                          refine fe_w (lc' := [(9, .int (nI (i135 + 1))), (7, .int (x7_135 &&& 0)), (5, .int (x5_103 + (nI u132))), (6, .int (nI (x6_103 + 1))), (8, .int (nI i103)), (4, .int (nI L)), (0, .ref 0), (1, .int (nI n)), (2, .int (nI t)), (3, .int (nI N))]) ⟨rfl, rfl, rfl, rfl, rfl, rfl, rfl, rfl, rfl, rfl, trivial⟩ (by show List.Nodup [9, 7, 5, 6, 8, 4, 0, 1, 2, 3]; decide) (by show List.Nodup [9, 7, 5, 6, 8, 4, 0, 1, 2, 3]; decide) ?_
                          exact ih135 (i135 + 1) (by omega) _ a_135 hD_135
                    refine fe_w (lc' := [(9, .int (nI 0)), (7, .int 1), (5, .int (x5_103 + (nI u132))), (6, .int (nI (x6_103 + 1))), (8, .int (nI i103)), (4, .int (nI L)), (0, .ref 0), (1, .int (nI n)), (2, .int (nI t)), (3, .int (nI N))]) ⟨rfl, rfl, rfl, rfl, rfl, rfl, rfl, rfl, rfl, rfl, trivial⟩ (by show List.Nodup [9, 7, 5, 6, 8, 4, 0, 1, 2, 3]; decide) (by show List.Nodup [9, 7, 5, 6, 8, 4, 0, 1, 2, 3]; decide) ?_
                    exact loop135 (n - 0) 0 (by omega) _ ad133 hDd133
                  · refine fe_s 4 (pc' := 133) (lc' := [(9, .int 0), (7, .int 0), (5, .int (x5_103 + (nI u132))), (6, .int (nI (x6_103 + 1))), (8, .int (nI i103)), (4, .int (nI L)), (0, .ref 0), (1, .int (nI n)), (2, .int (nI t)), (3, .int (nI N))]) (stk' := []) (mem' := fm g tp bt ad133 b) (by intro _ _ _; eq_refl) ?_
                    have loop139 : ∀ (r i139 : Nat), i139 + r = n → ∀ x7_139 : Int32, ∀ a_139 : Nat → Nat → Int32, fm_D a0 a_139 (T_103 + 1) → fe_R 8 gk_m329 133 [(9, .int (nI i139)), (7, .int x7_139), (5, .int (x5_103 + (nI u132))), (6, .int (nI (x6_103 + 1))), (8, .int (nI i103)), (4, .int (nI L)), (0, .ref 0), (1, .int (nI n)), (2, .int (nI t)), (3, .int (nI N))] [] (fm g tp bt a_139 b) (fun R => ∃ (v : Int32) (a' : Nat → Nat → Int32), fm_B a' ∧ (∀ t, fm_okt t = false → a' t = a t) ∧ (∀ i, fm_st i = true → a' 1 i = a 1 i) ∧ R = (some (.int v), fm g tp bt a' b)) := by
                      intro r
                      induction r with
                      | zero =>
                        intro i139 hi139 x7_139 a_139 hD_139
                        obtain rfl : n = i139 := by omega
                        refine fe_s 2 (pc' := 136) (lc' := [(9, .int (nI n)), (7, .int x7_139), (5, .int (x5_103 + (nI u132))), (6, .int (nI (x6_103 + 1))), (8, .int (nI i103)), (4, .int (nI L)), (0, .ref 0), (1, .int (nI n)), (2, .int (nI t)), (3, .int (nI N))]) (stk' := [.int (nI n), .int (nI n)]) (mem' := fm g tp bt a_139 b) (by intro _ _ _; eq_refl) ?_
                        refine fe_s 1 (pc' := cond (fx_cb .ge (nI n) (nI n)) 169 139) (lc' := [(9, .int (nI n)), (7, .int x7_139), (5, .int (x5_103 + (nI u132))), (6, .int (nI (x6_103 + 1))), (8, .int (nI i103)), (4, .int (nI L)), (0, .ref 0), (1, .int (nI n)), (2, .int (nI t)), (3, .int (nI N))]) (stk' := []) (mem' := fm g tp bt a_139 b) (by intro _ _ _; eq_refl) ?_
                        rw [show (fx_cb .ge (nI n) (nI n)) = true from cb_geT (a := n) (b := n) (by omega) (by omega) (by omega)]
                        dsimp only [cond]
                        refine fe_s 1 (pc' := 172) (lc' := [(8, .int ((nI i103) + 1)), (9, .int (nI n)), (7, .int x7_139), (5, .int (x5_103 + (nI u132))), (6, .int (nI (x6_103 + 1))), (4, .int (nI L)), (0, .ref 0), (1, .int (nI n)), (2, .int (nI t)), (3, .int (nI N))]) (stk' := []) (mem' := fm g tp bt a_139 b) (by intro _ _ _; eq_refl) ?_
                        rw [show ((nI i103) + 1 : Int32) = nI (i103 + 1) from by simp only [show (1 : Int32) = nI 1 from rfl, nI_add, fm_mul]]
                        refine fe_s 1 (pc' := fx_to 172 (-119)) (lc' := [(8, .int (nI (i103 + 1))), (9, .int (nI n)), (7, .int x7_139), (5, .int (x5_103 + (nI u132))), (6, .int (nI (x6_103 + 1))), (4, .int (nI L)), (0, .ref 0), (1, .int (nI n)), (2, .int (nI t)), (3, .int (nI N))]) (stk' := []) (mem' := fm g tp bt a_139 b) (by intro _ _ _; eq_refl) ?_
                        rw [show fx_to 172 (-119) = 53 from by decide]
                        refine fe_w (lc' := [(8, .int (nI (i103 + 1))), (7, .int x7_139), (6, .int (nI (x6_103 + 1))), (5, .int (x5_103 + (nI u132))), (4, .int (nI L)), (0, .ref 0), (1, .int (nI n)), (2, .int (nI t)), (3, .int (nI N))]) ⟨rfl, rfl, rfl, rfl, rfl, rfl, rfl, rfl, rfl, trivial⟩ (by show List.Nodup [8, 7, 6, 5, 4, 0, 1, 2, 3]; decide) (by show List.Nodup [8, 9, 7, 5, 6, 4, 0, 1, 2, 3]; decide) ?_
                        exact ih103 (i103 + 1) (by omega) _ _ _ (by omega) (T_103 + 1) (by omega) a_139 hD_139
                      | succ r ih139 =>
                        intro i139 hi139 x7_139 a_139 hD_139
                        have hl139 : i139 < n := by omega
                        refine fe_s 2 (pc' := 136) (lc' := [(9, .int (nI i139)), (7, .int x7_139), (5, .int (x5_103 + (nI u132))), (6, .int (nI (x6_103 + 1))), (8, .int (nI i103)), (4, .int (nI L)), (0, .ref 0), (1, .int (nI n)), (2, .int (nI t)), (3, .int (nI N))]) (stk' := [.int (nI n), .int (nI i139)]) (mem' := fm g tp bt a_139 b) (by intro _ _ _; eq_refl) ?_
                        refine fe_s 1 (pc' := cond (fx_cb .ge (nI i139) (nI n)) 169 139) (lc' := [(9, .int (nI i139)), (7, .int x7_139), (5, .int (x5_103 + (nI u132))), (6, .int (nI (x6_103 + 1))), (8, .int (nI i103)), (4, .int (nI L)), (0, .ref 0), (1, .int (nI n)), (2, .int (nI t)), (3, .int (nI N))]) (stk' := []) (mem' := fm g tp bt a_139 b) (by intro _ _ _; eq_refl) ?_
                        rw [show (fx_cb .ge (nI i139) (nI n)) = false from cb_geF (a := i139) (b := n) (by omega) (by omega) (by omega)]
                        dsimp only [cond]
                        refine fe_s 5 (pc' := 148) (lc' := [(9, .int (nI i139)), (7, .int x7_139), (5, .int (x5_103 + (nI u132))), (6, .int (nI (x6_103 + 1))), (8, .int (nI i103)), (4, .int (nI L)), (0, .ref 0), (1, .int (nI n)), (2, .int (nI t)), (3, .int (nI N))]) (stk' := [.int (nI i139), .ref 10, .ref 0, .int x7_139]) (mem' := fm g tp bt a_139 b) (by intro _ _ _; eq_refl) ?_
                        refine fe_ldI (by rfl) (by rfl) (fx_inN (i := i139) (by omega) (by omega)) ?_
                        rw [show Int32.toNatClampNeg (nI i139) = i139 from nI_clamp (by omega)]
                        obtain ⟨u140, hu140, eu140⟩ := fm_tu_at htu hn4 (i := i139) (by omega)
                        rw [show a_139 10 (i139) = nI u140 from by rw [hD_139.1 10 rfl, hK.1 10 (by decide)]; exact eu140]
                        obtain ⟨v141, z142, hv141⟩ := fq_isWet (V := u140) (g := g) (tp := tp) (bt := bt) (a := a_139) (b := b) (by omega)
                        refine fe_ivV hv141 (by omega) (by rfl) (by rfl) (by rfl) (by rfl) (by rfl) (by rfl) ?_
                        rcases z142 with rfl | rfl
                        · refine fe_s 1 (pc' := cond (fx_cb .ne 0 0) 159 155) (lc' := [(9, .int (nI i139)), (7, .int x7_139), (5, .int (x5_103 + (nI u132))), (6, .int (nI (x6_103 + 1))), (8, .int (nI i103)), (4, .int (nI L)), (0, .ref 0), (1, .int (nI n)), (2, .int (nI t)), (3, .int (nI N))]) (stk' := [.int x7_139]) (mem' := fm g tp bt a_139 b) (by intro _ _ _; eq_refl) ?_
                          rw [show (fx_cb .ne 0 0) = false from by decide]
                          dsimp only [cond]
                          refine fe_s 6 (pc' := 133) (lc' := [(9, .int ((nI i139) + 1)), (7, .int (x7_139 &&& 1)), (5, .int (x5_103 + (nI u132))), (6, .int (nI (x6_103 + 1))), (8, .int (nI i103)), (4, .int (nI L)), (0, .ref 0), (1, .int (nI n)), (2, .int (nI t)), (3, .int (nI N))]) (stk' := []) (mem' := fm g tp bt a_139 b) (by intro _ _ _; eq_refl) ?_
                          rw [show ((nI i139) + 1 : Int32) = nI (i139 + 1) from by simp only [show (1 : Int32) = nI 1 from rfl, nI_add, fm_mul]]
                          refine fe_w (lc' := [(9, .int (nI (i139 + 1))), (7, .int (x7_139 &&& 1)), (5, .int (x5_103 + (nI u132))), (6, .int (nI (x6_103 + 1))), (8, .int (nI i103)), (4, .int (nI L)), (0, .ref 0), (1, .int (nI n)), (2, .int (nI t)), (3, .int (nI N))]) ⟨rfl, rfl, rfl, rfl, rfl, rfl, rfl, rfl, rfl, rfl, trivial⟩ (by show List.Nodup [9, 7, 5, 6, 8, 4, 0, 1, 2, 3]; decide) (by show List.Nodup [9, 7, 5, 6, 8, 4, 0, 1, 2, 3]; decide) ?_
                          exact ih139 (i139 + 1) (by omega) _ a_139 hD_139
                        · refine fe_s 1 (pc' := cond (fx_cb .ne 1 0) 159 155) (lc' := [(9, .int (nI i139)), (7, .int x7_139), (5, .int (x5_103 + (nI u132))), (6, .int (nI (x6_103 + 1))), (8, .int (nI i103)), (4, .int (nI L)), (0, .ref 0), (1, .int (nI n)), (2, .int (nI t)), (3, .int (nI N))]) (stk' := [.int x7_139]) (mem' := fm g tp bt a_139 b) (by intro _ _ _; eq_refl) ?_
                          rw [show (fx_cb .ne 1 0) = true from by decide]
                          dsimp only [cond]
                          refine fe_s 5 (pc' := 133) (lc' := [(9, .int ((nI i139) + 1)), (7, .int (x7_139 &&& 0)), (5, .int (x5_103 + (nI u132))), (6, .int (nI (x6_103 + 1))), (8, .int (nI i103)), (4, .int (nI L)), (0, .ref 0), (1, .int (nI n)), (2, .int (nI t)), (3, .int (nI N))]) (stk' := []) (mem' := fm g tp bt a_139 b) (by intro _ _ _; eq_refl) ?_
                          rw [show ((nI i139) + 1 : Int32) = nI (i139 + 1) from by simp only [show (1 : Int32) = nI 1 from rfl, nI_add, fm_mul]]
                          refine fe_w (lc' := [(9, .int (nI (i139 + 1))), (7, .int (x7_139 &&& 0)), (5, .int (x5_103 + (nI u132))), (6, .int (nI (x6_103 + 1))), (8, .int (nI i103)), (4, .int (nI L)), (0, .ref 0), (1, .int (nI n)), (2, .int (nI t)), (3, .int (nI N))]) ⟨rfl, rfl, rfl, rfl, rfl, rfl, rfl, rfl, rfl, rfl, trivial⟩ (by show List.Nodup [9, 7, 5, 6, 8, 4, 0, 1, 2, 3]; decide) (by show List.Nodup [9, 7, 5, 6, 8, 4, 0, 1, 2, 3]; decide) ?_
                          exact ih139 (i139 + 1) (by omega) _ a_139 hD_139
                    refine fe_w (lc' := [(9, .int (nI 0)), (7, .int 0), (5, .int (x5_103 + (nI u132))), (6, .int (nI (x6_103 + 1))), (8, .int (nI i103)), (4, .int (nI L)), (0, .ref 0), (1, .int (nI n)), (2, .int (nI t)), (3, .int (nI N))]) ⟨rfl, rfl, rfl, rfl, rfl, rfl, rfl, rfl, rfl, rfl, trivial⟩ (by show List.Nodup [9, 7, 5, 6, 8, 4, 0, 1, 2, 3]; decide) (by show List.Nodup [9, 7, 5, 6, 8, 4, 0, 1, 2, 3]; decide) ?_
                    exact loop139 (n - 0) 0 (by omega) _ ad133 hDd133
              · refine fe_s 1 (pc' := 117) (lc' := [(8, .int (nI i103)), (7, .int x7_103), (6, .int (nI x6_103)), (5, .int x5_103), (4, .int (nI L)), (0, .ref 0), (1, .int (nI n)), (2, .int (nI t)), (3, .int (nI N))]) (stk' := [.ref 0]) (mem' := fm g tp bt a_103 b) (by intro _ _ _; eq_refl) ?_
                obtain ⟨vd143, memd143, ⟨xd143, ad143, hDd143, hRd143⟩, hfrd143⟩ := fr_goes (T := T_103) (g := g) (tp := tp) (bt := bt) (a := a_103) (b := b) hB hD_103 (by omega)
                cases hRd143
                refine fe_ivV hfrd143 (by omega) (by rfl) (by rfl) (by rfl) (by rfl) (by rfl) (by rfl) ?_
                refine fe_s 1 (pc' := cond (fx_cb .ne xd143 0) 127 123) (lc' := [(8, .int (nI i103)), (7, .int x7_103), (6, .int (nI x6_103)), (5, .int x5_103), (4, .int (nI L)), (0, .ref 0), (1, .int (nI n)), (2, .int (nI t)), (3, .int (nI N))]) (stk' := []) (mem' := fm g tp bt ad143 b) (by intro _ _ _; eq_refl) ?_
                cases h144 : fx_cb .ne xd143 0
                · refine fe_s 5 (pc' := 133) (lc' := [(9, .int 0), (7, .int 1), (8, .int (nI i103)), (6, .int (nI x6_103)), (5, .int x5_103), (4, .int (nI L)), (0, .ref 0), (1, .int (nI n)), (2, .int (nI t)), (3, .int (nI N))]) (stk' := []) (mem' := fm g tp bt ad143 b) (by intro _ _ _; eq_refl) ?_
                  have loop145 : ∀ (r i145 : Nat), i145 + r = n → ∀ x7_145 : Int32, ∀ a_145 : Nat → Nat → Int32, fm_D a0 a_145 (T_103 + 1) → fe_R 8 gk_m329 133 [(9, .int (nI i145)), (7, .int x7_145), (8, .int (nI i103)), (6, .int (nI x6_103)), (5, .int x5_103), (4, .int (nI L)), (0, .ref 0), (1, .int (nI n)), (2, .int (nI t)), (3, .int (nI N))] [] (fm g tp bt a_145 b) (fun R => ∃ (v : Int32) (a' : Nat → Nat → Int32), fm_B a' ∧ (∀ t, fm_okt t = false → a' t = a t) ∧ (∀ i, fm_st i = true → a' 1 i = a 1 i) ∧ R = (some (.int v), fm g tp bt a' b)) := by
                    intro r
                    induction r with
                    | zero =>
                      intro i145 hi145 x7_145 a_145 hD_145
                      obtain rfl : n = i145 := by omega
                      refine fe_s 2 (pc' := 136) (lc' := [(9, .int (nI n)), (7, .int x7_145), (8, .int (nI i103)), (6, .int (nI x6_103)), (5, .int x5_103), (4, .int (nI L)), (0, .ref 0), (1, .int (nI n)), (2, .int (nI t)), (3, .int (nI N))]) (stk' := [.int (nI n), .int (nI n)]) (mem' := fm g tp bt a_145 b) (by intro _ _ _; eq_refl) ?_
                      refine fe_s 1 (pc' := cond (fx_cb .ge (nI n) (nI n)) 169 139) (lc' := [(9, .int (nI n)), (7, .int x7_145), (8, .int (nI i103)), (6, .int (nI x6_103)), (5, .int x5_103), (4, .int (nI L)), (0, .ref 0), (1, .int (nI n)), (2, .int (nI t)), (3, .int (nI N))]) (stk' := []) (mem' := fm g tp bt a_145 b) (by intro _ _ _; eq_refl) ?_
                      rw [show (fx_cb .ge (nI n) (nI n)) = true from cb_geT (a := n) (b := n) (by omega) (by omega) (by omega)]
                      dsimp only [cond]
                      refine fe_s 1 (pc' := 172) (lc' := [(8, .int ((nI i103) + 1)), (9, .int (nI n)), (7, .int x7_145), (6, .int (nI x6_103)), (5, .int x5_103), (4, .int (nI L)), (0, .ref 0), (1, .int (nI n)), (2, .int (nI t)), (3, .int (nI N))]) (stk' := []) (mem' := fm g tp bt a_145 b) (by intro _ _ _; eq_refl) ?_
                      rw [show ((nI i103) + 1 : Int32) = nI (i103 + 1) from by simp only [show (1 : Int32) = nI 1 from rfl, nI_add, fm_mul]]
                      refine fe_s 1 (pc' := fx_to 172 (-119)) (lc' := [(8, .int (nI (i103 + 1))), (9, .int (nI n)), (7, .int x7_145), (6, .int (nI x6_103)), (5, .int x5_103), (4, .int (nI L)), (0, .ref 0), (1, .int (nI n)), (2, .int (nI t)), (3, .int (nI N))]) (stk' := []) (mem' := fm g tp bt a_145 b) (by intro _ _ _; eq_refl) ?_
                      rw [show fx_to 172 (-119) = 53 from by decide]
                      refine fe_w (lc' := [(8, .int (nI (i103 + 1))), (7, .int x7_145), (6, .int (nI x6_103)), (5, .int x5_103), (4, .int (nI L)), (0, .ref 0), (1, .int (nI n)), (2, .int (nI t)), (3, .int (nI N))]) ⟨rfl, rfl, rfl, rfl, rfl, rfl, rfl, rfl, rfl, trivial⟩ (by show List.Nodup [8, 7, 6, 5, 4, 0, 1, 2, 3]; decide) (by show List.Nodup [8, 9, 7, 6, 5, 4, 0, 1, 2, 3]; decide) ?_
                      exact ih103 (i103 + 1) (by omega) _ _ _ (by omega) (T_103 + 1) (by omega) a_145 hD_145
                    | succ r ih145 =>
                      intro i145 hi145 x7_145 a_145 hD_145
                      have hl145 : i145 < n := by omega
                      refine fe_s 2 (pc' := 136) (lc' := [(9, .int (nI i145)), (7, .int x7_145), (8, .int (nI i103)), (6, .int (nI x6_103)), (5, .int x5_103), (4, .int (nI L)), (0, .ref 0), (1, .int (nI n)), (2, .int (nI t)), (3, .int (nI N))]) (stk' := [.int (nI n), .int (nI i145)]) (mem' := fm g tp bt a_145 b) (by intro _ _ _; eq_refl) ?_
                      refine fe_s 1 (pc' := cond (fx_cb .ge (nI i145) (nI n)) 169 139) (lc' := [(9, .int (nI i145)), (7, .int x7_145), (8, .int (nI i103)), (6, .int (nI x6_103)), (5, .int x5_103), (4, .int (nI L)), (0, .ref 0), (1, .int (nI n)), (2, .int (nI t)), (3, .int (nI N))]) (stk' := []) (mem' := fm g tp bt a_145 b) (by intro _ _ _; eq_refl) ?_
                      rw [show (fx_cb .ge (nI i145) (nI n)) = false from cb_geF (a := i145) (b := n) (by omega) (by omega) (by omega)]
                      dsimp only [cond]
                      refine fe_s 5 (pc' := 148) (lc' := [(9, .int (nI i145)), (7, .int x7_145), (8, .int (nI i103)), (6, .int (nI x6_103)), (5, .int x5_103), (4, .int (nI L)), (0, .ref 0), (1, .int (nI n)), (2, .int (nI t)), (3, .int (nI N))]) (stk' := [.int (nI i145), .ref 10, .ref 0, .int x7_145]) (mem' := fm g tp bt a_145 b) (by intro _ _ _; eq_refl) ?_
                      refine fe_ldI (by rfl) (by rfl) (fx_inN (i := i145) (by omega) (by omega)) ?_
                      rw [show Int32.toNatClampNeg (nI i145) = i145 from nI_clamp (by omega)]
                      obtain ⟨u146, hu146, eu146⟩ := fm_tu_at htu hn4 (i := i145) (by omega)
                      rw [show a_145 10 (i145) = nI u146 from by rw [hD_145.1 10 rfl, hK.1 10 (by decide)]; exact eu146]
                      obtain ⟨v147, z148, hv147⟩ := fq_isWet (V := u146) (g := g) (tp := tp) (bt := bt) (a := a_145) (b := b) (by omega)
                      refine fe_ivV hv147 (by omega) (by rfl) (by rfl) (by rfl) (by rfl) (by rfl) (by rfl) ?_
                      rcases z148 with rfl | rfl
                      · refine fe_s 1 (pc' := cond (fx_cb .ne 0 0) 159 155) (lc' := [(9, .int (nI i145)), (7, .int x7_145), (8, .int (nI i103)), (6, .int (nI x6_103)), (5, .int x5_103), (4, .int (nI L)), (0, .ref 0), (1, .int (nI n)), (2, .int (nI t)), (3, .int (nI N))]) (stk' := [.int x7_145]) (mem' := fm g tp bt a_145 b) (by intro _ _ _; eq_refl) ?_
                        rw [show (fx_cb .ne 0 0) = false from by decide]
                        dsimp only [cond]
                        refine fe_s 6 (pc' := 133) (lc' := [(9, .int ((nI i145) + 1)), (7, .int (x7_145 &&& 1)), (8, .int (nI i103)), (6, .int (nI x6_103)), (5, .int x5_103), (4, .int (nI L)), (0, .ref 0), (1, .int (nI n)), (2, .int (nI t)), (3, .int (nI N))]) (stk' := []) (mem' := fm g tp bt a_145 b) (by intro _ _ _; eq_refl) ?_
                        rw [show ((nI i145) + 1 : Int32) = nI (i145 + 1) from by simp only [show (1 : Int32) = nI 1 from rfl, nI_add, fm_mul]]
                        refine fe_w (lc' := [(9, .int (nI (i145 + 1))), (7, .int (x7_145 &&& 1)), (8, .int (nI i103)), (6, .int (nI x6_103)), (5, .int x5_103), (4, .int (nI L)), (0, .ref 0), (1, .int (nI n)), (2, .int (nI t)), (3, .int (nI N))]) ⟨rfl, rfl, rfl, rfl, rfl, rfl, rfl, rfl, rfl, rfl, trivial⟩ (by show List.Nodup [9, 7, 8, 6, 5, 4, 0, 1, 2, 3]; decide) (by show List.Nodup [9, 7, 8, 6, 5, 4, 0, 1, 2, 3]; decide) ?_
                        exact ih145 (i145 + 1) (by omega) _ a_145 hD_145
                      · refine fe_s 1 (pc' := cond (fx_cb .ne 1 0) 159 155) (lc' := [(9, .int (nI i145)), (7, .int x7_145), (8, .int (nI i103)), (6, .int (nI x6_103)), (5, .int x5_103), (4, .int (nI L)), (0, .ref 0), (1, .int (nI n)), (2, .int (nI t)), (3, .int (nI N))]) (stk' := [.int x7_145]) (mem' := fm g tp bt a_145 b) (by intro _ _ _; eq_refl) ?_
                        rw [show (fx_cb .ne 1 0) = true from by decide]
                        dsimp only [cond]
                        refine fe_s 5 (pc' := 133) (lc' := [(9, .int ((nI i145) + 1)), (7, .int (x7_145 &&& 0)), (8, .int (nI i103)), (6, .int (nI x6_103)), (5, .int x5_103), (4, .int (nI L)), (0, .ref 0), (1, .int (nI n)), (2, .int (nI t)), (3, .int (nI N))]) (stk' := []) (mem' := fm g tp bt a_145 b) (by intro _ _ _; eq_refl) ?_
                        rw [show ((nI i145) + 1 : Int32) = nI (i145 + 1) from by simp only [show (1 : Int32) = nI 1 from rfl, nI_add, fm_mul]]
                        refine fe_w (lc' := [(9, .int (nI (i145 + 1))), (7, .int (x7_145 &&& 0)), (8, .int (nI i103)), (6, .int (nI x6_103)), (5, .int x5_103), (4, .int (nI L)), (0, .ref 0), (1, .int (nI n)), (2, .int (nI t)), (3, .int (nI N))]) ⟨rfl, rfl, rfl, rfl, rfl, rfl, rfl, rfl, rfl, rfl, trivial⟩ (by show List.Nodup [9, 7, 8, 6, 5, 4, 0, 1, 2, 3]; decide) (by show List.Nodup [9, 7, 8, 6, 5, 4, 0, 1, 2, 3]; decide) ?_
                        exact ih145 (i145 + 1) (by omega) _ a_145 hD_145
                  refine fe_w (lc' := [(9, .int (nI 0)), (7, .int 1), (8, .int (nI i103)), (6, .int (nI x6_103)), (5, .int x5_103), (4, .int (nI L)), (0, .ref 0), (1, .int (nI n)), (2, .int (nI t)), (3, .int (nI N))]) ⟨rfl, rfl, rfl, rfl, rfl, rfl, rfl, rfl, rfl, rfl, trivial⟩ (by show List.Nodup [9, 7, 8, 6, 5, 4, 0, 1, 2, 3]; decide) (by show List.Nodup [9, 7, 8, 6, 5, 4, 0, 1, 2, 3]; decide) ?_
                  exact loop145 (n - 0) 0 (by omega) _ ad143 hDd143
                · refine fe_s 4 (pc' := 133) (lc' := [(9, .int 0), (7, .int 0), (8, .int (nI i103)), (6, .int (nI x6_103)), (5, .int x5_103), (4, .int (nI L)), (0, .ref 0), (1, .int (nI n)), (2, .int (nI t)), (3, .int (nI N))]) (stk' := []) (mem' := fm g tp bt ad143 b) (by intro _ _ _; eq_refl) ?_
                  have loop149 : ∀ (r i149 : Nat), i149 + r = n → ∀ x7_149 : Int32, ∀ a_149 : Nat → Nat → Int32, fm_D a0 a_149 (T_103 + 1) → fe_R 8 gk_m329 133 [(9, .int (nI i149)), (7, .int x7_149), (8, .int (nI i103)), (6, .int (nI x6_103)), (5, .int x5_103), (4, .int (nI L)), (0, .ref 0), (1, .int (nI n)), (2, .int (nI t)), (3, .int (nI N))] [] (fm g tp bt a_149 b) (fun R => ∃ (v : Int32) (a' : Nat → Nat → Int32), fm_B a' ∧ (∀ t, fm_okt t = false → a' t = a t) ∧ (∀ i, fm_st i = true → a' 1 i = a 1 i) ∧ R = (some (.int v), fm g tp bt a' b)) := by
                    intro r
                    induction r with
                    | zero =>
                      intro i149 hi149 x7_149 a_149 hD_149
                      obtain rfl : n = i149 := by omega
                      refine fe_s 2 (pc' := 136) (lc' := [(9, .int (nI n)), (7, .int x7_149), (8, .int (nI i103)), (6, .int (nI x6_103)), (5, .int x5_103), (4, .int (nI L)), (0, .ref 0), (1, .int (nI n)), (2, .int (nI t)), (3, .int (nI N))]) (stk' := [.int (nI n), .int (nI n)]) (mem' := fm g tp bt a_149 b) (by intro _ _ _; eq_refl) ?_
                      refine fe_s 1 (pc' := cond (fx_cb .ge (nI n) (nI n)) 169 139) (lc' := [(9, .int (nI n)), (7, .int x7_149), (8, .int (nI i103)), (6, .int (nI x6_103)), (5, .int x5_103), (4, .int (nI L)), (0, .ref 0), (1, .int (nI n)), (2, .int (nI t)), (3, .int (nI N))]) (stk' := []) (mem' := fm g tp bt a_149 b) (by intro _ _ _; eq_refl) ?_
                      rw [show (fx_cb .ge (nI n) (nI n)) = true from cb_geT (a := n) (b := n) (by omega) (by omega) (by omega)]
                      dsimp only [cond]
                      refine fe_s 1 (pc' := 172) (lc' := [(8, .int ((nI i103) + 1)), (9, .int (nI n)), (7, .int x7_149), (6, .int (nI x6_103)), (5, .int x5_103), (4, .int (nI L)), (0, .ref 0), (1, .int (nI n)), (2, .int (nI t)), (3, .int (nI N))]) (stk' := []) (mem' := fm g tp bt a_149 b) (by intro _ _ _; eq_refl) ?_
                      rw [show ((nI i103) + 1 : Int32) = nI (i103 + 1) from by simp only [show (1 : Int32) = nI 1 from rfl, nI_add, fm_mul]]
                      refine fe_s 1 (pc' := fx_to 172 (-119)) (lc' := [(8, .int (nI (i103 + 1))), (9, .int (nI n)), (7, .int x7_149), (6, .int (nI x6_103)), (5, .int x5_103), (4, .int (nI L)), (0, .ref 0), (1, .int (nI n)), (2, .int (nI t)), (3, .int (nI N))]) (stk' := []) (mem' := fm g tp bt a_149 b) (by intro _ _ _; eq_refl) ?_
                      rw [show fx_to 172 (-119) = 53 from by decide]
                      refine fe_w (lc' := [(8, .int (nI (i103 + 1))), (7, .int x7_149), (6, .int (nI x6_103)), (5, .int x5_103), (4, .int (nI L)), (0, .ref 0), (1, .int (nI n)), (2, .int (nI t)), (3, .int (nI N))]) ⟨rfl, rfl, rfl, rfl, rfl, rfl, rfl, rfl, rfl, trivial⟩ (by show List.Nodup [8, 7, 6, 5, 4, 0, 1, 2, 3]; decide) (by show List.Nodup [8, 9, 7, 6, 5, 4, 0, 1, 2, 3]; decide) ?_
                      exact ih103 (i103 + 1) (by omega) _ _ _ (by omega) (T_103 + 1) (by omega) a_149 hD_149
                    | succ r ih149 =>
                      intro i149 hi149 x7_149 a_149 hD_149
                      have hl149 : i149 < n := by omega
                      refine fe_s 2 (pc' := 136) (lc' := [(9, .int (nI i149)), (7, .int x7_149), (8, .int (nI i103)), (6, .int (nI x6_103)), (5, .int x5_103), (4, .int (nI L)), (0, .ref 0), (1, .int (nI n)), (2, .int (nI t)), (3, .int (nI N))]) (stk' := [.int (nI n), .int (nI i149)]) (mem' := fm g tp bt a_149 b) (by intro _ _ _; eq_refl) ?_
                      refine fe_s 1 (pc' := cond (fx_cb .ge (nI i149) (nI n)) 169 139) (lc' := [(9, .int (nI i149)), (7, .int x7_149), (8, .int (nI i103)), (6, .int (nI x6_103)), (5, .int x5_103), (4, .int (nI L)), (0, .ref 0), (1, .int (nI n)), (2, .int (nI t)), (3, .int (nI N))]) (stk' := []) (mem' := fm g tp bt a_149 b) (by intro _ _ _; eq_refl) ?_
                      rw [show (fx_cb .ge (nI i149) (nI n)) = false from cb_geF (a := i149) (b := n) (by omega) (by omega) (by omega)]
                      dsimp only [cond]
                      refine fe_s 5 (pc' := 148) (lc' := [(9, .int (nI i149)), (7, .int x7_149), (8, .int (nI i103)), (6, .int (nI x6_103)), (5, .int x5_103), (4, .int (nI L)), (0, .ref 0), (1, .int (nI n)), (2, .int (nI t)), (3, .int (nI N))]) (stk' := [.int (nI i149), .ref 10, .ref 0, .int x7_149]) (mem' := fm g tp bt a_149 b) (by intro _ _ _; eq_refl) ?_
                      refine fe_ldI (by rfl) (by rfl) (fx_inN (i := i149) (by omega) (by omega)) ?_
                      rw [show Int32.toNatClampNeg (nI i149) = i149 from nI_clamp (by omega)]
                      obtain ⟨u150, hu150, eu150⟩ := fm_tu_at htu hn4 (i := i149) (by omega)
                      rw [show a_149 10 (i149) = nI u150 from by rw [hD_149.1 10 rfl, hK.1 10 (by decide)]; exact eu150]
                      obtain ⟨v151, z152, hv151⟩ := fq_isWet (V := u150) (g := g) (tp := tp) (bt := bt) (a := a_149) (b := b) (by omega)
                      refine fe_ivV hv151 (by omega) (by rfl) (by rfl) (by rfl) (by rfl) (by rfl) (by rfl) ?_
                      rcases z152 with rfl | rfl
                      · refine fe_s 1 (pc' := cond (fx_cb .ne 0 0) 159 155) (lc' := [(9, .int (nI i149)), (7, .int x7_149), (8, .int (nI i103)), (6, .int (nI x6_103)), (5, .int x5_103), (4, .int (nI L)), (0, .ref 0), (1, .int (nI n)), (2, .int (nI t)), (3, .int (nI N))]) (stk' := [.int x7_149]) (mem' := fm g tp bt a_149 b) (by intro _ _ _; eq_refl) ?_
                        rw [show (fx_cb .ne 0 0) = false from by decide]
                        dsimp only [cond]
                        refine fe_s 6 (pc' := 133) (lc' := [(9, .int ((nI i149) + 1)), (7, .int (x7_149 &&& 1)), (8, .int (nI i103)), (6, .int (nI x6_103)), (5, .int x5_103), (4, .int (nI L)), (0, .ref 0), (1, .int (nI n)), (2, .int (nI t)), (3, .int (nI N))]) (stk' := []) (mem' := fm g tp bt a_149 b) (by intro _ _ _; eq_refl) ?_
                        rw [show ((nI i149) + 1 : Int32) = nI (i149 + 1) from by simp only [show (1 : Int32) = nI 1 from rfl, nI_add, fm_mul]]
                        refine fe_w (lc' := [(9, .int (nI (i149 + 1))), (7, .int (x7_149 &&& 1)), (8, .int (nI i103)), (6, .int (nI x6_103)), (5, .int x5_103), (4, .int (nI L)), (0, .ref 0), (1, .int (nI n)), (2, .int (nI t)), (3, .int (nI N))]) ⟨rfl, rfl, rfl, rfl, rfl, rfl, rfl, rfl, rfl, rfl, trivial⟩ (by show List.Nodup [9, 7, 8, 6, 5, 4, 0, 1, 2, 3]; decide) (by show List.Nodup [9, 7, 8, 6, 5, 4, 0, 1, 2, 3]; decide) ?_
                        exact ih149 (i149 + 1) (by omega) _ a_149 hD_149
                      · refine fe_s 1 (pc' := cond (fx_cb .ne 1 0) 159 155) (lc' := [(9, .int (nI i149)), (7, .int x7_149), (8, .int (nI i103)), (6, .int (nI x6_103)), (5, .int x5_103), (4, .int (nI L)), (0, .ref 0), (1, .int (nI n)), (2, .int (nI t)), (3, .int (nI N))]) (stk' := [.int x7_149]) (mem' := fm g tp bt a_149 b) (by intro _ _ _; eq_refl) ?_
                        rw [show (fx_cb .ne 1 0) = true from by decide]
                        dsimp only [cond]
                        refine fe_s 5 (pc' := 133) (lc' := [(9, .int ((nI i149) + 1)), (7, .int (x7_149 &&& 0)), (8, .int (nI i103)), (6, .int (nI x6_103)), (5, .int x5_103), (4, .int (nI L)), (0, .ref 0), (1, .int (nI n)), (2, .int (nI t)), (3, .int (nI N))]) (stk' := []) (mem' := fm g tp bt a_149 b) (by intro _ _ _; eq_refl) ?_
                        rw [show ((nI i149) + 1 : Int32) = nI (i149 + 1) from by simp only [show (1 : Int32) = nI 1 from rfl, nI_add, fm_mul]]
                        refine fe_w (lc' := [(9, .int (nI (i149 + 1))), (7, .int (x7_149 &&& 0)), (8, .int (nI i103)), (6, .int (nI x6_103)), (5, .int x5_103), (4, .int (nI L)), (0, .ref 0), (1, .int (nI n)), (2, .int (nI t)), (3, .int (nI N))]) ⟨rfl, rfl, rfl, rfl, rfl, rfl, rfl, rfl, rfl, rfl, trivial⟩ (by show List.Nodup [9, 7, 8, 6, 5, 4, 0, 1, 2, 3]; decide) (by show List.Nodup [9, 7, 8, 6, 5, 4, 0, 1, 2, 3]; decide) ?_
                        exact ih149 (i149 + 1) (by omega) _ a_149 hD_149
                  refine fe_w (lc' := [(9, .int (nI 0)), (7, .int 0), (8, .int (nI i103)), (6, .int (nI x6_103)), (5, .int x5_103), (4, .int (nI L)), (0, .ref 0), (1, .int (nI n)), (2, .int (nI t)), (3, .int (nI N))]) ⟨rfl, rfl, rfl, rfl, rfl, rfl, rfl, rfl, rfl, rfl, trivial⟩ (by show List.Nodup [9, 7, 8, 6, 5, 4, 0, 1, 2, 3]; decide) (by show List.Nodup [9, 7, 8, 6, 5, 4, 0, 1, 2, 3]; decide) ?_
                  exact loop149 (n - 0) 0 (by omega) _ ad143 hDd143
          · refine fe_s 2 (pc' := 179) (lc' := [(8, .int (nI i103)), (7, .int x7_103), (6, .int (nI x6_103)), (5, .int x5_103), (4, .int (nI L)), (0, .ref 0), (1, .int (nI n)), (2, .int (nI t)), (3, .int (nI N))]) (stk' := [.int 5052, .ref 0]) (mem' := fm g tp bt a_103 b) (by intro _ _ _; eq_refl) ?_
            obtain ⟨vz153, memz153, ⟨az153, hSz153, hRz153⟩, hfrz153⟩ := fr_restores5052 (g := g) (tp := tp) (bt := bt) (a := a_103) (b := b)
            cases hRz153
            have hZz153 := fm_restd hB (by decide) hK hD_103 hSz153
            have hEz153 : fm_E a az153 := ⟨hZz153.1, fun t ht => hZz153.2.2 t (fm_okE_t ht), fun i hi => hZz153.2.1 i (by have := fm_st_n hi; omega)⟩
            refine fe_ivV hfrz153 (by omega) (by rfl) (by rfl) (by rfl) (by rfl) (by rfl) (by rfl) ?_
            refine fe_s 1 (pc' := 184) (lc' := [(8, .int (nI i103)), (7, .int x7_103), (6, .int (nI x6_103)), (5, .int x5_103), (4, .int (nI L)), (0, .ref 0), (1, .int (nI n)), (2, .int (nI t)), (3, .int (nI N))]) (stk' := [.int x7_103]) (mem' := fm g tp bt az153 b) (by intro _ _ _; eq_refl) ?_
            refine fe_s 1 (pc' := cond (fx_cb .eq x7_103 0) 192 187) (lc' := [(8, .int (nI i103)), (7, .int x7_103), (6, .int (nI x6_103)), (5, .int x5_103), (4, .int (nI L)), (0, .ref 0), (1, .int (nI n)), (2, .int (nI t)), (3, .int (nI N))]) (stk' := []) (mem' := fm g tp bt az153 b) (by intro _ _ _; eq_refl) ?_
            cases h154 : fx_cb .eq x7_103 0
            · refine fe_s 2 (pc' := 195) (lc' := [(8, .int (nI i103)), (7, .int x7_103), (6, .int (nI x6_103)), (5, .int x5_103), (4, .int (nI L)), (0, .ref 0), (1, .int (nI n)), (2, .int (nI t)), (3, .int (nI N))]) (stk' := [.int (nI L)]) (mem' := fm g tp bt az153 b) (by intro _ _ _; eq_refl) ?_
              exact fe_ret ⟨_, _, hZz153.1, hZz153.2.2, (fun i hi => hZz153.2.1 i (by have := fm_st_n hi; omega)), rfl⟩ (by rfl) (by rfl) (by rfl)
            · refine fe_s 1 (pc' := 195) (lc' := [(8, .int (nI i103)), (7, .int x7_103), (6, .int (nI x6_103)), (5, .int x5_103), (4, .int (nI L)), (0, .ref 0), (1, .int (nI n)), (2, .int (nI t)), (3, .int (nI N))]) (stk' := [.int 1000000]) (mem' := fm g tp bt az153 b) (by intro _ _ _; eq_refl) ?_
              exact fe_ret ⟨_, _, hZz153.1, hZz153.2.2, (fun i hi => hZz153.2.1 i (by have := fm_st_n hi; omega)), rfl⟩ (by rfl) (by rfl) (by rfl)
      refine fe_w (lc' := [(8, .int (nI 0)), (7, .int 1), (6, .int (nI 0)), (5, .int 0), (4, .int (nI L)), (0, .ref 0), (1, .int (nI n)), (2, .int (nI t)), (3, .int (nI N))]) ⟨rfl, rfl, rfl, rfl, rfl, rfl, rfl, rfl, rfl, trivial⟩ (by show List.Nodup [8, 7, 6, 5, 4, 0, 1, 2, 3]; decide) (by show List.Nodup [8, 7, 6, 5, 4, 0, 1, 2, 3]; decide) ?_
      exact loop103 (L - 0) 0 (by omega) _ _ _ (by omega) T (by omega) a_102 hD_102
    | succ r ih102 =>
      intro i102 hi102 x4_102 hx4_102 a_102 hD_102
      have hl102 : i102 < n := by omega
      refine fe_s 2 (pc' := 20) (lc' := [(5, .int (nI i102)), (4, .int (nI x4_102)), (0, .ref 0), (1, .int (nI n)), (2, .int (nI t)), (3, .int (nI N))]) (stk' := [.int (nI n), .int (nI i102)]) (mem' := fm g tp bt a_102 b) (by intro _ _ _; eq_refl) ?_
      refine fe_s 1 (pc' := cond (fx_cb .ge (nI i102) (nI n)) 41 23) (lc' := [(5, .int (nI i102)), (4, .int (nI x4_102)), (0, .ref 0), (1, .int (nI n)), (2, .int (nI t)), (3, .int (nI N))]) (stk' := []) (mem' := fm g tp bt a_102 b) (by intro _ _ _; eq_refl) ?_
      rw [show (fx_cb .ge (nI i102) (nI n)) = false from cb_geF (a := i102) (b := n) (by omega) (by omega) (by omega)]
      dsimp only [cond]
      refine fe_s 4 (pc' := 31) (lc' := [(5, .int (nI i102)), (4, .int (nI x4_102)), (0, .ref 0), (1, .int (nI n)), (2, .int (nI t)), (3, .int (nI N))]) (stk' := [.int (nI i102), .ref 11, .int (nI x4_102)]) (mem' := fm g tp bt a_102 b) (by intro _ _ _; eq_refl) ?_
      refine fe_ldI (by rfl) (by rfl) (fx_inN (i := i102) (by omega) (by omega)) ?_
      rw [show Int32.toNatClampNeg (nI i102) = i102 from nI_clamp (by omega)]
      obtain ⟨u155, hu155, eu155⟩ := fm_ga_at hga hn4 (i := i102) (by omega)
      rw [show a_102 11 (i102) = nI u155 from by rw [hD_102.1 11 rfl, hK.1 11 (by decide)]; exact eu155]
      refine fe_s 4 (pc' := 17) (lc' := [(5, .int ((nI i102) + 1)), (4, .int ((nI x4_102) + (nI u155))), (0, .ref 0), (1, .int (nI n)), (2, .int (nI t)), (3, .int (nI N))]) (stk' := []) (mem' := fm g tp bt a_102 b) (by intro _ _ _; eq_refl) ?_
      rw [show ((nI i102) + 1 : Int32) = nI (i102 + 1) from by simp only [show (1 : Int32) = nI 1 from rfl, nI_add, fm_mul]]
      rw [show ((nI x4_102) + (nI u155) : Int32) = nI (x4_102 + u155) from by simp only [nI_add, fm_mul]]
      refine fe_w (lc' := [(5, .int (nI (i102 + 1))), (4, .int (nI (x4_102 + u155))), (0, .ref 0), (1, .int (nI n)), (2, .int (nI t)), (3, .int (nI N))]) ⟨rfl, rfl, rfl, rfl, rfl, rfl, trivial⟩ (by show List.Nodup [5, 4, 0, 1, 2, 3]; decide) (by show List.Nodup [5, 4, 0, 1, 2, 3]; decide) ?_
      exact ih102 (i102 + 1) (by omega) _ (by omega) a_102 hD_102
  refine fe_w (lc' := [(5, .int (nI 1)), (4, .int (nI N)), (0, .ref 0), (1, .int (nI n)), (2, .int (nI t)), (3, .int (nI N))]) ⟨rfl, rfl, rfl, rfl, rfl, rfl, trivial⟩ (by show List.Nodup [5, 4, 0, 1, 2, 3]; decide) (by show List.Nodup [5, 4, 0, 1, 2, 3]; decide) ?_
  exact loop102 (n - 1) 1 (by omega) _ (by omega) ad101 hDd101
end FQ2
