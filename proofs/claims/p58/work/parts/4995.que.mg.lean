section MH12_0
/-! ===== fx: queues: one order with its gaps ===== -/
section FQ2
variable {g : Nat → Int32} {tp bt : Int64} {a0 a : Nat → Nat → Int32} {b : Nat → Nat → Int64}
set_option maxHeartbeats 8000000 in
theorem fr_queued {n t N m1 m2 : Nat} (hBa : fm_B a) (hgb : fm_gb g) (hn1 : 1 ≤ n) (hn4 : n ≤ 4) (htu : fm_tu n a m1) (hga : fm_ga n a m2) (ht : t < 4) (hN : N ≤ 12) (hc : ∀ k, k < N → ∃ C, C < 10 ∧ b 5 (60 * t + k) = Int64.ofNat C)  : ∃ (v : Option Value) (mem' : fx_M), (fun R => ∃ (v : Int32) (a' : Nat → Nat → Int32), fm_B a' ∧ (∀ t, fm_okt t = false → a' t = a t) ∧ (∀ i, fm_st i = true → a' 1 i = a 1 i) ∧ R = (some (.int v), fm g tp bt a' b)) (v, mem') ∧ fr_T 9 329 [.ref 0, .int (nI n), .int (nI t), .int (nI N)] (fm g tp bt a b) v mem' := by
  have hG := fm_G_rf hgb
  refine fe_meth (F := fun R => ∃ (v : Int32) (a' : Nat → Nat → Int32), fm_B a' ∧ (∀ t, fm_okt t = false → a' t = a t) ∧ (∀ i, fm_st i = true → a' 1 i = a 1 i) ∧ R = (some (.int v), fm g tp bt a' b)) (M := gk_m329) (by rfl) (by rfl) ?_
  refine fe_s 2 (pc' := 4) (lc' := [(0, .ref 0), (1, .int (nI n)), (2, .int (nI t)), (3, .int (nI N))]) (stk' := [.int 5052, .ref 0]) (mem' := fm g tp bt a b) (by intro _ _ _; eq_refl) ?_
  obtain ⟨vK, memK, ⟨a0, hK, hRK⟩, hfrK⟩ := fr_keeps5052 (g := g) (tp := tp) (bt := bt) (a := a) (b := b)
  cases hRK
  have hB : fm_B a0 := fm_kept hBa (by decide) hK
  obtain ⟨NC, hNC, eNC⟩ := fm_B_0 hB (i := 0) (n := 10) (by decide) rfl
  obtain ⟨NW, hNW, eNW⟩ := fm_B_0 hB (i := 1) (n := 8) (by decide) rfl
  obtain ⟨NG, hNG, eNG⟩ := fm_B_0 hB (i := 3) (n := 20) (by decide) rfl
  obtain ⟨T, hT9, eT⟩ := fm_T5 hB
  have hD : fm_D a0 a0 T := fm_D_rf hB eT (by omega)
  refine fe_ivV hfrK (by omega) (by rfl) (by rfl) (by rfl) (by rfl) (by rfl) (by rfl) ?_
  refine fe_s 1 (pc' := 8) (lc' := [(0, .ref 0), (1, .int (nI n)), (2, .int (nI t)), (3, .int (nI N))]) (stk' := [.ref 0]) (mem' := fm g tp bt a0 b) (by intro _ _ _; eq_refl) ?_
  obtain ⟨vd101, memd101, ⟨ad101, hDd101, hRd101⟩, hfrd101⟩ := fr_stills (g := g) (tp := tp) (bt := bt) (a := a0) (b := b) hB hD
  cases hRd101
  refine fe_ivV hfrd101 (by omega) (by rfl) (by rfl) (by rfl) (by rfl) (by rfl) (by rfl) ?_
  refine fe_s 4 (pc' := 17) (lc' := [(5, .int 1), (4, .int (nI N)), (0, .ref 0), (1, .int (nI n)), (2, .int (nI t)), (3, .int (nI N))]) (stk' := []) (mem' := fm g tp bt ad101 b) (by intro _ _ _; eq_refl) ?_
  have loop102 : ∀ (r i102 : Nat), i102 + r = n → ∀ x4_102 : Nat, x4_102 ≤ 6 + 6 * i102 → ∀ a_102 : Nat → Nat → Int32, fm_D a0 a_102 T → fe_R 8 gk_m329 17 [(5, .int (nI i102)), (4, .int (nI x4_102)), (0, .ref 0), (1, .int (nI n)), (2, .int (nI t)), (3, .int (nI N))] [] (fm g tp bt a_102 b) (fun R => ∃ (v : Int32) (a' : Nat → Nat → Int32), fm_B a' ∧ (∀ t, fm_okt t = false → a' t = a t) ∧ (∀ i, fm_st i = true → a' 1 i = a 1 i) ∧ R = (some (.int v), fm g tp bt a' b)) := by
    intro r
    induction r with
    | zero =>
      intro i102 hi102 x4_102 hx4_102 a_102 hD_102
      obtain rfl : n = i102 := by omega
      refine fe_s 2 (pc' := 20) (lc' := [(5, .int (nI n)), (4, .int (nI x4_102)), (0, .ref 0), (1, .int (nI n)), (2, .int (nI t)), (3, .int (nI N))]) (stk' := [.int (nI n), .int (nI n)]) (mem' := fm g tp bt a_102 b) (by intro _ _ _; eq_refl) ?_
      refine fe_s 1 (pc' := cond (fx_cb .ge (nI n) (nI n)) 41 23) (lc' := [(5, .int (nI n)), (4, .int (nI x4_102)), (0, .ref 0), (1, .int (nI n)), (2, .int (nI t)), (3, .int (nI N))]) (stk' := []) (mem' := fm g tp bt a_102 b) (by intro _ _ _; eq_refl) ?_
      rw [show (fx_cb .ge (nI n) (nI n)) = true from cb_geT (a := n) (b := n) (by omega) (by omega) (by omega)]
      dsimp only [cond]
      refine fe_s 8 (pc' := 53) (lc' := [(8, .int 0), (7, .int 1), (6, .int 0), (5, .int 0), (4, .int (nI x4_102)), (0, .ref 0), (1, .int (nI n)), (2, .int (nI t)), (3, .int (nI N))]) (stk' := []) (mem' := fm g tp bt a_102 b) (by intro _ _ _; eq_refl) ?_
      obtain ⟨L, hL⟩ : ∃ L, L = x4_102 := ⟨_, rfl⟩
      rw [← hL]
      have hL30 : L ≤ 30 := by omega
      have loop103 : ∀ (r i103 : Nat), i103 + r = L → ∀ x7_103 : Int32, ∀ x6_103 : Nat, ∀ x5_103 : Int32, x6_103 ≤ n → ∀ T_103 : Nat, T_103 ≤ T + i103 → ∀ a_103 : Nat → Nat → Int32, fm_D a0 a_103 T_103 → fe_R 8 gk_m329 53 [(8, .int (nI i103)), (7, .int x7_103), (6, .int (nI x6_103)), (5, .int x5_103), (4, .int (nI L)), (0, .ref 0), (1, .int (nI n)), (2, .int (nI t)), (3, .int (nI N))] [] (fm g tp bt a_103 b) (fun R => ∃ (v : Int32) (a' : Nat → Nat → Int32), fm_B a' ∧ (∀ t, fm_okt t = false → a' t = a t) ∧ (∀ i, fm_st i = true → a' 1 i = a 1 i) ∧ R = (some (.int v), fm g tp bt a' b)) := by
        intro r
        induction r with
        | zero =>
          intro i103 hi103 x7_103 x6_103 x5_103 hx6_103 T_103 hT103 a_103 hD_103
          obtain rfl : L = i103 := by omega
          refine fe_s 2 (pc' := 57) (lc' := [(8, .int (nI L)), (7, .int x7_103), (6, .int (nI x6_103)), (5, .int x5_103), (4, .int (nI L)), (0, .ref 0), (1, .int (nI n)), (2, .int (nI t)), (3, .int (nI N))]) (stk' := [.int (nI L), .int (nI L)]) (mem' := fm g tp bt a_103 b) (by intro _ _ _; eq_refl) ?_
          refine fe_s 1 (pc' := cond (fx_cb .ge (nI L) (nI L)) 175 60) (lc' := [(8, .int (nI L)), (7, .int x7_103), (6, .int (nI x6_103)), (5, .int x5_103), (4, .int (nI L)), (0, .ref 0), (1, .int (nI n)), (2, .int (nI t)), (3, .int (nI N))]) (stk' := []) (mem' := fm g tp bt a_103 b) (by intro _ _ _; eq_refl) ?_
          rw [show (fx_cb .ge (nI L) (nI L)) = true from cb_geT (a := L) (b := L) (by omega) (by omega) (by omega)]
          dsimp only [cond]
          refine fe_s 2 (pc' := 179) (lc' := [(8, .int (nI L)), (7, .int x7_103), (6, .int (nI x6_103)), (5, .int x5_103), (4, .int (nI L)), (0, .ref 0), (1, .int (nI n)), (2, .int (nI t)), (3, .int (nI N))]) (stk' := [.int 5052, .ref 0]) (mem' := fm g tp bt a_103 b) (by intro _ _ _; eq_refl) ?_
          obtain ⟨vz104, memz104, ⟨az104, hSz104, hRz104⟩, hfrz104⟩ := fr_restores5052 (g := g) (tp := tp) (bt := bt) (a := a_103) (b := b)
          cases hRz104
          have hZz104 := fm_restd hB (by decide) hK hD_103 hSz104
          have hEz104 : fm_E a az104 := ⟨hZz104.1, fun t ht => hZz104.2.2 t (fm_okE_t ht), fun i hi => hZz104.2.1 i (by have := fm_st_n hi; omega)⟩
          refine fe_ivV hfrz104 (by omega) (by rfl) (by rfl) (by rfl) (by rfl) (by rfl) (by rfl) ?_
          refine fe_s 1 (pc' := 184) (lc' := [(8, .int (nI L)), (7, .int x7_103), (6, .int (nI x6_103)), (5, .int x5_103), (4, .int (nI L)), (0, .ref 0), (1, .int (nI n)), (2, .int (nI t)), (3, .int (nI N))]) (stk' := [.int x7_103]) (mem' := fm g tp bt az104 b) (by intro _ _ _; eq_refl) ?_
          refine fe_s 1 (pc' := cond (fx_cb .eq x7_103 0) 192 187) (lc' := [(8, .int (nI L)), (7, .int x7_103), (6, .int (nI x6_103)), (5, .int x5_103), (4, .int (nI L)), (0, .ref 0), (1, .int (nI n)), (2, .int (nI t)), (3, .int (nI N))]) (stk' := []) (mem' := fm g tp bt az104 b) (by intro _ _ _; eq_refl) ?_
          cases h105 : fx_cb .eq x7_103 0
          · refine fe_s 2 (pc' := 195) (lc' := [(8, .int (nI L)), (7, .int x7_103), (6, .int (nI x6_103)), (5, .int x5_103), (4, .int (nI L)), (0, .ref 0), (1, .int (nI n)), (2, .int (nI t)), (3, .int (nI N))]) (stk' := [.int (nI L)]) (mem' := fm g tp bt az104 b) (by intro _ _ _; eq_refl) ?_
            exact fe_ret ⟨_, _, hZz104.1, hZz104.2.2, (fun i hi => hZz104.2.1 i (by have := fm_st_n hi; omega)), rfl⟩ (by rfl) (by rfl) (by rfl)
          · refine fe_s 1 (pc' := 195) (lc' := [(8, .int (nI L)), (7, .int x7_103), (6, .int (nI x6_103)), (5, .int x5_103), (4, .int (nI L)), (0, .ref 0), (1, .int (nI n)), (2, .int (nI t)), (3, .int (nI N))]) (stk' := [.int 1000000]) (mem' := fm g tp bt az104 b) (by intro _ _ _; eq_refl) ?_
            exact fe_ret ⟨_, _, hZz104.1, hZz104.2.2, (fun i hi => hZz104.2.1 i (by have := fm_st_n hi; omega)), rfl⟩ (by rfl) (by rfl) (by rfl)
        | succ r ih103 =>
          intro i103 hi103 x7_103 x6_103 x5_103 hx6_103 T_103 hT103 a_103 hD_103
          have hl103 : i103 < L := by omega
          refine fe_s 2 (pc' := 57) (lc' := [(8, .int (nI i103)), (7, .int x7_103), (6, .int (nI x6_103)), (5, .int x5_103), (4, .int (nI L)), (0, .ref 0), (1, .int (nI n)), (2, .int (nI t)), (3, .int (nI N))]) (stk' := [.int (nI L), .int (nI i103)]) (mem' := fm g tp bt a_103 b) (by intro _ _ _; eq_refl) ?_
          refine fe_s 1 (pc' := cond (fx_cb .ge (nI i103) (nI L)) 175 60) (lc' := [(8, .int (nI i103)), (7, .int x7_103), (6, .int (nI x6_103)), (5, .int x5_103), (4, .int (nI L)), (0, .ref 0), (1, .int (nI n)), (2, .int (nI t)), (3, .int (nI N))]) (stk' := []) (mem' := fm g tp bt a_103 b) (by intro _ _ _; eq_refl) ?_
          rw [show (fx_cb .ge (nI i103) (nI L)) = false from cb_geF (a := i103) (b := L) (by omega) (by omega) (by omega)]
          dsimp only [cond]
          refine fe_s 1 (pc' := 62) (lc' := [(8, .int (nI i103)), (7, .int x7_103), (6, .int (nI x6_103)), (5, .int x5_103), (4, .int (nI L)), (0, .ref 0), (1, .int (nI n)), (2, .int (nI t)), (3, .int (nI N))]) (stk' := [.int x7_103]) (mem' := fm g tp bt a_103 b) (by intro _ _ _; eq_refl) ?_
          refine fe_s 1 (pc' := cond (fx_cb .eq x7_103 0) 175 65) (lc' := [(8, .int (nI i103)), (7, .int x7_103), (6, .int (nI x6_103)), (5, .int x5_103), (4, .int (nI L)), (0, .ref 0), (1, .int (nI n)), (2, .int (nI t)), (3, .int (nI N))]) (stk' := []) (mem' := fm g tp bt a_103 b) (by intro _ _ _; eq_refl) ?_
          cases h106 : fx_cb .eq x7_103 0
          · refine fe_s 2 (pc' := 68) (lc' := [(8, .int (nI i103)), (7, .int x7_103), (6, .int (nI x6_103)), (5, .int x5_103), (4, .int (nI L)), (0, .ref 0), (1, .int (nI n)), (2, .int (nI t)), (3, .int (nI N))]) (stk' := [.int (nI n), .int (nI x6_103)]) (mem' := fm g tp bt a_103 b) (by intro _ _ _; eq_refl) ?_
            refine fe_s 1 (pc' := cond (fx_cb .ge (nI x6_103) (nI n)) 116 71) (lc' := [(8, .int (nI i103)), (7, .int x7_103), (6, .int (nI x6_103)), (5, .int x5_103), (4, .int (nI L)), (0, .ref 0), (1, .int (nI n)), (2, .int (nI t)), (3, .int (nI N))]) (stk' := []) (mem' := fm g tp bt a_103 b) (by intro _ _ _; eq_refl) ?_
            by_cases h107 : n ≤ x6_103
            · rw [show (fx_cb .ge (nI x6_103) (nI n)) = true from cb_geT (a := x6_103) (b := n) (by omega) (by omega) (by omega)]
              dsimp only [cond]
              refine fe_s 1 (pc' := 117) (lc' := [(8, .int (nI i103)), (7, .int x7_103), (6, .int (nI x6_103)), (5, .int x5_103), (4, .int (nI L)), (0, .ref 0), (1, .int (nI n)), (2, .int (nI t)), (3, .int (nI N))]) (stk' := [.ref 0]) (mem' := fm g tp bt a_103 b) (by intro _ _ _; eq_refl) ?_
              obtain ⟨vd108, memd108, ⟨xd108, ad108, hDd108, hRd108⟩, hfrd108⟩ := fr_goes (T := T_103) (g := g) (tp := tp) (bt := bt) (a := a_103) (b := b) hB hD_103 (by omega)
              cases hRd108
              refine fe_ivV hfrd108 (by omega) (by rfl) (by rfl) (by rfl) (by rfl) (by rfl) (by rfl) ?_
              refine fe_s 1 (pc' := cond (fx_cb .ne xd108 0) 127 123) (lc' := [(8, .int (nI i103)), (7, .int x7_103), (6, .int (nI x6_103)), (5, .int x5_103), (4, .int (nI L)), (0, .ref 0), (1, .int (nI n)), (2, .int (nI t)), (3, .int (nI N))]) (stk' := []) (mem' := fm g tp bt ad108 b) (by intro _ _ _; eq_refl) ?_
              cases h109 : fx_cb .ne xd108 0
              · refine fe_s 5 (pc' := 133) (lc' := [(9, .int 0), (7, .int 1), (8, .int (nI i103)), (6, .int (nI x6_103)), (5, .int x5_103), (4, .int (nI L)), (0, .ref 0), (1, .int (nI n)), (2, .int (nI t)), (3, .int (nI N))]) (stk' := []) (mem' := fm g tp bt ad108 b) (by intro _ _ _; eq_refl) ?_
                have loop110 : ∀ (r i110 : Nat), i110 + r = n → ∀ x7_110 : Int32, ∀ a_110 : Nat → Nat → Int32, fm_D a0 a_110 (T_103 + 1) → fe_R 8 gk_m329 133 [(9, .int (nI i110)), (7, .int x7_110), (8, .int (nI i103)), (6, .int (nI x6_103)), (5, .int x5_103), (4, .int (nI L)), (0, .ref 0), (1, .int (nI n)), (2, .int (nI t)), (3, .int (nI N))] [] (fm g tp bt a_110 b) (fun R => ∃ (v : Int32) (a' : Nat → Nat → Int32), fm_B a' ∧ (∀ t, fm_okt t = false → a' t = a t) ∧ (∀ i, fm_st i = true → a' 1 i = a 1 i) ∧ R = (some (.int v), fm g tp bt a' b)) := by
                  intro r
                  induction r with
                  | zero =>
                    intro i110 hi110 x7_110 a_110 hD_110
                    obtain rfl : n = i110 := by omega
                    refine fe_s 2 (pc' := 136) (lc' := [(9, .int (nI n)), (7, .int x7_110), (8, .int (nI i103)), (6, .int (nI x6_103)), (5, .int x5_103), (4, .int (nI L)), (0, .ref 0), (1, .int (nI n)), (2, .int (nI t)), (3, .int (nI N))]) (stk' := [.int (nI n), .int (nI n)]) (mem' := fm g tp bt a_110 b) (by intro _ _ _; eq_refl) ?_
                    refine fe_s 1 (pc' := cond (fx_cb .ge (nI n) (nI n)) 169 139) (lc' := [(9, .int (nI n)), (7, .int x7_110), (8, .int (nI i103)), (6, .int (nI x6_103)), (5, .int x5_103), (4, .int (nI L)), (0, .ref 0), (1, .int (nI n)), (2, .int (nI t)), (3, .int (nI N))]) (stk' := []) (mem' := fm g tp bt a_110 b) (by intro _ _ _; eq_refl) ?_
                    rw [show (fx_cb .ge (nI n) (nI n)) = true from cb_geT (a := n) (b := n) (by omega) (by omega) (by omega)]
                    dsimp only [cond]
                    refine fe_s 1 (pc' := 172) (lc' := [(8, .int ((nI i103) + 1)), (9, .int (nI n)), (7, .int x7_110), (6, .int (nI x6_103)), (5, .int x5_103), (4, .int (nI L)), (0, .ref 0), (1, .int (nI n)), (2, .int (nI t)), (3, .int (nI N))]) (stk' := []) (mem' := fm g tp bt a_110 b) (by intro _ _ _; eq_refl) ?_
                    rw [show ((nI i103) + 1 : Int32) = nI (i103 + 1) from by simp only [show (1 : Int32) = nI 1 from rfl, nI_add, fm_mul]]
                    refine fe_s 1 (pc' := fx_to 172 (-119)) (lc' := [(8, .int (nI (i103 + 1))), (9, .int (nI n)), (7, .int x7_110), (6, .int (nI x6_103)), (5, .int x5_103), (4, .int (nI L)), (0, .ref 0), (1, .int (nI n)), (2, .int (nI t)), (3, .int (nI N))]) (stk' := []) (mem' := fm g tp bt a_110 b) (by intro _ _ _; eq_refl) ?_
                    rw [show fx_to 172 (-119) = 53 from by decide]
                    refine fe_w (lc' := [(8, .int (nI (i103 + 1))), (7, .int x7_110), (6, .int (nI x6_103)), (5, .int x5_103), (4, .int (nI L)), (0, .ref 0), (1, .int (nI n)), (2, .int (nI t)), (3, .int (nI N))]) ⟨rfl, rfl, rfl, rfl, rfl, rfl, rfl, rfl, rfl, trivial⟩ (by show List.Nodup [8, 7, 6, 5, 4, 0, 1, 2, 3]; decide) (by show List.Nodup [8, 9, 7, 6, 5, 4, 0, 1, 2, 3]; decide) ?_
                    exact ih103 (i103 + 1) (by omega) _ _ _ (by omega) (T_103 + 1) (by omega) a_110 hD_110
                  | succ r ih110 =>
                    intro i110 hi110 x7_110 a_110 hD_110
                    have hl110 : i110 < n := by omega
                    refine fe_s 2 (pc' := 136) (lc' := [(9, .int (nI i110)), (7, .int x7_110), (8, .int (nI i103)), (6, .int (nI x6_103)), (5, .int x5_103), (4, .int (nI L)), (0, .ref 0), (1, .int (nI n)), (2, .int (nI t)), (3, .int (nI N))]) (stk' := [.int (nI n), .int (nI i110)]) (mem' := fm g tp bt a_110 b) (by intro _ _ _; eq_refl) ?_
                    refine fe_s 1 (pc' := cond (fx_cb .ge (nI i110) (nI n)) 169 139) (lc' := [(9, .int (nI i110)), (7, .int x7_110), (8, .int (nI i103)), (6, .int (nI x6_103)), (5, .int x5_103), (4, .int (nI L)), (0, .ref 0), (1, .int (nI n)), (2, .int (nI t)), (3, .int (nI N))]) (stk' := []) (mem' := fm g tp bt a_110 b) (by intro _ _ _; eq_refl) ?_
                    rw [show (fx_cb .ge (nI i110) (nI n)) = false from cb_geF (a := i110) (b := n) (by omega) (by omega) (by omega)]
                    dsimp only [cond]
                    refine fe_s 5 (pc' := 148) (lc' := [(9, .int (nI i110)), (7, .int x7_110), (8, .int (nI i103)), (6, .int (nI x6_103)), (5, .int x5_103), (4, .int (nI L)), (0, .ref 0), (1, .int (nI n)), (2, .int (nI t)), (3, .int (nI N))]) (stk' := [.int (nI i110), .ref 10, .ref 0, .int x7_110]) (mem' := fm g tp bt a_110 b) (by intro _ _ _; eq_refl) ?_
                    refine fe_ldI (by rfl) (by rfl) (fx_inN (i := i110) (by omega) (by omega)) ?_
                    rw [show Int32.toNatClampNeg (nI i110) = i110 from nI_clamp (by omega)]
                    obtain ⟨u111, hu111, eu111⟩ := fm_tu_at htu hn4 (i := i110) (by omega)
                    rw [show a_110 10 (i110) = nI u111 from by rw [hD_110.1 10 rfl, hK.1 10 (by decide)]; exact eu111]
                    obtain ⟨v112, z113, hv112⟩ := fq_isWet (V := u111) (g := g) (tp := tp) (bt := bt) (a := a_110) (b := b) (by omega)
                    refine fe_ivV hv112 (by omega) (by rfl) (by rfl) (by rfl) (by rfl) (by rfl) (by rfl) ?_
                    rcases z113 with rfl | rfl
                    · refine fe_s 1 (pc' := cond (fx_cb .ne 0 0) 159 155) (lc' := [(9, .int (nI i110)), (7, .int x7_110), (8, .int (nI i103)), (6, .int (nI x6_103)), (5, .int x5_103), (4, .int (nI L)), (0, .ref 0), (1, .int (nI n)), (2, .int (nI t)), (3, .int (nI N))]) (stk' := [.int x7_110]) (mem' := fm g tp bt a_110 b) (by intro _ _ _; eq_refl) ?_
                      rw [show (fx_cb .ne 0 0) = false from by decide]
                      dsimp only [cond]
                      refine fe_s 6 (pc' := 133) (lc' := [(9, .int ((nI i110) + 1)), (7, .int (x7_110 &&& 1)), (8, .int (nI i103)), (6, .int (nI x6_103)), (5, .int x5_103), (4, .int (nI L)), (0, .ref 0), (1, .int (nI n)), (2, .int (nI t)), (3, .int (nI N))]) (stk' := []) (mem' := fm g tp bt a_110 b) (by intro _ _ _; eq_refl) ?_
                      rw [show ((nI i110) + 1 : Int32) = nI (i110 + 1) from by simp only [show (1 : Int32) = nI 1 from rfl, nI_add, fm_mul]]
                      refine fe_w (lc' := [(9, .int (nI (i110 + 1))), (7, .int (x7_110 &&& 1)), (8, .int (nI i103)), (6, .int (nI x6_103)), (5, .int x5_103), (4, .int (nI L)), (0, .ref 0), (1, .int (nI n)), (2, .int (nI t)), (3, .int (nI N))]) ⟨rfl, rfl, rfl, rfl, rfl, rfl, rfl, rfl, rfl, rfl, trivial⟩ (by show List.Nodup [9, 7, 8, 6, 5, 4, 0, 1, 2, 3]; decide) (by show List.Nodup [9, 7, 8, 6, 5, 4, 0, 1, 2, 3]; decide) ?_
                      exact ih110 (i110 + 1) (by omega) _ a_110 hD_110
                    · refine fe_s 1 (pc' := cond (fx_cb .ne 1 0) 159 155) (lc' := [(9, .int (nI i110)), (7, .int x7_110), (8, .int (nI i103)), (6, .int (nI x6_103)), (5, .int x5_103), (4, .int (nI L)), (0, .ref 0), (1, .int (nI n)), (2, .int (nI t)), (3, .int (nI N))]) (stk' := [.int x7_110]) (mem' := fm g tp bt a_110 b) (by intro _ _ _; eq_refl) ?_
                      rw [show (fx_cb .ne 1 0) = true from by decide]
                      dsimp only [cond]
                      refine fe_s 5 (pc' := 133) (lc' := [(9, .int ((nI i110) + 1)), (7, .int (x7_110 &&& 0)), (8, .int (nI i103)), (6, .int (nI x6_103)), (5, .int x5_103), (4, .int (nI L)), (0, .ref 0), (1, .int (nI n)), (2, .int (nI t)), (3, .int (nI N))]) (stk' := []) (mem' := fm g tp bt a_110 b) (by intro _ _ _; eq_refl) ?_
                      rw [show ((nI i110) + 1 : Int32) = nI (i110 + 1) from by simp only [show (1 : Int32) = nI 1 from rfl, nI_add, fm_mul]]
                      refine fe_w (lc' := [(9, .int (nI (i110 + 1))), (7, .int (x7_110 &&& 0)), (8, .int (nI i103)), (6, .int (nI x6_103)), (5, .int x5_103), (4, .int (nI L)), (0, .ref 0), (1, .int (nI n)), (2, .int (nI t)), (3, .int (nI N))]) ⟨rfl, rfl, rfl, rfl, rfl, rfl, rfl, rfl, rfl, rfl, trivial⟩ (by show List.Nodup [9, 7, 8, 6, 5, 4, 0, 1, 2, 3]; decide) (by show List.Nodup [9, 7, 8, 6, 5, 4, 0, 1, 2, 3]; decide) ?_
                      exact ih110 (i110 + 1) (by omega) _ a_110 hD_110
                refine fe_w (lc' := [(9, .int (nI 0)), (7, .int 1), (8, .int (nI i103)), (6, .int (nI x6_103)), (5, .int x5_103), (4, .int (nI L)), (0, .ref 0), (1, .int (nI n)), (2, .int (nI t)), (3, .int (nI N))]) ⟨rfl, rfl, rfl, rfl, rfl, rfl, rfl, rfl, rfl, rfl, trivial⟩ (by show List.Nodup [9, 7, 8, 6, 5, 4, 0, 1, 2, 3]; decide) (by show List.Nodup [9, 7, 8, 6, 5, 4, 0, 1, 2, 3]; decide) ?_
                exact loop110 (n - 0) 0 (by omega) _ ad108 hDd108
              · refine fe_s 4 (pc' := 133) (lc' := [(9, .int 0), (7, .int 0), (8, .int (nI i103)), (6, .int (nI x6_103)), (5, .int x5_103), (4, .int (nI L)), (0, .ref 0), (1, .int (nI n)), (2, .int (nI t)), (3, .int (nI N))]) (stk' := []) (mem' := fm g tp bt ad108 b) (by intro _ _ _; eq_refl) ?_
                have loop114 : ∀ (r i114 : Nat), i114 + r = n → ∀ x7_114 : Int32, ∀ a_114 : Nat → Nat → Int32, fm_D a0 a_114 (T_103 + 1) → fe_R 8 gk_m329 133 [(9, .int (nI i114)), (7, .int x7_114), (8, .int (nI i103)), (6, .int (nI x6_103)), (5, .int x5_103), (4, .int (nI L)), (0, .ref 0), (1, .int (nI n)), (2, .int (nI t)), (3, .int (nI N))] [] (fm g tp bt a_114 b) (fun R => ∃ (v : Int32) (a' : Nat → Nat → Int32), fm_B a' ∧ (∀ t, fm_okt t = false → a' t = a t) ∧ (∀ i, fm_st i = true → a' 1 i = a 1 i) ∧ R = (some (.int v), fm g tp bt a' b)) := by
                  intro r
                  induction r with
                  | zero =>
                    intro i114 hi114 x7_114 a_114 hD_114
                    obtain rfl : n = i114 := by omega
                    refine fe_s 2 (pc' := 136) (lc' := [(9, .int (nI n)), (7, .int x7_114), (8, .int (nI i103)), (6, .int (nI x6_103)), (5, .int x5_103), (4, .int (nI L)), (0, .ref 0), (1, .int (nI n)), (2, .int (nI t)), (3, .int (nI N))]) (stk' := [.int (nI n), .int (nI n)]) (mem' := fm g tp bt a_114 b) (by intro _ _ _; eq_refl) ?_
                    refine fe_s 1 (pc' := cond (fx_cb .ge (nI n) (nI n)) 169 139) (lc' := [(9, .int (nI n)), (7, .int x7_114), (8, .int (nI i103)), (6, .int (nI x6_103)), (5, .int x5_103), (4, .int (nI L)), (0, .ref 0), (1, .int (nI n)), (2, .int (nI t)), (3, .int (nI N))]) (stk' := []) (mem' := fm g tp bt a_114 b) (by intro _ _ _; eq_refl) ?_
                    rw [show (fx_cb .ge (nI n) (nI n)) = true from cb_geT (a := n) (b := n) (by omega) (by omega) (by omega)]
                    dsimp only [cond]
                    refine fe_s 1 (pc' := 172) (lc' := [(8, .int ((nI i103) + 1)), (9, .int (nI n)), (7, .int x7_114), (6, .int (nI x6_103)), (5, .int x5_103), (4, .int (nI L)), (0, .ref 0), (1, .int (nI n)), (2, .int (nI t)), (3, .int (nI N))]) (stk' := []) (mem' := fm g tp bt a_114 b) (by intro _ _ _; eq_refl) ?_
                    rw [show ((nI i103) + 1 : Int32) = nI (i103 + 1) from by simp only [show (1 : Int32) = nI 1 from rfl, nI_add, fm_mul]]
                    refine fe_s 1 (pc' := fx_to 172 (-119)) (lc' := [(8, .int (nI (i103 + 1))), (9, .int (nI n)), (7, .int x7_114), (6, .int (nI x6_103)), (5, .int x5_103), (4, .int (nI L)), (0, .ref 0), (1, .int (nI n)), (2, .int (nI t)), (3, .int (nI N))]) (stk' := []) (mem' := fm g tp bt a_114 b) (by intro _ _ _; eq_refl) ?_
                    rw [show fx_to 172 (-119) = 53 from by decide]
                    refine fe_w (lc' := [(8, .int (nI (i103 + 1))), (7, .int x7_114), (6, .int (nI x6_103)), (5, .int x5_103), (4, .int (nI L)), (0, .ref 0), (1, .int (nI n)), (2, .int (nI t)), (3, .int (nI N))]) ⟨rfl, rfl, rfl, rfl, rfl, rfl, rfl, rfl, rfl, trivial⟩ (by show List.Nodup [8, 7, 6, 5, 4, 0, 1, 2, 3]; decide) (by show List.Nodup [8, 9, 7, 6, 5, 4, 0, 1, 2, 3]; decide) ?_
                    exact ih103 (i103 + 1) (by omega) _ _ _ (by omega) (T_103 + 1) (by omega) a_114 hD_114
                  | succ r ih114 =>
                    intro i114 hi114 x7_114 a_114 hD_114
                    have hl114 : i114 < n := by omega
                    refine fe_s 2 (pc' := 136) (lc' := [(9, .int (nI i114)), (7, .int x7_114), (8, .int (nI i103)), (6, .int (nI x6_103)), (5, .int x5_103), (4, .int (nI L)), (0, .ref 0), (1, .int (nI n)), (2, .int (nI t)), (3, .int (nI N))]) (stk' := [.int (nI n), .int (nI i114)]) (mem' := fm g tp bt a_114 b) (by intro _ _ _; eq_refl) ?_
                    refine fe_s 1 (pc' := cond (fx_cb .ge (nI i114) (nI n)) 169 139) (lc' := [(9, .int (nI i114)), (7, .int x7_114), (8, .int (nI i103)), (6, .int (nI x6_103)), (5, .int x5_103), (4, .int (nI L)), (0, .ref 0), (1, .int (nI n)), (2, .int (nI t)), (3, .int (nI N))]) (stk' := []) (mem' := fm g tp bt a_114 b) (by intro _ _ _; eq_refl) ?_
                    rw [show (fx_cb .ge (nI i114) (nI n)) = false from cb_geF (a := i114) (b := n) (by omega) (by omega) (by omega)]
                    dsimp only [cond]
                    refine fe_s 5 (pc' := 148) (lc' := [(9, .int (nI i114)), (7, .int x7_114), (8, .int (nI i103)), (6, .int (nI x6_103)), (5, .int x5_103), (4, .int (nI L)), (0, .ref 0), (1, .int (nI n)), (2, .int (nI t)), (3, .int (nI N))]) (stk' := [.int (nI i114), .ref 10, .ref 0, .int x7_114]) (mem' := fm g tp bt a_114 b) (by intro _ _ _; eq_refl) ?_
                    refine fe_ldI (by rfl) (by rfl) (fx_inN (i := i114) (by omega) (by omega)) ?_
                    rw [show Int32.toNatClampNeg (nI i114) = i114 from nI_clamp (by omega)]
                    obtain ⟨u115, hu115, eu115⟩ := fm_tu_at htu hn4 (i := i114) (by omega)
                    rw [show a_114 10 (i114) = nI u115 from by rw [hD_114.1 10 rfl, hK.1 10 (by decide)]; exact eu115]
                    obtain ⟨v116, z117, hv116⟩ := fq_isWet (V := u115) (g := g) (tp := tp) (bt := bt) (a := a_114) (b := b) (by omega)
                    refine fe_ivV hv116 (by omega) (by rfl) (by rfl) (by rfl) (by rfl) (by rfl) (by rfl) ?_
                    rcases z117 with rfl | rfl
                    · refine fe_s 1 (pc' := cond (fx_cb .ne 0 0) 159 155) (lc' := [(9, .int (nI i114)), (7, .int x7_114), (8, .int (nI i103)), (6, .int (nI x6_103)), (5, .int x5_103), (4, .int (nI L)), (0, .ref 0), (1, .int (nI n)), (2, .int (nI t)), (3, .int (nI N))]) (stk' := [.int x7_114]) (mem' := fm g tp bt a_114 b) (by intro _ _ _; eq_refl) ?_
                      rw [show (fx_cb .ne 0 0) = false from by decide]
                      dsimp only [cond]
                      refine fe_s 6 (pc' := 133) (lc' := [(9, .int ((nI i114) + 1)), (7, .int (x7_114 &&& 1)), (8, .int (nI i103)), (6, .int (nI x6_103)), (5, .int x5_103), (4, .int (nI L)), (0, .ref 0), (1, .int (nI n)), (2, .int (nI t)), (3, .int (nI N))]) (stk' := []) (mem' := fm g tp bt a_114 b) (by intro _ _ _; eq_refl) ?_
                      rw [show ((nI i114) + 1 : Int32) = nI (i114 + 1) from by simp only [show (1 : Int32) = nI 1 from rfl, nI_add, fm_mul]]
                      refine fe_w (lc' := [(9, .int (nI (i114 + 1))), (7, .int (x7_114 &&& 1)), (8, .int (nI i103)), (6, .int (nI x6_103)), (5, .int x5_103), (4, .int (nI L)), (0, .ref 0), (1, .int (nI n)), (2, .int (nI t)), (3, .int (nI N))]) ⟨rfl, rfl, rfl, rfl, rfl, rfl, rfl, rfl, rfl, rfl, trivial⟩ (by show List.Nodup [9, 7, 8, 6, 5, 4, 0, 1, 2, 3]; decide) (by show List.Nodup [9, 7, 8, 6, 5, 4, 0, 1, 2, 3]; decide) ?_
                      exact ih114 (i114 + 1) (by omega) _ a_114 hD_114
                    · refine fe_s 1 (pc' := cond (fx_cb .ne 1 0) 159 155) (lc' := [(9, .int (nI i114)), (7, .int x7_114), (8, .int (nI i103)), (6, .int (nI x6_103)), (5, .int x5_103), (4, .int (nI L)), (0, .ref 0), (1, .int (nI n)), (2, .int (nI t)), (3, .int (nI N))]) (stk' := [.int x7_114]) (mem' := fm g tp bt a_114 b) (by intro _ _ _; eq_refl) ?_
                      rw [show (fx_cb .ne 1 0) = true from by decide]
                      dsimp only [cond]
                      refine fe_s 5 (pc' := 133) (lc' := [(9, .int ((nI i114) + 1)), (7, .int (x7_114 &&& 0)), (8, .int (nI i103)), (6, .int (nI x6_103)), (5, .int x5_103), (4, .int (nI L)), (0, .ref 0), (1, .int (nI n)), (2, .int (nI t)), (3, .int (nI N))]) (stk' := []) (mem' := fm g tp bt a_114 b) (by intro _ _ _; eq_refl) ?_
                      rw [show ((nI i114) + 1 : Int32) = nI (i114 + 1) from by simp only [show (1 : Int32) = nI 1 from rfl, nI_add, fm_mul]]
                      refine fe_w (lc' := [(9, .int (nI (i114 + 1))), (7, .int (x7_114 &&& 0)), (8, .int (nI i103)), (6, .int (nI x6_103)), (5, .int x5_103), (4, .int (nI L)), (0, .ref 0), (1, .int (nI n)), (2, .int (nI t)), (3, .int (nI N))]) ⟨rfl, rfl, rfl, rfl, rfl, rfl, rfl, rfl, rfl, rfl, trivial⟩ (by show List.Nodup [9, 7, 8, 6, 5, 4, 0, 1, 2, 3]; decide) (by show List.Nodup [9, 7, 8, 6, 5, 4, 0, 1, 2, 3]; decide) ?_
                      exact ih114 (i114 + 1) (by omega) _ a_114 hD_114
                refine fe_w (lc' := [(9, .int (nI 0)), (7, .int 0), (8, .int (nI i103)), (6, .int (nI x6_103)), (5, .int x5_103), (4, .int (nI L)), (0, .ref 0), (1, .int (nI n)), (2, .int (nI t)), (3, .int (nI N))]) ⟨rfl, rfl, rfl, rfl, rfl, rfl, rfl, rfl, rfl, rfl, trivial⟩ (by show List.Nodup [9, 7, 8, 6, 5, 4, 0, 1, 2, 3]; decide) (by show List.Nodup [9, 7, 8, 6, 5, 4, 0, 1, 2, 3]; decide) ?_
                exact loop114 (n - 0) 0 (by omega) _ ad108 hDd108
            · rw [show (fx_cb .ge (nI x6_103) (nI n)) = false from cb_geF (a := x6_103) (b := n) (by omega) (by omega) (by omega)]
              dsimp only [cond]
              refine fe_s 2 (pc' := 75) (lc' := [(8, .int (nI i103)), (7, .int x7_103), (6, .int (nI x6_103)), (5, .int x5_103), (4, .int (nI L)), (0, .ref 0), (1, .int (nI n)), (2, .int (nI t)), (3, .int (nI N))]) (stk' := [.int x5_103, .int (nI i103)]) (mem' := fm g tp bt a_103 b) (by intro _ _ _; eq_refl) ?_
              refine fe_s 1 (pc' := cond (fx_cb .ne (nI i103) x5_103) 116 78) (lc' := [(8, .int (nI i103)), (7, .int x7_103), (6, .int (nI x6_103)), (5, .int x5_103), (4, .int (nI L)), (0, .ref 0), (1, .int (nI n)), (2, .int (nI t)), (3, .int (nI N))]) (stk' := []) (mem' := fm g tp bt a_103 b) (by intro _ _ _; eq_refl) ?_
              cases h118 : fx_cb .ne (nI i103) x5_103
              · refine fe_s 4 (pc' := 85) (lc' := [(8, .int (nI i103)), (7, .int x7_103), (6, .int (nI x6_103)), (5, .int x5_103), (4, .int (nI L)), (0, .ref 0), (1, .int (nI n)), (2, .int (nI t)), (3, .int (nI N))]) (stk' := [.int (nI x6_103), .ref 10, .ref 0]) (mem' := fm g tp bt a_103 b) (by intro _ _ _; eq_refl) ?_
                refine fe_ldI (by rfl) (by rfl) (fx_inN (i := x6_103) (by omega) (by omega)) ?_
                rw [show Int32.toNatClampNeg (nI x6_103) = x6_103 from nI_clamp (by omega)]
                obtain ⟨u119, hu119, eu119⟩ := fm_tu_at htu hn4 (i := x6_103) (by omega)
                rw [show a_103 10 (x6_103) = nI u119 from by rw [hD_103.1 10 rfl, hK.1 10 (by decide)]; exact eu119]
                refine fe_s 2 (pc' := 88) (lc' := [(8, .int (nI i103)), (7, .int x7_103), (6, .int (nI x6_103)), (5, .int x5_103), (4, .int (nI L)), (0, .ref 0), (1, .int (nI n)), (2, .int (nI t)), (3, .int (nI N))]) (stk' := [.int (nI N), .int (nI t), .int (nI u119), .ref 0]) (mem' := fm g tp bt a_103 b) (by intro _ _ _; eq_refl) ?_
                obtain ⟨vd120, memd120, ⟨ad120, hDd120, hRd120⟩, hfrd120⟩ := fr_sets (W := u119) (t := t) (n := N) (g := g) (tp := tp) (bt := bt) (a := a_103) (b := b) hB hD_103 (by omega) (by omega) (by omega) hc
                cases hRd120
                refine fe_ivV hfrd120 (by omega) (by rfl) (by rfl) (by rfl) (by rfl) (by rfl) (by rfl) ?_
                refine fe_s 4 (pc' := 99) (lc' := [(6, .int ((nI x6_103) + 1)), (8, .int (nI i103)), (7, .int x7_103), (5, .int x5_103), (4, .int (nI L)), (0, .ref 0), (1, .int (nI n)), (2, .int (nI t)), (3, .int (nI N))]) (stk' := [.int (nI n), .int ((nI x6_103) + 1), .int x5_103]) (mem' := fm g tp bt ad120 b) (by intro _ _ _; eq_refl) ?_
                rw [show ((nI x6_103) + 1 : Int32) = nI (x6_103 + 1) from by simp only [show (1 : Int32) = nI 1 from rfl, nI_add, fm_mul]]
                refine fe_s 1 (pc' := cond (fx_cb .ge (nI (x6_103 + 1)) (nI n)) 112 102) (lc' := [(6, .int (nI (x6_103 + 1))), (8, .int (nI i103)), (7, .int x7_103), (5, .int x5_103), (4, .int (nI L)), (0, .ref 0), (1, .int (nI n)), (2, .int (nI t)), (3, .int (nI N))]) (stk' := [.int x5_103]) (mem' := fm g tp bt ad120 b) (by intro _ _ _; eq_refl) ?_
                by_cases h121 : n ≤ (x6_103 + 1)
                · rw [show (fx_cb .ge (nI (x6_103 + 1)) (nI n)) = true from cb_geT (a := x6_103 + 1) (b := n) (by omega) (by omega) (by omega)]
                  dsimp only [cond]
                  refine fe_s 4 (pc' := 117) (lc' := [(5, .int (x5_103 + 0)), (6, .int (nI (x6_103 + 1))), (8, .int (nI i103)), (7, .int x7_103), (4, .int (nI L)), (0, .ref 0), (1, .int (nI n)), (2, .int (nI t)), (3, .int (nI N))]) (stk' := [.ref 0]) (mem' := fm g tp bt ad120 b) (by intro _ _ _; eq_refl) ?_
                  obtain ⟨vd122, memd122, ⟨xd122, ad122, hDd122, hRd122⟩, hfrd122⟩ := fr_goes (T := T_103) (g := g) (tp := tp) (bt := bt) (a := ad120) (b := b) hB hDd120 (by omega)
                  cases hRd122
                  refine fe_ivV hfrd122 (by omega) (by rfl) (by rfl) (by rfl) (by rfl) (by rfl) (by rfl) ?_
                  refine fe_s 1 (pc' := cond (fx_cb .ne xd122 0) 127 123) (lc' := [(5, .int (x5_103 + 0)), (6, .int (nI (x6_103 + 1))), (8, .int (nI i103)), (7, .int x7_103), (4, .int (nI L)), (0, .ref 0), (1, .int (nI n)), (2, .int (nI t)), (3, .int (nI N))]) (stk' := []) (mem' := fm g tp bt ad122 b) (by intro _ _ _; eq_refl) ?_
                  cases h123 : fx_cb .ne xd122 0
                  · refine fe_s 5 (pc' := 133) (lc' := [(9, .int 0), (7, .int 1), (5, .int (x5_103 + 0)), (6, .int (nI (x6_103 + 1))), (8, .int (nI i103)), (4, .int (nI L)), (0, .ref 0), (1, .int (nI n)), (2, .int (nI t)), (3, .int (nI N))]) (stk' := []) (mem' := fm g tp bt ad122 b) (by intro _ _ _; eq_refl) ?_
                    have loop124 : ∀ (r i124 : Nat), i124 + r = n → ∀ x7_124 : Int32, ∀ a_124 : Nat → Nat → Int32, fm_D a0 a_124 (T_103 + 1) → fe_R 8 gk_m329 133 [(9, .int (nI i124)), (7, .int x7_124), (5, .int (x5_103 + 0)), (6, .int (nI (x6_103 + 1))), (8, .int (nI i103)), (4, .int (nI L)), (0, .ref 0), (1, .int (nI n)), (2, .int (nI t)), (3, .int (nI N))] [] (fm g tp bt a_124 b) (fun R => ∃ (v : Int32) (a' : Nat → Nat → Int32), fm_B a' ∧ (∀ t, fm_okt t = false → a' t = a t) ∧ (∀ i, fm_st i = true → a' 1 i = a 1 i) ∧ R = (some (.int v), fm g tp bt a' b)) := by
                      intro r
                      induction r with
                      | zero =>
                        intro i124 hi124 x7_124 a_124 hD_124
                        obtain rfl : n = i124 := by omega
                        refine fe_s 2 (pc' := 136) (lc' := [(9, .int (nI n)), (7, .int x7_124), (5, .int (x5_103 + 0)), (6, .int (nI (x6_103 + 1))), (8, .int (nI i103)), (4, .int (nI L)), (0, .ref 0), (1, .int (nI n)), (2, .int (nI t)), (3, .int (nI N))]) (stk' := [.int (nI n), .int (nI n)]) (mem' := fm g tp bt a_124 b) (by intro _ _ _; eq_refl) ?_
                        refine fe_s 1 (pc' := cond (fx_cb .ge (nI n) (nI n)) 169 139) (lc' := [(9, .int (nI n)), (7, .int x7_124), (5, .int (x5_103 + 0)), (6, .int (nI (x6_103 + 1))), (8, .int (nI i103)), (4, .int (nI L)), (0, .ref 0), (1, .int (nI n)), (2, .int (nI t)), (3, .int (nI N))]) (stk' := []) (mem' := fm g tp bt a_124 b) (by intro _ _ _; eq_refl) ?_
                        rw [show (fx_cb .ge (nI n) (nI n)) = true from cb_geT (a := n) (b := n) (by omega) (by omega) (by omega)]
                        dsimp only [cond]
                        refine fe_s 1 (pc' := 172) (lc' := [(8, .int ((nI i103) + 1)), (9, .int (nI n)), (7, .int x7_124), (5, .int (x5_103 + 0)), (6, .int (nI (x6_103 + 1))), (4, .int (nI L)), (0, .ref 0), (1, .int (nI n)), (2, .int (nI t)), (3, .int (nI N))]) (stk' := []) (mem' := fm g tp bt a_124 b) (by intro _ _ _; eq_refl) ?_
                        rw [show ((nI i103) + 1 : Int32) = nI (i103 + 1) from by simp only [show (1 : Int32) = nI 1 from rfl, nI_add, fm_mul]]
                        refine fe_s 1 (pc' := fx_to 172 (-119)) (lc' := [(8, .int (nI (i103 + 1))), (9, .int (nI n)), (7, .int x7_124), (5, .int (x5_103 + 0)), (6, .int (nI (x6_103 + 1))), (4, .int (nI L)), (0, .ref 0), (1, .int (nI n)), (2, .int (nI t)), (3, .int (nI N))]) (stk' := []) (mem' := fm g tp bt a_124 b) (by intro _ _ _; eq_refl) ?_
                        rw [show fx_to 172 (-119) = 53 from by decide]
                        refine fe_w (lc' := [(8, .int (nI (i103 + 1))), (7, .int x7_124), (6, .int (nI (x6_103 + 1))), (5, .int (x5_103 + 0)), (4, .int (nI L)), (0, .ref 0), (1, .int (nI n)), (2, .int (nI t)), (3, .int (nI N))]) ⟨rfl, rfl, rfl, rfl, rfl, rfl, rfl, rfl, rfl, trivial⟩ (by show List.Nodup [8, 7, 6, 5, 4, 0, 1, 2, 3]; decide) (by show List.Nodup [8, 9, 7, 5, 6, 4, 0, 1, 2, 3]; decide) ?_
                        exact ih103 (i103 + 1) (by omega) _ _ _ (by omega) (T_103 + 1) (by omega) a_124 hD_124
                      | succ r ih124 =>
                        intro i124 hi124 x7_124 a_124 hD_124
                        have hl124 : i124 < n := by omega
                        refine fe_s 2 (pc' := 136) (lc' := [(9, .int (nI i124)), (7, .int x7_124), (5, .int (x5_103 + 0)), (6, .int (nI (x6_103 + 1))), (8, .int (nI i103)), (4, .int (nI L)), (0, .ref 0), (1, .int (nI n)), (2, .int (nI t)), (3, .int (nI N))]) (stk' := [.int (nI n), .int (nI i124)]) (mem' := fm g tp bt a_124 b) (by intro _ _ _; eq_refl) ?_
                        refine fe_s 1 (pc' := cond (fx_cb .ge (nI i124) (nI n)) 169 139) (lc' := [(9, .int (nI i124)), (7, .int x7_124), (5, .int (x5_103 + 0)), (6, .int (nI (x6_103 + 1))), (8, .int (nI i103)), (4, .int (nI L)), (0, .ref 0), (1, .int (nI n)), (2, .int (nI t)), (3, .int (nI N))]) (stk' := []) (mem' := fm g tp bt a_124 b) (by intro _ _ _; eq_refl) ?_
                        rw [show (fx_cb .ge (nI i124) (nI n)) = false from cb_geF (a := i124) (b := n) (by omega) (by omega) (by omega)]
                        dsimp only [cond]
                        refine fe_s 5 (pc' := 148) (lc' := [(9, .int (nI i124)), (7, .int x7_124), (5, .int (x5_103 + 0)), (6, .int (nI (x6_103 + 1))), (8, .int (nI i103)), (4, .int (nI L)), (0, .ref 0), (1, .int (nI n)), (2, .int (nI t)), (3, .int (nI N))]) (stk' := [.int (nI i124), .ref 10, .ref 0, .int x7_124]) (mem' := fm g tp bt a_124 b) (by intro _ _ _; eq_refl) ?_
                        refine fe_ldI (by rfl) (by rfl) (fx_inN (i := i124) (by omega) (by omega)) ?_
                        rw [show Int32.toNatClampNeg (nI i124) = i124 from nI_clamp (by omega)]
                        obtain ⟨u125, hu125, eu125⟩ := fm_tu_at htu hn4 (i := i124) (by omega)
                        rw [show a_124 10 (i124) = nI u125 from by rw [hD_124.1 10 rfl, hK.1 10 (by decide)]; exact eu125]
                        obtain ⟨v126, z127, hv126⟩ := fq_isWet (V := u125) (g := g) (tp := tp) (bt := bt) (a := a_124) (b := b) (by omega)
                        refine fe_ivV hv126 (by omega) (by rfl) (by rfl) (by rfl) (by rfl) (by rfl) (by rfl) ?_
                        rcases z127 with rfl | rfl
                        · refine fe_s 1 (pc' := cond (fx_cb .ne 0 0) 159 155) (lc' := [(9, .int (nI i124)), (7, .int x7_124), (5, .int (x5_103 + 0)), (6, .int (nI (x6_103 + 1))), (8, .int (nI i103)), (4, .int (nI L)), (0, .ref 0), (1, .int (nI n)), (2, .int (nI t)), (3, .int (nI N))]) (stk' := [.int x7_124]) (mem' := fm g tp bt a_124 b) (by intro _ _ _; eq_refl) ?_
                          rw [show (fx_cb .ne 0 0) = false from by decide]
                          dsimp only [cond]
                          refine fe_s 6 (pc' := 133) (lc' := [(9, .int ((nI i124) + 1)), (7, .int (x7_124 &&& 1)), (5, .int (x5_103 + 0)), (6, .int (nI (x6_103 + 1))), (8, .int (nI i103)), (4, .int (nI L)), (0, .ref 0), (1, .int (nI n)), (2, .int (nI t)), (3, .int (nI N))]) (stk' := []) (mem' := fm g tp bt a_124 b) (by intro _ _ _; eq_refl) ?_
                          rw [show ((nI i124) + 1 : Int32) = nI (i124 + 1) from by simp only [show (1 : Int32) = nI 1 from rfl, nI_add, fm_mul]]
                          refine fe_w (lc' := [(9, .int (nI (i124 + 1))), (7, .int (x7_124 &&& 1)), (5, .int (x5_103 + 0)), (6, .int (nI (x6_103 + 1))), (8, .int (nI i103)), (4, .int (nI L)), (0, .ref 0), (1, .int (nI n)), (2, .int (nI t)), (3, .int (nI N))]) ⟨rfl, rfl, rfl, rfl, rfl, rfl, rfl, rfl, rfl, rfl, trivial⟩ (by show List.Nodup [9, 7, 5, 6, 8, 4, 0, 1, 2, 3]; decide) (by show List.Nodup [9, 7, 5, 6, 8, 4, 0, 1, 2, 3]; decide) ?_
                          exact ih124 (i124 + 1) (by omega) _ a_124 hD_124
                        · refine fe_s 1 (pc' := cond (fx_cb .ne 1 0) 159 155) (lc' := [(9, .int (nI i124)), (7, .int x7_124), (5, .int (x5_103 + 0)), (6, .int (nI (x6_103 + 1))), (8, .int (nI i103)), (4, .int (nI L)), (0, .ref 0), (1, .int (nI n)), (2, .int (nI t)), (3, .int (nI N))]) (stk' := [.int x7_124]) (mem' := fm g tp bt a_124 b) (by intro _ _ _; eq_refl) ?_
                          rw [show (fx_cb .ne 1 0) = true from by decide]
                          dsimp only [cond]
                          refine fe_s 5 (pc' := 133) (lc' := [(9, .int ((nI i124) + 1)), (7, .int (x7_124 &&& 0)), (5, .int (x5_103 + 0)), (6, .int (nI (x6_103 + 1))), (8, .int (nI i103)), (4, .int (nI L)), (0, .ref 0), (1, .int (nI n)), (2, .int (nI t)), (3, .int (nI N))]) (stk' := []) (mem' := fm g tp bt a_124 b) (by intro _ _ _; eq_refl) ?_
                          rw [show ((nI i124) + 1 : Int32) = nI (i124 + 1) from by simp only [show (1 : Int32) = nI 1 from rfl, nI_add, fm_mul]]
                          refine fe_w (lc' := [(9, .int (nI (i124 + 1))), (7, .int (x7_124 &&& 0)), (5, .int (x5_103 + 0)), (6, .int (nI (x6_103 + 1))), (8, .int (nI i103)), (4, .int (nI L)), (0, .ref 0), (1, .int (nI n)), (2, .int (nI t)), (3, .int (nI N))]) ⟨rfl, rfl, rfl, rfl, rfl, rfl, rfl, rfl, rfl, rfl, trivial⟩ (by show List.Nodup [9, 7, 5, 6, 8, 4, 0, 1, 2, 3]; decide) (by show List.Nodup [9, 7, 5, 6, 8, 4, 0, 1, 2, 3]; decide) ?_
                          exact ih124 (i124 + 1) (by omega) _ a_124 hD_124
                    refine fe_w (lc' := [(9, .int (nI 0)), (7, .int 1), (5, .int (x5_103 + 0)), (6, .int (nI (x6_103 + 1))), (8, .int (nI i103)), (4, .int (nI L)), (0, .ref 0), (1, .int (nI n)), (2, .int (nI t)), (3, .int (nI N))]) ⟨rfl, rfl, rfl, rfl, rfl, rfl, rfl, rfl, rfl, rfl, trivial⟩ (by show List.Nodup [9, 7, 5, 6, 8, 4, 0, 1, 2, 3]; decide) (by show List.Nodup [9, 7, 5, 6, 8, 4, 0, 1, 2, 3]; decide) ?_
                    exact loop124 (n - 0) 0 (by omega) _ ad122 hDd122
                  · refine fe_s 4 (pc' := 133) (lc' := [(9, .int 0), (7, .int 0), (5, .int (x5_103 + 0)), (6, .int (nI (x6_103 + 1))), (8, .int (nI i103)), (4, .int (nI L)), (0, .ref 0), (1, .int (nI n)), (2, .int (nI t)), (3, .int (nI N))]) (stk' := []) (mem' := fm g tp bt ad122 b) (by intro _ _ _; eq_refl) ?_
                    have loop128 : ∀ (r i128 : Nat), i128 + r = n → ∀ x7_128 : Int32, ∀ a_128 : Nat → Nat → Int32, fm_D a0 a_128 (T_103 + 1) → fe_R 8 gk_m329 133 [(9, .int (nI i128)), (7, .int x7_128), (5, .int (x5_103 + 0)), (6, .int (nI (x6_103 + 1))), (8, .int (nI i103)), (4, .int (nI L)), (0, .ref 0), (1, .int (nI n)), (2, .int (nI t)), (3, .int (nI N))] [] (fm g tp bt a_128 b) (fun R => ∃ (v : Int32) (a' : Nat → Nat → Int32), fm_B a' ∧ (∀ t, fm_okt t = false → a' t = a t) ∧ (∀ i, fm_st i = true → a' 1 i = a 1 i) ∧ R = (some (.int v), fm g tp bt a' b)) := by
                      intro r
                      induction r with
                      | zero =>
                        intro i128 hi128 x7_128 a_128 hD_128
                        obtain rfl : n = i128 := by omega
                        refine fe_s 2 (pc' := 136) (lc' := [(9, .int (nI n)), (7, .int x7_128), (5, .int (x5_103 + 0)), (6, .int (nI (x6_103 + 1))), (8, .int (nI i103)), (4, .int (nI L)), (0, .ref 0), (1, .int (nI n)), (2, .int (nI t)), (3, .int (nI N))]) (stk' := [.int (nI n), .int (nI n)]) (mem' := fm g tp bt a_128 b) (by intro _ _ _; eq_refl) ?_
                        refine fe_s 1 (pc' := cond (fx_cb .ge (nI n) (nI n)) 169 139) (lc' := [(9, .int (nI n)), (7, .int x7_128), (5, .int (x5_103 + 0)), (6, .int (nI (x6_103 + 1))), (8, .int (nI i103)), (4, .int (nI L)), (0, .ref 0), (1, .int (nI n)), (2, .int (nI t)), (3, .int (nI N))]) (stk' := []) (mem' := fm g tp bt a_128 b) (by intro _ _ _; eq_refl) ?_
                        rw [show (fx_cb .ge (nI n) (nI n)) = true from cb_geT (a := n) (b := n) (by omega) (by omega) (by omega)]
                        dsimp only [cond]
                        refine fe_s 1 (pc' := 172) (lc' := [(8, .int ((nI i103) + 1)), (9, .int (nI n)), (7, .int x7_128), (5, .int (x5_103 + 0)), (6, .int (nI (x6_103 + 1))), (4, .int (nI L)), (0, .ref 0), (1, .int (nI n)), (2, .int (nI t)), (3, .int (nI N))]) (stk' := []) (mem' := fm g tp bt a_128 b) (by intro _ _ _; eq_refl) ?_
                        rw [show ((nI i103) + 1 : Int32) = nI (i103 + 1) from by simp only [show (1 : Int32) = nI 1 from rfl, nI_add, fm_mul]]
                        refine fe_s 1 (pc' := fx_to 172 (-119)) (lc' := [(8, .int (nI (i103 + 1))), (9, .int (nI n)), (7, .int x7_128), (5, .int (x5_103 + 0)), (6, .int (nI (x6_103 + 1))), (4, .int (nI L)), (0, .ref 0), (1, .int (nI n)), (2, .int (nI t)), (3, .int (nI N))]) (stk' := []) (mem' := fm g tp bt a_128 b) (by intro _ _ _; eq_refl) ?_
                        rw [show fx_to 172 (-119) = 53 from by decide]
                        refine fe_w (lc' := [(8, .int (nI (i103 + 1))), (7, .int x7_128), (6, .int (nI (x6_103 + 1))), (5, .int (x5_103 + 0)), (4, .int (nI L)), (0, .ref 0), (1, .int (nI n)), (2, .int (nI t)), (3, .int (nI N))]) ⟨rfl, rfl, rfl, rfl, rfl, rfl, rfl, rfl, rfl, trivial⟩ (by show List.Nodup [8, 7, 6, 5, 4, 0, 1, 2, 3]; decide) (by show List.Nodup [8, 9, 7, 5, 6, 4, 0, 1, 2, 3]; decide) ?_
                        exact ih103 (i103 + 1) (by omega) _ _ _ (by omega) (T_103 + 1) (by omega) a_128 hD_128
                      | succ r ih128 =>
                        intro i128 hi128 x7_128 a_128 hD_128
                        have hl128 : i128 < n := by omega
                        refine fe_s 2 (pc' := 136) (lc' := [(9, .int (nI i128)), (7, .int x7_128), (5, .int (x5_103 + 0)), (6, .int (nI (x6_103 + 1))), (8, .int (nI i103)), (4, .int (nI L)), (0, .ref 0), (1, .int (nI n)), (2, .int (nI t)), (3, .int (nI N))]) (stk' := [.int (nI n), .int (nI i128)]) (mem' := fm g tp bt a_128 b) (by intro _ _ _; eq_refl) ?_
                        refine fe_s 1 (pc' := cond (fx_cb .ge (nI i128) (nI n)) 169 139) (lc' := [(9, .int (nI i128)), (7, .int x7_128), (5, .int (x5_103 + 0)), (6, .int (nI (x6_103 + 1))), (8, .int (nI i103)), (4, .int (nI L)), (0, .ref 0), (1, .int (nI n)), (2, .int (nI t)), (3, .int (nI N))]) (stk' := []) (mem' := fm g tp bt a_128 b) (by intro _ _ _; eq_refl) ?_
                        rw [show (fx_cb .ge (nI i128) (nI n)) = false from cb_geF (a := i128) (b := n) (by omega) (by omega) (by omega)]
                        dsimp only [cond]
                        refine fe_s 5 (pc' := 148) (lc' := [(9, .int (nI i128)), (7, .int x7_128), (5, .int (x5_103 + 0)), (6, .int (nI (x6_103 + 1))), (8, .int (nI i103)), (4, .int (nI L)), (0, .ref 0), (1, .int (nI n)), (2, .int (nI t)), (3, .int (nI N))]) (stk' := [.int (nI i128), .ref 10, .ref 0, .int x7_128]) (mem' := fm g tp bt a_128 b) (by intro _ _ _; eq_refl) ?_
                        refine fe_ldI (by rfl) (by rfl) (fx_inN (i := i128) (by omega) (by omega)) ?_
                        rw [show Int32.toNatClampNeg (nI i128) = i128 from nI_clamp (by omega)]
                        obtain ⟨u129, hu129, eu129⟩ := fm_tu_at htu hn4 (i := i128) (by omega)
                        rw [show a_128 10 (i128) = nI u129 from by rw [hD_128.1 10 rfl, hK.1 10 (by decide)]; exact eu129]
                        obtain ⟨v130, z131, hv130⟩ := fq_isWet (V := u129) (g := g) (tp := tp) (bt := bt) (a := a_128) (b := b) (by omega)
                        refine fe_ivV hv130 (by omega) (by rfl) (by rfl) (by rfl) (by rfl) (by rfl) (by rfl) ?_
                        rcases z131 with rfl | rfl
                        · refine fe_s 1 (pc' := cond (fx_cb .ne 0 0) 159 155) (lc' := [(9, .int (nI i128)), (7, .int x7_128), (5, .int (x5_103 + 0)), (6, .int (nI (x6_103 + 1))), (8, .int (nI i103)), (4, .int (nI L)), (0, .ref 0), (1, .int (nI n)), (2, .int (nI t)), (3, .int (nI N))]) (stk' := [.int x7_128]) (mem' := fm g tp bt a_128 b) (by intro _ _ _; eq_refl) ?_
                          rw [show (fx_cb .ne 0 0) = false from by decide]
                          dsimp only [cond]
                          refine fe_s 6 (pc' := 133) (lc' := [(9, .int ((nI i128) + 1)), (7, .int (x7_128 &&& 1)), (5, .int (x5_103 + 0)), (6, .int (nI (x6_103 + 1))), (8, .int (nI i103)), (4, .int (nI L)), (0, .ref 0), (1, .int (nI n)), (2, .int (nI t)), (3, .int (nI N))]) (stk' := []) (mem' := fm g tp bt a_128 b) (by intro _ _ _; eq_refl) ?_
                          rw [show ((nI i128) + 1 : Int32) = nI (i128 + 1) from by simp only [show (1 : Int32) = nI 1 from rfl, nI_add, fm_mul]]
                          refine fe_w (lc' := [(9, .int (nI (i128 + 1))), (7, .int (x7_128 &&& 1)), (5, .int (x5_103 + 0)), (6, .int (nI (x6_103 + 1))), (8, .int (nI i103)), (4, .int (nI L)), (0, .ref 0), (1, .int (nI n)), (2, .int (nI t)), (3, .int (nI N))]) ⟨rfl, rfl, rfl, rfl, rfl, rfl, rfl, rfl, rfl, rfl, trivial⟩ (by show List.Nodup [9, 7, 5, 6, 8, 4, 0, 1, 2, 3]; decide) (by show List.Nodup [9, 7, 5, 6, 8, 4, 0, 1, 2, 3]; decide) ?_
                          exact ih128 (i128 + 1) (by omega) _ a_128 hD_128
                        · refine fe_s 1 (pc' := cond (fx_cb .ne 1 0) 159 155) (lc' := [(9, .int (nI i128)), (7, .int x7_128), (5, .int (x5_103 + 0)), (6, .int (nI (x6_103 + 1))), (8, .int (nI i103)), (4, .int (nI L)), (0, .ref 0), (1, .int (nI n)), (2, .int (nI t)), (3, .int (nI N))]) (stk' := [.int x7_128]) (mem' := fm g tp bt a_128 b) (by intro _ _ _; eq_refl) ?_
                          rw [show (fx_cb .ne 1 0) = true from by decide]
                          dsimp only [cond]
                          refine fe_s 5 (pc' := 133) (lc' := [(9, .int ((nI i128) + 1)), (7, .int (x7_128 &&& 0)), (5, .int (x5_103 + 0)), (6, .int (nI (x6_103 + 1))), (8, .int (nI i103)), (4, .int (nI L)), (0, .ref 0), (1, .int (nI n)), (2, .int (nI t)), (3, .int (nI N))]) (stk' := []) (mem' := fm g tp bt a_128 b) (by intro _ _ _; eq_refl) ?_
                          rw [show ((nI i128) + 1 : Int32) = nI (i128 + 1) from by simp only [show (1 : Int32) = nI 1 from rfl, nI_add, fm_mul]]
                          refine fe_w (lc' := [(9, .int (nI (i128 + 1))), (7, .int (x7_128 &&& 0)), (5, .int (x5_103 + 0)), (6, .int (nI (x6_103 + 1))), (8, .int (nI i103)), (4, .int (nI L)), (0, .ref 0), (1, .int (nI n)), (2, .int (nI t)), (3, .int (nI N))]) ⟨rfl, rfl, rfl, rfl, rfl, rfl, rfl, rfl, rfl, rfl, trivial⟩ (by show List.Nodup [9, 7, 5, 6, 8, 4, 0, 1, 2, 3]; decide) (by show List.Nodup [9, 7, 5, 6, 8, 4, 0, 1, 2, 3]; decide) ?_
                          exact ih128 (i128 + 1) (by omega) _ a_128 hD_128
                    refine fe_w (lc' := [(9, .int (nI 0)), (7, .int 0), (5, .int (x5_103 + 0)), (6, .int (nI (x6_103 + 1))), (8, .int (nI i103)), (4, .int (nI L)), (0, .ref 0), (1, .int (nI n)), (2, .int (nI t)), (3, .int (nI N))]) ⟨rfl, rfl, rfl, rfl, rfl, rfl, rfl, rfl, rfl, rfl, trivial⟩ (by show List.Nodup [9, 7, 5, 6, 8, 4, 0, 1, 2, 3]; decide) (by show List.Nodup [9, 7, 5, 6, 8, 4, 0, 1, 2, 3]; decide) ?_
                    exact loop128 (n - 0) 0 (by omega) _ ad122 hDd122
                · rw [show (fx_cb .ge (nI (x6_103 + 1)) (nI n)) = false from cb_geF (a := x6_103 + 1) (b := n) (by omega) (by omega) (by omega)]
                  dsimp only [cond]
                  refine fe_s 3 (pc' := 108) (lc' := [(6, .int (nI (x6_103 + 1))), (8, .int (nI i103)), (7, .int x7_103), (5, .int x5_103), (4, .int (nI L)), (0, .ref 0), (1, .int (nI n)), (2, .int (nI t)), (3, .int (nI N))]) (stk' := [.int (nI (x6_103 + 1)), .ref 11, .int x5_103]) (mem' := fm g tp bt ad120 b) (by intro _ _ _; eq_refl) ?_
                  refine fe_ldI (by rfl) (by rfl) (fx_inN (i := x6_103 + 1) (by omega) (by omega)) ?_
                  rw [show Int32.toNatClampNeg (nI (x6_103 + 1)) = x6_103 + 1 from nI_clamp (by omega)]
                  obtain ⟨u132, hu132, eu132⟩ := fm_ga_at hga hn4 (i := x6_103 + 1) (by omega)
                  rw [show ad120 11 (x6_103 + 1) = nI u132 from by rw [hDd120.1 11 rfl, hK.1 11 (by decide)]; exact eu132]
                  refine fe_s 4 (pc' := 117) (lc' := [(5, .int (x5_103 + (nI u132))), (6, .int (nI (x6_103 + 1))), (8, .int (nI i103)), (7, .int x7_103), (4, .int (nI L)), (0, .ref 0), (1, .int (nI n)), (2, .int (nI t)), (3, .int (nI N))]) (stk' := [.ref 0]) (mem' := fm g tp bt ad120 b) (by intro _ _ _; eq_refl) ?_
                  obtain ⟨vd133, memd133, ⟨xd133, ad133, hDd133, hRd133⟩, hfrd133⟩ := fr_goes (T := T_103) (g := g) (tp := tp) (bt := bt) (a := ad120) (b := b) hB hDd120 (by omega)
                  cases hRd133
                  refine fe_ivV hfrd133 (by omega) (by rfl) (by rfl) (by rfl) (by rfl) (by rfl) (by rfl) ?_
                  refine fe_s 1 (pc' := cond (fx_cb .ne xd133 0) 127 123) (lc' := [(5, .int (x5_103 + (nI u132))), (6, .int (nI (x6_103 + 1))), (8, .int (nI i103)), (7, .int x7_103), (4, .int (nI L)), (0, .ref 0), (1, .int (nI n)), (2, .int (nI t)), (3, .int (nI N))]) (stk' := []) (mem' := fm g tp bt ad133 b) (by intro _ _ _; eq_refl) ?_
                  cases h134 : fx_cb .ne xd133 0
                  · refine fe_s 5 (pc' := 133) (lc' := [(9, .int 0), (7, .int 1), (5, .int (x5_103 + (nI u132))), (6, .int (nI (x6_103 + 1))), (8, .int (nI i103)), (4, .int (nI L)), (0, .ref 0), (1, .int (nI n)), (2, .int (nI t)), (3, .int (nI N))]) (stk' := []) (mem' := fm g tp bt ad133 b) (by intro _ _ _; eq_refl) ?_
                    have loop135 : ∀ (r i135 : Nat), i135 + r = n → ∀ x7_135 : Int32, ∀ a_135 : Nat → Nat → Int32, fm_D a0 a_135 (T_103 + 1) → fe_R 8 gk_m329 133 [(9, .int (nI i135)), (7, .int x7_135), (5, .int (x5_103 + (nI u132))), (6, .int (nI (x6_103 + 1))), (8, .int (nI i103)), (4, .int (nI L)), (0, .ref 0), (1, .int (nI n)), (2, .int (nI t)), (3, .int (nI N))] [] (fm g tp bt a_135 b) (fun R => ∃ (v : Int32) (a' : Nat → Nat → Int32), fm_B a' ∧ (∀ t, fm_okt t = false → a' t = a t) ∧ (∀ i, fm_st i = true → a' 1 i = a 1 i) ∧ R = (some (.int v), fm g tp bt a' b)) := by
                      intro r
                      induction r with
                      | zero =>
                        intro i135 hi135 x7_135 a_135 hD_135
                        obtain rfl : n = i135 := by omega
                        refine fe_s 2 (pc' := 136) (lc' := [(9, .int (nI n)), (7, .int x7_135), (5, .int (x5_103 + (nI u132))), (6, .int (nI (x6_103 + 1))), (8, .int (nI i103)), (4, .int (nI L)), (0, .ref 0), (1, .int (nI n)), (2, .int (nI t)), (3, .int (nI N))]) (stk' := [.int (nI n), .int (nI n)]) (mem' := fm g tp bt a_135 b) (by intro _ _ _; eq_refl) ?_
                        refine fe_s 1 (pc' := cond (fx_cb .ge (nI n) (nI n)) 169 139) (lc' := [(9, .int (nI n)), (7, .int x7_135), (5, .int (x5_103 + (nI u132))), (6, .int (nI (x6_103 + 1))), (8, .int (nI i103)), (4, .int (nI L)), (0, .ref 0), (1, .int (nI n)), (2, .int (nI t)), (3, .int (nI N))]) (stk' := []) (mem' := fm g tp bt a_135 b) (by intro _ _ _; eq_refl) ?_
                        rw [show (fx_cb .ge (nI n) (nI n)) = true from cb_geT (a := n) (b := n) (by omega) (by omega) (by omega)]
                        dsimp only [cond]
                        refine fe_s 1 (pc' := 172) (lc' := [(8, .int ((nI i103) + 1)), (9, .int (nI n)), (7, .int x7_135), (5, .int (x5_103 + (nI u132))), (6, .int (nI (x6_103 + 1))), (4, .int (nI L)), (0, .ref 0), (1, .int (nI n)), (2, .int (nI t)), (3, .int (nI N))]) (stk' := []) (mem' := fm g tp bt a_135 b) (by intro _ _ _; eq_refl) ?_
                        rw [show ((nI i103) + 1 : Int32) = nI (i103 + 1) from by simp only [show (1 : Int32) = nI 1 from rfl, nI_add, fm_mul]]
                        refine fe_s 1 (pc' := fx_to 172 (-119)) (lc' := [(8, .int (nI (i103 + 1))), (9, .int (nI n)), (7, .int x7_135), (5, .int (x5_103 + (nI u132))), (6, .int (nI (x6_103 + 1))), (4, .int (nI L)), (0, .ref 0), (1, .int (nI n)), (2, .int (nI t)), (3, .int (nI N))]) (stk' := []) (mem' := fm g tp bt a_135 b) (by intro _ _ _; eq_refl) ?_
                        rw [show fx_to 172 (-119) = 53 from by decide]
                        refine fe_w (lc' := [(8, .int (nI (i103 + 1))), (7, .int x7_135), (6, .int (nI (x6_103 + 1))), (5, .int (x5_103 + (nI u132))), (4, .int (nI L)), (0, .ref 0), (1, .int (nI n)), (2, .int (nI t)), (3, .int (nI N))]) ⟨rfl, rfl, rfl, rfl, rfl, rfl, rfl, rfl, rfl, trivial⟩ (by show List.Nodup [8, 7, 6, 5, 4, 0, 1, 2, 3]; decide) (by show List.Nodup [8, 9, 7, 5, 6, 4, 0, 1, 2, 3]; decide) ?_
                        exact ih103 (i103 + 1) (by omega) _ _ _ (by omega) (T_103 + 1) (by omega) a_135 hD_135
                      | succ r ih135 =>
                        intro i135 hi135 x7_135 a_135 hD_135
                        have hl135 : i135 < n := by omega
                        refine fe_s 2 (pc' := 136) (lc' := [(9, .int (nI i135)), (7, .int x7_135), (5, .int (x5_103 + (nI u132))), (6, .int (nI (x6_103 + 1))), (8, .int (nI i103)), (4, .int (nI L)), (0, .ref 0), (1, .int (nI n)), (2, .int (nI t)), (3, .int (nI N))]) (stk' := [.int (nI n), .int (nI i135)]) (mem' := fm g tp bt a_135 b) (by intro _ _ _; eq_refl) ?_
                        refine fe_s 1 (pc' := cond (fx_cb .ge (nI i135) (nI n)) 169 139) (lc' := [(9, .int (nI i135)), (7, .int x7_135), (5, .int (x5_103 + (nI u132))), (6, .int (nI (x6_103 + 1))), (8, .int (nI i103)), (4, .int (nI L)), (0, .ref 0), (1, .int (nI n)), (2, .int (nI t)), (3, .int (nI N))]) (stk' := []) (mem' := fm g tp bt a_135 b) (by intro _ _ _; eq_refl) ?_
                        rw [show (fx_cb .ge (nI i135) (nI n)) = false from cb_geF (a := i135) (b := n) (by omega) (by omega) (by omega)]
                        dsimp only [cond]
                        refine fe_s 5 (pc' := 148) (lc' := [(9, .int (nI i135)), (7, .int x7_135), (5, .int (x5_103 + (nI u132))), (6, .int (nI (x6_103 + 1))), (8, .int (nI i103)), (4, .int (nI L)), (0, .ref 0), (1, .int (nI n)), (2, .int (nI t)), (3, .int (nI N))]) (stk' := [.int (nI i135), .ref 10, .ref 0, .int x7_135]) (mem' := fm g tp bt a_135 b) (by intro _ _ _; eq_refl) ?_
                        refine fe_ldI (by rfl) (by rfl) (fx_inN (i := i135) (by omega) (by omega)) ?_
                        rw [show Int32.toNatClampNeg (nI i135) = i135 from nI_clamp (by omega)]
                        obtain ⟨u136, hu136, eu136⟩ := fm_tu_at htu hn4 (i := i135) (by omega)
                        rw [show a_135 10 (i135) = nI u136 from by rw [hD_135.1 10 rfl, hK.1 10 (by decide)]; exact eu136]
                        obtain ⟨v137, z138, hv137⟩ := fq_isWet (V := u136) (g := g) (tp := tp) (bt := bt) (a := a_135) (b := b) (by omega)
                        refine fe_ivV hv137 (by omega) (by rfl) (by rfl) (by rfl) (by rfl) (by rfl) (by rfl) ?_
                        rcases z138 with rfl | rfl
                        · refine fe_s 1 (pc' := cond (fx_cb .ne 0 0) 159 155) (lc' := [(9, .int (nI i135)), (7, .int x7_135), (5, .int (x5_103 + (nI u132))), (6, .int (nI (x6_103 + 1))), (8, .int (nI i103)), (4, .int (nI L)), (0, .ref 0), (1, .int (nI n)), (2, .int (nI t)), (3, .int (nI N))]) (stk' := [.int x7_135]) (mem' := fm g tp bt a_135 b) (by intro _ _ _; eq_refl) ?_
                          rw [show (fx_cb .ne 0 0) = false from by decide]
                          dsimp only [cond]
                          refine fe_s 6 (pc' := 133) (lc' := [(9, .int ((nI i135) + 1)), (7, .int (x7_135 &&& 1)), (5, .int (x5_103 + (nI u132))), (6, .int (nI (x6_103 + 1))), (8, .int (nI i103)), (4, .int (nI L)), (0, .ref 0), (1, .int (nI n)), (2, .int (nI t)), (3, .int (nI N))]) (stk' := []) (mem' := fm g tp bt a_135 b) (by intro _ _ _; eq_refl) ?_
                          rw [show ((nI i135) + 1 : Int32) = nI (i135 + 1) from by simp only [show (1 : Int32) = nI 1 from rfl, nI_add, fm_mul]]
                          refine fe_w (lc' := [(9, .int (nI (i135 + 1))), (7, .int (x7_135 &&& 1)), (5, .int (x5_103 + (nI u132))), (6, .int (nI (x6_103 + 1))), (8, .int (nI i103)), (4, .int (nI L)), (0, .ref 0), (1, .int (nI n)), (2, .int (nI t)), (3, .int (nI N))]) ⟨rfl, rfl, rfl, rfl, rfl, rfl, rfl, rfl, rfl, rfl, trivial⟩ (by show List.Nodup [9, 7, 5, 6, 8, 4, 0, 1, 2, 3]; decide) (by show List.Nodup [9, 7, 5, 6, 8, 4, 0, 1, 2, 3]; decide) ?_
                          exact ih135 (i135 + 1) (by omega) _ a_135 hD_135
                        · refine fe_s 1 (pc' := cond (fx_cb .ne 1 0) 159 155) (lc' := [(9, .int (nI i135)), (7, .int x7_135), (5, .int (x5_103 + (nI u132))), (6, .int (nI (x6_103 + 1))), (8, .int (nI i103)), (4, .int (nI L)), (0, .ref 0), (1, .int (nI n)), (2, .int (nI t)), (3, .int (nI N))]) (stk' := [.int x7_135]) (mem' := fm g tp bt a_135 b) (by intro _ _ _; eq_refl) ?_
                          rw [show (fx_cb .ne 1 0) = true from by decide]
                          dsimp only [cond]
                          refine fe_s 5 (pc' := 133) (lc' := [(9, .int ((nI i135) + 1)), (7, .int (x7_135 &&& 0)), (5, .int (x5_103 + (nI u132))), (6, .int (nI (x6_103 + 1))), (8, .int (nI i103)), (4, .int (nI L)), (0, .ref 0), (1, .int (nI n)), (2, .int (nI t)), (3, .int (nI N))]) (stk' := []) (mem' := fm g tp bt a_135 b) (by intro _ _ _; eq_refl) ?_
                          rw [show ((nI i135) + 1 : Int32) = nI (i135 + 1) from by simp only [show (1 : Int32) = nI 1 from rfl, nI_add, fm_mul]]
                          refine fe_w (lc' := [(9, .int (nI (i135 + 1))), (7, .int (x7_135 &&& 0)), (5, .int (x5_103 + (nI u132))), (6, .int (nI (x6_103 + 1))), (8, .int (nI i103)), (4, .int (nI L)), (0, .ref 0), (1, .int (nI n)), (2, .int (nI t)), (3, .int (nI N))]) ⟨rfl, rfl, rfl, rfl, rfl, rfl, rfl, rfl, rfl, rfl, trivial⟩ (by show List.Nodup [9, 7, 5, 6, 8, 4, 0, 1, 2, 3]; decide) (by show List.Nodup [9, 7, 5, 6, 8, 4, 0, 1, 2, 3]; decide) ?_
                          exact ih135 (i135 + 1) (by omega) _ a_135 hD_135
                    refine fe_w (lc' := [(9, .int (nI 0)), (7, .int 1), (5, .int (x5_103 + (nI u132))), (6, .int (nI (x6_103 + 1))), (8, .int (nI i103)), (4, .int (nI L)), (0, .ref 0), (1, .int (nI n)), (2, .int (nI t)), (3, .int (nI N))]) ⟨rfl, rfl, rfl, rfl, rfl, rfl, rfl, rfl, rfl, rfl, trivial⟩ (by show List.Nodup [9, 7, 5, 6, 8, 4, 0, 1, 2, 3]; decide) (by show List.Nodup [9, 7, 5, 6, 8, 4, 0, 1, 2, 3]; decide) ?_
                    exact loop135 (n - 0) 0 (by omega) _ ad133 hDd133
                  · refine fe_s 4 (pc' := 133) (lc' := [(9, .int 0), (7, .int 0), (5, .int (x5_103 + (nI u132))), (6, .int (nI (x6_103 + 1))), (8, .int (nI i103)), (4, .int (nI L)), (0, .ref 0), (1, .int (nI n)), (2, .int (nI t)), (3, .int (nI N))]) (stk' := []) (mem' := fm g tp bt ad133 b) (by intro _ _ _; eq_refl) ?_
                    have loop139 : ∀ (r i139 : Nat), i139 + r = n → ∀ x7_139 : Int32, ∀ a_139 : Nat → Nat → Int32, fm_D a0 a_139 (T_103 + 1) → fe_R 8 gk_m329 133 [(9, .int (nI i139)), (7, .int x7_139), (5, .int (x5_103 + (nI u132))), (6, .int (nI (x6_103 + 1))), (8, .int (nI i103)), (4, .int (nI L)), (0, .ref 0), (1, .int (nI n)), (2, .int (nI t)), (3, .int (nI N))] [] (fm g tp bt a_139 b) (fun R => ∃ (v : Int32) (a' : Nat → Nat → Int32), fm_B a' ∧ (∀ t, fm_okt t = false → a' t = a t) ∧ (∀ i, fm_st i = true → a' 1 i = a 1 i) ∧ R = (some (.int v), fm g tp bt a' b)) := by
                      intro r
                      induction r with
                      | zero =>
                        intro i139 hi139 x7_139 a_139 hD_139
                        obtain rfl : n = i139 := by omega
                        refine fe_s 2 (pc' := 136) (lc' := [(9, .int (nI n)), (7, .int x7_139), (5, .int (x5_103 + (nI u132))), (6, .int (nI (x6_103 + 1))), (8, .int (nI i103)), (4, .int (nI L)), (0, .ref 0), (1, .int (nI n)), (2, .int (nI t)), (3, .int (nI N))]) (stk' := [.int (nI n), .int (nI n)]) (mem' := fm g tp bt a_139 b) (by intro _ _ _; eq_refl) ?_
                        refine fe_s 1 (pc' := cond (fx_cb .ge (nI n) (nI n)) 169 139) (lc' := [(9, .int (nI n)), (7, .int x7_139), (5, .int (x5_103 + (nI u132))), (6, .int (nI (x6_103 + 1))), (8, .int (nI i103)), (4, .int (nI L)), (0, .ref 0), (1, .int (nI n)), (2, .int (nI t)), (3, .int (nI N))]) (stk' := []) (mem' := fm g tp bt a_139 b) (by intro _ _ _; eq_refl) ?_
                        rw [show (fx_cb .ge (nI n) (nI n)) = true from cb_geT (a := n) (b := n) (by omega) (by omega) (by omega)]
                        dsimp only [cond]
                        refine fe_s 1 (pc' := 172) (lc' := [(8, .int ((nI i103) + 1)), (9, .int (nI n)), (7, .int x7_139), (5, .int (x5_103 + (nI u132))), (6, .int (nI (x6_103 + 1))), (4, .int (nI L)), (0, .ref 0), (1, .int (nI n)), (2, .int (nI t)), (3, .int (nI N))]) (stk' := []) (mem' := fm g tp bt a_139 b) (by intro _ _ _; eq_refl) ?_
                        rw [show ((nI i103) + 1 : Int32) = nI (i103 + 1) from by simp only [show (1 : Int32) = nI 1 from rfl, nI_add, fm_mul]]
                        refine fe_s 1 (pc' := fx_to 172 (-119)) (lc' := [(8, .int (nI (i103 + 1))), (9, .int (nI n)), (7, .int x7_139), (5, .int (x5_103 + (nI u132))), (6, .int (nI (x6_103 + 1))), (4, .int (nI L)), (0, .ref 0), (1, .int (nI n)), (2, .int (nI t)), (3, .int (nI N))]) (stk' := []) (mem' := fm g tp bt a_139 b) (by intro _ _ _; eq_refl) ?_
                        rw [show fx_to 172 (-119) = 53 from by decide]
                        refine fe_w (lc' := [(8, .int (nI (i103 + 1))), (7, .int x7_139), (6, .int (nI (x6_103 + 1))), (5, .int (x5_103 + (nI u132))), (4, .int (nI L)), (0, .ref 0), (1, .int (nI n)), (2, .int (nI t)), (3, .int (nI N))]) ⟨rfl, rfl, rfl, rfl, rfl, rfl, rfl, rfl, rfl, trivial⟩ (by show List.Nodup [8, 7, 6, 5, 4, 0, 1, 2, 3]; decide) (by show List.Nodup [8, 9, 7, 5, 6, 4, 0, 1, 2, 3]; decide) ?_
                        exact ih103 (i103 + 1) (by omega) _ _ _ (by omega) (T_103 + 1) (by omega) a_139 hD_139
                      | succ r ih139 =>
                        intro i139 hi139 x7_139 a_139 hD_139
                        have hl139 : i139 < n := by omega
                        refine fe_s 2 (pc' := 136) (lc' := [(9, .int (nI i139)), (7, .int x7_139), (5, .int (x5_103 + (nI u132))), (6, .int (nI (x6_103 + 1))), (8, .int (nI i103)), (4, .int (nI L)), (0, .ref 0), (1, .int (nI n)), (2, .int (nI t)), (3, .int (nI N))]) (stk' := [.int (nI n), .int (nI i139)]) (mem' := fm g tp bt a_139 b) (by intro _ _ _; eq_refl) ?_
                        refine fe_s 1 (pc' := cond (fx_cb .ge (nI i139) (nI n)) 169 139) (lc' := [(9, .int (nI i139)), (7, .int x7_139), (5, .int (x5_103 + (nI u132))), (6, .int (nI (x6_103 + 1))), (8, .int (nI i103)), (4, .int (nI L)), (0, .ref 0), (1, .int (nI n)), (2, .int (nI t)), (3, .int (nI N))]) (stk' := []) (mem' := fm g tp bt a_139 b) (by intro _ _ _; eq_refl) ?_
                        rw [show (fx_cb .ge (nI i139) (nI n)) = false from cb_geF (a := i139) (b := n) (by omega) (by omega) (by omega)]
                        dsimp only [cond]
                        refine fe_s 5 (pc' := 148) (lc' := [(9, .int (nI i139)), (7, .int x7_139), (5, .int (x5_103 + (nI u132))), (6, .int (nI (x6_103 + 1))), (8, .int (nI i103)), (4, .int (nI L)), (0, .ref 0), (1, .int (nI n)), (2, .int (nI t)), (3, .int (nI N))]) (stk' := [.int (nI i139), .ref 10, .ref 0, .int x7_139]) (mem' := fm g tp bt a_139 b) (by intro _ _ _; eq_refl) ?_
                        refine fe_ldI (by rfl) (by rfl) (fx_inN (i := i139) (by omega) (by omega)) ?_
                        rw [show Int32.toNatClampNeg (nI i139) = i139 from nI_clamp (by omega)]
                        obtain ⟨u140, hu140, eu140⟩ := fm_tu_at htu hn4 (i := i139) (by omega)
                        rw [show a_139 10 (i139) = nI u140 from by rw [hD_139.1 10 rfl, hK.1 10 (by decide)]; exact eu140]
                        obtain ⟨v141, z142, hv141⟩ := fq_isWet (V := u140) (g := g) (tp := tp) (bt := bt) (a := a_139) (b := b) (by omega)
                        refine fe_ivV hv141 (by omega) (by rfl) (by rfl) (by rfl) (by rfl) (by rfl) (by rfl) ?_
                        rcases z142 with rfl | rfl
                        · refine fe_s 1 (pc' := cond (fx_cb .ne 0 0) 159 155) (lc' := [(9, .int (nI i139)), (7, .int x7_139), (5, .int (x5_103 + (nI u132))), (6, .int (nI (x6_103 + 1))), (8, .int (nI i103)), (4, .int (nI L)), (0, .ref 0), (1, .int (nI n)), (2, .int (nI t)), (3, .int (nI N))]) (stk' := [.int x7_139]) (mem' := fm g tp bt a_139 b) (by intro _ _ _; eq_refl) ?_
                          rw [show (fx_cb .ne 0 0) = false from by decide]
                          dsimp only [cond]
                          refine fe_s 6 (pc' := 133) (lc' := [(9, .int ((nI i139) + 1)), (7, .int (x7_139 &&& 1)), (5, .int (x5_103 + (nI u132))), (6, .int (nI (x6_103 + 1))), (8, .int (nI i103)), (4, .int (nI L)), (0, .ref 0), (1, .int (nI n)), (2, .int (nI t)), (3, .int (nI N))]) (stk' := []) (mem' := fm g tp bt a_139 b) (by intro _ _ _; eq_refl) ?_
                          rw [show ((nI i139) + 1 : Int32) = nI (i139 + 1) from by simp only [show (1 : Int32) = nI 1 from rfl, nI_add, fm_mul]]
                          refine fe_w (lc' := [(9, .int (nI (i139 + 1))), (7, .int (x7_139 &&& 1)), (5, .int (x5_103 + (nI u132))), (6, .int (nI (x6_103 + 1))), (8, .int (nI i103)), (4, .int (nI L)), (0, .ref 0), (1, .int (nI n)), (2, .int (nI t)), (3, .int (nI N))]) ⟨rfl, rfl, rfl, rfl, rfl, rfl, rfl, rfl, rfl, rfl, trivial⟩ (by show List.Nodup [9, 7, 5, 6, 8, 4, 0, 1, 2, 3]; decide) (by show List.Nodup [9, 7, 5, 6, 8, 4, 0, 1, 2, 3]; decide) ?_
                          exact ih139 (i139 + 1) (by omega) _ a_139 hD_139
                        · refine fe_s 1 (pc' := cond (fx_cb .ne 1 0) 159 155) (lc' := [(9, .int (nI i139)), (7, .int x7_139), (5, .int (x5_103 + (nI u132))), (6, .int (nI (x6_103 + 1))), (8, .int (nI i103)), (4, .int (nI L)), (0, .ref 0), (1, .int (nI n)), (2, .int (nI t)), (3, .int (nI N))]) (stk' := [.int x7_139]) (mem' := fm g tp bt a_139 b) (by intro _ _ _; eq_refl) ?_
                          rw [show (fx_cb .ne 1 0) = true from by decide]
                          dsimp only [cond]
                          refine fe_s 5 (pc' := 133) (lc' := [(9, .int ((nI i139) + 1)), (7, .int (x7_139 &&& 0)), (5, .int (x5_103 + (nI u132))), (6, .int (nI (x6_103 + 1))), (8, .int (nI i103)), (4, .int (nI L)), (0, .ref 0), (1, .int (nI n)), (2, .int (nI t)), (3, .int (nI N))]) (stk' := []) (mem' := fm g tp bt a_139 b) (by intro _ _ _; eq_refl) ?_
                          rw [show ((nI i139) + 1 : Int32) = nI (i139 + 1) from by simp only [show (1 : Int32) = nI 1 from rfl, nI_add, fm_mul]]
                          refine fe_w (lc' := [(9, .int (nI (i139 + 1))), (7, .int (x7_139 &&& 0)), (5, .int (x5_103 + (nI u132))), (6, .int (nI (x6_103 + 1))), (8, .int (nI i103)), (4, .int (nI L)), (0, .ref 0), (1, .int (nI n)), (2, .int (nI t)), (3, .int (nI N))]) ⟨rfl, rfl, rfl, rfl, rfl, rfl, rfl, rfl, rfl, rfl, trivial⟩ (by show List.Nodup [9, 7, 5, 6, 8, 4, 0, 1, 2, 3]; decide) (by show List.Nodup [9, 7, 5, 6, 8, 4, 0, 1, 2, 3]; decide) ?_
                          exact ih139 (i139 + 1) (by omega) _ a_139 hD_139
                    refine fe_w (lc' := [(9, .int (nI 0)), (7, .int 0), (5, .int (x5_103 + (nI u132))), (6, .int (nI (x6_103 + 1))), (8, .int (nI i103)), (4, .int (nI L)), (0, .ref 0), (1, .int (nI n)), (2, .int (nI t)), (3, .int (nI N))]) ⟨rfl, rfl, rfl, rfl, rfl, rfl, rfl, rfl, rfl, rfl, trivial⟩ (by show List.Nodup [9, 7, 5, 6, 8, 4, 0, 1, 2, 3]; decide) (by show List.Nodup [9, 7, 5, 6, 8, 4, 0, 1, 2, 3]; decide) ?_
                    exact loop139 (n - 0) 0 (by omega) _ ad133 hDd133
              · refine fe_s 1 (pc' := 117) (lc' := [(8, .int (nI i103)), (7, .int x7_103), (6, .int (nI x6_103)), (5, .int x5_103), (4, .int (nI L)), (0, .ref 0), (1, .int (nI n)), (2, .int (nI t)), (3, .int (nI N))]) (stk' := [.ref 0]) (mem' := fm g tp bt a_103 b) (by intro _ _ _; eq_refl) ?_
                obtain ⟨vd143, memd143, ⟨xd143, ad143, hDd143, hRd143⟩, hfrd143⟩ := fr_goes (T := T_103) (g := g) (tp := tp) (bt := bt) (a := a_103) (b := b) hB hD_103 (by omega)
                cases hRd143
                refine fe_ivV hfrd143 (by omega) (by rfl) (by rfl) (by rfl) (by rfl) (by rfl) (by rfl) ?_
                refine fe_s 1 (pc' := cond (fx_cb .ne xd143 0) 127 123) (lc' := [(8, .int (nI i103)), (7, .int x7_103), (6, .int (nI x6_103)), (5, .int x5_103), (4, .int (nI L)), (0, .ref 0), (1, .int (nI n)), (2, .int (nI t)), (3, .int (nI N))]) (stk' := []) (mem' := fm g tp bt ad143 b) (by intro _ _ _; eq_refl) ?_
                cases h144 : fx_cb .ne xd143 0
                · refine fe_s 5 (pc' := 133) (lc' := [(9, .int 0), (7, .int 1), (8, .int (nI i103)), (6, .int (nI x6_103)), (5, .int x5_103), (4, .int (nI L)), (0, .ref 0), (1, .int (nI n)), (2, .int (nI t)), (3, .int (nI N))]) (stk' := []) (mem' := fm g tp bt ad143 b) (by intro _ _ _; eq_refl) ?_
                  have loop145 : ∀ (r i145 : Nat), i145 + r = n → ∀ x7_145 : Int32, ∀ a_145 : Nat → Nat → Int32, fm_D a0 a_145 (T_103 + 1) → fe_R 8 gk_m329 133 [(9, .int (nI i145)), (7, .int x7_145), (8, .int (nI i103)), (6, .int (nI x6_103)), (5, .int x5_103), (4, .int (nI L)), (0, .ref 0), (1, .int (nI n)), (2, .int (nI t)), (3, .int (nI N))] [] (fm g tp bt a_145 b) (fun R => ∃ (v : Int32) (a' : Nat → Nat → Int32), fm_B a' ∧ (∀ t, fm_okt t = false → a' t = a t) ∧ (∀ i, fm_st i = true → a' 1 i = a 1 i) ∧ R = (some (.int v), fm g tp bt a' b)) := by
                    intro r
                    induction r with
                    | zero =>
                      intro i145 hi145 x7_145 a_145 hD_145
                      obtain rfl : n = i145 := by omega
                      refine fe_s 2 (pc' := 136) (lc' := [(9, .int (nI n)), (7, .int x7_145), (8, .int (nI i103)), (6, .int (nI x6_103)), (5, .int x5_103), (4, .int (nI L)), (0, .ref 0), (1, .int (nI n)), (2, .int (nI t)), (3, .int (nI N))]) (stk' := [.int (nI n), .int (nI n)]) (mem' := fm g tp bt a_145 b) (by intro _ _ _; eq_refl) ?_
                      refine fe_s 1 (pc' := cond (fx_cb .ge (nI n) (nI n)) 169 139) (lc' := [(9, .int (nI n)), (7, .int x7_145), (8, .int (nI i103)), (6, .int (nI x6_103)), (5, .int x5_103), (4, .int (nI L)), (0, .ref 0), (1, .int (nI n)), (2, .int (nI t)), (3, .int (nI N))]) (stk' := []) (mem' := fm g tp bt a_145 b) (by intro _ _ _; eq_refl) ?_
                      rw [show (fx_cb .ge (nI n) (nI n)) = true from cb_geT (a := n) (b := n) (by omega) (by omega) (by omega)]
                      dsimp only [cond]
                      refine fe_s 1 (pc' := 172) (lc' := [(8, .int ((nI i103) + 1)), (9, .int (nI n)), (7, .int x7_145), (6, .int (nI x6_103)), (5, .int x5_103), (4, .int (nI L)), (0, .ref 0), (1, .int (nI n)), (2, .int (nI t)), (3, .int (nI N))]) (stk' := []) (mem' := fm g tp bt a_145 b) (by intro _ _ _; eq_refl) ?_
                      rw [show ((nI i103) + 1 : Int32) = nI (i103 + 1) from by simp only [show (1 : Int32) = nI 1 from rfl, nI_add, fm_mul]]
                      refine fe_s 1 (pc' := fx_to 172 (-119)) (lc' := [(8, .int (nI (i103 + 1))), (9, .int (nI n)), (7, .int x7_145), (6, .int (nI x6_103)), (5, .int x5_103), (4, .int (nI L)), (0, .ref 0), (1, .int (nI n)), (2, .int (nI t)), (3, .int (nI N))]) (stk' := []) (mem' := fm g tp bt a_145 b) (by intro _ _ _; eq_refl) ?_
                      rw [show fx_to 172 (-119) = 53 from by decide]
                      refine fe_w (lc' := [(8, .int (nI (i103 + 1))), (7, .int x7_145), (6, .int (nI x6_103)), (5, .int x5_103), (4, .int (nI L)), (0, .ref 0), (1, .int (nI n)), (2, .int (nI t)), (3, .int (nI N))]) ⟨rfl, rfl, rfl, rfl, rfl, rfl, rfl, rfl, rfl, trivial⟩ (by show List.Nodup [8, 7, 6, 5, 4, 0, 1, 2, 3]; decide) (by show List.Nodup [8, 9, 7, 6, 5, 4, 0, 1, 2, 3]; decide) ?_
                      exact ih103 (i103 + 1) (by omega) _ _ _ (by omega) (T_103 + 1) (by omega) a_145 hD_145
                    | succ r ih145 =>
                      intro i145 hi145 x7_145 a_145 hD_145
                      have hl145 : i145 < n := by omega
                      refine fe_s 2 (pc' := 136) (lc' := [(9, .int (nI i145)), (7, .int x7_145), (8, .int (nI i103)), (6, .int (nI x6_103)), (5, .int x5_103), (4, .int (nI L)), (0, .ref 0), (1, .int (nI n)), (2, .int (nI t)), (3, .int (nI N))]) (stk' := [.int (nI n), .int (nI i145)]) (mem' := fm g tp bt a_145 b) (by intro _ _ _; eq_refl) ?_
                      refine fe_s 1 (pc' := cond (fx_cb .ge (nI i145) (nI n)) 169 139) (lc' := [(9, .int (nI i145)), (7, .int x7_145), (8, .int (nI i103)), (6, .int (nI x6_103)), (5, .int x5_103), (4, .int (nI L)), (0, .ref 0), (1, .int (nI n)), (2, .int (nI t)), (3, .int (nI N))]) (stk' := []) (mem' := fm g tp bt a_145 b) (by intro _ _ _; eq_refl) ?_
                      rw [show (fx_cb .ge (nI i145) (nI n)) = false from cb_geF (a := i145) (b := n) (by omega) (by omega) (by omega)]
                      dsimp only [cond]
                      refine fe_s 5 (pc' := 148) (lc' := [(9, .int (nI i145)), (7, .int x7_145), (8, .int (nI i103)), (6, .int (nI x6_103)), (5, .int x5_103), (4, .int (nI L)), (0, .ref 0), (1, .int (nI n)), (2, .int (nI t)), (3, .int (nI N))]) (stk' := [.int (nI i145), .ref 10, .ref 0, .int x7_145]) (mem' := fm g tp bt a_145 b) (by intro _ _ _; eq_refl) ?_
                      refine fe_ldI (by rfl) (by rfl) (fx_inN (i := i145) (by omega) (by omega)) ?_
                      rw [show Int32.toNatClampNeg (nI i145) = i145 from nI_clamp (by omega)]
                      obtain ⟨u146, hu146, eu146⟩ := fm_tu_at htu hn4 (i := i145) (by omega)
                      rw [show a_145 10 (i145) = nI u146 from by rw [hD_145.1 10 rfl, hK.1 10 (by decide)]; exact eu146]
                      obtain ⟨v147, z148, hv147⟩ := fq_isWet (V := u146) (g := g) (tp := tp) (bt := bt) (a := a_145) (b := b) (by omega)
                      refine fe_ivV hv147 (by omega) (by rfl) (by rfl) (by rfl) (by rfl) (by rfl) (by rfl) ?_
                      rcases z148 with rfl | rfl
                      · refine fe_s 1 (pc' := cond (fx_cb .ne 0 0) 159 155) (lc' := [(9, .int (nI i145)), (7, .int x7_145), (8, .int (nI i103)), (6, .int (nI x6_103)), (5, .int x5_103), (4, .int (nI L)), (0, .ref 0), (1, .int (nI n)), (2, .int (nI t)), (3, .int (nI N))]) (stk' := [.int x7_145]) (mem' := fm g tp bt a_145 b) (by intro _ _ _; eq_refl) ?_
                        rw [show (fx_cb .ne 0 0) = false from by decide]
                        dsimp only [cond]
                        refine fe_s 6 (pc' := 133) (lc' := [(9, .int ((nI i145) + 1)), (7, .int (x7_145 &&& 1)), (8, .int (nI i103)), (6, .int (nI x6_103)), (5, .int x5_103), (4, .int (nI L)), (0, .ref 0), (1, .int (nI n)), (2, .int (nI t)), (3, .int (nI N))]) (stk' := []) (mem' := fm g tp bt a_145 b) (by intro _ _ _; eq_refl) ?_
                        rw [show ((nI i145) + 1 : Int32) = nI (i145 + 1) from by simp only [show (1 : Int32) = nI 1 from rfl, nI_add, fm_mul]]
                        refine fe_w (lc' := [(9, .int (nI (i145 + 1))), (7, .int (x7_145 &&& 1)), (8, .int (nI i103)), (6, .int (nI x6_103)), (5, .int x5_103), (4, .int (nI L)), (0, .ref 0), (1, .int (nI n)), (2, .int (nI t)), (3, .int (nI N))]) ⟨rfl, rfl, rfl, rfl, rfl, rfl, rfl, rfl, rfl, rfl, trivial⟩ (by show List.Nodup [9, 7, 8, 6, 5, 4, 0, 1, 2, 3]; decide) (by show List.Nodup [9, 7, 8, 6, 5, 4, 0, 1, 2, 3]; decide) ?_
                        exact ih145 (i145 + 1) (by omega) _ a_145 hD_145
                      · refine fe_s 1 (pc' := cond (fx_cb .ne 1 0) 159 155) (lc' := [(9, .int (nI i145)), (7, .int x7_145), (8, .int (nI i103)), (6, .int (nI x6_103)), (5, .int x5_103), (4, .int (nI L)), (0, .ref 0), (1, .int (nI n)), (2, .int (nI t)), (3, .int (nI N))]) (stk' := [.int x7_145]) (mem' := fm g tp bt a_145 b) (by intro _ _ _; eq_refl) ?_
                        rw [show (fx_cb .ne 1 0) = true from by decide]
                        dsimp only [cond]
                        refine fe_s 5 (pc' := 133) (lc' := [(9, .int ((nI i145) + 1)), (7, .int (x7_145 &&& 0)), (8, .int (nI i103)), (6, .int (nI x6_103)), (5, .int x5_103), (4, .int (nI L)), (0, .ref 0), (1, .int (nI n)), (2, .int (nI t)), (3, .int (nI N))]) (stk' := []) (mem' := fm g tp bt a_145 b) (by intro _ _ _; eq_refl) ?_
                        rw [show ((nI i145) + 1 : Int32) = nI (i145 + 1) from by simp only [show (1 : Int32) = nI 1 from rfl, nI_add, fm_mul]]
                        refine fe_w (lc' := [(9, .int (nI (i145 + 1))), (7, .int (x7_145 &&& 0)), (8, .int (nI i103)), (6, .int (nI x6_103)), (5, .int x5_103), (4, .int (nI L)), (0, .ref 0), (1, .int (nI n)), (2, .int (nI t)), (3, .int (nI N))]) ⟨rfl, rfl, rfl, rfl, rfl, rfl, rfl, rfl, rfl, rfl, trivial⟩ (by show List.Nodup [9, 7, 8, 6, 5, 4, 0, 1, 2, 3]; decide) (by show List.Nodup [9, 7, 8, 6, 5, 4, 0, 1, 2, 3]; decide) ?_
                        exact ih145 (i145 + 1) (by omega) _ a_145 hD_145
                  refine fe_w (lc' := [(9, .int (nI 0)), (7, .int 1), (8, .int (nI i103)), (6, .int (nI x6_103)), (5, .int x5_103), (4, .int (nI L)), (0, .ref 0), (1, .int (nI n)), (2, .int (nI t)), (3, .int (nI N))]) ⟨rfl, rfl, rfl, rfl, rfl, rfl, rfl, rfl, rfl, rfl, trivial⟩ (by show List.Nodup [9, 7, 8, 6, 5, 4, 0, 1, 2, 3]; decide) (by show List.Nodup [9, 7, 8, 6, 5, 4, 0, 1, 2, 3]; decide) ?_
                  exact loop145 (n - 0) 0 (by omega) _ ad143 hDd143
                · refine fe_s 4 (pc' := 133) (lc' := [(9, .int 0), (7, .int 0), (8, .int (nI i103)), (6, .int (nI x6_103)), (5, .int x5_103), (4, .int (nI L)), (0, .ref 0), (1, .int (nI n)), (2, .int (nI t)), (3, .int (nI N))]) (stk' := []) (mem' := fm g tp bt ad143 b) (by intro _ _ _; eq_refl) ?_
                  have loop149 : ∀ (r i149 : Nat), i149 + r = n → ∀ x7_149 : Int32, ∀ a_149 : Nat → Nat → Int32, fm_D a0 a_149 (T_103 + 1) → fe_R 8 gk_m329 133 [(9, .int (nI i149)), (7, .int x7_149), (8, .int (nI i103)), (6, .int (nI x6_103)), (5, .int x5_103), (4, .int (nI L)), (0, .ref 0), (1, .int (nI n)), (2, .int (nI t)), (3, .int (nI N))] [] (fm g tp bt a_149 b) (fun R => ∃ (v : Int32) (a' : Nat → Nat → Int32), fm_B a' ∧ (∀ t, fm_okt t = false → a' t = a t) ∧ (∀ i, fm_st i = true → a' 1 i = a 1 i) ∧ R = (some (.int v), fm g tp bt a' b)) := by
                    intro r
                    induction r with
                    | zero =>
                      intro i149 hi149 x7_149 a_149 hD_149
                      obtain rfl : n = i149 := by omega
                      refine fe_s 2 (pc' := 136) (lc' := [(9, .int (nI n)), (7, .int x7_149), (8, .int (nI i103)), (6, .int (nI x6_103)), (5, .int x5_103), (4, .int (nI L)), (0, .ref 0), (1, .int (nI n)), (2, .int (nI t)), (3, .int (nI N))]) (stk' := [.int (nI n), .int (nI n)]) (mem' := fm g tp bt a_149 b) (by intro _ _ _; eq_refl) ?_
                      refine fe_s 1 (pc' := cond (fx_cb .ge (nI n) (nI n)) 169 139) (lc' := [(9, .int (nI n)), (7, .int x7_149), (8, .int (nI i103)), (6, .int (nI x6_103)), (5, .int x5_103), (4, .int (nI L)), (0, .ref 0), (1, .int (nI n)), (2, .int (nI t)), (3, .int (nI N))]) (stk' := []) (mem' := fm g tp bt a_149 b) (by intro _ _ _; eq_refl) ?_
                      rw [show (fx_cb .ge (nI n) (nI n)) = true from cb_geT (a := n) (b := n) (by omega) (by omega) (by omega)]
                      dsimp only [cond]
                      refine fe_s 1 (pc' := 172) (lc' := [(8, .int ((nI i103) + 1)), (9, .int (nI n)), (7, .int x7_149), (6, .int (nI x6_103)), (5, .int x5_103), (4, .int (nI L)), (0, .ref 0), (1, .int (nI n)), (2, .int (nI t)), (3, .int (nI N))]) (stk' := []) (mem' := fm g tp bt a_149 b) (by intro _ _ _; eq_refl) ?_
                      rw [show ((nI i103) + 1 : Int32) = nI (i103 + 1) from by simp only [show (1 : Int32) = nI 1 from rfl, nI_add, fm_mul]]
                      refine fe_s 1 (pc' := fx_to 172 (-119)) (lc' := [(8, .int (nI (i103 + 1))), (9, .int (nI n)), (7, .int x7_149), (6, .int (nI x6_103)), (5, .int x5_103), (4, .int (nI L)), (0, .ref 0), (1, .int (nI n)), (2, .int (nI t)), (3, .int (nI N))]) (stk' := []) (mem' := fm g tp bt a_149 b) (by intro _ _ _; eq_refl) ?_
                      rw [show fx_to 172 (-119) = 53 from by decide]
                      refine fe_w (lc' := [(8, .int (nI (i103 + 1))), (7, .int x7_149), (6, .int (nI x6_103)), (5, .int x5_103), (4, .int (nI L)), (0, .ref 0), (1, .int (nI n)), (2, .int (nI t)), (3, .int (nI N))]) ⟨rfl, rfl, rfl, rfl, rfl, rfl, rfl, rfl, rfl, trivial⟩ (by show List.Nodup [8, 7, 6, 5, 4, 0, 1, 2, 3]; decide) (by show List.Nodup [8, 9, 7, 6, 5, 4, 0, 1, 2, 3]; decide) ?_
                      exact ih103 (i103 + 1) (by omega) _ _ _ (by omega) (T_103 + 1) (by omega) a_149 hD_149
                    | succ r ih149 =>
                      intro i149 hi149 x7_149 a_149 hD_149
                      have hl149 : i149 < n := by omega
                      refine fe_s 2 (pc' := 136) (lc' := [(9, .int (nI i149)), (7, .int x7_149), (8, .int (nI i103)), (6, .int (nI x6_103)), (5, .int x5_103), (4, .int (nI L)), (0, .ref 0), (1, .int (nI n)), (2, .int (nI t)), (3, .int (nI N))]) (stk' := [.int (nI n), .int (nI i149)]) (mem' := fm g tp bt a_149 b) (by intro _ _ _; eq_refl) ?_
                      refine fe_s 1 (pc' := cond (fx_cb .ge (nI i149) (nI n)) 169 139) (lc' := [(9, .int (nI i149)), (7, .int x7_149), (8, .int (nI i103)), (6, .int (nI x6_103)), (5, .int x5_103), (4, .int (nI L)), (0, .ref 0), (1, .int (nI n)), (2, .int (nI t)), (3, .int (nI N))]) (stk' := []) (mem' := fm g tp bt a_149 b) (by intro _ _ _; eq_refl) ?_
                      rw [show (fx_cb .ge (nI i149) (nI n)) = false from cb_geF (a := i149) (b := n) (by omega) (by omega) (by omega)]
                      dsimp only [cond]
                      refine fe_s 5 (pc' := 148) (lc' := [(9, .int (nI i149)), (7, .int x7_149), (8, .int (nI i103)), (6, .int (nI x6_103)), (5, .int x5_103), (4, .int (nI L)), (0, .ref 0), (1, .int (nI n)), (2, .int (nI t)), (3, .int (nI N))]) (stk' := [.int (nI i149), .ref 10, .ref 0, .int x7_149]) (mem' := fm g tp bt a_149 b) (by intro _ _ _; eq_refl) ?_
                      refine fe_ldI (by rfl) (by rfl) (fx_inN (i := i149) (by omega) (by omega)) ?_
                      rw [show Int32.toNatClampNeg (nI i149) = i149 from nI_clamp (by omega)]
                      obtain ⟨u150, hu150, eu150⟩ := fm_tu_at htu hn4 (i := i149) (by omega)
                      rw [show a_149 10 (i149) = nI u150 from by rw [hD_149.1 10 rfl, hK.1 10 (by decide)]; exact eu150]
                      obtain ⟨v151, z152, hv151⟩ := fq_isWet (V := u150) (g := g) (tp := tp) (bt := bt) (a := a_149) (b := b) (by omega)
                      refine fe_ivV hv151 (by omega) (by rfl) (by rfl) (by rfl) (by rfl) (by rfl) (by rfl) ?_
                      rcases z152 with rfl | rfl
                      · refine fe_s 1 (pc' := cond (fx_cb .ne 0 0) 159 155) (lc' := [(9, .int (nI i149)), (7, .int x7_149), (8, .int (nI i103)), (6, .int (nI x6_103)), (5, .int x5_103), (4, .int (nI L)), (0, .ref 0), (1, .int (nI n)), (2, .int (nI t)), (3, .int (nI N))]) (stk' := [.int x7_149]) (mem' := fm g tp bt a_149 b) (by intro _ _ _; eq_refl) ?_
                        rw [show (fx_cb .ne 0 0) = false from by decide]
                        dsimp only [cond]
                        refine fe_s 6 (pc' := 133) (lc' := [(9, .int ((nI i149) + 1)), (7, .int (x7_149 &&& 1)), (8, .int (nI i103)), (6, .int (nI x6_103)), (5, .int x5_103), (4, .int (nI L)), (0, .ref 0), (1, .int (nI n)), (2, .int (nI t)), (3, .int (nI N))]) (stk' := []) (mem' := fm g tp bt a_149 b) (by intro _ _ _; eq_refl) ?_
                        rw [show ((nI i149) + 1 : Int32) = nI (i149 + 1) from by simp only [show (1 : Int32) = nI 1 from rfl, nI_add, fm_mul]]
                        refine fe_w (lc' := [(9, .int (nI (i149 + 1))), (7, .int (x7_149 &&& 1)), (8, .int (nI i103)), (6, .int (nI x6_103)), (5, .int x5_103), (4, .int (nI L)), (0, .ref 0), (1, .int (nI n)), (2, .int (nI t)), (3, .int (nI N))]) ⟨rfl, rfl, rfl, rfl, rfl, rfl, rfl, rfl, rfl, rfl, trivial⟩ (by show List.Nodup [9, 7, 8, 6, 5, 4, 0, 1, 2, 3]; decide) (by show List.Nodup [9, 7, 8, 6, 5, 4, 0, 1, 2, 3]; decide) ?_
                        exact ih149 (i149 + 1) (by omega) _ a_149 hD_149
                      · refine fe_s 1 (pc' := cond (fx_cb .ne 1 0) 159 155) (lc' := [(9, .int (nI i149)), (7, .int x7_149), (8, .int (nI i103)), (6, .int (nI x6_103)), (5, .int x5_103), (4, .int (nI L)), (0, .ref 0), (1, .int (nI n)), (2, .int (nI t)), (3, .int (nI N))]) (stk' := [.int x7_149]) (mem' := fm g tp bt a_149 b) (by intro _ _ _; eq_refl) ?_
                        rw [show (fx_cb .ne 1 0) = true from by decide]
                        dsimp only [cond]
                        refine fe_s 5 (pc' := 133) (lc' := [(9, .int ((nI i149) + 1)), (7, .int (x7_149 &&& 0)), (8, .int (nI i103)), (6, .int (nI x6_103)), (5, .int x5_103), (4, .int (nI L)), (0, .ref 0), (1, .int (nI n)), (2, .int (nI t)), (3, .int (nI N))]) (stk' := []) (mem' := fm g tp bt a_149 b) (by intro _ _ _; eq_refl) ?_
                        rw [show ((nI i149) + 1 : Int32) = nI (i149 + 1) from by simp only [show (1 : Int32) = nI 1 from rfl, nI_add, fm_mul]]
                        refine fe_w (lc' := [(9, .int (nI (i149 + 1))), (7, .int (x7_149 &&& 0)), (8, .int (nI i103)), (6, .int (nI x6_103)), (5, .int x5_103), (4, .int (nI L)), (0, .ref 0), (1, .int (nI n)), (2, .int (nI t)), (3, .int (nI N))]) ⟨rfl, rfl, rfl, rfl, rfl, rfl, rfl, rfl, rfl, rfl, trivial⟩ (by show List.Nodup [9, 7, 8, 6, 5, 4, 0, 1, 2, 3]; decide) (by show List.Nodup [9, 7, 8, 6, 5, 4, 0, 1, 2, 3]; decide) ?_
                        exact ih149 (i149 + 1) (by omega) _ a_149 hD_149
                  refine fe_w (lc' := [(9, .int (nI 0)), (7, .int 0), (8, .int (nI i103)), (6, .int (nI x6_103)), (5, .int x5_103), (4, .int (nI L)), (0, .ref 0), (1, .int (nI n)), (2, .int (nI t)), (3, .int (nI N))]) ⟨rfl, rfl, rfl, rfl, rfl, rfl, rfl, rfl, rfl, rfl, trivial⟩ (by show List.Nodup [9, 7, 8, 6, 5, 4, 0, 1, 2, 3]; decide) (by show List.Nodup [9, 7, 8, 6, 5, 4, 0, 1, 2, 3]; decide) ?_
                  exact loop149 (n - 0) 0 (by omega) _ ad143 hDd143
          · refine fe_s 2 (pc' := 179) (lc' := [(8, .int (nI i103)), (7, .int x7_103), (6, .int (nI x6_103)), (5, .int x5_103), (4, .int (nI L)), (0, .ref 0), (1, .int (nI n)), (2, .int (nI t)), (3, .int (nI N))]) (stk' := [.int 5052, .ref 0]) (mem' := fm g tp bt a_103 b) (by intro _ _ _; eq_refl) ?_
            obtain ⟨vz153, memz153, ⟨az153, hSz153, hRz153⟩, hfrz153⟩ := fr_restores5052 (g := g) (tp := tp) (bt := bt) (a := a_103) (b := b)
            cases hRz153
            have hZz153 := fm_restd hB (by decide) hK hD_103 hSz153
            have hEz153 : fm_E a az153 := ⟨hZz153.1, fun t ht => hZz153.2.2 t (fm_okE_t ht), fun i hi => hZz153.2.1 i (by have := fm_st_n hi; omega)⟩
            refine fe_ivV hfrz153 (by omega) (by rfl) (by rfl) (by rfl) (by rfl) (by rfl) (by rfl) ?_
            refine fe_s 1 (pc' := 184) (lc' := [(8, .int (nI i103)), (7, .int x7_103), (6, .int (nI x6_103)), (5, .int x5_103), (4, .int (nI L)), (0, .ref 0), (1, .int (nI n)), (2, .int (nI t)), (3, .int (nI N))]) (stk' := [.int x7_103]) (mem' := fm g tp bt az153 b) (by intro _ _ _; eq_refl) ?_
            refine fe_s 1 (pc' := cond (fx_cb .eq x7_103 0) 192 187) (lc' := [(8, .int (nI i103)), (7, .int x7_103), (6, .int (nI x6_103)), (5, .int x5_103), (4, .int (nI L)), (0, .ref 0), (1, .int (nI n)), (2, .int (nI t)), (3, .int (nI N))]) (stk' := []) (mem' := fm g tp bt az153 b) (by intro _ _ _; eq_refl) ?_
            cases h154 : fx_cb .eq x7_103 0
            · refine fe_s 2 (pc' := 195) (lc' := [(8, .int (nI i103)), (7, .int x7_103), (6, .int (nI x6_103)), (5, .int x5_103), (4, .int (nI L)), (0, .ref 0), (1, .int (nI n)), (2, .int (nI t)), (3, .int (nI N))]) (stk' := [.int (nI L)]) (mem' := fm g tp bt az153 b) (by intro _ _ _; eq_refl) ?_
              exact fe_ret ⟨_, _, hZz153.1, hZz153.2.2, (fun i hi => hZz153.2.1 i (by have := fm_st_n hi; omega)), rfl⟩ (by rfl) (by rfl) (by rfl)
            · refine fe_s 1 (pc' := 195) (lc' := [(8, .int (nI i103)), (7, .int x7_103), (6, .int (nI x6_103)), (5, .int x5_103), (4, .int (nI L)), (0, .ref 0), (1, .int (nI n)), (2, .int (nI t)), (3, .int (nI N))]) (stk' := [.int 1000000]) (mem' := fm g tp bt az153 b) (by intro _ _ _; eq_refl) ?_
              exact fe_ret ⟨_, _, hZz153.1, hZz153.2.2, (fun i hi => hZz153.2.1 i (by have := fm_st_n hi; omega)), rfl⟩ (by rfl) (by rfl) (by rfl)
      refine fe_w (lc' := [(8, .int (nI 0)), (7, .int 1), (6, .int (nI 0)), (5, .int 0), (4, .int (nI L)), (0, .ref 0), (1, .int (nI n)), (2, .int (nI t)), (3, .int (nI N))]) ⟨rfl, rfl, rfl, rfl, rfl, rfl, rfl, rfl, rfl, trivial⟩ (by show List.Nodup [8, 7, 6, 5, 4, 0, 1, 2, 3]; decide) (by show List.Nodup [8, 7, 6, 5, 4, 0, 1, 2, 3]; decide) ?_
      exact loop103 (L - 0) 0 (by omega) _ _ _ (by omega) T (by omega) a_102 hD_102
    | succ r ih102 =>
      intro i102 hi102 x4_102 hx4_102 a_102 hD_102
      have hl102 : i102 < n := by omega
      refine fe_s 2 (pc' := 20) (lc' := [(5, .int (nI i102)), (4, .int (nI x4_102)), (0, .ref 0), (1, .int (nI n)), (2, .int (nI t)), (3, .int (nI N))]) (stk' := [.int (nI n), .int (nI i102)]) (mem' := fm g tp bt a_102 b) (by intro _ _ _; eq_refl) ?_
      refine fe_s 1 (pc' := cond (fx_cb .ge (nI i102) (nI n)) 41 23) (lc' := [(5, .int (nI i102)), (4, .int (nI x4_102)), (0, .ref 0), (1, .int (nI n)), (2, .int (nI t)), (3, .int (nI N))]) (stk' := []) (mem' := fm g tp bt a_102 b) (by intro _ _ _; eq_refl) ?_
      rw [show (fx_cb .ge (nI i102) (nI n)) = false from cb_geF (a := i102) (b := n) (by omega) (by omega) (by omega)]
      dsimp only [cond]
      refine fe_s 4 (pc' := 31) (lc' := [(5, .int (nI i102)), (4, .int (nI x4_102)), (0, .ref 0), (1, .int (nI n)), (2, .int (nI t)), (3, .int (nI N))]) (stk' := [.int (nI i102), .ref 11, .int (nI x4_102)]) (mem' := fm g tp bt a_102 b) (by intro _ _ _; eq_refl) ?_
      refine fe_ldI (by rfl) (by rfl) (fx_inN (i := i102) (by omega) (by omega)) ?_
      rw [show Int32.toNatClampNeg (nI i102) = i102 from nI_clamp (by omega)]
      obtain ⟨u155, hu155, eu155⟩ := fm_ga_at hga hn4 (i := i102) (by omega)
      rw [show a_102 11 (i102) = nI u155 from by rw [hD_102.1 11 rfl, hK.1 11 (by decide)]; exact eu155]
      refine fe_s 4 (pc' := 17) (lc' := [(5, .int ((nI i102) + 1)), (4, .int ((nI x4_102) + (nI u155))), (0, .ref 0), (1, .int (nI n)), (2, .int (nI t)), (3, .int (nI N))]) (stk' := []) (mem' := fm g tp bt a_102 b) (by intro _ _ _; eq_refl) ?_
      rw [show ((nI i102) + 1 : Int32) = nI (i102 + 1) from by simp only [show (1 : Int32) = nI 1 from rfl, nI_add, fm_mul]]
      rw [show ((nI x4_102) + (nI u155) : Int32) = nI (x4_102 + u155) from by simp only [nI_add, fm_mul]]
      refine fe_w (lc' := [(5, .int (nI (i102 + 1))), (4, .int (nI (x4_102 + u155))), (0, .ref 0), (1, .int (nI n)), (2, .int (nI t)), (3, .int (nI N))]) ⟨rfl, rfl, rfl, rfl, rfl, rfl, trivial⟩ (by show List.Nodup [5, 4, 0, 1, 2, 3]; decide) (by show List.Nodup [5, 4, 0, 1, 2, 3]; decide) ?_
      exact ih102 (i102 + 1) (by omega) _ (by omega) a_102 hD_102
  refine fe_w (lc' := [(5, .int (nI 1)), (4, .int (nI N)), (0, .ref 0), (1, .int (nI n)), (2, .int (nI t)), (3, .int (nI N))]) ⟨rfl, rfl, rfl, rfl, rfl, rfl, trivial⟩ (by show List.Nodup [5, 4, 0, 1, 2, 3]; decide) (by show List.Nodup [5, 4, 0, 1, 2, 3]; decide) ?_
  exact loop102 (n - 1) 1 (by omega) _ (by omega) ad101 hDd101
end FQ2
end MH12_0
section MH12_1
/-! ===== fx: queues: wrongQueue ===== -/
section FQ3
variable {g : Nat → Int32} {tp bt : Int64} {a0 a : Nat → Nat → Int32} {b : Nat → Nat → Int64}
theorem fm_p2i (n : Nat) : (2 : Int) ^ n = ((2 ^ n : Nat) : Int) := by rw [Int.natCast_pow]; rfl
set_option maxHeartbeats 4000000 in
theorem fr_wrongQueue {T : Nat} {NWq : Nat} {set tray nn : Int32} (hB : fm_B a0) (hD : fm_D a0 a T) (hNq : a0 1 1 = nI NWq) (hNq8 : NWq ≤ 8)  : ∃ (v : Option Value) (mem' : fx_M), (fun R => ∃ v : Nat, v ≤ 9 ∧ (v = 0 → ∃ S9 t9 N9 : Nat, set = nI S9 ∧ tray = nI t9 ∧ nn = nI N9 ∧ 1 ≤ S9 ∧ S9 < 2 ^ NWq ∧ fm_pw S9 8 ≤ 4 ∧ t9 < 4 ∧ 1 ≤ N9 ∧ N9 ≤ 12 ∧ ∀ k, k < N9 → ∃ C, C < 10 ∧ b 5 (60 * t9 + k) = Int64.ofNat C) ∧ ∃ a' : Nat → Nat → Int32, fm_D a0 a' T ∧ R = (some (.int (nI v)), fm g tp bt a' b)) (v, mem') ∧ fr_T 9 333 [.ref 0, .int set, .int tray, .int nn] (fm g tp bt a b) v mem' := by
  obtain ⟨NC, hNC, eNC⟩ := fm_B_0 hB (i := 0) (n := 10) (by decide) rfl
  obtain ⟨NW, hNW, eNW⟩ := fm_B_0 hB (i := 1) (n := 8) (by decide) rfl
  have eNq : NWq = NW := (nI_eq (by omega) (by omega)).mp (hNq.symm.trans eNW)
  have hT9 := hD.2.2.2.2.1
  refine fe_meth (F := fun R => ∃ v : Nat, v ≤ 9 ∧ (v = 0 → ∃ S9 t9 N9 : Nat, set = nI S9 ∧ tray = nI t9 ∧ nn = nI N9 ∧ 1 ≤ S9 ∧ S9 < 2 ^ NWq ∧ fm_pw S9 8 ≤ 4 ∧ t9 < 4 ∧ 1 ≤ N9 ∧ N9 ≤ 12 ∧ ∀ k, k < N9 → ∃ C, C < 10 ∧ b 5 (60 * t9 + k) = Int64.ofNat C) ∧ ∃ a' : Nat → Nat → Int32, fm_D a0 a' T ∧ R = (some (.int (nI v)), fm g tp bt a' b)) (M := gk_m333) (by rfl) (by rfl) ?_
  refine fe_s 7 (pc' := 9) (lc' := [(0, .ref 0), (1, .int set), (2, .int tray), (3, .int nn)]) (stk' := [.int 1, .ref 1, .long 1, .long 1, .long (set.toInt64)]) (mem' := fm g tp bt a b) (by intro _ _ _; eq_refl) ?_
  refine fe_ldI (by rfl) (by rfl) (fx_inN (i := 1) (by omega) (by omega)) ?_
  rw [show Int32.toNatClampNeg (1) = 1 from rfl]
  rw [show a 1 1 = nI NW from (fm_D_h hD (by decide) rfl).trans eNW]
  refine fe_s 3 (pc' := 13) (lc' := [(0, .ref 0), (1, .int set), (2, .int tray), (3, .int nn)]) (stk' := [.long ((1 <<< ((nI NW).toInt64 &&& 63)) - 1), .long 1, .long (set.toInt64)]) (mem' := fm g tp bt a b) (by intro _ _ _; eq_refl) ?_
  obtain ⟨vf101, memf101, ⟨xf101, hxf101, hRf101⟩, hfrf101⟩ := fr_isFrom (v := set.toInt64) (l := 1) (m := (1 <<< ((nI NW).toInt64 &&& 63)) - 1) (mem := fm g tp bt a b)
  cases hRf101
  refine fe_ivS hfrf101 (by omega) (by rfl) (by rfl) (by rfl) (by rfl) (by rfl) ?_
  rcases hxf101 with ⟨rfl, -⟩ | ⟨rfl, hlf101, hmf101⟩
  · refine fe_s 1 (pc' := cond (fx_cb .eq 0 0) 27 19) (lc' := [(0, .ref 0), (1, .int set), (2, .int tray), (3, .int nn)]) (stk' := []) (mem' := fm g tp bt a b) (by intro _ _ _; eq_refl) ?_
    rw [show (fx_cb .eq 0 0) = true from by decide]
    dsimp only [cond]
    refine fe_s 1 (pc' := 28) (lc' := [(0, .ref 0), (1, .int set), (2, .int tray), (3, .int nn)]) (stk' := [.int 1]) (mem' := fm g tp bt a b) (by intro _ _ _; eq_refl) ?_
    exact fe_ret ⟨1, by omega, fun hh => absurd hh (by omega), _, hD, rfl⟩ (by rfl) (by rfl) (by rfl)
  · have h256 : 2 ^ NW ≤ 2 ^ 8 := Nat.pow_le_pow_right (by decide) hNW
    rw [Int32.toInt_toInt64] at hlf101 hmf101
    rw [fm_lshl NW (by omega)] at hmf101
    rw [show ((1 : Int64).toInt) = 1 from rfl] at hlf101
    rw [show (2 : Nat) ^ 8 = 256 from rfl] at h256
    rw [fm_p2i] at hmf101
    obtain ⟨S, hS255, rfl⟩ : ∃ S, S ≤ 255 ∧ set = nI S := nI_bd (n := 255) (by omega) (by omega)
    rw [nI_i32 (by omega)] at hlf101 hmf101
    have hS1 : 1 ≤ S := by omega
    have hSN : S < 2 ^ NW := by omega
    refine fe_s 1 (pc' := cond (fx_cb .eq 1 0) 27 19) (lc' := [(0, .ref 0), (1, .int (nI S)), (2, .int tray), (3, .int nn)]) (stk' := []) (mem' := fm g tp bt a b) (by intro _ _ _; eq_refl) ?_
    rw [show (fx_cb .eq 1 0) = false from by decide]
    dsimp only [cond]
    refine fe_s 1 (pc' := 20) (lc' := [(0, .ref 0), (1, .int (nI S)), (2, .int tray), (3, .int nn)]) (stk' := [.int (nI S)]) (mem' := fm g tp bt a b) (by intro _ _ _; eq_refl) ?_
    obtain ⟨p, hp⟩ : ∃ p, p = fm_pw S 8 := ⟨_, rfl⟩
    have hp8 : p ≤ 8 := by rw [hp]; exact fm_pw_w S 8
    have hbN := fr_bitsN (S := S) (mem := fm g tp bt a b) (by omega)
    rw [← hp] at hbN
    refine fe_ivS hbN (by omega) (by rfl) (by rfl) (by rfl) (by rfl) (by rfl) ?_
    refine fe_s 1 (pc' := 24) (lc' := [(0, .ref 0), (1, .int (nI S)), (2, .int tray), (3, .int nn)]) (stk' := [.int 4, .int (nI p)]) (mem' := fm g tp bt a b) (by intro _ _ _; eq_refl) ?_
    refine fe_s 1 (pc' := cond (fx_cb .le (nI p) 4) 29 27) (lc' := [(0, .ref 0), (1, .int (nI S)), (2, .int tray), (3, .int nn)]) (stk' := []) (mem' := fm g tp bt a b) (by intro _ _ _; eq_refl) ?_
    by_cases h102 : p ≤ 4
    · rw [show (fx_cb .le (nI p) 4) = true from cb_leT (a := p) (b := 4) (by omega) (by omega) (by omega)]
      dsimp only [cond]
      refine fe_s 4 (pc' := 34) (lc' := [(0, .ref 0), (1, .int (nI S)), (2, .int tray), (3, .int nn)]) (stk' := [.int 12, .int nn, .int tray, .ref 0]) (mem' := fm g tp bt a b) (by intro _ _ _; eq_refl) ?_
      obtain ⟨vu103, memu103, ⟨uu103, huu103, h0u103, hRu103⟩, hfru103⟩ := fr_wrongTray (tray := tray) (nn := nn) (M := 12) (g := g) (tp := tp) (bt := bt) (a := a) (b := b) (by omega) ((fm_D_h hD (by decide) rfl).trans eNC) hNC
      cases hRu103
      refine fe_ivV hfru103 (by omega) (by rfl) (by rfl) (by rfl) (by rfl) (by rfl) (by rfl) ?_
      refine fe_s 2 (pc' := 41) (lc' := [(4, .int (nI uu103)), (0, .ref 0), (1, .int (nI S)), (2, .int tray), (3, .int nn)]) (stk' := [.int (nI uu103)]) (mem' := fm g tp bt a b) (by intro _ _ _; eq_refl) ?_
      refine fe_s 1 (pc' := cond (fx_cb .le (nI uu103) 0) 47 44) (lc' := [(4, .int (nI uu103)), (0, .ref 0), (1, .int (nI S)), (2, .int tray), (3, .int nn)]) (stk' := []) (mem' := fm g tp bt a b) (by intro _ _ _; eq_refl) ?_
      by_cases h104 : uu103 ≤ 0
      · rw [show (fx_cb .le (nI uu103) 0) = true from cb_leT (a := uu103) (b := 0) (by omega) (by omega) (by omega)]
        dsimp only [cond]
        obtain ⟨t, n, rfl, rfl, ht, hn1, hn, hc⟩ := h0u103 (by omega)
        refine fe_s 4 (pc' := 53) (lc' := [(6, .int 0), (5, .int (-1)), (4, .int (nI uu103)), (0, .ref 0), (1, .int (nI S)), (2, .int (nI t)), (3, .int (nI n))]) (stk' := []) (mem' := fm g tp bt a b) (by intro _ _ _; eq_refl) ?_
        have loop : ∀ (r i : Nat), i + r = NW → ∀ sh : Int32, (sh = -1 ∧ fm_pw S i = 0 ∨ ∃ c, c < 10 ∧ sh = nI c) → fe_R 8 gk_m333 53 [(6, .int (nI i)), (5, .int sh), (0, .ref 0), (1, .int (nI S)), (2, .int (nI t)), (3, .int (nI n))] [] (fm g tp bt a b) (fun R => ∃ v : Nat, v ≤ 9 ∧ (v = 0 → ∃ S9 t9 N9 : Nat, nI S = nI S9 ∧ nI t = nI t9 ∧ nI n = nI N9 ∧ 1 ≤ S9 ∧ S9 < 2 ^ NWq ∧ fm_pw S9 8 ≤ 4 ∧ t9 < 4 ∧ 1 ≤ N9 ∧ N9 ≤ 12 ∧ ∀ k, k < N9 → ∃ C, C < 10 ∧ b 5 (60 * t9 + k) = Int64.ofNat C) ∧ ∃ a' : Nat → Nat → Int32, fm_D a0 a' T ∧ R = (some (.int (nI v)), fm g tp bt a' b)) := by
          intro r
          induction r with
          | zero =>
            intro i hi sh hsh
            obtain rfl : NW = i := by omega
            rcases hsh with ⟨-, h0⟩ | ⟨c, hc10, rfl⟩
            · exact absurd h0 (fm_pw_pos hNW hS1 hSN)
            · refine fe_s 4 (pc' := 60) (lc' := [(6, .int (nI NW)), (5, .int (nI c)), (0, .ref 0), (1, .int (nI S)), (2, .int (nI t)), (3, .int (nI n))]) (stk' := [.int 1, .ref 1, .int (nI NW)]) (mem' := fm g tp bt a b) (by intro _ _ _; eq_refl) ?_
              refine fe_ldI (by rfl) (by rfl) (fx_inN (i := 1) (by omega) (by omega)) ?_
              rw [show Int32.toNatClampNeg (1) = 1 from rfl]
              rw [show a 1 1 = nI NW from (fm_D_h hD (by decide) rfl).trans eNW]
              refine fe_s 1 (pc' := cond (fx_cb .ge (nI NW) (nI NW)) 138 64) (lc' := [(6, .int (nI NW)), (5, .int (nI c)), (0, .ref 0), (1, .int (nI S)), (2, .int (nI t)), (3, .int (nI n))]) (stk' := []) (mem' := fm g tp bt a b) (by intro _ _ _; eq_refl) ?_
              rw [show (fx_cb .ge (nI NW) (nI NW)) = true from cb_geT (a := NW) (b := NW) (by omega) (by omega) (by omega)]
              dsimp only [cond]
              refine fe_s 4 (pc' := 143) (lc' := [(6, .int (nI NW)), (5, .int (nI c)), (0, .ref 0), (1, .int (nI S)), (2, .int (nI t)), (3, .int (nI n))]) (stk' := [.int (nI n), .int (nI t), .int (nI c), .ref 0]) (mem' := fm g tp bt a b) (by intro _ _ _; eq_refl) ?_
              obtain ⟨vr105, memr105, ⟨xr105, hxr105, ar105, hDr105, hRr105⟩, hfrr105⟩ := fr_isRoute (X := c) (t := t) (n := n) (g := g) (tp := tp) (bt := bt) (a := a) (b := b) hB hD (by omega) (by omega) (by omega) hc
              cases hRr105
              refine fe_ivV hfrr105 (by omega) (by rfl) (by rfl) (by rfl) (by rfl) (by rfl) (by rfl) ?_
              rcases hxr105 with rfl | rfl
              · refine fe_s 1 (pc' := cond (fx_cb .eq 0 0) 153 149) (lc' := [(6, .int (nI NW)), (5, .int (nI c)), (0, .ref 0), (1, .int (nI S)), (2, .int (nI t)), (3, .int (nI n))]) (stk' := []) (mem' := fm g tp bt ar105 b) (by intro _ _ _; eq_refl) ?_
                rw [show (fx_cb .eq 0 0) = true from by decide]
                dsimp only [cond]
                refine fe_s 1 (pc' := 155) (lc' := [(6, .int (nI NW)), (5, .int (nI c)), (0, .ref 0), (1, .int (nI S)), (2, .int (nI t)), (3, .int (nI n))]) (stk' := [.int 7]) (mem' := fm g tp bt ar105 b) (by intro _ _ _; eq_refl) ?_
                exact fe_ret ⟨7, by omega, fun hh => absurd hh (by omega), _, hDr105, rfl⟩ (by rfl) (by rfl) (by rfl)
              · refine fe_s 1 (pc' := cond (fx_cb .eq 1 0) 153 149) (lc' := [(6, .int (nI NW)), (5, .int (nI c)), (0, .ref 0), (1, .int (nI S)), (2, .int (nI t)), (3, .int (nI n))]) (stk' := []) (mem' := fm g tp bt ar105 b) (by intro _ _ _; eq_refl) ?_
                rw [show (fx_cb .eq 1 0) = false from by decide]
                dsimp only [cond]
                refine fe_s 2 (pc' := 155) (lc' := [(6, .int (nI NW)), (5, .int (nI c)), (0, .ref 0), (1, .int (nI S)), (2, .int (nI t)), (3, .int (nI n))]) (stk' := [.int 0]) (mem' := fm g tp bt ar105 b) (by intro _ _ _; eq_refl) ?_
                exact fe_ret ⟨0, by omega, fun _ => ⟨S, t, n, rfl, rfl, rfl, hS1, by rw [eNq]; exact hSN, by omega, ht, hn1, hn, hc⟩, _, hDr105, rfl⟩ (by rfl) (by rfl) (by rfl)
          | succ r ih =>
            intro i hi sh hsh
            have hlt : i < NW := by omega
            rcases hsh with ⟨rfl, h0⟩ | ⟨c, hc10, rfl⟩
            · refine fe_s 4 (pc' := 60) (lc' := [(6, .int (nI i)), (5, .int (-1)), (0, .ref 0), (1, .int (nI S)), (2, .int (nI t)), (3, .int (nI n))]) (stk' := [.int 1, .ref 1, .int (nI i)]) (mem' := fm g tp bt a b) (by intro _ _ _; eq_refl) ?_
              refine fe_ldI (by rfl) (by rfl) (fx_inN (i := 1) (by omega) (by omega)) ?_
              rw [show Int32.toNatClampNeg (1) = 1 from rfl]
              rw [show a 1 1 = nI NW from (fm_D_h hD (by decide) rfl).trans eNW]
              refine fe_s 1 (pc' := cond (fx_cb .ge (nI i) (nI NW)) 138 64) (lc' := [(6, .int (nI i)), (5, .int (-1)), (0, .ref 0), (1, .int (nI S)), (2, .int (nI t)), (3, .int (nI n))]) (stk' := []) (mem' := fm g tp bt a b) (by intro _ _ _; eq_refl) ?_
              rw [show (fx_cb .ge (nI i) (nI NW)) = false from cb_geF (a := i) (b := NW) (by omega) (by omega) (by omega)]
              dsimp only [cond]
              refine fe_s 3 (pc' := 68) (lc' := [(6, .int (nI i)), (5, .int (-1)), (0, .ref 0), (1, .int (nI S)), (2, .int (nI t)), (3, .int (nI n))]) (stk' := [.int (nI i), .int (nI S), .ref 0]) (mem' := fm g tp bt a b) (by intro _ _ _; eq_refl) ?_
              refine fe_ivV fr_isIn (by omega) (by rfl) (by rfl) (by rfl) (by rfl) (by rfl) (by rfl) ?_
              rcases fm_b_01 (nI S) (nI i) with q106 | q106
              · rw [q106]
                refine fe_s 1 (pc' := cond (fx_cb .ne 0 0) 77 74) (lc' := [(6, .int (nI i)), (5, .int (-1)), (0, .ref 0), (1, .int (nI S)), (2, .int (nI t)), (3, .int (nI n))]) (stk' := []) (mem' := fm g tp bt a b) (by intro _ _ _; eq_refl) ?_
                rw [show (fx_cb .ne 0 0) = false from by decide]
                dsimp only [cond]
                refine fe_s 2 (pc' := 135) (lc' := [(6, .int ((nI i) + 1)), (5, .int (-1)), (0, .ref 0), (1, .int (nI S)), (2, .int (nI t)), (3, .int (nI n))]) (stk' := []) (mem' := fm g tp bt a b) (by intro _ _ _; eq_refl) ?_
                rw [show ((nI i) + 1 : Int32) = nI (i + 1) from by simp only [show (1 : Int32) = nI 1 from rfl, nI_add, fm_mul]]
                refine fe_s 1 (pc' := fx_to 135 (-82)) (lc' := [(6, .int (nI (i + 1))), (5, .int (-1)), (0, .ref 0), (1, .int (nI S)), (2, .int (nI t)), (3, .int (nI n))]) (stk' := []) (mem' := fm g tp bt a b) (by intro _ _ _; eq_refl) ?_
                rw [show fx_to 135 (-82) = 53 from by decide]
                refine fe_w (lc' := [(6, .int (nI (i + 1))), (5, .int (-1)), (0, .ref 0), (1, .int (nI S)), (2, .int (nI t)), (3, .int (nI n))]) ⟨rfl, rfl, rfl, rfl, rfl, rfl, trivial⟩ (by show List.Nodup [6, 5, 0, 1, 2, 3]; decide) (by show List.Nodup [6, 5, 0, 1, 2, 3]; decide) ?_
                exact ih (i + 1) (by omega) _ (Or.inl ⟨rfl, by rw [fm_pw_z S i q106]; exact h0⟩)
              · rw [q106]
                refine fe_s 1 (pc' := cond (fx_cb .ne 1 0) 77 74) (lc' := [(6, .int (nI i)), (5, .int (-1)), (0, .ref 0), (1, .int (nI S)), (2, .int (nI t)), (3, .int (nI n))]) (stk' := []) (mem' := fm g tp bt a b) (by intro _ _ _; eq_refl) ?_
                rw [show (fx_cb .ne 1 0) = true from by decide]
                dsimp only [cond]
                refine fe_s 2 (pc' := 80) (lc' := [(6, .int (nI i)), (5, .int (-1)), (0, .ref 0), (1, .int (nI S)), (2, .int (nI t)), (3, .int (nI n))]) (stk' := [.int (-1), .int (-1)]) (mem' := fm g tp bt a b) (by intro _ _ _; eq_refl) ?_
                refine fe_s 1 (pc' := cond (fx_cb .ne (-1) (-1)) 91 83) (lc' := [(6, .int (nI i)), (5, .int (-1)), (0, .ref 0), (1, .int (nI S)), (2, .int (nI t)), (3, .int (nI n))]) (stk' := []) (mem' := fm g tp bt a b) (by intro _ _ _; eq_refl) ?_
                rw [show (fx_cb .ne (-1) (-1)) = false from by decide]
                dsimp only [cond]
                refine fe_s 2 (pc' := 86) (lc' := [(6, .int (nI i)), (5, .int (-1)), (0, .ref 0), (1, .int (nI S)), (2, .int (nI t)), (3, .int (nI n))]) (stk' := [.int (nI i), .ref 0]) (mem' := fm g tp bt a b) (by intro _ _ _; eq_refl) ?_
                refine fe_ivV (fr_whereOf (W := i) (g := g) (tp := tp) (bt := bt) (a := a) (b := b) (by omega)) (by omega) (by rfl) (by rfl) (by rfl) (by rfl) (by rfl) (by rfl) ?_
                obtain ⟨l107, hl107, el107⟩ := fm_D_w1 hD (W := i) (by omega)
                rw [el107]
                refine fe_s 3 (pc' := 94) (lc' := [(5, .int (nI l107)), (6, .int (nI i)), (0, .ref 0), (1, .int (nI S)), (2, .int (nI t)), (3, .int (nI n))]) (stk' := [.int (nI i), .ref 0]) (mem' := fm g tp bt a b) (by intro _ _ _; eq_refl) ?_
                refine fe_ivV (fr_whereOf (W := i) (g := g) (tp := tp) (bt := bt) (a := a) (b := b) (by omega)) (by omega) (by rfl) (by rfl) (by rfl) (by rfl) (by rfl) (by rfl) ?_
                obtain ⟨l108, hl108, el108⟩ := fm_D_w1 hD (W := i) (by omega)
                rw [el108]
                refine fe_s 1 (pc' := 99) (lc' := [(5, .int (nI l107)), (6, .int (nI i)), (0, .ref 0), (1, .int (nI S)), (2, .int (nI t)), (3, .int (nI n))]) (stk' := [.int (nI l107), .int (nI l108)]) (mem' := fm g tp bt a b) (by intro _ _ _; eq_refl) ?_
                refine fe_s 1 (pc' := cond (fx_cb .ne (nI l108) (nI l107)) 129 102) (lc' := [(5, .int (nI l107)), (6, .int (nI i)), (0, .ref 0), (1, .int (nI S)), (2, .int (nI t)), (3, .int (nI n))]) (stk' := []) (mem' := fm g tp bt a b) (by intro _ _ _; eq_refl) ?_
                by_cases h109 : l108 = l107
                · rw [show (fx_cb .ne (nI l108) (nI l107)) = false from cb_neF (a := l108) (b := l107) (by omega) (by omega) (by omega)]
                  dsimp only [cond]
                  refine fe_s 2 (pc' := 105) (lc' := [(5, .int (nI l107)), (6, .int (nI i)), (0, .ref 0), (1, .int (nI S)), (2, .int (nI t)), (3, .int (nI n))]) (stk' := [.int (nI l107), .ref 0]) (mem' := fm g tp bt a b) (by intro _ _ _; eq_refl) ?_
                  obtain ⟨v110, z111, hv110⟩ := fq_isShore (C := l107) (g := g) (tp := tp) (bt := bt) (a := a) (b := b) (by omega)
                  refine fe_ivV hv110 (by omega) (by rfl) (by rfl) (by rfl) (by rfl) (by rfl) (by rfl) ?_
                  rcases z111 with rfl | rfl
                  · refine fe_s 1 (pc' := cond (fx_cb .eq 0 0) 129 111) (lc' := [(5, .int (nI l107)), (6, .int (nI i)), (0, .ref 0), (1, .int (nI S)), (2, .int (nI t)), (3, .int (nI n))]) (stk' := []) (mem' := fm g tp bt a b) (by intro _ _ _; eq_refl) ?_
                    rw [show (fx_cb .eq 0 0) = true from by decide]
                    dsimp only [cond]
                    refine fe_s 1 (pc' := 131) (lc' := [(5, .int (nI l107)), (6, .int (nI i)), (0, .ref 0), (1, .int (nI S)), (2, .int (nI t)), (3, .int (nI n))]) (stk' := [.int 7]) (mem' := fm g tp bt a b) (by intro _ _ _; eq_refl) ?_
                    exact fe_ret ⟨7, by omega, fun hh => absurd hh (by omega), _, hD, rfl⟩ (by rfl) (by rfl) (by rfl)
                  · refine fe_s 1 (pc' := cond (fx_cb .eq 1 0) 129 111) (lc' := [(5, .int (nI l107)), (6, .int (nI i)), (0, .ref 0), (1, .int (nI S)), (2, .int (nI t)), (3, .int (nI n))]) (stk' := []) (mem' := fm g tp bt a b) (by intro _ _ _; eq_refl) ?_
                    rw [show (fx_cb .eq 1 0) = false from by decide]
                    dsimp only [cond]
                    refine fe_s 2 (pc' := 114) (lc' := [(5, .int (nI l107)), (6, .int (nI i)), (0, .ref 0), (1, .int (nI S)), (2, .int (nI t)), (3, .int (nI n))]) (stk' := [.int (nI i), .ref 0]) (mem' := fm g tp bt a b) (by intro _ _ _; eq_refl) ?_
                    obtain ⟨v112, z113, hv112⟩ := fq_isWet (V := i) (g := g) (tp := tp) (bt := bt) (a := a) (b := b) (by omega)
                    refine fe_ivV hv112 (by omega) (by rfl) (by rfl) (by rfl) (by rfl) (by rfl) (by rfl) ?_
                    rcases z113 with rfl | rfl
                    · refine fe_s 1 (pc' := cond (fx_cb .ne 0 0) 129 120) (lc' := [(5, .int (nI l107)), (6, .int (nI i)), (0, .ref 0), (1, .int (nI S)), (2, .int (nI t)), (3, .int (nI n))]) (stk' := []) (mem' := fm g tp bt a b) (by intro _ _ _; eq_refl) ?_
                      rw [show (fx_cb .ne 0 0) = false from by decide]
                      dsimp only [cond]
                      refine fe_s 2 (pc' := 123) (lc' := [(5, .int (nI l107)), (6, .int (nI i)), (0, .ref 0), (1, .int (nI S)), (2, .int (nI t)), (3, .int (nI n))]) (stk' := [.int (nI i), .ref 0]) (mem' := fm g tp bt a b) (by intro _ _ _; eq_refl) ?_
                      refine fe_ivV (fr_leftOfX (V := i) (g := g) (tp := tp) (bt := bt) (a := a) (b := b) (by omega)) (by omega) (by rfl) (by rfl) (by rfl) (by rfl) (by rfl) (by rfl) ?_
                      obtain ⟨l114, hl114, el114⟩ := fm_D_w3 hD (W := i) (by omega)
                      rw [el114]
                      refine fe_s 1 (pc' := cond (fx_cb .le (nI l114) 0) 132 129) (lc' := [(5, .int (nI l107)), (6, .int (nI i)), (0, .ref 0), (1, .int (nI S)), (2, .int (nI t)), (3, .int (nI n))]) (stk' := []) (mem' := fm g tp bt a b) (by intro _ _ _; eq_refl) ?_
                      by_cases h115 : l114 ≤ 0
                      · rw [show (fx_cb .le (nI l114) 0) = true from cb_leT (a := l114) (b := 0) (by omega) (by omega) (by omega)]
                        dsimp only [cond]
                        refine fe_s 1 (pc' := 135) (lc' := [(6, .int ((nI i) + 1)), (5, .int (nI l107)), (0, .ref 0), (1, .int (nI S)), (2, .int (nI t)), (3, .int (nI n))]) (stk' := []) (mem' := fm g tp bt a b) (by intro _ _ _; eq_refl) ?_
                        rw [show ((nI i) + 1 : Int32) = nI (i + 1) from by simp only [show (1 : Int32) = nI 1 from rfl, nI_add, fm_mul]]
                        refine fe_s 1 (pc' := fx_to 135 (-82)) (lc' := [(6, .int (nI (i + 1))), (5, .int (nI l107)), (0, .ref 0), (1, .int (nI S)), (2, .int (nI t)), (3, .int (nI n))]) (stk' := []) (mem' := fm g tp bt a b) (by intro _ _ _; eq_refl) ?_
                        rw [show fx_to 135 (-82) = 53 from by decide]
                        refine fe_w (lc' := [(6, .int (nI (i + 1))), (5, .int (nI l107)), (0, .ref 0), (1, .int (nI S)), (2, .int (nI t)), (3, .int (nI n))]) ⟨rfl, rfl, rfl, rfl, rfl, rfl, trivial⟩ (by show List.Nodup [6, 5, 0, 1, 2, 3]; decide) (by show List.Nodup [6, 5, 0, 1, 2, 3]; decide) ?_
                        exact ih (i + 1) (by omega) _ (Or.inr ⟨l107, by omega, rfl⟩)
                      · rw [show (fx_cb .le (nI l114) 0) = false from cb_leF (a := l114) (b := 0) (by omega) (by omega) (by omega)]
                        dsimp only [cond]
                        refine fe_s 1 (pc' := 131) (lc' := [(5, .int (nI l107)), (6, .int (nI i)), (0, .ref 0), (1, .int (nI S)), (2, .int (nI t)), (3, .int (nI n))]) (stk' := [.int 7]) (mem' := fm g tp bt a b) (by intro _ _ _; eq_refl) ?_
                        exact fe_ret ⟨7, by omega, fun hh => absurd hh (by omega), _, hD, rfl⟩ (by rfl) (by rfl) (by rfl)
                    · refine fe_s 1 (pc' := cond (fx_cb .ne 1 0) 129 120) (lc' := [(5, .int (nI l107)), (6, .int (nI i)), (0, .ref 0), (1, .int (nI S)), (2, .int (nI t)), (3, .int (nI n))]) (stk' := []) (mem' := fm g tp bt a b) (by intro _ _ _; eq_refl) ?_
                      rw [show (fx_cb .ne 1 0) = true from by decide]
                      dsimp only [cond]
                      refine fe_s 1 (pc' := 131) (lc' := [(5, .int (nI l107)), (6, .int (nI i)), (0, .ref 0), (1, .int (nI S)), (2, .int (nI t)), (3, .int (nI n))]) (stk' := [.int 7]) (mem' := fm g tp bt a b) (by intro _ _ _; eq_refl) ?_
                      exact fe_ret ⟨7, by omega, fun hh => absurd hh (by omega), _, hD, rfl⟩ (by rfl) (by rfl) (by rfl)
                · rw [show (fx_cb .ne (nI l108) (nI l107)) = true from cb_neT (a := l108) (b := l107) (by omega) (by omega) (by omega)]
                  dsimp only [cond]
                  refine fe_s 1 (pc' := 131) (lc' := [(5, .int (nI l107)), (6, .int (nI i)), (0, .ref 0), (1, .int (nI S)), (2, .int (nI t)), (3, .int (nI n))]) (stk' := [.int 7]) (mem' := fm g tp bt a b) (by intro _ _ _; eq_refl) ?_
                  exact fe_ret ⟨7, by omega, fun hh => absurd hh (by omega), _, hD, rfl⟩ (by rfl) (by rfl) (by rfl)
            · refine fe_s 4 (pc' := 60) (lc' := [(6, .int (nI i)), (5, .int (nI c)), (0, .ref 0), (1, .int (nI S)), (2, .int (nI t)), (3, .int (nI n))]) (stk' := [.int 1, .ref 1, .int (nI i)]) (mem' := fm g tp bt a b) (by intro _ _ _; eq_refl) ?_
              refine fe_ldI (by rfl) (by rfl) (fx_inN (i := 1) (by omega) (by omega)) ?_
              rw [show Int32.toNatClampNeg (1) = 1 from rfl]
              rw [show a 1 1 = nI NW from (fm_D_h hD (by decide) rfl).trans eNW]
              refine fe_s 1 (pc' := cond (fx_cb .ge (nI i) (nI NW)) 138 64) (lc' := [(6, .int (nI i)), (5, .int (nI c)), (0, .ref 0), (1, .int (nI S)), (2, .int (nI t)), (3, .int (nI n))]) (stk' := []) (mem' := fm g tp bt a b) (by intro _ _ _; eq_refl) ?_
              rw [show (fx_cb .ge (nI i) (nI NW)) = false from cb_geF (a := i) (b := NW) (by omega) (by omega) (by omega)]
              dsimp only [cond]
              refine fe_s 3 (pc' := 68) (lc' := [(6, .int (nI i)), (5, .int (nI c)), (0, .ref 0), (1, .int (nI S)), (2, .int (nI t)), (3, .int (nI n))]) (stk' := [.int (nI i), .int (nI S), .ref 0]) (mem' := fm g tp bt a b) (by intro _ _ _; eq_refl) ?_
              refine fe_ivV fr_isIn (by omega) (by rfl) (by rfl) (by rfl) (by rfl) (by rfl) (by rfl) ?_
              rcases fm_b_01 (nI S) (nI i) with q116 | q116
              · rw [q116]
                refine fe_s 1 (pc' := cond (fx_cb .ne 0 0) 77 74) (lc' := [(6, .int (nI i)), (5, .int (nI c)), (0, .ref 0), (1, .int (nI S)), (2, .int (nI t)), (3, .int (nI n))]) (stk' := []) (mem' := fm g tp bt a b) (by intro _ _ _; eq_refl) ?_
                rw [show (fx_cb .ne 0 0) = false from by decide]
                dsimp only [cond]
                refine fe_s 2 (pc' := 135) (lc' := [(6, .int ((nI i) + 1)), (5, .int (nI c)), (0, .ref 0), (1, .int (nI S)), (2, .int (nI t)), (3, .int (nI n))]) (stk' := []) (mem' := fm g tp bt a b) (by intro _ _ _; eq_refl) ?_
                rw [show ((nI i) + 1 : Int32) = nI (i + 1) from by simp only [show (1 : Int32) = nI 1 from rfl, nI_add, fm_mul]]
                refine fe_s 1 (pc' := fx_to 135 (-82)) (lc' := [(6, .int (nI (i + 1))), (5, .int (nI c)), (0, .ref 0), (1, .int (nI S)), (2, .int (nI t)), (3, .int (nI n))]) (stk' := []) (mem' := fm g tp bt a b) (by intro _ _ _; eq_refl) ?_
                rw [show fx_to 135 (-82) = 53 from by decide]
                refine fe_w (lc' := [(6, .int (nI (i + 1))), (5, .int (nI c)), (0, .ref 0), (1, .int (nI S)), (2, .int (nI t)), (3, .int (nI n))]) ⟨rfl, rfl, rfl, rfl, rfl, rfl, trivial⟩ (by show List.Nodup [6, 5, 0, 1, 2, 3]; decide) (by show List.Nodup [6, 5, 0, 1, 2, 3]; decide) ?_
                exact ih (i + 1) (by omega) _ (Or.inr ⟨c, by omega, rfl⟩)
              · rw [q116]
                refine fe_s 1 (pc' := cond (fx_cb .ne 1 0) 77 74) (lc' := [(6, .int (nI i)), (5, .int (nI c)), (0, .ref 0), (1, .int (nI S)), (2, .int (nI t)), (3, .int (nI n))]) (stk' := []) (mem' := fm g tp bt a b) (by intro _ _ _; eq_refl) ?_
                rw [show (fx_cb .ne 1 0) = true from by decide]
                dsimp only [cond]
                refine fe_s 2 (pc' := 80) (lc' := [(6, .int (nI i)), (5, .int (nI c)), (0, .ref 0), (1, .int (nI S)), (2, .int (nI t)), (3, .int (nI n))]) (stk' := [.int (-1), .int (nI c)]) (mem' := fm g tp bt a b) (by intro _ _ _; eq_refl) ?_
                refine fe_s 1 (pc' := cond (fx_cb .ne (nI c) (-1)) 91 83) (lc' := [(6, .int (nI i)), (5, .int (nI c)), (0, .ref 0), (1, .int (nI S)), (2, .int (nI t)), (3, .int (nI n))]) (stk' := []) (mem' := fm g tp bt a b) (by intro _ _ _; eq_refl) ?_
                rw [show (fx_cb .ne (nI c) (-1)) = true from cb_n_ne (by omega) (by decide)]
                dsimp only [cond]
                refine fe_s 2 (pc' := 94) (lc' := [(6, .int (nI i)), (5, .int (nI c)), (0, .ref 0), (1, .int (nI S)), (2, .int (nI t)), (3, .int (nI n))]) (stk' := [.int (nI i), .ref 0]) (mem' := fm g tp bt a b) (by intro _ _ _; eq_refl) ?_
                refine fe_ivV (fr_whereOf (W := i) (g := g) (tp := tp) (bt := bt) (a := a) (b := b) (by omega)) (by omega) (by rfl) (by rfl) (by rfl) (by rfl) (by rfl) (by rfl) ?_
                obtain ⟨l117, hl117, el117⟩ := fm_D_w1 hD (W := i) (by omega)
                rw [el117]
                refine fe_s 1 (pc' := 99) (lc' := [(6, .int (nI i)), (5, .int (nI c)), (0, .ref 0), (1, .int (nI S)), (2, .int (nI t)), (3, .int (nI n))]) (stk' := [.int (nI c), .int (nI l117)]) (mem' := fm g tp bt a b) (by intro _ _ _; eq_refl) ?_
                refine fe_s 1 (pc' := cond (fx_cb .ne (nI l117) (nI c)) 129 102) (lc' := [(6, .int (nI i)), (5, .int (nI c)), (0, .ref 0), (1, .int (nI S)), (2, .int (nI t)), (3, .int (nI n))]) (stk' := []) (mem' := fm g tp bt a b) (by intro _ _ _; eq_refl) ?_
                by_cases h118 : l117 = c
                · rw [show (fx_cb .ne (nI l117) (nI c)) = false from cb_neF (a := l117) (b := c) (by omega) (by omega) (by omega)]
                  dsimp only [cond]
                  refine fe_s 2 (pc' := 105) (lc' := [(6, .int (nI i)), (5, .int (nI c)), (0, .ref 0), (1, .int (nI S)), (2, .int (nI t)), (3, .int (nI n))]) (stk' := [.int (nI c), .ref 0]) (mem' := fm g tp bt a b) (by intro _ _ _; eq_refl) ?_
                  obtain ⟨v119, z120, hv119⟩ := fq_isShore (C := c) (g := g) (tp := tp) (bt := bt) (a := a) (b := b) (by omega)
                  refine fe_ivV hv119 (by omega) (by rfl) (by rfl) (by rfl) (by rfl) (by rfl) (by rfl) ?_
                  rcases z120 with rfl | rfl
                  · refine fe_s 1 (pc' := cond (fx_cb .eq 0 0) 129 111) (lc' := [(6, .int (nI i)), (5, .int (nI c)), (0, .ref 0), (1, .int (nI S)), (2, .int (nI t)), (3, .int (nI n))]) (stk' := []) (mem' := fm g tp bt a b) (by intro _ _ _; eq_refl) ?_
                    rw [show (fx_cb .eq 0 0) = true from by decide]
                    dsimp only [cond]
                    refine fe_s 1 (pc' := 131) (lc' := [(6, .int (nI i)), (5, .int (nI c)), (0, .ref 0), (1, .int (nI S)), (2, .int (nI t)), (3, .int (nI n))]) (stk' := [.int 7]) (mem' := fm g tp bt a b) (by intro _ _ _; eq_refl) ?_
                    exact fe_ret ⟨7, by omega, fun hh => absurd hh (by omega), _, hD, rfl⟩ (by rfl) (by rfl) (by rfl)
                  · refine fe_s 1 (pc' := cond (fx_cb .eq 1 0) 129 111) (lc' := [(6, .int (nI i)), (5, .int (nI c)), (0, .ref 0), (1, .int (nI S)), (2, .int (nI t)), (3, .int (nI n))]) (stk' := []) (mem' := fm g tp bt a b) (by intro _ _ _; eq_refl) ?_
                    rw [show (fx_cb .eq 1 0) = false from by decide]
                    dsimp only [cond]
                    refine fe_s 2 (pc' := 114) (lc' := [(6, .int (nI i)), (5, .int (nI c)), (0, .ref 0), (1, .int (nI S)), (2, .int (nI t)), (3, .int (nI n))]) (stk' := [.int (nI i), .ref 0]) (mem' := fm g tp bt a b) (by intro _ _ _; eq_refl) ?_
                    obtain ⟨v121, z122, hv121⟩ := fq_isWet (V := i) (g := g) (tp := tp) (bt := bt) (a := a) (b := b) (by omega)
                    refine fe_ivV hv121 (by omega) (by rfl) (by rfl) (by rfl) (by rfl) (by rfl) (by rfl) ?_
                    rcases z122 with rfl | rfl
                    · refine fe_s 1 (pc' := cond (fx_cb .ne 0 0) 129 120) (lc' := [(6, .int (nI i)), (5, .int (nI c)), (0, .ref 0), (1, .int (nI S)), (2, .int (nI t)), (3, .int (nI n))]) (stk' := []) (mem' := fm g tp bt a b) (by intro _ _ _; eq_refl) ?_
                      rw [show (fx_cb .ne 0 0) = false from by decide]
                      dsimp only [cond]
                      refine fe_s 2 (pc' := 123) (lc' := [(6, .int (nI i)), (5, .int (nI c)), (0, .ref 0), (1, .int (nI S)), (2, .int (nI t)), (3, .int (nI n))]) (stk' := [.int (nI i), .ref 0]) (mem' := fm g tp bt a b) (by intro _ _ _; eq_refl) ?_
                      refine fe_ivV (fr_leftOfX (V := i) (g := g) (tp := tp) (bt := bt) (a := a) (b := b) (by omega)) (by omega) (by rfl) (by rfl) (by rfl) (by rfl) (by rfl) (by rfl) ?_
                      obtain ⟨l123, hl123, el123⟩ := fm_D_w3 hD (W := i) (by omega)
                      rw [el123]
                      refine fe_s 1 (pc' := cond (fx_cb .le (nI l123) 0) 132 129) (lc' := [(6, .int (nI i)), (5, .int (nI c)), (0, .ref 0), (1, .int (nI S)), (2, .int (nI t)), (3, .int (nI n))]) (stk' := []) (mem' := fm g tp bt a b) (by intro _ _ _; eq_refl) ?_
                      by_cases h124 : l123 ≤ 0
                      · rw [show (fx_cb .le (nI l123) 0) = true from cb_leT (a := l123) (b := 0) (by omega) (by omega) (by omega)]
                        dsimp only [cond]
                        refine fe_s 1 (pc' := 135) (lc' := [(6, .int ((nI i) + 1)), (5, .int (nI c)), (0, .ref 0), (1, .int (nI S)), (2, .int (nI t)), (3, .int (nI n))]) (stk' := []) (mem' := fm g tp bt a b) (by intro _ _ _; eq_refl) ?_
                        rw [show ((nI i) + 1 : Int32) = nI (i + 1) from by simp only [show (1 : Int32) = nI 1 from rfl, nI_add, fm_mul]]
                        refine fe_s 1 (pc' := fx_to 135 (-82)) (lc' := [(6, .int (nI (i + 1))), (5, .int (nI c)), (0, .ref 0), (1, .int (nI S)), (2, .int (nI t)), (3, .int (nI n))]) (stk' := []) (mem' := fm g tp bt a b) (by intro _ _ _; eq_refl) ?_
                        rw [show fx_to 135 (-82) = 53 from by decide]
                        refine fe_w (lc' := [(6, .int (nI (i + 1))), (5, .int (nI c)), (0, .ref 0), (1, .int (nI S)), (2, .int (nI t)), (3, .int (nI n))]) ⟨rfl, rfl, rfl, rfl, rfl, rfl, trivial⟩ (by show List.Nodup [6, 5, 0, 1, 2, 3]; decide) (by show List.Nodup [6, 5, 0, 1, 2, 3]; decide) ?_
                        exact ih (i + 1) (by omega) _ (Or.inr ⟨c, by omega, rfl⟩)
                      · rw [show (fx_cb .le (nI l123) 0) = false from cb_leF (a := l123) (b := 0) (by omega) (by omega) (by omega)]
                        dsimp only [cond]
                        refine fe_s 1 (pc' := 131) (lc' := [(6, .int (nI i)), (5, .int (nI c)), (0, .ref 0), (1, .int (nI S)), (2, .int (nI t)), (3, .int (nI n))]) (stk' := [.int 7]) (mem' := fm g tp bt a b) (by intro _ _ _; eq_refl) ?_
                        exact fe_ret ⟨7, by omega, fun hh => absurd hh (by omega), _, hD, rfl⟩ (by rfl) (by rfl) (by rfl)
                    · refine fe_s 1 (pc' := cond (fx_cb .ne 1 0) 129 120) (lc' := [(6, .int (nI i)), (5, .int (nI c)), (0, .ref 0), (1, .int (nI S)), (2, .int (nI t)), (3, .int (nI n))]) (stk' := []) (mem' := fm g tp bt a b) (by intro _ _ _; eq_refl) ?_
                      rw [show (fx_cb .ne 1 0) = true from by decide]
                      dsimp only [cond]
                      refine fe_s 1 (pc' := 131) (lc' := [(6, .int (nI i)), (5, .int (nI c)), (0, .ref 0), (1, .int (nI S)), (2, .int (nI t)), (3, .int (nI n))]) (stk' := [.int 7]) (mem' := fm g tp bt a b) (by intro _ _ _; eq_refl) ?_
                      exact fe_ret ⟨7, by omega, fun hh => absurd hh (by omega), _, hD, rfl⟩ (by rfl) (by rfl) (by rfl)
                · rw [show (fx_cb .ne (nI l117) (nI c)) = true from cb_neT (a := l117) (b := c) (by omega) (by omega) (by omega)]
                  dsimp only [cond]
                  refine fe_s 1 (pc' := 131) (lc' := [(6, .int (nI i)), (5, .int (nI c)), (0, .ref 0), (1, .int (nI S)), (2, .int (nI t)), (3, .int (nI n))]) (stk' := [.int 7]) (mem' := fm g tp bt a b) (by intro _ _ _; eq_refl) ?_
                  exact fe_ret ⟨7, by omega, fun hh => absurd hh (by omega), _, hD, rfl⟩ (by rfl) (by rfl) (by rfl)
        refine fe_w (lc' := [(6, .int 0), (5, .int (-1)), (0, .ref 0), (1, .int (nI S)), (2, .int (nI t)), (3, .int (nI n))]) ⟨rfl, rfl, rfl, rfl, rfl, rfl, trivial⟩ (by show List.Nodup [6, 5, 0, 1, 2, 3]; decide) (by show List.Nodup [6, 5, 4, 0, 1, 2, 3]; decide) ?_
        exact loop NW 0 (by omega) _ (Or.inl ⟨rfl, rfl⟩)
      · rw [show (fx_cb .le (nI uu103) 0) = false from cb_leF (a := uu103) (b := 0) (by omega) (by omega) (by omega)]
        dsimp only [cond]
        refine fe_s 1 (pc' := 46) (lc' := [(4, .int (nI uu103)), (0, .ref 0), (1, .int (nI S)), (2, .int tray), (3, .int nn)]) (stk' := [.int (nI uu103)]) (mem' := fm g tp bt a b) (by intro _ _ _; eq_refl) ?_
        exact fe_ret ⟨uu103, by omega, fun hh => absurd hh (by omega), _, hD, rfl⟩ (by rfl) (by rfl) (by rfl)
    · rw [show (fx_cb .le (nI p) 4) = false from cb_leF (a := p) (b := 4) (by omega) (by omega) (by omega)]
      dsimp only [cond]
      refine fe_s 1 (pc' := 28) (lc' := [(0, .ref 0), (1, .int (nI S)), (2, .int tray), (3, .int nn)]) (stk' := [.int 1]) (mem' := fm g tp bt a b) (by intro _ _ _; eq_refl) ?_
      exact fe_ret ⟨1, by omega, fun hh => absurd hh (by omega), _, hD, rfl⟩ (by rfl) (by rfl) (by rfl)
end FQ3
end MH12_1
section MH12_2
/-! ===== fx: queue ===== -/
section FQ4
variable {g : Nat → Int32} {tp bt : Int64} {a0 a : Nat → Nat → Int32} {b : Nat → Nat → Int64}
def fm_okq (t : Nat) : Bool := decide (10 ≤ t ∧ t ≤ 13)
theorem fm_E_o {a a1 a2 : Nat → Nat → Int32} (h : fm_E a a1) (e : ∀ t, fm_okq t = false → a2 t = a1 t) : fm_E a a2 := by
  have e1 : a2 1 = a1 1 := e 1 (by decide)
  have e9 : a2 9 = a1 9 := e 9 (by decide)
  refine ⟨fm_B_eq h.1 (fun i => by rw [e1]) (fun i hi => by rw [e9]; exact h.1.2.2 i hi), fun t ht => ?_, fun i hi => by rw [e1]; exact h.2.2 i hi⟩
  have hq : fm_okq t = false := by
    have := of_decide_eq_false ht
    exact decide_eq_false (by omega)
  rw [e t hq, h.2.1 t ht]
theorem fm_E_q {a a1 a2 : Nat → Nat → Int32} (h : fm_E a a1) (hB : fm_B a2) (e : ∀ t, fm_okt t = false → a2 t = a1 t) (k : ∀ i, fm_st i = true → a2 1 i = a1 1 i) : fm_E a a2 := ⟨hB, fun t ht => by rw [e t (fm_okE_t ht), h.2.1 t ht], fun i hi => (k i hi).trans (h.2.2 i hi)⟩
/-- the first p of a queue, all below i -/
def fm_tq (p i : Nat) (a : Nat → Nat → Int32) : Prop := ∃ x y z w : Nat, (x < 8 ∧ y < 8 ∧ z < 8 ∧ w < 8) ∧ (0 < p → a 10 0 = nI x) ∧ (1 < p → a 10 1 = nI y) ∧ (2 < p → a 10 2 = nI z) ∧ (3 < p → a 10 3 = nI w) ∧ (0 < p → x < i) ∧ (1 < p → y < i ∧ x ≠ y) ∧ (2 < p → z < i ∧ x ≠ z ∧ y ≠ z) ∧ (3 < p → w < i ∧ x ≠ w ∧ y ≠ w ∧ z ≠ w) ∧ (p ≤ 1 → y = 0) ∧ (p ≤ 2 → z = 0) ∧ (p ≤ 3 → w = 0)
theorem fm_tq_0 {a : Nat → Nat → Int32} : fm_tq 0 0 a := ⟨0, 0, 0, 0, by omega, fun h => absurd h (by omega), fun h => absurd h (by omega), fun h => absurd h (by omega), fun h => absurd h (by omega), by omega, by omega, by omega, by omega, fun _ => rfl, fun _ => rfl, fun _ => rfl⟩
theorem fm_tq_n {p i : Nat} {a : Nat → Nat → Int32} (h : fm_tq p i a) : fm_tq p (i + 1) a := by
  obtain ⟨x, y, z, w, h1, e0, e1, e2, e3, l0, l1, l2, l3, z1, z2, z3⟩ := h
  exact ⟨x, y, z, w, h1, e0, e1, e2, e3, by omega, by omega, by omega, by omega, z1, z2, z3⟩
theorem fm_tq_tu {p i : Nat} {a : Nat → Nat → Int32} (h : fm_tq p i a) : ∃ m, fm_tu p a m := by
  obtain ⟨x, y, z, w, h1, e0, e1, e2, e3, l0, l1, l2, l3, z1, z2, z3⟩ := h
  exact ⟨_, x, y, z, w, h1, e0, e1, e2, e3, by omega, by omega, by omega, rfl, z1, z2, z3⟩
theorem fm_tq_s {p i : Nat} {a : Nat → Nat → Int32} (h : fm_tq p i a) (hp : p < 4) (hi : i < 8) : fm_tq (p + 1) (i + 1) (fm_u a 10 p (nI i)) := by
  obtain ⟨x, y, z, w, ⟨b0, b1, b2, b3⟩, e0, e1, e2, e3, l0, l1, l2, l3, z1, z2, z3⟩ := h
  rcases (by omega : p = 0 ∨ p = 1 ∨ p = 2 ∨ p = 3) with rfl | rfl | rfl | rfl
  · exact ⟨i, 0, 0, 0, by omega, fun _ => by rw [fm_us, if_pos (by decide)], fun h => absurd h (by omega), fun h => absurd h (by omega), fun h => absurd h (by omega), by omega, by omega, by omega, by omega, fun _ => rfl, fun _ => rfl, fun _ => rfl⟩
  · exact ⟨x, i, 0, 0, by omega, fun _ => by rw [fm_us, if_neg (by decide)]; exact e0 (by omega), fun _ => by rw [fm_us, if_pos (by decide)], fun h => absurd h (by omega), fun h => absurd h (by omega), by omega, by omega, by omega, by omega, by omega, fun _ => rfl, fun _ => rfl⟩
  · exact ⟨x, y, i, 0, by omega, fun _ => by rw [fm_us, if_neg (by decide)]; exact e0 (by omega), fun _ => by rw [fm_us, if_neg (by decide)]; exact e1 (by omega), fun _ => by rw [fm_us, if_pos (by decide)], fun h => absurd h (by omega), by omega, by omega, by omega, by omega, by omega, by omega, fun _ => rfl⟩
  · exact ⟨x, y, z, i, by omega, fun _ => by rw [fm_us, if_neg (by decide)]; exact e0 (by omega), fun _ => by rw [fm_us, if_neg (by decide)]; exact e1 (by omega), fun _ => by rw [fm_us, if_neg (by decide)]; exact e2 (by omega), fun _ => by rw [fm_us, if_pos (by decide)], by omega, by omega, by omega, by omega, by omega, by omega, by omega⟩
/-- the first k gaps are 0, 1, 1, 1 -/
def fm_gz (k : Nat) (a : Nat → Nat → Int32) : Prop := (0 < k → a 11 0 = nI 0) ∧ (1 < k → a 11 1 = nI 1) ∧ (2 < k → a 11 2 = nI 1) ∧ (3 < k → a 11 3 = nI 1)
theorem fm_gz_ga {k : Nat} {a : Nat → Nat → Int32} (h : fm_gz k a) : fm_ga k a 43 := ⟨1, 1, 1, by omega, h.1, h.2.1, h.2.2.1, h.2.2.2, rfl, fun _ => rfl, fun _ => rfl, fun _ => rfl⟩
theorem fm_gz_s {k : Nat} {a : Nat → Nat → Int32} (h : fm_gz k a) (hk : k < 4) (x : Int32) (hx : k = 0 ∧ x = 0 ∨ ¬ k = 0 ∧ x = 1) : fm_gz (k + 1) (fm_u a 11 k x) := by
  obtain ⟨e0, e1, e2, e3⟩ := h
  rcases (by omega : k = 0 ∨ k = 1 ∨ k = 2 ∨ k = 3) with rfl | rfl | rfl | rfl
  · obtain rfl : x = 0 := by rcases hx with h | h; exact h.2; exact absurd rfl h.1
    exact ⟨fun _ => by rw [fm_us, if_pos (by decide)]; rfl, fun h => absurd h (by omega), fun h => absurd h (by omega), fun h => absurd h (by omega)⟩
  all_goals
    obtain rfl : x = 1 := by rcases hx with h | h; exact absurd h.1 (by decide); exact h.2
  · exact ⟨fun _ => by rw [fm_us, if_neg (by decide)]; exact e0 (by omega), fun _ => by rw [fm_us, if_pos (by decide)]; rfl, fun h => absurd h (by omega), fun h => absurd h (by omega)⟩
  · exact ⟨fun _ => by rw [fm_us, if_neg (by decide)]; exact e0 (by omega), fun _ => by rw [fm_us, if_neg (by decide)]; exact e1 (by omega), fun _ => by rw [fm_us, if_pos (by decide)]; rfl, fun h => absurd h (by omega)⟩
  · exact ⟨fun _ => by rw [fm_us, if_neg (by decide)]; exact e0 (by omega), fun _ => by rw [fm_us, if_neg (by decide)]; exact e1 (by omega), fun _ => by rw [fm_us, if_neg (by decide)]; exact e2 (by omega), fun _ => by rw [fm_us, if_pos (by decide)]; rfl⟩
set_option maxHeartbeats 4000000 in
theorem que_85 {S t N n : Nat} (hBa : fm_B a) (hS : S < 256) (ht : t < 4) (hN : N ≤ 12) (hn1 : 1 ≤ n) (hn4 : n ≤ 4) (hc : ∀ k, k < N → ∃ C, C < 10 ∧ b 5 (60 * t + k) = Int64.ofNat C) {m : Nat} {gq : Nat → Int32} {ls : Int32} (hK : ∀ (a' : Nat → Nat → Int32) (x8 : Int32), fm_E a a' → fm_tu n a' m → fm_ga n a' 43 → fe_R 9 gk_m334 115 [(8, .int x8), (7, .int 1), (6, .int ls), (5, .int (nI n)), (0, .ref 0), (1, .int (nI S)), (2, .int (nI t)), (3, .int (nI N))] [] (fm gq tp bt a' b) (fm_PO g tp bt a b)) : ∀ (r k : Nat), k + r = n → ∀ aq : Nat → Nat → Int32, fm_E a aq → fm_tu n aq m → fm_gz k aq → fe_R 9 gk_m334 85 [(8, .int (nI k)), (7, .int 1), (6, .int ls), (5, .int (nI n)), (0, .ref 0), (1, .int (nI S)), (2, .int (nI t)), (3, .int (nI N))] [] (fm gq tp bt aq b) (fm_PO g tp bt a b) := by
  intro r
  induction r with
  | zero =>
    intro k hk aq hE htu hgi
    obtain rfl : n = k := by omega
    refine fe_s 2 (pc' := 89) (lc' := [(8, .int (nI n)), (7, .int 1), (6, .int ls), (5, .int (nI n)), (0, .ref 0), (1, .int (nI S)), (2, .int (nI t)), (3, .int (nI N))]) (stk' := [.int (nI n), .int (nI n)]) (mem' := fm gq tp bt aq b) (by intro _ _ _; eq_refl) ?_
    refine fe_s 1 (pc' := cond (fx_cb .ge (nI n) (nI n)) 115 92) (lc' := [(8, .int (nI n)), (7, .int 1), (6, .int ls), (5, .int (nI n)), (0, .ref 0), (1, .int (nI S)), (2, .int (nI t)), (3, .int (nI N))]) (stk' := []) (mem' := fm gq tp bt aq b) (by intro _ _ _; eq_refl) ?_
    rw [show (fx_cb .ge (nI n) (nI n)) = true from cb_geT (a := n) (b := n) (by omega) (by omega) (by omega)]
    dsimp only [cond]
    refine fe_w (lc' := [(8, .int (nI n)), (7, .int 1), (6, .int ls), (5, .int (nI n)), (0, .ref 0), (1, .int (nI S)), (2, .int (nI t)), (3, .int (nI N))]) ⟨rfl, rfl, rfl, rfl, rfl, rfl, rfl, rfl, trivial⟩ (by show List.Nodup [8, 7, 6, 5, 0, 1, 2, 3]; decide) (by show List.Nodup [8, 7, 6, 5, 0, 1, 2, 3]; decide) ?_
    exact hK aq _ hE htu (fm_gz_ga hgi)
  | succ r ih =>
    intro k hk aq hE htu hgi
    have hkn : k < n := by omega
    refine fe_s 2 (pc' := 89) (lc' := [(8, .int (nI k)), (7, .int 1), (6, .int ls), (5, .int (nI n)), (0, .ref 0), (1, .int (nI S)), (2, .int (nI t)), (3, .int (nI N))]) (stk' := [.int (nI n), .int (nI k)]) (mem' := fm gq tp bt aq b) (by intro _ _ _; eq_refl) ?_
    refine fe_s 1 (pc' := cond (fx_cb .ge (nI k) (nI n)) 115 92) (lc' := [(8, .int (nI k)), (7, .int 1), (6, .int ls), (5, .int (nI n)), (0, .ref 0), (1, .int (nI S)), (2, .int (nI t)), (3, .int (nI N))]) (stk' := []) (mem' := fm gq tp bt aq b) (by intro _ _ _; eq_refl) ?_
    rw [show (fx_cb .ge (nI k) (nI n)) = false from cb_geF (a := k) (b := n) (by omega) (by omega) (by omega)]
    dsimp only [cond]
    refine fe_s 4 (pc' := 100) (lc' := [(8, .int (nI k)), (7, .int 1), (6, .int ls), (5, .int (nI n)), (0, .ref 0), (1, .int (nI S)), (2, .int (nI t)), (3, .int (nI N))]) (stk' := [.int (nI k), .int (nI k), .ref 11]) (mem' := fm gq tp bt aq b) (by intro _ _ _; eq_refl) ?_
    refine fe_s 1 (pc' := cond (fx_cb .ne (nI k) 0) 107 103) (lc' := [(8, .int (nI k)), (7, .int 1), (6, .int ls), (5, .int (nI n)), (0, .ref 0), (1, .int (nI S)), (2, .int (nI t)), (3, .int (nI N))]) (stk' := [.int (nI k), .ref 11]) (mem' := fm gq tp bt aq b) (by intro _ _ _; eq_refl) ?_
    by_cases h101 : k = 0
    · rw [show (fx_cb .ne (nI k) 0) = false from cb_neF (a := k) (b := 0) (by omega) (by omega) (by omega)]
      dsimp only [cond]
      refine fe_s 2 (pc' := 108) (lc' := [(8, .int (nI k)), (7, .int 1), (6, .int ls), (5, .int (nI n)), (0, .ref 0), (1, .int (nI S)), (2, .int (nI t)), (3, .int (nI N))]) (stk' := [.int 0, .int (nI k), .ref 11]) (mem' := fm gq tp bt aq b) (by intro _ _ _; eq_refl) ?_
      refine fe_stI (mem' := fm gq tp bt (fm_u aq 11 (nI k : Int32).toNatClampNeg 0) b) (by rfl) (by rfl) (fx_inN (i := k) (by omega) (by omega)) fm_si11 ?_
      rw [show Int32.toNatClampNeg (nI k) = k from nI_clamp (by omega)]
      obtain ⟨as102, has102⟩ : ∃ zz, zz = fm_u aq 11 (k) 0 := ⟨_, rfl⟩
      rw [← has102]
      refine fe_s 2 (pc' := 85) (lc' := [(8, .int ((nI k) + 1)), (7, .int 1), (6, .int ls), (5, .int (nI n)), (0, .ref 0), (1, .int (nI S)), (2, .int (nI t)), (3, .int (nI N))]) (stk' := []) (mem' := fm gq tp bt as102 b) (by intro _ _ _; eq_refl) ?_
      rw [show ((nI k) + 1 : Int32) = nI (k + 1) from by simp only [show (1 : Int32) = nI 1 from rfl, nI_add, fm_mul]]
      refine fe_w (lc' := [(8, .int (nI (k + 1))), (7, .int 1), (6, .int ls), (5, .int (nI n)), (0, .ref 0), (1, .int (nI S)), (2, .int (nI t)), (3, .int (nI N))]) ⟨rfl, rfl, rfl, rfl, rfl, rfl, rfl, rfl, trivial⟩ (by show List.Nodup [8, 7, 6, 5, 0, 1, 2, 3]; decide) (by show List.Nodup [8, 7, 6, 5, 0, 1, 2, 3]; decide) ?_
      have ho : ∀ t, fm_okq t = false → as102 t = aq t := fun t ht => by rw [has102, fm_utt (fun e => by subst e; exact absurd ht (by decide))]
      exact ih (k + 1) (by omega) _ (fm_E_o hE ho) (fm_tu_eq htu (by rw [has102, fm_utt (by decide)])) (by rw [has102]; exact fm_gz_s hgi (by omega) _ (Or.inl ⟨by omega, rfl⟩))
    · rw [show (fx_cb .ne (nI k) 0) = true from cb_neT (a := k) (b := 0) (by omega) (by omega) (by omega)]
      dsimp only [cond]
      refine fe_s 1 (pc' := 108) (lc' := [(8, .int (nI k)), (7, .int 1), (6, .int ls), (5, .int (nI n)), (0, .ref 0), (1, .int (nI S)), (2, .int (nI t)), (3, .int (nI N))]) (stk' := [.int 1, .int (nI k), .ref 11]) (mem' := fm gq tp bt aq b) (by intro _ _ _; eq_refl) ?_
      refine fe_stI (mem' := fm gq tp bt (fm_u aq 11 (nI k : Int32).toNatClampNeg 1) b) (by rfl) (by rfl) (fx_inN (i := k) (by omega) (by omega)) fm_si11 ?_
      rw [show Int32.toNatClampNeg (nI k) = k from nI_clamp (by omega)]
      obtain ⟨as103, has103⟩ : ∃ zz, zz = fm_u aq 11 (k) 1 := ⟨_, rfl⟩
      rw [← has103]
      refine fe_s 2 (pc' := 85) (lc' := [(8, .int ((nI k) + 1)), (7, .int 1), (6, .int ls), (5, .int (nI n)), (0, .ref 0), (1, .int (nI S)), (2, .int (nI t)), (3, .int (nI N))]) (stk' := []) (mem' := fm gq tp bt as103 b) (by intro _ _ _; eq_refl) ?_
      rw [show ((nI k) + 1 : Int32) = nI (k + 1) from by simp only [show (1 : Int32) = nI 1 from rfl, nI_add, fm_mul]]
      refine fe_w (lc' := [(8, .int (nI (k + 1))), (7, .int 1), (6, .int ls), (5, .int (nI n)), (0, .ref 0), (1, .int (nI S)), (2, .int (nI t)), (3, .int (nI N))]) ⟨rfl, rfl, rfl, rfl, rfl, rfl, rfl, rfl, trivial⟩ (by show List.Nodup [8, 7, 6, 5, 0, 1, 2, 3]; decide) (by show List.Nodup [8, 7, 6, 5, 0, 1, 2, 3]; decide) ?_
      have ho : ∀ t, fm_okq t = false → as103 t = aq t := fun t ht => by rw [has103, fm_utt (fun e => by subst e; exact absurd ht (by decide))]
      exact ih (k + 1) (by omega) _ (fm_E_o hE ho) (fm_tu_eq htu (by rw [has103, fm_utt (by decide)])) (by rw [has103]; exact fm_gz_s hgi (by omega) _ (Or.inr ⟨by omega, rfl⟩))
set_option maxHeartbeats 4000000 in
theorem que_153 {S t N n : Nat} (hBa : fm_B a) (hS : S < 256) (ht : t < 4) (hN : N ≤ 12) (hn1 : 1 ≤ n) (hn4 : n ≤ 4) (hc : ∀ k, k < N → ∃ C, C < 10 ∧ b 5 (60 * t + k) = Int64.ofNat C) {m m2 : Nat} {gq : Nat → Int32} {ls ll : Int32} (hK : ∀ (a' : Nat → Nat → Int32), fm_E a a' → fm_tu n a' m → fm_ga n a' m2 → fe_R 9 gk_m334 194 [(8, .int 1), (7, .int 1), (6, .int ls), (5, .int (nI n)), (0, .ref 0), (1, .int (nI S)), (2, .int (nI t)), (3, .int (nI N))] [] (fm gq tp bt a' b) (fm_PO g tp bt a b)) : ∀ (r k : Nat), k + r = n → ∀ aq : Nat → Nat → Int32, fm_E a aq → fm_tu n aq m → fm_ga n aq m2 → fe_R 9 gk_m334 153 [(10, .int (nI k)), (9, .int ll), (8, .int 1), (7, .int 1), (6, .int ls), (5, .int (nI n)), (0, .ref 0), (1, .int (nI S)), (2, .int (nI t)), (3, .int (nI N))] [] (fm gq tp bt aq b) (fm_PO g tp bt a b) := by
  intro r
  induction r with
  | zero =>
    intro k hk aq hE htu hga
    obtain rfl : n = k := by omega
    refine fe_s 2 (pc' := 157) (lc' := [(10, .int (nI n)), (9, .int ll), (8, .int 1), (7, .int 1), (6, .int ls), (5, .int (nI n)), (0, .ref 0), (1, .int (nI S)), (2, .int (nI t)), (3, .int (nI N))]) (stk' := [.int (nI n), .int (nI n)]) (mem' := fm gq tp bt aq b) (by intro _ _ _; eq_refl) ?_
    refine fe_s 1 (pc' := cond (fx_cb .ge (nI n) (nI n)) 194 160) (lc' := [(10, .int (nI n)), (9, .int ll), (8, .int 1), (7, .int 1), (6, .int ls), (5, .int (nI n)), (0, .ref 0), (1, .int (nI S)), (2, .int (nI t)), (3, .int (nI N))]) (stk' := []) (mem' := fm gq tp bt aq b) (by intro _ _ _; eq_refl) ?_
    rw [show (fx_cb .ge (nI n) (nI n)) = true from cb_geT (a := n) (b := n) (by omega) (by omega) (by omega)]
    dsimp only [cond]
    refine fe_w (lc' := [(8, .int 1), (7, .int 1), (6, .int ls), (5, .int (nI n)), (0, .ref 0), (1, .int (nI S)), (2, .int (nI t)), (3, .int (nI N))]) ⟨rfl, rfl, rfl, rfl, rfl, rfl, rfl, rfl, trivial⟩ (by show List.Nodup [8, 7, 6, 5, 0, 1, 2, 3]; decide) (by show List.Nodup [10, 9, 8, 7, 6, 5, 0, 1, 2, 3]; decide) ?_
    exact hK aq hE htu hga
  | succ r ih =>
    intro k hk aq hE htu hga
    have hkn : k < n := by omega
    refine fe_s 2 (pc' := 157) (lc' := [(10, .int (nI k)), (9, .int ll), (8, .int 1), (7, .int 1), (6, .int ls), (5, .int (nI n)), (0, .ref 0), (1, .int (nI S)), (2, .int (nI t)), (3, .int (nI N))]) (stk' := [.int (nI n), .int (nI k)]) (mem' := fm gq tp bt aq b) (by intro _ _ _; eq_refl) ?_
    refine fe_s 1 (pc' := cond (fx_cb .ge (nI k) (nI n)) 194 160) (lc' := [(10, .int (nI k)), (9, .int ll), (8, .int 1), (7, .int 1), (6, .int ls), (5, .int (nI n)), (0, .ref 0), (1, .int (nI S)), (2, .int (nI t)), (3, .int (nI N))]) (stk' := []) (mem' := fm gq tp bt aq b) (by intro _ _ _; eq_refl) ?_
    rw [show (fx_cb .ge (nI k) (nI n)) = false from cb_geF (a := k) (b := n) (by omega) (by omega) (by omega)]
    dsimp only [cond]
    refine fe_s 6 (pc' := 172) (lc' := [(10, .int (nI k)), (9, .int ll), (8, .int 1), (7, .int 1), (6, .int ls), (5, .int (nI n)), (0, .ref 0), (1, .int (nI S)), (2, .int (nI t)), (3, .int (nI N))]) (stk' := [.int (nI k), .ref 10, .int (nI k), .ref 12]) (mem' := fm gq tp bt aq b) (by intro _ _ _; eq_refl) ?_
    refine fe_ldI (by rfl) (by rfl) (fx_inN (i := k) (by omega) (by omega)) ?_
    rw [show Int32.toNatClampNeg (nI k) = k from nI_clamp (by omega)]
    refine fe_stI (mem' := fm gq tp bt (fm_u aq 12 (nI k : Int32).toNatClampNeg (aq 10 k)) b) (by rfl) (by rfl) (fx_inN (i := k) (by omega) (by omega)) fm_si12 ?_
    rw [show Int32.toNatClampNeg (nI k) = k from nI_clamp (by omega)]
    obtain ⟨as101, has101⟩ : ∃ zz, zz = fm_u aq 12 (k) (aq 10 k) := ⟨_, rfl⟩
    rw [← has101]
    refine fe_s 6 (pc' := 186) (lc' := [(10, .int (nI k)), (9, .int ll), (8, .int 1), (7, .int 1), (6, .int ls), (5, .int (nI n)), (0, .ref 0), (1, .int (nI S)), (2, .int (nI t)), (3, .int (nI N))]) (stk' := [.int (nI k), .ref 11, .int (nI k), .ref 13]) (mem' := fm gq tp bt as101 b) (by intro _ _ _; eq_refl) ?_
    refine fe_ldI (by rfl) (by rfl) (fx_inN (i := k) (by omega) (by omega)) ?_
    rw [show Int32.toNatClampNeg (nI k) = k from nI_clamp (by omega)]
    refine fe_stI (mem' := fm gq tp bt (fm_u as101 13 (nI k : Int32).toNatClampNeg (as101 11 k)) b) (by rfl) (by rfl) (fx_inN (i := k) (by omega) (by omega)) fm_si13 ?_
    rw [show Int32.toNatClampNeg (nI k) = k from nI_clamp (by omega)]
    obtain ⟨as102, has102⟩ : ∃ zz, zz = fm_u as101 13 (k) (as101 11 k) := ⟨_, rfl⟩
    rw [← has102]
    refine fe_s 2 (pc' := 153) (lc' := [(10, .int ((nI k) + 1)), (9, .int ll), (8, .int 1), (7, .int 1), (6, .int ls), (5, .int (nI n)), (0, .ref 0), (1, .int (nI S)), (2, .int (nI t)), (3, .int (nI N))]) (stk' := []) (mem' := fm gq tp bt as102 b) (by intro _ _ _; eq_refl) ?_
    rw [show ((nI k) + 1 : Int32) = nI (k + 1) from by simp only [show (1 : Int32) = nI 1 from rfl, nI_add, fm_mul]]
    refine fe_w (lc' := [(10, .int (nI (k + 1))), (9, .int ll), (8, .int 1), (7, .int 1), (6, .int ls), (5, .int (nI n)), (0, .ref 0), (1, .int (nI S)), (2, .int (nI t)), (3, .int (nI N))]) ⟨rfl, rfl, rfl, rfl, rfl, rfl, rfl, rfl, rfl, rfl, trivial⟩ (by show List.Nodup [10, 9, 8, 7, 6, 5, 0, 1, 2, 3]; decide) (by show List.Nodup [10, 9, 8, 7, 6, 5, 0, 1, 2, 3]; decide) ?_
    have ho : ∀ t, t ≠ 12 → t ≠ 13 → as102 t = aq t := fun t h1 h2 => by rw [has102, fm_utt (by assumption), has101, fm_utt (by assumption)]
    exact ih (k + 1) (by omega) _ (fm_E_o hE (fun t ht => ho t (fun e => by subst e; exact absurd ht (by decide)) (fun e => by subst e; exact absurd ht (by decide)))) (fm_tu_eq htu (ho 10 (by decide) (by decide))) (fm_ga_eq hga (ho 11 (by decide) (by decide)))
set_option maxHeartbeats 8000000 in
theorem que_118 {S t N n : Nat} (hBa : fm_B a) (hS : S < 256) (ht : t < 4) (hN : N ≤ 12) (hn1 : 1 ≤ n) (hn4 : n ≤ 4) (hc : ∀ k, k < N → ∃ C, C < 10 ∧ b 5 (60 * t + k) = Int64.ofNat C) {m : Nat} (hK : ∀ (g' : Nat → Int32) (a' : Nat → Nat → Int32) (ls : Int32) (m' : Nat), m < m' → fm_G g g' → fm_E a a' → fm_tu n a' m' → fe_R 9 gk_m334 77 [(7, .int 1), (6, .int ls), (5, .int (nI n)), (0, .ref 0), (1, .int (nI S)), (2, .int (nI t)), (3, .int (nI N))] [] (fm g' tp bt a' b) (fm_PO g tp bt a b)) : ∀ (r m2 : Nat) (gq : Nat → Int32) (aq : Nat → Nat → Int32) {ls : Int32}, 259 ≤ m2 + r → fm_G g gq → fm_E a aq → fm_tu n aq m → fm_ga n aq m2 → fe_R 9 gk_m334 118 [(8, .int 1), (7, .int 1), (6, .int ls), (5, .int (nI n)), (0, .ref 0), (1, .int (nI S)), (2, .int (nI t)), (3, .int (nI N))] [] (fm gq tp bt aq b) (fm_PO g tp bt a b) := by
  intro r
  induction r with
  | zero =>
    intro m2 gq aq ls h2 hG hE htu hga
    exact absurd (fm_ga_le hga) (by omega)
  | succ r ih =>
    intro m2 gq aq ls h2 hG hE htu hga
    refine fe_s 1 (pc' := 120) (lc' := [(8, .int 1), (7, .int 1), (6, .int ls), (5, .int (nI n)), (0, .ref 0), (1, .int (nI S)), (2, .int (nI t)), (3, .int (nI N))]) (stk' := [.int 1]) (mem' := fm gq tp bt aq b) (by intro _ _ _; eq_refl) ?_
    refine fe_s 1 (pc' := cond (fx_cb .eq 1 0) 205 123) (lc' := [(8, .int 1), (7, .int 1), (6, .int ls), (5, .int (nI n)), (0, .ref 0), (1, .int (nI S)), (2, .int (nI t)), (3, .int (nI N))]) (stk' := []) (mem' := fm gq tp bt aq b) (by intro _ _ _; eq_refl) ?_
    rw [show (fx_cb .eq 1 0) = false from by decide]
    dsimp only [cond]
    refine fe_s 4 (pc' := 128) (lc' := [(8, .int 1), (7, .int 1), (6, .int ls), (5, .int (nI n)), (0, .ref 0), (1, .int (nI S)), (2, .int (nI t)), (3, .int (nI N))]) (stk' := [.int (nI N), .int (nI t), .int (nI n), .ref 0]) (mem' := fm gq tp bt aq b) (by intro _ _ _; eq_refl) ?_
    obtain ⟨ve101, meme101, ⟨xe101, ae101, hBe101, hOe101, hKe101, hRe101⟩, hfre101⟩ := fr_queued (n := n) (t := t) (N := N) (m1 := m) (m2 := m2) (g := gq) (tp := tp) (bt := bt) (a := aq) (b := b) hE.1 hG.2 hn1 hn4 htu hga ht hN hc
    cases hRe101
    have hE5 := fm_E_q hE hBe101 hOe101 hKe101
    have htu5 : fm_tu n ae101 m := fm_tu_eq htu (hOe101 10 rfl)
    have hga5 : fm_ga n ae101 m2 := fm_ga_eq hga (hOe101 11 rfl)
    refine fe_ivV hfre101 (by omega) (by rfl) (by rfl) (by rfl) (by rfl) (by rfl) (by rfl) ?_
    have j194 : ∀ (g6 : Nat → Int32) (ls : Int32) (a6 : Nat → Nat → Int32), fm_G g g6 → fm_E a a6 → fm_tu n a6 m → fm_ga n a6 m2 → fe_R 9 gk_m334 194 [(8, .int 1), (7, .int 1), (6, .int ls), (5, .int (nI n)), (0, .ref 0), (1, .int (nI S)), (2, .int (nI t)), (3, .int (nI N))] [] (fm g6 tp bt a6 b) (fm_PO g tp bt a b) := by
      intro g6 ls a6 hG6 hE6 htu6 hga6
      refine fe_s 2 (pc' := 197) (lc' := [(8, .int 1), (7, .int 1), (6, .int ls), (5, .int (nI n)), (0, .ref 0), (1, .int (nI S)), (2, .int (nI t)), (3, .int (nI N))]) (stk' := [.int (nI n), .ref 0]) (mem' := fm g6 tp bt a6 b) (by intro _ _ _; eq_refl) ?_
      obtain ⟨vg, memg, ⟨xg, ag, hOg, hxg, hRg⟩, hfrg⟩ := fr_gapsOn (n := n) (m := m2) (g := g6) (tp := tp) (bt := bt) (a := a6) (b := b) hn4 hga6
      cases hRg
      have hEg : fm_E a ag := fm_E_o hE6 (fun t ht => hOg t (fun e => by subst e; exact absurd ht (by decide)))
      have htug : fm_tu n ag m := fm_tu_eq htu6 (hOg 10 (by decide))
      refine fe_ivV hfrg (by omega) (by rfl) (by rfl) (by rfl) (by rfl) (by rfl) (by rfl) ?_
      rcases hxg with rfl | ⟨rfl, m3, hm3, hgag⟩
      · refine fe_s 1 (pc' := 202) (lc' := [(8, .int 0), (7, .int 1), (6, .int ls), (5, .int (nI n)), (0, .ref 0), (1, .int (nI S)), (2, .int (nI t)), (3, .int (nI N))]) (stk' := []) (mem' := fm g6 tp bt ag b) (by intro _ _ _; eq_refl) ?_
        refine fe_s 1 (pc' := fx_to 202 (-84)) (lc' := [(8, .int 0), (7, .int 1), (6, .int ls), (5, .int (nI n)), (0, .ref 0), (1, .int (nI S)), (2, .int (nI t)), (3, .int (nI N))]) (stk' := []) (mem' := fm g6 tp bt ag b) (by intro _ _ _; eq_refl) ?_
        rw [show fx_to 202 (-84) = 118 from by decide]
        refine fe_s 1 (pc' := 120) (lc' := [(8, .int 0), (7, .int 1), (6, .int ls), (5, .int (nI n)), (0, .ref 0), (1, .int (nI S)), (2, .int (nI t)), (3, .int (nI N))]) (stk' := [.int 0]) (mem' := fm g6 tp bt ag b) (by intro _ _ _; eq_refl) ?_
        refine fe_s 1 (pc' := cond (fx_cb .eq 0 0) 205 123) (lc' := [(8, .int 0), (7, .int 1), (6, .int ls), (5, .int (nI n)), (0, .ref 0), (1, .int (nI S)), (2, .int (nI t)), (3, .int (nI N))]) (stk' := []) (mem' := fm g6 tp bt ag b) (by intro _ _ _; eq_refl) ?_
        rw [show (fx_cb .eq 0 0) = true from by decide]
        dsimp only [cond]
        refine fe_s 2 (pc' := 208) (lc' := [(8, .int 0), (7, .int 1), (6, .int ls), (5, .int (nI n)), (0, .ref 0), (1, .int (nI S)), (2, .int (nI t)), (3, .int (nI N))]) (stk' := [.int (nI n), .ref 0]) (mem' := fm g6 tp bt ag b) (by intro _ _ _; eq_refl) ?_
        obtain ⟨vt, memt, ⟨xt, at9, hOt, hxt, hRt⟩, hfrt⟩ := fr_turnsOn (n := n) (m := m) (g := g6) (tp := tp) (bt := bt) (a := ag) (b := b) hn4 htug
        cases hRt
        have hEt : fm_E a at9 := fm_E_o hEg (fun t ht => hOt t (fun e => by subst e; exact absurd ht (by decide)))
        refine fe_ivV hfrt (by omega) (by rfl) (by rfl) (by rfl) (by rfl) (by rfl) (by rfl) ?_
        rcases hxt with ⟨rfl, -⟩ | ⟨rfl, m4, hm4, htu4⟩
        · refine fe_s 1 (pc' := 213) (lc' := [(7, .int 0), (8, .int 0), (6, .int ls), (5, .int (nI n)), (0, .ref 0), (1, .int (nI S)), (2, .int (nI t)), (3, .int (nI N))]) (stk' := []) (mem' := fm g6 tp bt at9 b) (by intro _ _ _; eq_refl) ?_
          refine fe_s 1 (pc' := fx_to 213 (-136)) (lc' := [(7, .int 0), (8, .int 0), (6, .int ls), (5, .int (nI n)), (0, .ref 0), (1, .int (nI S)), (2, .int (nI t)), (3, .int (nI N))]) (stk' := []) (mem' := fm g6 tp bt at9 b) (by intro _ _ _; eq_refl) ?_
          rw [show fx_to 213 (-136) = 77 from by decide]
          refine fe_s 1 (pc' := 79) (lc' := [(7, .int 0), (8, .int 0), (6, .int ls), (5, .int (nI n)), (0, .ref 0), (1, .int (nI S)), (2, .int (nI t)), (3, .int (nI N))]) (stk' := [.int 0]) (mem' := fm g6 tp bt at9 b) (by intro _ _ _; eq_refl) ?_
          refine fe_s 1 (pc' := cond (fx_cb .eq 0 0) 216 82) (lc' := [(7, .int 0), (8, .int 0), (6, .int ls), (5, .int (nI n)), (0, .ref 0), (1, .int (nI S)), (2, .int (nI t)), (3, .int (nI N))]) (stk' := []) (mem' := fm g6 tp bt at9 b) (by intro _ _ _; eq_refl) ?_
          rw [show (fx_cb .eq 0 0) = true from by decide]
          dsimp only [cond]
          refine fe_s 2 (pc' := 221) (lc' := [(7, .int 0), (8, .int 0), (6, .int ls), (5, .int (nI n)), (0, .ref 0), (1, .int (nI S)), (2, .int (nI t)), (3, .int (nI N))]) (stk' := [.int 1000000, .int ls]) (mem' := fm g6 tp bt at9 b) (by intro _ _ _; eq_refl) ?_
          refine fe_s 1 (pc' := cond (fx_cb .ne ls 1000000) 233 224) (lc' := [(7, .int 0), (8, .int 0), (6, .int ls), (5, .int (nI n)), (0, .ref 0), (1, .int (nI S)), (2, .int (nI t)), (3, .int (nI N))]) (stk' := []) (mem' := fm g6 tp bt at9 b) (by intro _ _ _; eq_refl) ?_
          cases h102 : fx_cb .ne ls 1000000
          · refine fe_s 2 (pc' := 227) (lc' := [(7, .int 0), (8, .int 0), (6, .int ls), (5, .int (nI n)), (0, .ref 0), (1, .int (nI S)), (2, .int (nI t)), (3, .int (nI N))]) (stk' := [.int 6, .ref 0]) (mem' := fm g6 tp bt at9 b) (by intro _ _ _; eq_refl) ?_
            refine fe_ivV (fr_refuse (x := 6)) (by omega) (by rfl) (by rfl) (by rfl) (by rfl) (by rfl) (by rfl) ?_
            refine fe_s 1 (pc' := 239) (lc' := [(7, .int 0), (8, .int 0), (6, .int ls), (5, .int (nI n)), (0, .ref 0), (1, .int (nI S)), (2, .int (nI t)), (3, .int (nI N))]) (stk' := [.int (-1)]) (mem' := fm (upd g6 2 6) tp bt at9 b) (by intro _ _ _; eq_refl) ?_
            exact fe_ret ⟨_, _, _, _, _, _, hEt, (fm_G_2 hG6 (by decide) (by decide)), fun _ _ _ => rfl, rfl⟩ (by rfl) (by rfl) (by rfl)
          · refine fe_s 2 (pc' := 236) (lc' := [(7, .int 0), (8, .int 0), (6, .int ls), (5, .int (nI n)), (0, .ref 0), (1, .int (nI S)), (2, .int (nI t)), (3, .int (nI N))]) (stk' := [.int ls, .ref 0]) (mem' := fm g6 tp bt at9 b) (by intro _ _ _; eq_refl) ?_
            refine fe_ivV (fr_gives (x := ls)) (by omega) (by rfl) (by rfl) (by rfl) (by rfl) (by rfl) (by rfl) ?_
            exact fe_ret ⟨_, _, _, _, _, _, hEt, (fm_G_2 hG6 (by decide) (by decide)), fun _ _ _ => rfl, rfl⟩ (by rfl) (by rfl) (by rfl)
        · refine fe_s 1 (pc' := 213) (lc' := [(7, .int 1), (8, .int 0), (6, .int ls), (5, .int (nI n)), (0, .ref 0), (1, .int (nI S)), (2, .int (nI t)), (3, .int (nI N))]) (stk' := []) (mem' := fm g6 tp bt at9 b) (by intro _ _ _; eq_refl) ?_
          refine fe_s 1 (pc' := fx_to 213 (-136)) (lc' := [(7, .int 1), (8, .int 0), (6, .int ls), (5, .int (nI n)), (0, .ref 0), (1, .int (nI S)), (2, .int (nI t)), (3, .int (nI N))]) (stk' := []) (mem' := fm g6 tp bt at9 b) (by intro _ _ _; eq_refl) ?_
          rw [show fx_to 213 (-136) = 77 from by decide]
          refine fe_w (lc' := [(7, .int 1), (6, .int ls), (5, .int (nI n)), (0, .ref 0), (1, .int (nI S)), (2, .int (nI t)), (3, .int (nI N))]) ⟨rfl, rfl, rfl, rfl, rfl, rfl, rfl, trivial⟩ (by show List.Nodup [7, 6, 5, 0, 1, 2, 3]; decide) (by show List.Nodup [7, 8, 6, 5, 0, 1, 2, 3]; decide) ?_
          exact hK _ _ _ m4 hm4 hG6 hEt htu4
      · refine fe_s 1 (pc' := 202) (lc' := [(8, .int 1), (7, .int 1), (6, .int ls), (5, .int (nI n)), (0, .ref 0), (1, .int (nI S)), (2, .int (nI t)), (3, .int (nI N))]) (stk' := []) (mem' := fm g6 tp bt ag b) (by intro _ _ _; eq_refl) ?_
        refine fe_s 1 (pc' := fx_to 202 (-84)) (lc' := [(8, .int 1), (7, .int 1), (6, .int ls), (5, .int (nI n)), (0, .ref 0), (1, .int (nI S)), (2, .int (nI t)), (3, .int (nI N))]) (stk' := []) (mem' := fm g6 tp bt ag b) (by intro _ _ _; eq_refl) ?_
        rw [show fx_to 202 (-84) = 118 from by decide]
        refine fe_w (lc' := [(8, .int 1), (7, .int 1), (6, .int ls), (5, .int (nI n)), (0, .ref 0), (1, .int (nI S)), (2, .int (nI t)), (3, .int (nI N))]) ⟨rfl, rfl, rfl, rfl, rfl, rfl, rfl, rfl, trivial⟩ (by show List.Nodup [8, 7, 6, 5, 0, 1, 2, 3]; decide) (by show List.Nodup [8, 7, 6, 5, 0, 1, 2, 3]; decide) ?_
        exact ih _ _ _ (by omega) hG6 hEg htug hgag
    refine fe_s 3 (pc' := 137) (lc' := [(9, .int xe101), (8, .int 1), (7, .int 1), (6, .int ls), (5, .int (nI n)), (0, .ref 0), (1, .int (nI S)), (2, .int (nI t)), (3, .int (nI N))]) (stk' := [.int ls, .int xe101]) (mem' := fm gq tp bt ae101 b) (by intro _ _ _; eq_refl) ?_
    refine fe_s 1 (pc' := cond (fx_cb .ge xe101 ls) 194 140) (lc' := [(9, .int xe101), (8, .int 1), (7, .int 1), (6, .int ls), (5, .int (nI n)), (0, .ref 0), (1, .int (nI S)), (2, .int (nI t)), (3, .int (nI N))]) (stk' := []) (mem' := fm gq tp bt ae101 b) (by intro _ _ _; eq_refl) ?_
    cases h103 : fx_cb .ge xe101 ls
    · refine fe_s 7 (pc' := 153) (lc' := [(10, .int 0), (6, .int xe101), (9, .int xe101), (8, .int 1), (7, .int 1), (5, .int (nI n)), (0, .ref 0), (1, .int (nI S)), (2, .int (nI t)), (3, .int (nI N))]) (stk' := []) (mem' := fm (upd gq 30 (nI n)) tp bt ae101 b) (by intro _ _ _; eq_refl) ?_
      refine fe_w (lc' := [(10, .int 0), (9, .int xe101), (8, .int 1), (7, .int 1), (6, .int xe101), (5, .int (nI n)), (0, .ref 0), (1, .int (nI S)), (2, .int (nI t)), (3, .int (nI N))]) ⟨rfl, rfl, rfl, rfl, rfl, rfl, rfl, rfl, rfl, rfl, trivial⟩ (by show List.Nodup [10, 9, 8, 7, 6, 5, 0, 1, 2, 3]; decide) (by show List.Nodup [10, 6, 9, 8, 7, 5, 0, 1, 2, 3]; decide) ?_
      exact que_153 hBa hS ht hN hn1 hn4 hc (fun a' h1 h2 h3 => j194 _ _ a' (fm_G_30 hG (by omega)) h1 h2 h3) n 0 (by omega) _ hE5 htu5 hga5
    · refine fe_w (lc' := [(8, .int 1), (7, .int 1), (6, .int ls), (5, .int (nI n)), (0, .ref 0), (1, .int (nI S)), (2, .int (nI t)), (3, .int (nI N))]) ⟨rfl, rfl, rfl, rfl, rfl, rfl, rfl, rfl, trivial⟩ (by show List.Nodup [8, 7, 6, 5, 0, 1, 2, 3]; decide) (by show List.Nodup [9, 8, 7, 6, 5, 0, 1, 2, 3]; decide) ?_
      exact j194 _ _ _ hG hE5 htu5 hga5
set_option maxHeartbeats 4000000 in
theorem que_77 {S t N n : Nat} (hBa : fm_B a) (hS : S < 256) (ht : t < 4) (hN : N ≤ 12) (hn1 : 1 ≤ n) (hn4 : n ≤ 4) (hc : ∀ k, k < N → ∃ C, C < 10 ∧ b 5 (60 * t + k) = Int64.ofNat C) : ∀ (r m : Nat) (gq : Nat → Int32) (aq : Nat → Nat → Int32) (ls : Int32), 4096 ≤ m + r → fm_G g gq → fm_E a aq → fm_tu n aq m → fe_R 9 gk_m334 77 [(7, .int 1), (6, .int ls), (5, .int (nI n)), (0, .ref 0), (1, .int (nI S)), (2, .int (nI t)), (3, .int (nI N))] [] (fm gq tp bt aq b) (fm_PO g tp bt a b) := by
  intro r
  induction r with
  | zero =>
    intro m gq aq ls h2 hG hE htu
    exact absurd (fm_tu_le htu) (by omega)
  | succ r ih =>
    intro m gq aq ls h2 hG hE htu
    refine fe_s 1 (pc' := 79) (lc' := [(7, .int 1), (6, .int ls), (5, .int (nI n)), (0, .ref 0), (1, .int (nI S)), (2, .int (nI t)), (3, .int (nI N))]) (stk' := [.int 1]) (mem' := fm gq tp bt aq b) (by intro _ _ _; eq_refl) ?_
    refine fe_s 1 (pc' := cond (fx_cb .eq 1 0) 216 82) (lc' := [(7, .int 1), (6, .int ls), (5, .int (nI n)), (0, .ref 0), (1, .int (nI S)), (2, .int (nI t)), (3, .int (nI N))]) (stk' := []) (mem' := fm gq tp bt aq b) (by intro _ _ _; eq_refl) ?_
    rw [show (fx_cb .eq 1 0) = false from by decide]
    dsimp only [cond]
    refine fe_s 2 (pc' := 85) (lc' := [(8, .int 0), (7, .int 1), (6, .int ls), (5, .int (nI n)), (0, .ref 0), (1, .int (nI S)), (2, .int (nI t)), (3, .int (nI N))]) (stk' := []) (mem' := fm gq tp bt aq b) (by intro _ _ _; eq_refl) ?_
    refine fe_w (lc' := [(8, .int 0), (7, .int 1), (6, .int ls), (5, .int (nI n)), (0, .ref 0), (1, .int (nI S)), (2, .int (nI t)), (3, .int (nI N))]) ⟨rfl, rfl, rfl, rfl, rfl, rfl, rfl, rfl, trivial⟩ (by show List.Nodup [8, 7, 6, 5, 0, 1, 2, 3]; decide) (by show List.Nodup [8, 7, 6, 5, 0, 1, 2, 3]; decide) ?_
    refine que_85 hBa hS ht hN hn1 hn4 hc (fun a' x8 h1 h2 h3 => ?_) n 0 (by omega) aq hE htu ⟨fun h => absurd h (by omega), fun h => absurd h (by omega), fun h => absurd h (by omega), fun h => absurd h (by omega)⟩
    refine fe_s 2 (pc' := 118) (lc' := [(8, .int 1), (7, .int 1), (6, .int ls), (5, .int (nI n)), (0, .ref 0), (1, .int (nI S)), (2, .int (nI t)), (3, .int (nI N))]) (stk' := []) (mem' := fm gq tp bt a' b) (by intro _ _ _; eq_refl) ?_
    refine fe_w (lc' := [(8, .int 1), (7, .int 1), (6, .int ls), (5, .int (nI n)), (0, .ref 0), (1, .int (nI S)), (2, .int (nI t)), (3, .int (nI N))]) ⟨rfl, rfl, rfl, rfl, rfl, rfl, rfl, rfl, trivial⟩ (by show List.Nodup [8, 7, 6, 5, 0, 1, 2, 3]; decide) (by show List.Nodup [8, 7, 6, 5, 0, 1, 2, 3]; decide) ?_
    exact que_118 hBa hS ht hN hn1 hn4 hc (fun g' a2 ls' m' hm hG' hE' ht' => ih m' g' a2 ls' (by omega) hG' hE' ht') 259 43 gq a' (by omega) hG h1 h2 h3
set_option maxHeartbeats 8000000 in
theorem fr_queue {set tray nn : Int32} (hBa : fm_B a) (hgb : fm_gb g) : ∃ (v : Option Value) (mem' : fx_M), (fm_PO g tp bt a b) (v, mem') ∧ fr_T 10 334 [.ref 0, .int set, .int tray, .int nn] (fm g tp bt a b) v mem' := by
  have hG := fm_G_rf hgb
  have hB := hBa
  obtain ⟨NC, hNC, eNC⟩ := fm_B_0 hB (i := 0) (n := 10) (by decide) rfl
  obtain ⟨NW, hNW, eNW⟩ := fm_B_0 hB (i := 1) (n := 8) (by decide) rfl
  obtain ⟨NG, hNG, eNG⟩ := fm_B_0 hB (i := 3) (n := 20) (by decide) rfl
  obtain ⟨T, hT9, eT⟩ := fm_T5 hB
  have hD : fm_D a a T := fm_D_rf hB eT (by omega)
  refine fe_meth (F := fm_PO g tp bt a b) (M := gk_m334) (by rfl) (by rfl) ?_
  refine fe_s 4 (pc' := 4) (lc' := [(0, .ref 0), (1, .int set), (2, .int tray), (3, .int nn)]) (stk' := [.int nn, .int tray, .int set, .ref 0]) (mem' := fm g tp bt a b) (by intro _ _ _; eq_refl) ?_
  obtain ⟨vu1, memu1, ⟨uu1, huu1, h0u1, au1, hDu1, hRu1⟩, hfru1⟩ := fr_wrongQueue (set := set) (tray := tray) (nn := nn) (g := g) (tp := tp) (bt := bt) (a := a) (b := b) hB hD eNW hNW
  cases hRu1
  refine fe_ivV hfru1 (by omega) (by rfl) (by rfl) (by rfl) (by rfl) (by rfl) (by rfl) ?_
  refine fe_s 2 (pc' := 11) (lc' := [(4, .int (nI uu1)), (0, .ref 0), (1, .int set), (2, .int tray), (3, .int nn)]) (stk' := [.int (nI uu1)]) (mem' := fm g tp bt au1 b) (by intro _ _ _; eq_refl) ?_
  refine fe_s 1 (pc' := cond (fx_cb .le (nI uu1) 0) 21 14) (lc' := [(4, .int (nI uu1)), (0, .ref 0), (1, .int set), (2, .int tray), (3, .int nn)]) (stk' := []) (mem' := fm g tp bt au1 b) (by intro _ _ _; eq_refl) ?_
  by_cases h2 : uu1 ≤ 0
  · rw [show (fx_cb .le (nI uu1) 0) = true from cb_leT (a := uu1) (b := 0) (by omega) (by omega) (by omega)]
    dsimp only [cond]
    obtain ⟨S, t, N, rfl, rfl, rfl, hS1, hSN, hp4, ht, hN1, hN, hc⟩ := h0u1 (by omega)
    have h256 : 2 ^ NW ≤ 2 ^ 8 := Nat.pow_le_pow_right (by decide) hNW
    have hS : S < 256 := by omega
    refine fe_s 4 (pc' := 27) (lc' := [(6, .int 0), (5, .int 0), (4, .int (nI uu1)), (0, .ref 0), (1, .int (nI S)), (2, .int (nI t)), (3, .int (nI N))]) (stk' := []) (mem' := fm g tp bt au1 b) (by intro _ _ _; eq_refl) ?_
    have hES := fm_E_D hB hDu1 (by omega)
    have eN1 : au1 1 1 = nI NW := (fm_D_h hDu1 (by decide) rfl).trans eNW
    have loop : ∀ (r i p : Nat), i + r = NW → p = fm_pw S i → ∀ aq : Nat → Nat → Int32, (∀ t, t ≠ 10 → aq t = au1 t) → fm_tq p i aq → fe_R 9 gk_m334 27 [(6, .int (nI i)), (5, .int (nI p)), (0, .ref 0), (1, .int (nI S)), (2, .int (nI t)), (3, .int (nI N))] [] (fm g tp bt aq b) (fm_PO g tp bt a b) := by
      intro r
      induction r with
      | zero =>
        intro i p hi hp aq ho htq
        obtain rfl : NW = i := by omega
        have hle := fm_pw_le S NW (8 - NW)
        rw [show NW + (8 - NW) = 8 by omega] at hle
        have hp4 : p ≤ 4 := by omega
        refine fe_s 4 (pc' := 34) (lc' := [(6, .int (nI NW)), (5, .int (nI p)), (0, .ref 0), (1, .int (nI S)), (2, .int (nI t)), (3, .int (nI N))]) (stk' := [.int 1, .ref 1, .int (nI NW)]) (mem' := fm g tp bt aq b) (by intro _ _ _; eq_refl) ?_
        refine fe_ldI (by rfl) (by rfl) (fx_inN (i := 1) (by omega) (by omega)) ?_
        rw [show Int32.toNatClampNeg (1) = 1 from rfl]
        rw [show aq 1 1 = nI NW from by rw [ho 1 (by decide)]; exact eN1]
        refine fe_s 1 (pc' := cond (fx_cb .ge (nI NW) (nI NW)) 69 38) (lc' := [(6, .int (nI NW)), (5, .int (nI p)), (0, .ref 0), (1, .int (nI S)), (2, .int (nI t)), (3, .int (nI N))]) (stk' := []) (mem' := fm g tp bt aq b) (by intro _ _ _; eq_refl) ?_
        rw [show (fx_cb .ge (nI NW) (nI NW)) = true from cb_geT (a := NW) (b := NW) (by omega) (by omega) (by omega)]
        dsimp only [cond]
        refine fe_s 4 (pc' := 77) (lc' := [(7, .int 1), (6, .int 1000000), (5, .int (nI p)), (0, .ref 0), (1, .int (nI S)), (2, .int (nI t)), (3, .int (nI N))]) (stk' := []) (mem' := fm g tp bt aq b) (by intro _ _ _; eq_refl) ?_
        refine fe_w (lc' := [(7, .int 1), (6, .int 1000000), (5, .int (nI p)), (0, .ref 0), (1, .int (nI S)), (2, .int (nI t)), (3, .int (nI N))]) ⟨rfl, rfl, rfl, rfl, rfl, rfl, rfl, trivial⟩ (by show List.Nodup [7, 6, 5, 0, 1, 2, 3]; decide) (by show List.Nodup [7, 6, 5, 0, 1, 2, 3]; decide) ?_
        obtain ⟨m, htu⟩ := fm_tq_tu htq
        have hp1 : 1 ≤ p := by
          have := fm_pw_pos hNW hS1 hSN
          omega
        have hEq : fm_E a aq := fm_E_o hES (fun t ht => ho t (fun e => by subst e; exact absurd ht (by decide)))
        exact que_77 hBa hS ht hN hp1 hp4 hc 4096 m _ aq _ (by omega) hG hEq htu
      | succ r ih =>
        intro i p hi hp aq ho htq
        have hlt : i < NW := by omega
        have hle := fm_pw_le S i (8 - i)
        rw [show i + (8 - i) = 8 by omega] at hle
        have hp4 : p ≤ 4 := by omega
        refine fe_s 4 (pc' := 34) (lc' := [(6, .int (nI i)), (5, .int (nI p)), (0, .ref 0), (1, .int (nI S)), (2, .int (nI t)), (3, .int (nI N))]) (stk' := [.int 1, .ref 1, .int (nI i)]) (mem' := fm g tp bt aq b) (by intro _ _ _; eq_refl) ?_
        refine fe_ldI (by rfl) (by rfl) (fx_inN (i := 1) (by omega) (by omega)) ?_
        rw [show Int32.toNatClampNeg (1) = 1 from rfl]
        rw [show aq 1 1 = nI NW from by rw [ho 1 (by decide)]; exact eN1]
        refine fe_s 1 (pc' := cond (fx_cb .ge (nI i) (nI NW)) 69 38) (lc' := [(6, .int (nI i)), (5, .int (nI p)), (0, .ref 0), (1, .int (nI S)), (2, .int (nI t)), (3, .int (nI N))]) (stk' := []) (mem' := fm g tp bt aq b) (by intro _ _ _; eq_refl) ?_
        rw [show (fx_cb .ge (nI i) (nI NW)) = false from cb_geF (a := i) (b := NW) (by omega) (by omega) (by omega)]
        dsimp only [cond]
        refine fe_s 3 (pc' := 42) (lc' := [(6, .int (nI i)), (5, .int (nI p)), (0, .ref 0), (1, .int (nI S)), (2, .int (nI t)), (3, .int (nI N))]) (stk' := [.int (nI i), .int (nI S), .ref 0]) (mem' := fm g tp bt aq b) (by intro _ _ _; eq_refl) ?_
        refine fe_ivV fr_isIn (by omega) (by rfl) (by rfl) (by rfl) (by rfl) (by rfl) (by rfl) ?_
        rcases fm_b_01 (nI S) (nI i) with q3 | q3
        · rw [q3]
          refine fe_s 1 (pc' := cond (fx_cb .ne 0 0) 51 48) (lc' := [(6, .int (nI i)), (5, .int (nI p)), (0, .ref 0), (1, .int (nI S)), (2, .int (nI t)), (3, .int (nI N))]) (stk' := []) (mem' := fm g tp bt aq b) (by intro _ _ _; eq_refl) ?_
          rw [show (fx_cb .ne 0 0) = false from by decide]
          dsimp only [cond]
          refine fe_s 3 (pc' := 27) (lc' := [(6, .int ((nI i) + 1)), (5, .int (nI p)), (0, .ref 0), (1, .int (nI S)), (2, .int (nI t)), (3, .int (nI N))]) (stk' := []) (mem' := fm g tp bt aq b) (by intro _ _ _; eq_refl) ?_
          rw [show ((nI i) + 1 : Int32) = nI (i + 1) from by simp only [show (1 : Int32) = nI 1 from rfl, nI_add, fm_mul]]
          refine fe_w (lc' := [(6, .int (nI (i + 1))), (5, .int (nI p)), (0, .ref 0), (1, .int (nI S)), (2, .int (nI t)), (3, .int (nI N))]) ⟨rfl, rfl, rfl, rfl, rfl, rfl, trivial⟩ (by show List.Nodup [6, 5, 0, 1, 2, 3]; decide) (by show List.Nodup [6, 5, 0, 1, 2, 3]; decide) ?_
          exact ih (i + 1) p (by omega) (by rw [fm_pw_z S i q3]; exact hp) aq ho (fm_tq_n htq)
        · rw [q3]
          have hp3 : p < 4 := by
            have h9 := fm_pw_le S (i + 1) (7 - i)
            rw [show i + 1 + (7 - i) = 8 by omega, fm_pw_s S i q3] at h9
            omega
          refine fe_s 1 (pc' := cond (fx_cb .ne 1 0) 51 48) (lc' := [(6, .int (nI i)), (5, .int (nI p)), (0, .ref 0), (1, .int (nI S)), (2, .int (nI t)), (3, .int (nI N))]) (stk' := []) (mem' := fm g tp bt aq b) (by intro _ _ _; eq_refl) ?_
          rw [show (fx_cb .ne 1 0) = true from by decide]
          dsimp only [cond]
          refine fe_s 4 (pc' := 59) (lc' := [(6, .int (nI i)), (5, .int (nI p)), (0, .ref 0), (1, .int (nI S)), (2, .int (nI t)), (3, .int (nI N))]) (stk' := [.int (nI i), .int (nI p), .ref 10]) (mem' := fm g tp bt aq b) (by intro _ _ _; eq_refl) ?_
          refine fe_stI (mem' := fm g tp bt (fm_u aq 10 (nI p : Int32).toNatClampNeg (nI i)) b) (by rfl) (by rfl) (fx_inN (i := p) (by omega) (by omega)) fm_si10 ?_
          rw [show Int32.toNatClampNeg (nI p) = p from nI_clamp (by omega)]
          obtain ⟨as4, has4⟩ : ∃ zz, zz = fm_u aq 10 (p) (nI i) := ⟨_, rfl⟩
          rw [← has4]
          refine fe_s 3 (pc' := 27) (lc' := [(6, .int ((nI i) + 1)), (5, .int ((nI p) + 1)), (0, .ref 0), (1, .int (nI S)), (2, .int (nI t)), (3, .int (nI N))]) (stk' := []) (mem' := fm g tp bt as4 b) (by intro _ _ _; eq_refl) ?_
          rw [show ((nI i) + 1 : Int32) = nI (i + 1) from by simp only [show (1 : Int32) = nI 1 from rfl, nI_add, fm_mul]]
          rw [show ((nI p) + 1 : Int32) = nI (p + 1) from by simp only [show (1 : Int32) = nI 1 from rfl, nI_add, fm_mul]]
          refine fe_w (lc' := [(6, .int (nI (i + 1))), (5, .int (nI (p + 1))), (0, .ref 0), (1, .int (nI S)), (2, .int (nI t)), (3, .int (nI N))]) ⟨rfl, rfl, rfl, rfl, rfl, rfl, trivial⟩ (by show List.Nodup [6, 5, 0, 1, 2, 3]; decide) (by show List.Nodup [6, 5, 0, 1, 2, 3]; decide) ?_
          exact ih (i + 1) (p + 1) (by omega) (by rw [fm_pw_s S i q3, hp]) _ (fun t ht => by rw [has4, fm_utt ht]; exact ho t ht) (by rw [has4]; exact fm_tq_s htq hp3 (by omega))
    refine fe_w (lc' := [(6, .int 0), (5, .int 0), (0, .ref 0), (1, .int (nI S)), (2, .int (nI t)), (3, .int (nI N))]) ⟨rfl, rfl, rfl, rfl, rfl, rfl, trivial⟩ (by show List.Nodup [6, 5, 0, 1, 2, 3]; decide) (by show List.Nodup [6, 5, 4, 0, 1, 2, 3]; decide) ?_
    exact loop NW 0 0 (by omega) rfl au1 (fun _ _ => rfl) fm_tq_0
  · rw [show (fx_cb .le (nI uu1) 0) = false from cb_leF (a := uu1) (b := 0) (by omega) (by omega) (by omega)]
    dsimp only [cond]
    refine fe_s 2 (pc' := 17) (lc' := [(4, .int (nI uu1)), (0, .ref 0), (1, .int set), (2, .int tray), (3, .int nn)]) (stk' := [.int (nI uu1), .ref 0]) (mem' := fm g tp bt au1 b) (by intro _ _ _; eq_refl) ?_
    refine fe_ivV (fr_refuse (x := nI uu1)) (by omega) (by rfl) (by rfl) (by rfl) (by rfl) (by rfl) (by rfl) ?_
    exact fe_ret ⟨_, _, _, _, _, _, fm_E_D hB hDu1 (by omega), (fm_G_2 hG (by rw [nI_i32 (by omega)]; omega) (by rw [nI_i32 (by omega)]; omega)), (fun _ _ _ => rfl), rfl⟩ (by rfl) (by rfl) (by rfl)
end FQ4
end MH12_2
section MH12_3
/-! ===== the model: what holds of its memory between calls; a public call by fx as a tk contract ===== -/
/-- what a changed cell must be -/
def fm_chg2 (TY : tk_TT) (ro : Nat → Nat → Int → Prop) (ads tw : List Nat) (mods : List (Nat × Nat)) (ps : fx_P) (t : Nat) (e e' : fx_E) : Prop := e' = e ∨ (∃ (kd : FieldType) (n : Nat) (f f' : Nat → Int32) (fl : tk_F), (kd = .int ∨ kd = .byte) ∧ e = .inr (kd, n, .inl f) ∧ e' = .inr (kd, n, .inl f') ∧ TY.1[t]? = some (.inr (kd, n, fl)) ∧ (∀ i : Nat, i < n → tk_fv ro TY.2.1 ads tw t i fl (.int (f' i))) ∧ 0 < n ∧ ∀ i : Nat, i < n → (t, tk_rg TY t i) ∈ mods) ∨ (∃ (n : Nat) (f f' : Nat → Int64) (fl : tk_F), e = .inr (.long, n, .inr (.inl f)) ∧ e' = .inr (.long, n, .inr (.inl f')) ∧ TY.1[t]? = some (.inr (.long, n, fl)) ∧ (∀ i : Nat, i < n → tk_fv ro TY.2.1 ads tw t i fl (.long (f' i))) ∧ 0 < n ∧ ∀ i : Nat, i < n → (t, tk_rg TY t i) ∈ mods) ∨ (∃ (ci : Nat) (vs vs' : List Value) (fs : List tk_F), e = .inl (ci, vs) ∧ e' = .inl (ci, vs') ∧ TY.1[t]? = some (.inl (ci, fs)) ∧ vs'.length = fs.length ∧ (∀ (i : Nat) (f : tk_F) (v : Value), fs[i]? = some f → vs'[i]? = some v → ¬ f.1 = 2 → tk_fv ro TY.2.1 ads tw t i f (fx_v ps v)) ∧ (∀ (i : Nat) (f : tk_F), fs[i]? = some f → f.1 = 2 → vs'[i]? = vs[i]?) ∧ (∀ i : Nat, ¬ (t, tk_rg TY t i) ∈ mods → vs'[i]? = vs[i]?) ∧ ∃ i : Nat, (t, tk_rg TY t i) ∈ mods)
section FMO3
variable {l : Launch} {D : va_G} {tbl xw : List Jvm.Cond} {xt : tk_XT} {MN : List rk_N} {P : List rk_M2} {TY : tk_TT} {ro : Nat → Nat → Int → Prop} {X1 X2 : va_W → Prop} {ads tw : List Nat}
set_option maxHeartbeats 8000000 in
theorem fm_KS3 (hst : ∀ (Ad : Nat → Prop) (U : State) (H : Heap), xt Ad U H → ∃ pl v tx, sk_X pl v Ad U H ∧ vk_R "GooseIceModel" 189 tx pl U) (hT : fm_Ty TY) {k f : Nat} {rs : List tk_V} {w : tk_W} {fa : tk_FA} {ys : List tk_X} {mods : List (Nat × Nat)} (hrs : rs.all (fun v => Nat.beq v.1 0) = true)
    (hex : ∀ (U : State) (vals : List Int) (rest : List Value) (ws : va_W) (h0 : Nat) (ps : fx_P) (σ : List Nat) (g : Nat → Int32) (tp bt : Int64) (a : Nat → Nat → Int32) (b : Nat → Nat → Int64), tk_H w vals → rk_A2 (tk_g vals [h0]) rs rest → rk_A2 (fun t (q : Nat × va_E) => tk_cl TY ro ads tw U t q.2) tw ws → ws.map Prod.fst = ads → va_D (fun _ => True) ws → (∀ z ∈ fa, tk_fk vals [h0] ws z) → fm_at U tw ws h0 ps σ (fm g tp bt a b) → X1 ws →
      ∃ (r : Option Value) (mem' : fx_M), fr_T k f (.ref 0 :: rest) (fm g tp bt a b) r mem' ∧ (∀ (t : Nat) (e e' : fx_E), (fm g tp bt a b)[t]? = some e → mem'[t]? = some e' → fm_chg2 TY ro ads tw mods ps t e e') ∧ X2 (fx_put ws σ (fx_w ps mem')) ∧ ∃ x ∈ ys, ∃ vals' : List Int, (∃ k, vals' = vals ++ k) ∧ tk_H x.2.1 vals' ∧ x.2.2.1 = [0] ∧ (∀ q ∈ x.2.2.2, tk_fk vals' [h0] (fx_put ws σ (fx_w ps mem')) q) ∧ tk_ret x.1 vals' [h0] (.returned (r.map (fx_v ps)))) : tk_KS2 l D gk_cl gk_tbl gk_xw xt gk_MN gk_P TY ro X1 X2 ads tw (k + 4) (f, (2, 0, 0, 0) :: rs, w, [0], fa, ys, mods) := by
  intro qn hqn
  -- the method's own table row
  obtain ⟨M, hM, hM21⟩ : ∃ M, gk_P[f]? = some M ∧ M.2.1 ≤ 21 := by
    have hlen : gk_MN.length = gk_P.length := gk_rok.2.2.2.2.1
    have hlt : f < gk_P.length := by rw [← hlen]; exact (List.getElem?_eq_some_iff.mp hqn).1
    refine ⟨gk_P[f], List.getElem?_eq_getElem hlt, ?_⟩
    have hall : gk_P.all (fun M => Nat.ble M.2.1 21) = true := by decide +kernel
    exact Nat.le_of_ble_eq_true (List.all_eq_true.mp hall _ (List.getElem_mem hlt))
  refine ⟨M, hM, hM21, fun vals rads ws av sz hH h3 hA2 h4 h9 hob => rk_Met_case (fun aU U hP => ?_)⟩
  obtain ⟨p1, p2, p3, p4, p5, p6, p7, p8, p10⟩ := hP
  obtain ⟨h0, r0, rfl, hty, h3'⟩ := h3.cons
  have hr0 := h3'.nil
  subst hr0
  obtain ⟨v0, rest, rfl, hg0, hA2'⟩ := hA2.cons
  obtain ⟨x0, hx0, rfl⟩ := tk_g2 hg0 rfl
  obtain rfl : h0 = x0 := Option.some.inj hx0
  obtain ⟨pl, v9, tx9, hsX, hsR⟩ := hst _ _ _ p8
  obtain ⟨g, tp, bt, a, b, ps, σ, hat, hz⟩ := fm_in pl hT h4 p6 hty
  obtain ⟨r, mem', hfr, hchg, hX2, x, hx, vals', hv, hH', hrf, hfk, hret⟩ := hex U vals rest ws h0 ps σ g tp bt a b hH hA2' p6 h4 p5 h9 hat p10
  obtain ⟨M2, hM2, -, hmet⟩ := fr_Met (l := l) (D := D) hfr qn hqn
  obtain rfl : M = M2 := Option.some.inj (hM.symm.trans hM2)
  obtain ⟨a1, a2, ⟨c0, a3⟩, a4, a5⟩ := id hat
  have hsub : ∀ (j : Nat) (q : Nat × va_E), (fx_w ps (fm g tp bt a b))[j]? = some q → ∃ i : Nat, ws[i]? = some q := by
    intro j q hj
    have hl : j < (fx_w ps (fm g tp bt a b)).length := (List.getElem?_eq_some_iff.mp hj).1
    have hl2 : j < ps.length := by
      unfold fx_w at hl
      rw [List.length_zipWith] at hl
      omega
    have hl3 : j < 22 := by
      unfold fx_w at hl
      rw [List.length_zipWith, show (fm g tp bt a b).length = 22 from rfl] at hl
      omega
    have hs : σ[j]? = some σ[j] := List.getElem?_eq_getElem (by omega)
    obtain ⟨b1, q1, e1, b2, b3, b4⟩ := a5 j _ hs
    refine ⟨σ[j], ?_⟩
    rw [b4, ← hj]
    unfold fx_w
    rw [List.getElem?_zipWith, b2, b3]
  have hPf : va_P D gk_cl (fx_w ps (fm g tp bt a b)) U.heap := fun j q hj => by
    obtain ⟨i, hi⟩ := hsub j q hj
    exact p3 i q hi
  have hidx : ∀ (j : Nat) (q : Nat × va_E), (fx_w ps (fm g tp bt a b))[j]? = some q → ∃ i : Nat, σ[j]? = some i ∧ ws[i]? = some q := by
    intro j q hj
    have hl : j < (fx_w ps (fm g tp bt a b)).length := (List.getElem?_eq_some_iff.mp hj).1
    have hl2 : j < ps.length := by
      unfold fx_w at hl
      rw [List.length_zipWith] at hl
      omega
    have hl3 : j < 22 := by
      unfold fx_w at hl
      rw [List.length_zipWith, show (fm g tp bt a b).length = 22 from rfl] at hl
      omega
    have hs : σ[j]? = some σ[j] := List.getElem?_eq_getElem (by omega)
    obtain ⟨b1, q1, e1, b2, b3, b4⟩ := a5 j _ hs
    refine ⟨σ[j], hs, ?_⟩
    rw [b4, ← hj]
    unfold fx_w
    rw [List.getElem?_zipWith, b2, b3]
  have hDf : va_D (fun _ => True) (fx_w ps (fm g tp bt a b)) := ⟨fun i j q1 q2 hi hj e => by
    obtain ⟨i', g1, g2⟩ := hidx i q1 hi
    obtain ⟨j', g3, g4⟩ := hidx j q2 hj
    have := p5.1 i' j' q1 q2 g2 g4 e
    subst this
    exact fm_at_inj hat i j i' g1 g3, fun _ _ _ => trivial⟩
  have hfree : ∀ q, va_A (fx_w ps (fm g tp bt a b)) sz q → va_A ws sz q := by
    rintro q (⟨k1, e1, hk1⟩ | hq)
    · obtain ⟨i, hi⟩ := hsub k1 _ hk1
      exact Or.inl ⟨i, e1, hi⟩
    · exact Or.inr hq
  have hrest : rest.map (fx_v ps) = rest := by
    apply List.ext_getElem?
    intro i
    rw [List.getElem?_map]
    cases hi : rest[i]? with
    | none => rfl
    | some v =>
      obtain ⟨av0, hav, hg⟩ := hA2'.getR hi
      have hk := List.all_eq_true.mp hrs av0 (List.mem_of_getElem? hav)
      obtain ⟨z, rfl, -⟩ := tk_g0 hg (Nat.eq_of_beq_eq_true hk)
      rfl
  have hargs : (Value.ref 0 :: rest).map (fx_v ps) = .ref h0 :: rest := by
    show fx_v ps (.ref 0) :: rest.map (fx_v ps) = _
    rw [hrest]
    show Value.ref (fx_ad ps 0) :: rest = _
    unfold fx_ad
    rw [a3]
  refine ⟨fx_Pre D ps (fm g tp bt a b) sz (.ref 0 :: rest), fx_Post D ps mem' r (va_A (fx_w ps (fm g tp bt a b)) sz), rk_Met_imp (hmet ps sz) (fun _ _ z => z) (fun _ _ _ _ _ _ z => z) hfree, ⟨by rw [hargs]; exact p1, p2, hPf, p4, hDf, a4, p7, ⟨v9, tx9, by rw [a1]; show sk_X (fx_ad ps 22) _ _ _ _; rw [hz]; exact hsX.narrow hfree, by rw [a1]; show vk_R _ _ _ (fx_ad ps 22) _; rw [hz]; exact hsR⟩⟩, ?_⟩
  rintro oc t hW ⟨⟨e1, hOt, hPt, hDt⟩, hF⟩
  obtain ⟨hput1, hput2⟩ := fm_put hat hOt
  have hmap : (fx_put ws σ (fx_w ps mem')).map Prod.fst = ads := by
    rw [← h4]
    apply List.ext_getElem?
    intro i
    rw [List.getElem?_map, List.getElem?_map]
    rcases fm_in_or (σ := σ) i with ⟨tt, ht⟩ | hno
    · obtain ⟨-, q, e, e', g1, g2, g3, g4, g5⟩ := hput2 tt i ht
      rw [g4, g5]
      rfl
    · rw [hput1 i hno]
  have hlenw : (fx_put ws σ (fx_w ps mem')).length = tw.length := by rw [fx_put_len]; exact p6.len.symm
  have hcl' : ∀ (i tt : Nat) (q : Nat × va_E), tw[i]? = some tt → (fx_put ws σ (fx_w ps mem'))[i]? = some q → tk_cl TY ro ads tw t tt q.2 := by
    intro i tt q htw hq
    rcases fm_in_or (σ := σ) i with ⟨t2, ht⟩ | hno
    · obtain ⟨k1, q1, e, e', g1, g2, g3, g4, g5⟩ := hput2 t2 i ht
      rw [htw] at k1
      obtain rfl : tt = t2 := Option.some.inj k1
      rw [g5] at hq
      cases hq
      obtain ⟨qq, hqq, hc0⟩ := p6.get htw
      rw [g4] at hqq
      cases hqq
      rcases hchg tt e e' g2 g3 with rfl | ⟨kd, n, f1, f2, fl, hkd, rfl, rfl, k3, k4, -⟩ | ⟨n, f1, f2, fl, rfl, rfl, k3, k4, -⟩ | ⟨ci, vs, vs', fs, rfl, rfl, k3, k4, k5, k6, -⟩
      · exact tk_cl_moved hW.alike hc0
      · obtain ⟨m1, m2⟩ := hOt.2 tt q1 _ _ g1 g3
        show tk_cl TY ro ads tw t tt (.inl (q1.2, n, .inl f2))
        unfold tk_cl
        rw [k3]
        rcases hkd with rfl | rfl
        · exact ⟨q1.2, m1, m2, f2, rfl, k4⟩
        · exact ⟨q1.2, m1, m2, f2, rfl, k4⟩
      · obtain ⟨m1, m2⟩ := hOt.2 tt q1 _ _ g1 g3
        show tk_cl TY ro ads tw t tt (.inl (q1.2, n, .inr (.inl f2)))
        unfold tk_cl
        rw [k3]
        exact ⟨q1.2, m1, m2, f2, rfl, k4⟩
      · unfold tk_cl at hc0
        rw [k3] at hc0
        obtain ⟨vz, hvz, hvzl, hvzf⟩ := hc0
        cases hvz
        show tk_cl TY ro ads tw t tt (.inr (ci, vs'.map (fx_v ps)))
        unfold tk_cl
        rw [k3]
        refine ⟨_, rfl, by rw [List.length_map]; exact k4, fun i2 f2 v2 hf2 hv2 => ?_⟩
        rw [List.getElem?_map] at hv2
        obtain ⟨v3, hv3, rfl⟩ := Option.map_eq_some_iff.mp hv2
        by_cases h2 : f2.1 = 2
        · have := k6 i2 f2 hf2 h2
          rw [hv3] at this
          exact hvzf i2 f2 _ hf2 (by rw [List.getElem?_map, ← this]; rfl)
        · exact k5 i2 f2 v3 hf2 hv3 h2
    · rw [hput1 i hno] at hq
      obtain ⟨qq, hqq, hc0⟩ := p6.get htw
      rw [hq] at hqq
      cases hqq
      exact tk_cl_moved hW.alike hc0
  have hnin : ∀ (i : Nat) (q : Nat × va_E), (∀ t2 : Nat, ¬ σ[t2]? = some i) → ws[i]? = some q → ¬ va_A (fx_w ps (fm g tp bt a b)) sz q.1 := by
    rintro i q hno hq (⟨k1, ee, hk1⟩ | hge)
    · obtain ⟨i', g1, g2⟩ := hidx k1 _ hk1
      have := p5.1 i i' q _ hq g2 rfl
      subst this
      exact hno k1 g1
    · have := (p3 i q hq).lt
      rw [p2] at this
      omega
  have hPw : va_P D gk_cl (fx_put ws σ (fx_w ps mem')) t.heap := by
    intro i q hq
    rcases fm_in_or (σ := σ) i with ⟨t2, ht⟩ | hno
    · obtain ⟨k1, q1, e, e', g1, g2, g3, g4, g5⟩ := hput2 t2 i ht
      rw [g5] at hq
      cases hq
      refine hPt t2 _ ?_
      unfold fx_w
      rw [List.getElem?_zipWith, g1, g3]
    · rw [hput1 i hno] at hq
      exact (p3 i q hq).kept (hF.2 q.1 (p3 i q hq).lt (hnin i q hno hq))
  have hget : ∀ (i : Nat) (q : Nat × va_E), (fx_put ws σ (fx_w ps mem'))[i]? = some q → ∃ e9, ws[i]? = some (q.1, e9) := by
    intro i q hq
    rcases fm_in_or (σ := σ) i with ⟨t2, ht⟩ | hno
    · obtain ⟨k1, q1, e, e', g1, g2, g3, g4, g5⟩ := hput2 t2 i ht
      rw [g5] at hq
      cases hq
      exact ⟨_, g4⟩
    · rw [hput1 i hno] at hq
      exact ⟨q.2, hq⟩
  have hDw : va_D (va_A ws sz) (fx_put ws σ (fx_w ps mem')) := ⟨fun i j q1 q2 hi hj e => by
    obtain ⟨e9, g1⟩ := hget i q1 hi
    obtain ⟨e8, g2⟩ := hget j q2 hj
    exact p5.1 i j _ _ g1 g2 e, fun i q hi => by
    obtain ⟨e9, g1⟩ := hget i q hi
    exact Or.inl ⟨i, e9, g1⟩⟩
  refine ⟨⟨x, hx, vals', [h0], fx_put ws σ (fx_w ps mem'), hv, ⟨[], by simp⟩, hH', ?_, hmap, rk_A2_of (by rw [hlenw]) (fun i tt q h1 h2 => hcl' i tt q h1 h2), hPw, hDw, hfk, ⟨?_, hX2⟩, ?_⟩, hF.1, fun q h9' hn9 => hF.2 q h9' (fun z => hn9 (hfree q z))⟩
  · rw [hrf]
    exact ⟨hty, trivial⟩
  · intro j y e hj
    rcases fm_in_or (σ := σ) j with ⟨t2, ht⟩ | hno
    · obtain ⟨k1, q1, e0, e', g1, g2, g3, g4, g5⟩ := hput2 t2 j ht
      rw [hj] at g4
      cases g4
      refine ⟨_, g5, ?_⟩
      rcases hchg t2 e0 e' g2 g3 with rfl | ⟨kd, n, f1, f2, fl, hkd, rfl, rfl, k3, k4, k0, k5⟩ | ⟨n, f1, f2, fl, rfl, rfl, k3, k4, k0, k5⟩ | ⟨ci, vs, vs', fs, rfl, rfl, k3, k4, k5, k6, k7, k8⟩
      · exact ⟨fun _ _ _ _ => rfl, fun _ _ _ => rfl⟩
      · refine ⟨fun i t ht2 hn => ?_, fun t ht2 hn => ?_⟩
        · rw [k1] at ht2
          cases ht2
          show (if i < n then some (Value.int (f2 i)) else none) = (if i < n then some (Value.int (f1 i)) else none)
          by_cases hin : i < n
          · exact absurd (k5 i hin) hn
          · rw [if_neg hin, if_neg hin]
        · rw [k1] at ht2
          cases ht2
          exact absurd (k5 0 k0) (hn 0)
      · refine ⟨fun i t ht2 hn => ?_, fun t ht2 hn => ?_⟩
        · rw [k1] at ht2
          cases ht2
          show (if i < n then some (Value.long (f2 i)) else none) = (if i < n then some (Value.long (f1 i)) else none)
          by_cases hin : i < n
          · exact absurd (k5 i hin) hn
          · rw [if_neg hin, if_neg hin]
        · rw [k1] at ht2
          cases ht2
          exact absurd (k5 0 k0) (hn 0)
      · refine ⟨fun i t ht2 hn => ?_, fun t ht2 hn => ?_⟩
        · rw [k1] at ht2
          cases ht2
          show (vs'.map (fx_v ps))[i]? = (vs.map (fx_v ps))[i]?
          rw [List.getElem?_map, List.getElem?_map, k7 i hn]
        · rw [k1] at ht2
          cases ht2
          obtain ⟨i, hi⟩ := k8
          exact absurd hi (hn i)
    · exact ⟨e, by rw [hput1 j hno]; exact hj, fun _ _ _ _ => rfl, fun _ _ _ => rfl⟩
  · rw [e1]
    exact hret
end FMO3
def gm_fl : List tk_F := [(2, 1, 0), (2, 2, 0), (0, 0, 9), (1, (-9223372036854775808), 9223372036854775807), (1, (-9223372036854775808), 9223372036854775807), (2, 3, 0), (2, 4, 0), (2, 5, 0), (2, 6, 0), (2, 7, 0), (0, 0, 900), (0, 0, 900), (0, 0, 4), (0, 0, 900), (0, 0, 900), (0, (-2147483648), 1000000), (0, (-1), 7), (0, (-1), 900), (0, 0, 7), (0, 0, 0), (0, (-2147483648), 2147483647), (2, 8, 0), (0, 0, 3), (0, 0, 30), (2, 9, 0), (0, (-2147483648), 2147483647), (2, 10, 0), (2, 11, 0), (2, 12, 0), (2, 13, 0), (0, 0, 4), (2, 14, 0), (2, 15, 0), (2, 16, 0), (2, 17, 0), (2, 18, 0), (0, (-2147483648), 2147483647), (0, 0, 300), (2, 19, 0), (2, 20, 0), (2, 21, 0), (0, 0, 1), (0, 0, 3)]
theorem gm_fl_eq : gm_ty[0]? = some (.inl (12, gm_fl)) := rfl
def gm_gf : List (Nat × Int × Int) := [(2, 0, 9), (10, 0, 900), (11, 0, 900), (12, 0, 4), (13, 0, 900), (14, 0, 900), (15, (-2147483648), 1000000), (16, (-1), 7), (17, (-1), 900), (18, 0, 7), (19, 0, 0), (20, (-2147483648), 2147483647), (22, 0, 3), (23, 0, 30), (25, (-2147483648), 2147483647), (30, 0, 4), (36, (-2147483648), 2147483647), (37, 0, 300), (41, 0, 1), (42, 0, 3)]
def gm_ar : List (Nat × Nat × Int × Int) := [(3, 4, 0, 3), (4, 4, (-1), 60), (6, 900, (-128), 127), (7, 900, (-128), 127), (8, 3, 0, 59), (14, 256, 0, 1000000), (15, 427, 0, 1000000)]
/-- within the types, and X -/
def fm_I (g : Nat → Int32) (a : Nat → Nat → Int32) : Prop := (∀ q ∈ gm_gf, q.2.1 ≤ (g q.1).toInt ∧ (g q.1).toInt ≤ q.2.2) ∧ fm_B a ∧ ∀ q ∈ gm_ar, ∀ i, i < q.2.1 → q.2.2.1 ≤ (a q.1 i).toInt ∧ (a q.1 i).toInt ≤ q.2.2.2
/-- the places that X looks at -/
def gn_FX : List (Nat × Nat) := [(1, 10), (1, 42), (1, 74), (1, 106), (1, 138), (1, 170), (1, 202), (1, 6), (1, 38), (1, 70), (1, 102), (1, 21), (1, 53), (1, 85), (1, 117), (1, 22), (1, 54), (1, 86), (1, 118)]
def gn_xp (i : Nat) : Bool := tk_in gn_FX 1 (gm_rg i)
theorem gn_xp_w : ∀ s, s < 7 → ∀ c, c < 10 → gn_xp (842 * s + 10 + 6 * c) = true := by decide +kernel
theorem gn_xp_6 : ∀ s, s < 4 → gn_xp (842 * s + 6) = true := by decide +kernel
theorem gn_xp_r : ∀ s, s < 4 → ∀ n, n < 60 → gn_xp (842 * s + 478 + 6 * n) = true ∧ gn_xp (842 * s + 479 + 6 * n) = true := by decide +kernel
def gn_XP (e : va_E) : Prop := ∀ f : Nat → Int32, (∀ i, i < 5894 → gn_xp i = true → tk_pos e i = some (.int (f i))) → (∀ s, s < 4 → (f (842 * s + 6)).toInt ≤ 60) → fm_XA (fun _ => f)
/-- ways symmetric and rows good, in a typed world -/
def gn_X (tw : List Nat) (ws : va_W) : Prop := ∀ (j y : Nat) (e : va_E), tw[j]? = some 1 → ws[j]? = some (y, e) → gn_XP e
theorem gn_XA_eq {a : Nat → Nat → Int32} {f : Nat → Int32} (h : ∀ i, i < 5894 → gn_xp i = true → f i = a 1 i) (h6 : ∀ s, s < 4 → (a 1 (842 * s + 6)).toInt ≤ 60) (hX : fm_XA a) : fm_XA (fun _ => f) := by
  refine ⟨fun s hs c d hc hd => ?_, fun s hs n hn => ?_⟩
  · show fm_b (f (842 * s + 10 + 6 * c)) (nI d) = fm_b (f (842 * s + 10 + 6 * d)) (nI c)
    rw [h _ (by omega) (gn_xp_w s hs c hc), h _ (by omega) (gn_xp_w s hs d hd)]
    exact hX.1 s hs c d hc hd
  · have hn : (n : Int) < (f (842 * s + 6)).toInt := hn
    rw [h _ (by omega) (gn_xp_6 s hs)] at hn
    have := h6 s hs
    have hr := gn_xp_r s hs n (by omega)
    show fm_ro (f (842 * s + 478 + 6 * n)) (f (842 * s + 479 + 6 * n))
    rw [h _ (by omega) hr.1, h _ (by omega) hr.2]
    exact hX.2 s hs n hn
theorem fm_B_60 {a : Nat → Nat → Int32} (h : ∀ i, i < 5894 → fm_bd a i) : ∀ s, s < 4 → (a 1 (842 * s + 6)).toInt ≤ 60 := fun s hs => by
  have h1 := (h (842 * s + 6) (by omega)).2
  have hg : ∀ s, s < 4 → (gm_at (842 * s + 6)).2 ≤ 60 := by decide
  have := hg s hs
  omega
theorem gn_X1 {TY : tk_TT} (hT : fm_Ty TY) {tw : List Nat} : tk_X1 TY gn_FX (gn_X tw) tw := by
  intro m ws ws' hm hF hun hX j y e' hj hw f hf h6
  have h1 : (ws'.map Prod.fst)[j]? = some y := by rw [List.getElem?_map, hw]; rfl
  rw [hm, List.getElem?_map] at h1
  obtain ⟨q, hq, e1⟩ := Option.map_eq_some_iff.mp h1
  obtain ⟨e2, g1, g2, -⟩ := hun j q.1 q.2 hq
  rw [hw] at g1
  cases g1
  refine hX j _ q.2 hj hq f (fun i hi hx => ?_) h6
  rw [← g2 i 1 hj (fun hz => ?_)]
  · exact hf i hi hx
  · have e3 : tk_rg TY 1 i = gm_rg i := by unfold tk_rg; rw [hT.2.2]; rfl
    rw [e3] at hz
    exact hF _ hz (tk_in_ok.mp hx)
section FMI
variable {U : State} {tw ads : List Nat} {ws : va_W} {h0 : Nat} {ps : fx_P} {σ : List Nat} {TY : tk_TT} {ro : Nat → Nat → Int → Prop} {g g' : Nat → Int32} {tp bt tp' bt' : Int64} {a a' : Nat → Nat → Int32} {b b' : Nat → Nat → Int64} {mods : List (Nat × Nat)}
theorem fm_tyF (hT : fm_Ty TY) (h5 : rk_A2 (fun t (q : Nat × va_E) => tk_cl TY ro ads tw U t q.2) tw ws) (hat : fm_at U tw ws h0 ps σ (fm g tp bt a b)) {k : Nat} {lo hi : Int} (hf : gm_fl[k]? = some (0, lo, hi)) (ho : (fm_o g tp bt)[k]? = some (.int (g k))) : lo ≤ (g k).toInt ∧ (g k).toInt ≤ hi := by
  obtain ⟨q, -, h⟩ := fm_cl h5 hat (t := 0) (by decide) rfl
  unfold tk_cl at h
  rw [hT.1, gm_fl_eq] at h
  obtain ⟨vs, hvs, hl, hv⟩ := h
  have hvs : (Sum.inr (12, (fm_o g tp bt).map (fx_v ps)) : va_E) = .inr (12, vs) := hvs
  cases hvs
  obtain ⟨x, hx, h1, h2⟩ : ∃ x : Int32, Value.int (g k) = .int x ∧ lo ≤ x.toInt ∧ x.toInt ≤ hi := hv k (0, lo, hi) (.int (g k)) hf (by rw [List.getElem?_map, ho]; rfl)
  cases hx
  exact ⟨h1, h2⟩
theorem fm_fv0i {reg : Nat → Nat → tk_I} {t i : Nat} {lo hi : Int} {x : Int32} (h : tk_fv ro reg ads tw t i (0, lo, hi) (.int x)) : lo ≤ x.toInt ∧ x.toInt ≤ hi := by
  obtain ⟨y, hy, h1, h2⟩ : ∃ y : Int32, Value.int x = .int y ∧ lo ≤ y.toInt ∧ y.toInt ≤ hi := h
  cases hy
  exact ⟨h1, h2⟩
theorem fm_tyY (h5 : rk_A2 (fun t (q : Nat × va_E) => tk_cl TY ro ads tw U t q.2) tw ws) {mem : fx_M} (hat : fm_at U tw ws h0 ps σ mem) {t n : Nat} {f : Nat → Int32} {fl : tk_F} (ht : t < 22) (he : mem[t]? = some (.inr (.byte, n, .inl f))) (hk : TY.1[t]? = some (.inr (.byte, n, fl))) : ∀ i, i < n → tk_fv ro TY.2.1 ads tw t i fl (.int (f i)) := by
  obtain ⟨q, -, h⟩ := fm_cl h5 hat ht he
  unfold tk_cl at h
  rw [hk] at h
  obtain ⟨cA, -, -, h⟩ := h
  obtain ⟨f2, e2, h⟩ : ∃ f2 : Nat → Int32, fx_c ps q.2 (.inr (.byte, n, .inl f)) = .inl (cA, n, .inl f2) ∧ ∀ i, i < n → tk_fv ro TY.2.1 ads tw t i fl (.int (f2 i)) := h
  have e3 : f = f2 := by
    have : (Sum.inl (q.2, n, Sum.inl f) : va_E) = .inl (cA, n, .inl f2) := e2
    cases this
    rfl
  subst e3
  exact h
theorem fm_X1 (hat : fm_at U tw ws h0 ps σ (fm g tp bt a b)) (hX : gn_X tw ws) (h6 : ∀ s, s < 4 → (a 1 (842 * s + 6)).toInt ≤ 60) : fm_XA a := by
  have hl1 : 1 < σ.length := by have := hat.2.1; omega
  have hs : σ[1]? = some σ[1] := List.getElem?_eq_getElem hl1
  obtain ⟨h1, q, e0, g1, g2, g3⟩ := hat.2.2.2.2 1 _ hs
  cases g2
  refine hX _ _ _ h1 g3 (a 1) (fun i hi _ => ?_) h6
  show (if i < 5894 then some (Value.int (a 1 i)) else none) = _
  rw [if_pos hi]
theorem fm_X2 (hat : fm_at U tw ws h0 ps σ (fm g tp bt a b)) (hX : gn_X tw ws) (hB : fm_XA a') (h60 : ∀ s, s < 4 → (a' 1 (842 * s + 6)).toInt ≤ 60) : gn_X tw (fx_put ws σ (fx_w ps (fm g' tp' bt' a' b'))) := by
  intro j y e hj hw
  rcases fm_in_or (σ := σ) j with ⟨t, ht⟩ | hno
  · obtain ⟨h1, q, e0, g1, g2, g3⟩ := hat.2.2.2.2 t j ht
    rw [hj] at h1
    obtain rfl : 1 = t := Option.some.inj h1
    have hp : (fx_put ws σ (fx_w ps (fm g' tp' bt' a' b')))[j]? = some (q.1, fx_c ps q.2 (.inr (.int, 5894, .inl (a' 1)))) := fx_put_in ws (List.getElem?_eq_some_iff.mp g3).1 σ _ 1 (fm_at_inj hat) ht (by unfold fx_w; rw [List.getElem?_zipWith, g1]; rfl)
    rw [hp] at hw
    cases hw
    intro f hf h6
    refine gn_XA_eq (fun i hi hx => ?_) h60 hB
    have h := hf i hi hx
    have h : (if i < 5894 then some (Value.int (a' 1 i)) else none) = some (Value.int (f i)) := h
    rw [if_pos hi] at h
    exact (Value.int.inj (Option.some.inj h)).symm
  · rw [fx_put_out ws σ _ hno] at hw
    exact hX j y e hj hw
theorem fm_I_of (hT : fm_Ty TY) (h5 : rk_A2 (fun t (q : Nat × va_E) => tk_cl TY ro ads tw U t q.2) tw ws) (hat : fm_at U tw ws h0 ps σ (fm g tp bt a b)) (hX : gn_X tw ws) : fm_I g a := by
  refine ⟨fun q hq => ?_, ⟨fun i hi => fm_tyA hT h5 hat hi, fm_X1 hat hX (fm_B_60 (fun i hi => fm_tyA hT h5 hat hi)), fun i hi => ?_⟩, fun q hq => ?_⟩
  · simp only [gm_gf, List.mem_cons, List.not_mem_nil, or_false] at hq
    rcases hq with rfl | rfl | rfl | rfl | rfl | rfl | rfl | rfl | rfl | rfl | rfl | rfl | rfl | rfl | rfl | rfl | rfl | rfl | rfl | rfl
    all_goals exact fm_tyF hT h5 hat rfl rfl
  · have h := fm_tyI h5 hat (t := 9) (by decide) rfl (by rw [hT.1]; rfl) i hi
    obtain ⟨x, hx, h1, h2⟩ : ∃ x : Int32, Value.int (a 9 i) = .int x ∧ (TY.2.1 9 i).1 ≤ x.toInt ∧ x.toInt ≤ (TY.2.1 9 i).2 := h
    cases hx
    rw [hT.2.1] at h1 h2
    exact ⟨h1, h2⟩
  · simp only [gm_ar, List.mem_cons, List.not_mem_nil, or_false] at hq
    rcases hq with rfl | rfl | rfl | rfl | rfl | rfl | rfl
    · intro i hi
      exact fm_fv0i (fm_tyI h5 hat (t := 3) (fl := (0, 0, 3)) (by decide) rfl (by rw [hT.1]; rfl) i hi)
    · intro i hi
      exact fm_fv0i (fm_tyI h5 hat (t := 4) (fl := (0, (-1), 60)) (by decide) rfl (by rw [hT.1]; rfl) i hi)
    · intro i hi
      exact fm_fv0i (fm_tyY h5 hat (t := 6) (fl := (0, (-128), 127)) (by decide) rfl (by rw [hT.1]; rfl) i hi)
    · intro i hi
      exact fm_fv0i (fm_tyY h5 hat (t := 7) (fl := (0, (-128), 127)) (by decide) rfl (by rw [hT.1]; rfl) i hi)
    · intro i hi
      exact fm_fv0i (fm_tyI h5 hat (t := 8) (fl := (0, 0, 59)) (by decide) rfl (by rw [hT.1]; rfl) i hi)
    · intro i hi
      exact fm_fv0i (fm_tyI h5 hat (t := 14) (fl := (0, 0, 1000000)) (by decide) rfl (by rw [hT.1]; rfl) i hi)
    · intro i hi
      exact fm_fv0i (fm_tyI h5 hat (t := 15) (fl := (0, 0, 1000000)) (by decide) rfl (by rw [hT.1]; rfl) i hi)
theorem fm_fv0 {reg : Nat → Nat → tk_I} {t i : Nat} {lo hi : Int} {x : Int32} (h : lo ≤ x.toInt ∧ x.toInt ≤ hi) : tk_fv ro reg ads tw t i (0, lo, hi) (.int x) := ⟨x, rfl, h.1, h.2⟩
theorem fm_i32 (x : Int32) : (-2147483648) ≤ x.toInt ∧ x.toInt ≤ 2147483647 := by
  have h1 := Int32.le_toInt x
  have h2 := Int32.toInt_lt x
  omega
theorem fm_fv1 {reg : Nat → Nat → tk_I} {t i : Nat} {x : Int64} : tk_fv ro reg ads tw t i (1, (-9223372036854775808), 9223372036854775807) (.long x) := ⟨x, rfl, by have := Int64.le_toInt x; show (-9223372036854775808 : Int) ≤ x.toInt; omega, by have := Int64.toInt_lt x; show x.toInt ≤ (9223372036854775807 : Int); omega⟩
theorem fm_fv6 {reg : Nat → Nat → tk_I} {t i : Nat} {x : Int64} : tk_fv ro reg ads tw t i (6, (-9223372036854775808), 9223372036854775807) (.long x) := ⟨x, rfl, by have := Int64.le_toInt x; show (-9223372036854775808 : Int) ≤ x.toInt; omega, by have := Int64.toInt_lt x; show x.toInt ≤ (9223372036854775807 : Int); omega⟩
/-- mods: all of at[], top and bottom are among them -/
def fm_ms (mods : List (Nat × Nat)) : Prop := (∀ r, r < 224 → (1, r) ∈ mods) ∧ (0, 3) ∈ mods ∧ (0, 4) ∈ mods
/-- what is not in mods stays -/
def fm_ffr (mods : List (Nat × Nat)) (g : Nat → Int32) (a : Nat → Nat → Int32) (b : Nat → Nat → Int64) (g' : Nat → Int32) (a' : Nat → Nat → Int32) (b' : Nat → Nat → Int64) : Prop := (∀ k, (0, k) ∈ mods ∨ g' k = g k) ∧ (∀ t, t ≠ 1 → (t, 0) ∈ mods ∨ a' t = a t) ∧ ∀ t, (t, 0) ∈ mods ∨ b' t = b t
theorem gm_cl_lt : ∀ o, o < 842 → gm_cl o < 32 := by decide +kernel
theorem gm_rg_lt {i : Nat} (h : i < 5894) : gm_rg i < 224 := by
  have := gm_cl_lt (i % 842) (Nat.mod_lt _ (by decide))
  unfold gm_rg
  omega
theorem fm_rg0 (hT : fm_Ty TY) {t i : Nat} (h : gm_rgn t = none) : tk_rg TY t i = 0 := by unfold tk_rg; rw [hT.2.2, h]
theorem fm_chgI (hT : fm_Ty TY) {t n : Nat} {kd : FieldType} {fl : tk_F} {f f' : Nat → Int32} (hn : 0 < n) (hkd : kd = .int ∨ kd = .byte) (hty : gm_ty[t]? = some (.inr (kd, n, fl))) (hr : gm_rgn t = none) (hb : ∀ i, i < n → tk_fv ro TY.2.1 ads tw t i fl (.int (f' i))) (hu : (t, 0) ∈ mods ∨ f' = f) : fm_chg2 TY ro ads tw mods ps t (.inr (kd, n, .inl f)) (.inr (kd, n, .inl f')) := by
  rcases hu with hu | rfl
  · exact Or.inr (Or.inl ⟨kd, n, f, f', fl, hkd, rfl, rfl, by rw [hT.1]; exact hty, hb, hn, fun i _ => by rw [fm_rg0 hT hr]; exact hu⟩)
  · exact Or.inl rfl
theorem fm_chgL (hT : fm_Ty TY) {t n : Nat} {fl : tk_F} {f f' : Nat → Int64} (hn : 0 < n) (hty : gm_ty[t]? = some (.inr (.long, n, fl))) (hr : gm_rgn t = none) (hb : ∀ i, i < n → tk_fv ro TY.2.1 ads tw t i fl (.long (f' i))) (hu : (t, 0) ∈ mods ∨ f' = f) : fm_chg2 TY ro ads tw mods ps t (.inr (.long, n, .inr (.inl f))) (.inr (.long, n, .inr (.inl f'))) := by
  rcases hu with hu | rfl
  · exact Or.inr (Or.inr (Or.inl ⟨n, f, f', fl, rfl, rfl, by rw [hT.1]; exact hty, hb, hn, fun i _ => by rw [fm_rg0 hT hr]; exact hu⟩))
  · exact Or.inl rfl
set_option maxHeartbeats 4000000 in
theorem fm_chgO (hT : fm_Ty TY) (hI : fm_I g' a') (hM : fm_ms mods) (f0 : ∀ k, (0, k) ∈ mods ∨ g' k = g k) : fm_chg2 TY ro ads tw mods ps 0 (.inl (12, fm_o g tp bt)) (.inl (12, fm_o g' tp' bt')) := by
  have e0 : ∀ i, tk_rg TY 0 i = i := fun i => by unfold tk_rg; rw [hT.2.2]; rfl
  refine Or.inr (Or.inr (Or.inr ⟨12, _, _, gm_fl, rfl, rfl, by rw [hT.1]; rfl, rfl, fun i f v hf hv h2 => ?_, fun i f hf h2 => ?_, fun i hn => ?_, 3, by rw [e0]; exact hM.2.1⟩))
  · match i, hf, hv with
    | 0, hf, hv => cases hf; exact absurd rfl h2
    | 1, hf, hv => cases hf; exact absurd rfl h2
    | 2, hf, hv => cases hf; cases hv; exact fm_fv0 (hI.1 (2, 0, 9) (by decide))
    | 3, hf, hv => cases hf; cases hv; exact fm_fv1
    | 4, hf, hv => cases hf; cases hv; exact fm_fv1
    | 5, hf, hv => cases hf; exact absurd rfl h2
    | 6, hf, hv => cases hf; exact absurd rfl h2
    | 7, hf, hv => cases hf; exact absurd rfl h2
    | 8, hf, hv => cases hf; exact absurd rfl h2
    | 9, hf, hv => cases hf; exact absurd rfl h2
    | 10, hf, hv => cases hf; cases hv; exact fm_fv0 (hI.1 (10, 0, 900) (by decide))
    | 11, hf, hv => cases hf; cases hv; exact fm_fv0 (hI.1 (11, 0, 900) (by decide))
    | 12, hf, hv => cases hf; cases hv; exact fm_fv0 (hI.1 (12, 0, 4) (by decide))
    | 13, hf, hv => cases hf; cases hv; exact fm_fv0 (hI.1 (13, 0, 900) (by decide))
    | 14, hf, hv => cases hf; cases hv; exact fm_fv0 (hI.1 (14, 0, 900) (by decide))
    | 15, hf, hv => cases hf; cases hv; exact fm_fv0 (hI.1 (15, (-2147483648), 1000000) (by decide))
    | 16, hf, hv => cases hf; cases hv; exact fm_fv0 (hI.1 (16, (-1), 7) (by decide))
    | 17, hf, hv => cases hf; cases hv; exact fm_fv0 (hI.1 (17, (-1), 900) (by decide))
    | 18, hf, hv => cases hf; cases hv; exact fm_fv0 (hI.1 (18, 0, 7) (by decide))
    | 19, hf, hv => cases hf; cases hv; exact fm_fv0 (hI.1 (19, 0, 0) (by decide))
    | 20, hf, hv => cases hf; cases hv; exact fm_fv0 (hI.1 (20, (-2147483648), 2147483647) (by decide))
    | 21, hf, hv => cases hf; exact absurd rfl h2
    | 22, hf, hv => cases hf; cases hv; exact fm_fv0 (hI.1 (22, 0, 3) (by decide))
    | 23, hf, hv => cases hf; cases hv; exact fm_fv0 (hI.1 (23, 0, 30) (by decide))
    | 24, hf, hv => cases hf; exact absurd rfl h2
    | 25, hf, hv => cases hf; cases hv; exact fm_fv0 (hI.1 (25, (-2147483648), 2147483647) (by decide))
    | 26, hf, hv => cases hf; exact absurd rfl h2
    | 27, hf, hv => cases hf; exact absurd rfl h2
    | 28, hf, hv => cases hf; exact absurd rfl h2
    | 29, hf, hv => cases hf; exact absurd rfl h2
    | 30, hf, hv => cases hf; cases hv; exact fm_fv0 (hI.1 (30, 0, 4) (by decide))
    | 31, hf, hv => cases hf; exact absurd rfl h2
    | 32, hf, hv => cases hf; exact absurd rfl h2
    | 33, hf, hv => cases hf; exact absurd rfl h2
    | 34, hf, hv => cases hf; exact absurd rfl h2
    | 35, hf, hv => cases hf; exact absurd rfl h2
    | 36, hf, hv => cases hf; cases hv; exact fm_fv0 (hI.1 (36, (-2147483648), 2147483647) (by decide))
    | 37, hf, hv => cases hf; cases hv; exact fm_fv0 (hI.1 (37, 0, 300) (by decide))
    | 38, hf, hv => cases hf; exact absurd rfl h2
    | 39, hf, hv => cases hf; exact absurd rfl h2
    | 40, hf, hv => cases hf; exact absurd rfl h2
    | 41, hf, hv => cases hf; cases hv; exact fm_fv0 (hI.1 (41, 0, 1) (by decide))
    | 42, hf, hv => cases hf; cases hv; exact fm_fv0 (hI.1 (42, 0, 3) (by decide))
    | k + 43, hf, hv => cases hf
  · match i, hf with
    | 0, hf => rfl
    | 1, hf => rfl
    | 2, hf => cases hf; cases h2
    | 3, hf => cases hf; cases h2
    | 4, hf => cases hf; cases h2
    | 5, hf => rfl
    | 6, hf => rfl
    | 7, hf => rfl
    | 8, hf => rfl
    | 9, hf => rfl
    | 10, hf => cases hf; cases h2
    | 11, hf => cases hf; cases h2
    | 12, hf => cases hf; cases h2
    | 13, hf => cases hf; cases h2
    | 14, hf => cases hf; cases h2
    | 15, hf => cases hf; cases h2
    | 16, hf => cases hf; cases h2
    | 17, hf => cases hf; cases h2
    | 18, hf => cases hf; cases h2
    | 19, hf => cases hf; cases h2
    | 20, hf => cases hf; cases h2
    | 21, hf => rfl
    | 22, hf => cases hf; cases h2
    | 23, hf => cases hf; cases h2
    | 24, hf => rfl
    | 25, hf => cases hf; cases h2
    | 26, hf => rfl
    | 27, hf => rfl
    | 28, hf => rfl
    | 29, hf => rfl
    | 30, hf => cases hf; cases h2
    | 31, hf => rfl
    | 32, hf => rfl
    | 33, hf => rfl
    | 34, hf => rfl
    | 35, hf => rfl
    | 36, hf => cases hf; cases h2
    | 37, hf => cases hf; cases h2
    | 38, hf => rfl
    | 39, hf => rfl
    | 40, hf => rfl
    | 41, hf => cases hf; cases h2
    | 42, hf => cases hf; cases h2
    | k + 43, hf => cases hf
  · rw [e0] at hn
    match i, hn with
    | 0, hn => rfl
    | 1, hn => rfl
    | 2, hn =>
      show some (Value.int (g' 2)) = some (.int (g 2))
      rw [(f0 2).resolve_left hn]
    | 3, hn => exact absurd hM.2.1 hn
    | 4, hn => exact absurd hM.2.2 hn
    | 5, hn => rfl
    | 6, hn => rfl
    | 7, hn => rfl
    | 8, hn => rfl
    | 9, hn => rfl
    | 10, hn =>
      show some (Value.int (g' 10)) = some (.int (g 10))
      rw [(f0 10).resolve_left hn]
    | 11, hn =>
      show some (Value.int (g' 11)) = some (.int (g 11))
      rw [(f0 11).resolve_left hn]
    | 12, hn =>
      show some (Value.int (g' 12)) = some (.int (g 12))
      rw [(f0 12).resolve_left hn]
    | 13, hn =>
      show some (Value.int (g' 13)) = some (.int (g 13))
      rw [(f0 13).resolve_left hn]
    | 14, hn =>
      show some (Value.int (g' 14)) = some (.int (g 14))
      rw [(f0 14).resolve_left hn]
    | 15, hn =>
      show some (Value.int (g' 15)) = some (.int (g 15))
      rw [(f0 15).resolve_left hn]
    | 16, hn =>
      show some (Value.int (g' 16)) = some (.int (g 16))
      rw [(f0 16).resolve_left hn]
    | 17, hn =>
      show some (Value.int (g' 17)) = some (.int (g 17))
      rw [(f0 17).resolve_left hn]
    | 18, hn =>
      show some (Value.int (g' 18)) = some (.int (g 18))
      rw [(f0 18).resolve_left hn]
    | 19, hn =>
      show some (Value.int (g' 19)) = some (.int (g 19))
      rw [(f0 19).resolve_left hn]
    | 20, hn =>
      show some (Value.int (g' 20)) = some (.int (g 20))
      rw [(f0 20).resolve_left hn]
    | 21, hn => rfl
    | 22, hn =>
      show some (Value.int (g' 22)) = some (.int (g 22))
      rw [(f0 22).resolve_left hn]
    | 23, hn =>
      show some (Value.int (g' 23)) = some (.int (g 23))
      rw [(f0 23).resolve_left hn]
    | 24, hn => rfl
    | 25, hn =>
      show some (Value.int (g' 25)) = some (.int (g 25))
      rw [(f0 25).resolve_left hn]
    | 26, hn => rfl
    | 27, hn => rfl
    | 28, hn => rfl
    | 29, hn => rfl
    | 30, hn =>
      show some (Value.int (g' 30)) = some (.int (g 30))
      rw [(f0 30).resolve_left hn]
    | 31, hn => rfl
    | 32, hn => rfl
    | 33, hn => rfl
    | 34, hn => rfl
    | 35, hn => rfl
    | 36, hn =>
      show some (Value.int (g' 36)) = some (.int (g 36))
      rw [(f0 36).resolve_left hn]
    | 37, hn =>
      show some (Value.int (g' 37)) = some (.int (g 37))
      rw [(f0 37).resolve_left hn]
    | 38, hn => rfl
    | 39, hn => rfl
    | 40, hn => rfl
    | 41, hn =>
      show some (Value.int (g' 41)) = some (.int (g 41))
      rw [(f0 41).resolve_left hn]
    | 42, hn =>
      show some (Value.int (g' 42)) = some (.int (g 42))
      rw [(f0 42).resolve_left hn]
    | k + 43, hn => rfl
set_option maxHeartbeats 4000000 in
theorem fm_chgA (hT : fm_Ty TY) (hI : fm_I g' a') (hM : fm_ms mods) (hF : fm_ffr mods g a b g' a' b') : ∀ (t : Nat) (e e' : fx_E), (fm g tp bt a b)[t]? = some e → (fm g' tp' bt' a' b')[t]? = some e' → fm_chg2 TY ro ads tw mods ps t e e' := by
  obtain ⟨f0, fa, fb⟩ := hF
  intro t e e' h h'
  match t, h, h' with
  | 0, h, h' => cases h; cases h'; exact fm_chgO hT hI hM f0
  | 1, h, h' =>
    cases h
    cases h'
    refine Or.inr (Or.inl ⟨.int, 5894, _, _, (3, 1, 0), Or.inl rfl, rfl, rfl, by rw [hT.1]; rfl, fun i hi => ?_, by decide, fun i hi => ?_⟩)
    · show ∃ x : Int32, Value.int (a' 1 i) = .int x ∧ (TY.2.1 1 i).1 ≤ x.toInt ∧ x.toInt ≤ (TY.2.1 1 i).2
      refine ⟨a' 1 i, rfl, ?_⟩
      rw [hT.2.1]
      exact hI.2.1.1 i hi
    · rw [show tk_rg TY 1 i = gm_rg i from by unfold tk_rg; rw [hT.2.2]; rfl]
      exact hM.1 _ (gm_rg_lt hi)
  | 2, h, h' => cases h; cases h'; exact fm_chgL hT (by decide) rfl rfl (fun i hi => fm_fv1) (fb 2)
  | 3, h, h' => cases h; cases h'; exact fm_chgI hT (by decide) (Or.inl rfl) rfl rfl (fun i hi => fm_fv0 (hI.2.2 (3, 4, 0, 3) (by decide) i hi)) (fa 3 (by decide))
  | 4, h, h' => cases h; cases h'; exact fm_chgI hT (by decide) (Or.inl rfl) rfl rfl (fun i hi => fm_fv0 (hI.2.2 (4, 4, (-1), 60) (by decide) i hi)) (fa 4 (by decide))
  | 5, h, h' => cases h; cases h'; exact fm_chgL hT (by decide) rfl rfl (fun i hi => fm_fv6) (fb 5)
  | 6, h, h' => cases h; cases h'; exact fm_chgI hT (by decide) (Or.inr rfl) rfl rfl (fun i hi => fm_fv0 (hI.2.2 (6, 900, (-128), 127) (by decide) i hi)) (fa 6 (by decide))
  | 7, h, h' => cases h; cases h'; exact fm_chgI hT (by decide) (Or.inr rfl) rfl rfl (fun i hi => fm_fv0 (hI.2.2 (7, 900, (-128), 127) (by decide) i hi)) (fa 7 (by decide))
  | 8, h, h' => cases h; cases h'; exact fm_chgI hT (by decide) (Or.inl rfl) rfl rfl (fun i hi => fm_fv0 (hI.2.2 (8, 3, 0, 59) (by decide) i hi)) (fa 8 (by decide))
  | 9, h, h' =>
    cases h
    cases h'
    refine fm_chgI hT (by decide) (Or.inl rfl) rfl rfl (fun i hi => ?_) (fa 9 (by decide))
    show ∃ x : Int32, Value.int (a' 9 i) = .int x ∧ (TY.2.1 9 i).1 ≤ x.toInt ∧ x.toInt ≤ (TY.2.1 9 i).2
    refine ⟨a' 9 i, rfl, ?_⟩
    rw [hT.2.1]
    exact hI.2.1.2.2 i hi
  | 10, h, h' => cases h; cases h'; exact fm_chgI hT (by decide) (Or.inl rfl) rfl rfl (fun i hi => fm_fv0 (fm_i32 _)) (fa 10 (by decide))
  | 11, h, h' => cases h; cases h'; exact fm_chgI hT (by decide) (Or.inl rfl) rfl rfl (fun i hi => fm_fv0 (fm_i32 _)) (fa 11 (by decide))
  | 12, h, h' => cases h; cases h'; exact fm_chgI hT (by decide) (Or.inl rfl) rfl rfl (fun i hi => fm_fv0 (fm_i32 _)) (fa 12 (by decide))
  | 13, h, h' => cases h; cases h'; exact fm_chgI hT (by decide) (Or.inl rfl) rfl rfl (fun i hi => fm_fv0 (fm_i32 _)) (fa 13 (by decide))
  | 14, h, h' => cases h; cases h'; exact fm_chgI hT (by decide) (Or.inl rfl) rfl rfl (fun i hi => fm_fv0 (hI.2.2 (14, 256, 0, 1000000) (by decide) i hi)) (fa 14 (by decide))
  | 15, h, h' => cases h; cases h'; exact fm_chgI hT (by decide) (Or.inl rfl) rfl rfl (fun i hi => fm_fv0 (hI.2.2 (15, 427, 0, 1000000) (by decide) i hi)) (fa 15 (by decide))
  | 16, h, h' => cases h; cases h'; exact fm_chgI hT (by decide) (Or.inl rfl) rfl rfl (fun i hi => fm_fv0 (fm_i32 _)) (fa 16 (by decide))
  | 17, h, h' => cases h; cases h'; exact fm_chgL hT (by decide) rfl rfl (fun i hi => fm_fv6) (fb 17)
  | 18, h, h' => cases h; cases h'; exact fm_chgL hT (by decide) rfl rfl (fun i hi => fm_fv6) (fb 18)
  | 19, h, h' => cases h; cases h'; exact fm_chgI hT (by decide) (Or.inl rfl) rfl rfl (fun i hi => fm_fv0 (fm_i32 _)) (fa 19 (by decide))
  | 20, h, h' => cases h; cases h'; exact fm_chgI hT (by decide) (Or.inl rfl) rfl rfl (fun i hi => fm_fv0 (fm_i32 _)) (fa 20 (by decide))
  | 21, h, h' => cases h; cases h'; exact fm_chgI hT (by decide) (Or.inl rfl) rfl rfl (fun i hi => fm_fv0 (fm_i32 _)) (fa 21 (by decide))
  | n + 22, h, h' => cases h
end FMI
theorem fm_ints {vals : List Int} {rads : List Nat} : ∀ (rs : List tk_V) (rest : List Value), (∀ v ∈ rs, v.1 = 0) → rk_A2 (tk_g vals rads) rs rest → ∃ xs : List Int32, xs.length = rs.length ∧ rest = xs.map Value.int := by
  intro rs
  induction rs with
  | nil =>
    intro rest _ h
    have := h.nil
    subst this
    exact ⟨[], rfl, rfl⟩
  | cons v rs ih =>
    intro rest hk h
    obtain ⟨x, r1, rfl, g1, h1⟩ := h.cons
    obtain ⟨xs, e1, e2⟩ := ih r1 (fun v hv => hk v (List.mem_cons_of_mem _ hv)) h1
    obtain ⟨z, rfl, -⟩ := tk_g0 g1 (hk v List.mem_cons_self)
    exact ⟨z :: xs, by rw [List.length_cons, List.length_cons, e1], by rw [e2]; rfl⟩
def gn_i : tk_I := ((-2147483648), 2147483647)
/-- a public method of the model, f, of n ints -/
def gn_K (f n : Nat) (mods : List (Nat × Nat)) : tk_K := (f, (2, 0, 0, 0) :: (List.range n).map (fun i => (0, i + 1, 1, 0)), (List.replicate n gn_i, []), [0], [], [(some (0, n + 1, 1, 0), (List.replicate n gn_i ++ [gn_i], []), [0], [])], mods)
theorem fm_pub {l : Launch} {D : va_G} {xt : tk_XT} {ro : Nat → Nat → Int → Prop} {ads tw : List Nat} (hst : ∀ (Ad : Nat → Prop) (U : State) (H : Heap), xt Ad U H → ∃ pl v tx, sk_X pl v Ad U H ∧ vk_R "GooseIceModel" 189 tx pl U) {TY : tk_TT} (hT : fm_Ty TY) {k f n : Nat} {mods : List (Nat × Nat)} (hM : fm_ms mods)
    (hfr : ∀ (g : Nat → Int32) (tp bt : Int64) (a : Nat → Nat → Int32) (b : Nat → Nat → Int64) (xs : List Int32), xs.length = n → fm_I g a → ∃ (v : Int32) (g' : Nat → Int32) (tp' bt' : Int64) (a' : Nat → Nat → Int32) (b' : Nat → Nat → Int64), fr_T k f (.ref 0 :: xs.map Value.int) (fm g tp bt a b) (some (.int v)) (fm g' tp' bt' a' b') ∧ fm_I g' a' ∧ fm_ffr mods g a b g' a' b') : tk_KS l D gk_cl gk_tbl gk_xw xt gk_MN gk_P TY ro (gn_X tw) ads tw (k + 4) (gn_K f n mods) := by
  refine tk_KS2_1 (fm_KS3 (k := k) hst hT ?_ (fun U vals rest ws h0 ps σ g tp bt a b hH hrest hty hfst hD hfa hat hX => ?_))
  · rw [List.all_eq_true]
    intro v hv
    obtain ⟨i, -, rfl⟩ := List.mem_map.mp hv
    rfl
  obtain ⟨xs, hxl, rfl⟩ := fm_ints _ rest (fun v hv => by obtain ⟨i, -, rfl⟩ := List.mem_map.mp hv; rfl) hrest
  rw [List.length_map, List.length_range] at hxl
  obtain ⟨v, g', tp', bt', a', b', h1, h2, h3⟩ := hfr g tp bt a b xs hxl (fm_I_of hT hty hat hX)
  refine ⟨_, _, h1, fm_chgA hT h2 hM h3, fm_X2 hat hX h2.2.1.2.1 (fm_B_60 h2.2.1.1), _, List.mem_cons_self, vals ++ [v.toInt], ⟨_, rfl⟩, ⟨hH.1.push (fm_i32 v), fun q hq => absurd hq List.not_mem_nil⟩, rfl, fun q hq => absurd hq List.not_mem_nil, .int v, ⟨v, rfl, ?_⟩, rfl⟩
  have hl : vals.length = n := by
    have := hH.1.len
    rw [List.length_replicate] at this
    exact this.symm
  unfold tk_num
  dsimp only
  rw [List.getElem?_append_right (by omega), hl, Nat.sub_self]
  show some (1 * v.toInt + 0) = _
  congr 1
  omega
def gn_Mt : List (Nat × Nat) := [(0, 2), (0, 3), (0, 4), (0, 11), (0, 12), (0, 13), (0, 14), (0, 15), (0, 16), (0, 17), (0, 18), (0, 19), (0, 20), (0, 22), (0, 23), (0, 25), (0, 30), (0, 36), (0, 37), (0, 41), (2, 0), (7, 0), (8, 0), (9, 0), (10, 0), (11, 0), (12, 0), (13, 0), (14, 0), (15, 0), (16, 0), (17, 0), (18, 0), (19, 0), (20, 0), (21, 0)]
def gn_M0 : List (Nat × Nat) := (List.range 224).map (fun r => (1, r)) ++ gn_Mt
def gn_M1 : List (Nat × Nat) := (List.range 224).map (fun r => (1, r)) ++ ((0, 10) :: gn_Mt)
def gn_M2 : List (Nat × Nat) := (List.range 224).map (fun r => (1, r)) ++ ((0, 42) :: gn_Mt)
theorem gn_Mr (m : List (Nat × Nat)) : ∀ r, r < 224 → (1, r) ∈ (List.range 224).map (fun r => (1, r)) ++ m := fun r h => List.mem_append_left _ (List.mem_map.mpr ⟨r, List.mem_range.mpr h, rfl⟩)
theorem gn_M0_ms : fm_ms gn_M0 := ⟨gn_Mr _, List.mem_append_right _ (by decide), List.mem_append_right _ (by decide)⟩
theorem gn_M1_ms : fm_ms gn_M1 := ⟨gn_Mr _, List.mem_append_right _ (by decide), List.mem_append_right _ (by decide)⟩
theorem gn_M2_ms : fm_ms gn_M2 := ⟨gn_Mr _, List.mem_append_right _ (by decide), List.mem_append_right _ (by decide)⟩
theorem fm_ffr_rf {mods : List (Nat × Nat)} {g : Nat → Int32} {a : Nat → Nat → Int32} {b : Nat → Nat → Int64} : fm_ffr mods g a b g a b := ⟨fun _ => Or.inr rfl, fun _ _ => Or.inr rfl, fun _ => Or.inr rfl⟩
end MH12_3
