section MH8_0
/-! ===== fx: who lives: the TALES are lived ===== -/
section FLW
variable {g : Nat → Int32} {tp bt : Int64} {a0 a : Nat → Nat → Int32} {b : Nat → Nat → Int64}
set_option maxHeartbeats 8000000 in
theorem fr_behindEnds {T k N : Nat} (hB : fm_B a0) (hD : fm_D a0 a T) (hk : k ≤ 60) (hN : a0 1 6 = nI N) (hN6 : N ≤ 60) : ∃ (v : Option Value) (mem' : fx_M), (fun R => ∃ (k' : Nat) (a' : Nat → Nat → Int32), k' ≤ 60 ∧ fm_D a0 a' T ∧ R = (some (.int (nI k')), fm g tp bt a' b)) (v, mem') ∧ fr_T 1 364 [.ref 0, .int (nI k)] (fm g tp bt a b) v mem' := by
  refine fe_meth (F := fun R => ∃ (k' : Nat) (a' : Nat → Nat → Int32), k' ≤ 60 ∧ fm_D a0 a' T ∧ R = (some (.int (nI k')), fm g tp bt a' b)) (M := gk_m364) (by rfl) (by rfl) ?_
  have loop : ∀ (r k2 : Nat) (a1 : Nat → Nat → Int32), k2 ≤ 60 → fm_sum (a1 19) 60 * 100 + (60 - k2) < r → fm_D a0 a1 T → fe_R 0 gk_m364 2 [(2, .int (nI k2)), (0, .ref 0), (1, .int (nI k))] [] (fm g tp bt a1 b) (fun R => ∃ (k' : Nat) (a' : Nat → Nat → Int32), k' ≤ 60 ∧ fm_D a0 a' T ∧ R = (some (.int (nI k')), fm g tp bt a' b)) := by
    intro r
    induction r with
    | zero => intro k2 a1 hk2 h; exact absurd h (Nat.not_lt_zero _)
    | succ r ih =>
      intro k2 a1 hk2 hr hD1
      refine fe_s 4 (pc' := 9) (lc' := [(2, .int (nI k2)), (0, .ref 0), (1, .int (nI k))]) (stk' := [.int 6, .ref 1, .int (nI k2)]) (mem' := fm g tp bt a1 b) (by intro _ _ _; eq_refl) ?_
      refine fe_ldI (by rfl) (by rfl) (fx_inN (i := 6) (by omega) (by omega)) ?_
      rw [show Int32.toNatClampNeg (6) = 6 from rfl]
      rw [show a1 1 6 = nI N from (fm_D_h hD1 (by decide) rfl).trans hN]
      refine fe_s 1 (pc' := cond (fx_cb .ge (nI k2) (nI N)) 118 13) (lc' := [(2, .int (nI k2)), (0, .ref 0), (1, .int (nI k))]) (stk' := []) (mem' := fm g tp bt a1 b) (by intro _ _ _; eq_refl) ?_
      by_cases h1 : N ≤ k2
      · rw [show (fx_cb .ge (nI k2) (nI N)) = true from cb_geT (a := k2) (b := N) (by omega) (by omega) (by omega)]
        dsimp only [cond]
        refine fe_s 1 (pc' := 119) (lc' := [(2, .int (nI k2)), (0, .ref 0), (1, .int (nI k))]) (stk' := [.int (nI k2)]) (mem' := fm g tp bt a1 b) (by intro _ _ _; eq_refl) ?_
        exact fe_ret ⟨k2, _, hk2, hD1, rfl⟩ (by rfl) (by rfl) (by rfl)
      · rw [show (fx_cb .ge (nI k2) (nI N)) = false from cb_geF (a := k2) (b := N) (by omega) (by omega) (by omega)]
        dsimp only [cond]
        refine fe_s 7 (pc' := 25) (lc' := [(2, .int (nI k2)), (0, .ref 0), (1, .int (nI k))]) (stk' := [.int (478 + (6 * (nI k2))), .ref 1]) (mem' := fm g tp bt a1 b) (by intro _ _ _; eq_refl) ?_
        rw [show (478 + (6 * (nI k2)) : Int32) = nI (478 + (6 * k2)) from by simp only [show (478 : Int32) = nI 478 from rfl, show (6 : Int32) = nI 6 from rfl, nI_add, fm_mul]]
        refine fe_ldI (by rfl) (by rfl) (fx_inN (i := 478 + (6 * k2)) (by omega) (by omega)) ?_
        rw [show Int32.toNatClampNeg (nI (478 + (6 * k2))) = 478 + (6 * k2) from nI_clamp (by omega)]
        obtain ⟨m2, hm2, em2⟩ := fm_row_m hB (k := k2) (by omega)
        rw [show a1 1 (478 + (6 * k2)) = nI m2 from (fm_D_hi hD1 (by omega)).trans em2]
        refine fe_s 1 (pc' := 28) (lc' := [(2, .int (nI k2)), (0, .ref 0), (1, .int (nI k))]) (stk' := [.int 20, .int (nI m2)]) (mem' := fm g tp bt a1 b) (by intro _ _ _; eq_refl) ?_
        refine fe_s 1 (pc' := cond (fx_cb .ne (nI m2) 20) 118 31) (lc' := [(2, .int (nI k2)), (0, .ref 0), (1, .int (nI k))]) (stk' := []) (mem' := fm g tp bt a1 b) (by intro _ _ _; eq_refl) ?_
        by_cases h3 : m2 = 20
        · rw [show (fx_cb .ne (nI m2) 20) = false from cb_neF (a := m2) (b := 20) (by omega) (by omega) (by omega)]
          dsimp only [cond]
          refine fe_s 9 (pc' := 45) (lc' := [(2, .int (nI k2)), (0, .ref 0), (1, .int (nI k))]) (stk' := [.int ((478 + (6 * (nI k2))) + 4), .ref 1]) (mem' := fm g tp bt a1 b) (by intro _ _ _; eq_refl) ?_
          rw [show ((478 + (6 * (nI k2))) + 4 : Int32) = nI ((478 + (6 * k2)) + 4) from by simp only [show (478 : Int32) = nI 478 from rfl, show (6 : Int32) = nI 6 from rfl, show (4 : Int32) = nI 4 from rfl, nI_add, fm_mul]]
          refine fe_ldI (by rfl) (by rfl) (fx_inN (i := (478 + (6 * k2)) + 4) (by omega) (by omega)) ?_
          rw [show Int32.toNatClampNeg (nI ((478 + (6 * k2)) + 4)) = (478 + (6 * k2)) + 4 from nI_clamp (by omega)]
          obtain ⟨m4, hm4, em4⟩ := fm_row_o hB (k := k2) (by omega)
          rw [show a1 1 ((478 + (6 * k2)) + 4) = nI m4 from by rw [show (478 + (6 * k2)) + 4 = 482 + 6 * k2 by omega]; exact (fm_D_hi hD1 (by omega)).trans em4]
          refine fe_s 8 (pc' := 59) (lc' := [(3, .int (nI m4)), (2, .int (nI k2)), (0, .ref 0), (1, .int (nI k))]) (stk' := [.int (478 + (6 * (nI m4))), .ref 1]) (mem' := fm g tp bt a1 b) (by intro _ _ _; eq_refl) ?_
          rw [show (478 + (6 * (nI m4)) : Int32) = nI (478 + (6 * m4)) from by simp only [show (478 : Int32) = nI 478 from rfl, show (6 : Int32) = nI 6 from rfl, nI_add, fm_mul]]
          refine fe_ldI (by rfl) (by rfl) (fx_inN (i := 478 + (6 * m4)) (by omega) (by omega)) ?_
          rw [show Int32.toNatClampNeg (nI (478 + (6 * m4))) = 478 + (6 * m4) from nI_clamp (by omega)]
          obtain ⟨m5, hm5, em5⟩ := fm_row_m hB (k := m4) (by omega)
          rw [show a1 1 (478 + (6 * m4)) = nI m5 from (fm_D_hi hD1 (by omega)).trans em5]
          refine fe_s 1 (pc' := 62) (lc' := [(3, .int (nI m4)), (2, .int (nI k2)), (0, .ref 0), (1, .int (nI k))]) (stk' := [.int 19, .int (nI m5)]) (mem' := fm g tp bt a1 b) (by intro _ _ _; eq_refl) ?_
          refine fe_s 1 (pc' := cond (fx_cb .ne (nI m5) 19) 78 65) (lc' := [(3, .int (nI m4)), (2, .int (nI k2)), (0, .ref 0), (1, .int (nI k))]) (stk' := []) (mem' := fm g tp bt a1 b) (by intro _ _ _; eq_refl) ?_
          by_cases h6 : m5 = 19
          · rw [show (fx_cb .ne (nI m5) 19) = false from cb_neF (a := m5) (b := 19) (by omega) (by omega) (by omega)]
            dsimp only [cond]
            refine fe_s 3 (pc' := 70) (lc' := [(3, .int (nI m4)), (2, .int (nI k2)), (0, .ref 0), (1, .int (nI k))]) (stk' := [.int (nI m4), .ref 19]) (mem' := fm g tp bt a1 b) (by intro _ _ _; eq_refl) ?_
            refine fe_ldI (by rfl) (by rfl) (fx_inN (i := m4) (by omega) (by omega)) ?_
            rw [show Int32.toNatClampNeg (nI m4) = m4 from nI_clamp (by omega)]
            refine fe_s 1 (pc' := cond (fx_cb .le (a1 19 m4) 0) 78 74) (lc' := [(3, .int (nI m4)), (2, .int (nI k2)), (0, .ref 0), (1, .int (nI k))]) (stk' := []) (mem' := fm g tp bt a1 b) (by intro _ _ _; eq_refl) ?_
            cases h7 : fx_cb .le (a1 19 m4) 0
            · refine fe_s 7 (pc' := 87) (lc' := [(4, .int 1), (3, .int (nI m4)), (2, .int (nI k2)), (0, .ref 0), (1, .int (nI k))]) (stk' := [.int (nI m4), .ref 19, .int (nI m4), .ref 19]) (mem' := fm g tp bt a1 b) (by intro _ _ _; eq_refl) ?_
              refine fe_ldI (by rfl) (by rfl) (fx_inN (i := m4) (by omega) (by omega)) ?_
              rw [show Int32.toNatClampNeg (nI m4) = m4 from nI_clamp (by omega)]
              refine fe_s 1 (pc' := 90) (lc' := [(4, .int 1), (3, .int (nI m4)), (2, .int (nI k2)), (0, .ref 0), (1, .int (nI k))]) (stk' := [.int 1, .int (a1 19 m4), .int (nI m4), .ref 19]) (mem' := fm g tp bt a1 b) (by intro _ _ _; eq_refl) ?_
              refine fe_s 1 (pc' := cond (fx_cb .eq 1 0) 97 93) (lc' := [(4, .int 1), (3, .int (nI m4)), (2, .int (nI k2)), (0, .ref 0), (1, .int (nI k))]) (stk' := [.int (a1 19 m4), .int (nI m4), .ref 19]) (mem' := fm g tp bt a1 b) (by intro _ _ _; eq_refl) ?_
              rw [show (fx_cb .eq 1 0) = false from by decide]
              dsimp only [cond]
              refine fe_s 3 (pc' := 99) (lc' := [(4, .int 1), (3, .int (nI m4)), (2, .int (nI k2)), (0, .ref 0), (1, .int (nI k))]) (stk' := [.int ((a1 19 m4) - 1), .int (nI m4), .ref 19]) (mem' := fm g tp bt a1 b) (by intro _ _ _; eq_refl) ?_
              refine fe_stI (mem' := fm g tp bt (fm_u a1 19 (nI m4 : Int32).toNatClampNeg ((a1 19 m4) - 1)) b) (by rfl) (by rfl) (fx_inN (i := m4) (by omega) (by omega)) fm_si19 ?_
              rw [show Int32.toNatClampNeg (nI m4) = m4 from nI_clamp (by omega)]
              have hDs := fm_D_ot hD1 (t := 19) (i := m4) (v := (a1 19 m4) - 1) (by decide) (by decide) rfl
              have hsu := fm_sum_upd (f := a1 19) (o := m4) (v := (a1 19 m4) - 1) 60 (by omega)
              refine fe_s 1 (pc' := 102) (lc' := [(4, .int 1), (3, .int (nI m4)), (2, .int (nI k2)), (0, .ref 0), (1, .int (nI k))]) (stk' := [.int 1]) (mem' := fm g tp bt (fm_u a1 19 (m4) ((a1 19 m4) - 1)) b) (by intro _ _ _; eq_refl) ?_
              refine fe_s 1 (pc' := cond (fx_cb .eq 1 0) 111 105) (lc' := [(4, .int 1), (3, .int (nI m4)), (2, .int (nI k2)), (0, .ref 0), (1, .int (nI k))]) (stk' := []) (mem' := fm g tp bt (fm_u a1 19 (m4) ((a1 19 m4) - 1)) b) (by intro _ _ _; eq_refl) ?_
              rw [show (fx_cb .eq 1 0) = false from by decide]
              dsimp only [cond]
              refine fe_s 5 (pc' := 115) (lc' := [(2, .int ((nI m4) + 1)), (4, .int 1), (3, .int (nI m4)), (0, .ref 0), (1, .int (nI k))]) (stk' := []) (mem' := fm g tp bt (fm_u a1 19 (m4) ((a1 19 m4) - 1)) b) (by intro _ _ _; eq_refl) ?_
              rw [show ((nI m4) + 1 : Int32) = nI (m4 + 1) from by simp only [show (1 : Int32) = nI 1 from rfl, nI_add, fm_mul]]
              refine fe_s 1 (pc' := fx_to 115 (-113)) (lc' := [(2, .int (nI (m4 + 1))), (4, .int 1), (3, .int (nI m4)), (0, .ref 0), (1, .int (nI k))]) (stk' := []) (mem' := fm g tp bt (fm_u a1 19 (m4) ((a1 19 m4) - 1)) b) (by intro _ _ _; eq_refl) ?_
              rw [show fx_to 115 (-113) = 2 from by decide]
              refine fe_w (lc' := [(2, .int (nI (m4 + 1))), (0, .ref 0), (1, .int (nI k))]) ⟨rfl, rfl, rfl, trivial⟩ (by show List.Nodup [2, 0, 1]; decide) (by show List.Nodup [2, 4, 3, 0, 1]; decide) ?_
              have e19 : ((fm_u a1 19 (m4) ((a1 19 m4) - 1))) 19 = upd (a1 19) m4 ((a1 19 m4) - 1) := by unfold fm_u; rw [if_pos rfl]
              have hp := fm_pos1 h7
              refine ih (m4 + 1) _ (by omega) ?_ hDs
              rw [e19]
              omega
            · refine fe_s 6 (pc' := 87) (lc' := [(4, .int 0), (3, .int (nI m4)), (2, .int (nI k2)), (0, .ref 0), (1, .int (nI k))]) (stk' := [.int (nI m4), .ref 19, .int (nI m4), .ref 19]) (mem' := fm g tp bt a1 b) (by intro _ _ _; eq_refl) ?_
              refine fe_ldI (by rfl) (by rfl) (fx_inN (i := m4) (by omega) (by omega)) ?_
              rw [show Int32.toNatClampNeg (nI m4) = m4 from nI_clamp (by omega)]
              refine fe_s 1 (pc' := 90) (lc' := [(4, .int 0), (3, .int (nI m4)), (2, .int (nI k2)), (0, .ref 0), (1, .int (nI k))]) (stk' := [.int 0, .int (a1 19 m4), .int (nI m4), .ref 19]) (mem' := fm g tp bt a1 b) (by intro _ _ _; eq_refl) ?_
              refine fe_s 1 (pc' := cond (fx_cb .eq 0 0) 97 93) (lc' := [(4, .int 0), (3, .int (nI m4)), (2, .int (nI k2)), (0, .ref 0), (1, .int (nI k))]) (stk' := [.int (a1 19 m4), .int (nI m4), .ref 19]) (mem' := fm g tp bt a1 b) (by intro _ _ _; eq_refl) ?_
              rw [show (fx_cb .eq 0 0) = true from by decide]
              dsimp only [cond]
              refine fe_s 2 (pc' := 99) (lc' := [(4, .int 0), (3, .int (nI m4)), (2, .int (nI k2)), (0, .ref 0), (1, .int (nI k))]) (stk' := [.int ((a1 19 m4) - 0), .int (nI m4), .ref 19]) (mem' := fm g tp bt a1 b) (by intro _ _ _; eq_refl) ?_
              refine fe_stI (mem' := fm g tp bt (fm_u a1 19 (nI m4 : Int32).toNatClampNeg ((a1 19 m4) - 0)) b) (by rfl) (by rfl) (fx_inN (i := m4) (by omega) (by omega)) fm_si19 ?_
              rw [show Int32.toNatClampNeg (nI m4) = m4 from nI_clamp (by omega)]
              have hDs := fm_D_ot hD1 (t := 19) (i := m4) (v := (a1 19 m4) - 0) (by decide) (by decide) rfl
              have hsu := fm_sum_upd (f := a1 19) (o := m4) (v := (a1 19 m4) - 0) 60 (by omega)
              refine fe_s 1 (pc' := 102) (lc' := [(4, .int 0), (3, .int (nI m4)), (2, .int (nI k2)), (0, .ref 0), (1, .int (nI k))]) (stk' := [.int 0]) (mem' := fm g tp bt (fm_u a1 19 (m4) ((a1 19 m4) - 0)) b) (by intro _ _ _; eq_refl) ?_
              refine fe_s 1 (pc' := cond (fx_cb .eq 0 0) 111 105) (lc' := [(4, .int 0), (3, .int (nI m4)), (2, .int (nI k2)), (0, .ref 0), (1, .int (nI k))]) (stk' := []) (mem' := fm g tp bt (fm_u a1 19 (m4) ((a1 19 m4) - 0)) b) (by intro _ _ _; eq_refl) ?_
              rw [show (fx_cb .eq 0 0) = true from by decide]
              dsimp only [cond]
              refine fe_s 4 (pc' := 115) (lc' := [(2, .int ((nI k2) + 1)), (4, .int 0), (3, .int (nI m4)), (0, .ref 0), (1, .int (nI k))]) (stk' := []) (mem' := fm g tp bt (fm_u a1 19 (m4) ((a1 19 m4) - 0)) b) (by intro _ _ _; eq_refl) ?_
              rw [show ((nI k2) + 1 : Int32) = nI (k2 + 1) from by simp only [show (1 : Int32) = nI 1 from rfl, nI_add, fm_mul]]
              refine fe_s 1 (pc' := fx_to 115 (-113)) (lc' := [(2, .int (nI (k2 + 1))), (4, .int 0), (3, .int (nI m4)), (0, .ref 0), (1, .int (nI k))]) (stk' := []) (mem' := fm g tp bt (fm_u a1 19 (m4) ((a1 19 m4) - 0)) b) (by intro _ _ _; eq_refl) ?_
              rw [show fx_to 115 (-113) = 2 from by decide]
              refine fe_w (lc' := [(2, .int (nI (k2 + 1))), (0, .ref 0), (1, .int (nI k))]) ⟨rfl, rfl, rfl, trivial⟩ (by show List.Nodup [2, 0, 1]; decide) (by show List.Nodup [2, 4, 3, 0, 1]; decide) ?_
              have e19 : ((fm_u a1 19 (m4) ((a1 19 m4) - 0))) 19 = upd (a1 19) m4 ((a1 19 m4) - 0) := by unfold fm_u; rw [if_pos rfl]
              have hp := fm_sub0 (a1 19 m4)
              rw [hp] at hsu
              refine ih (k2 + 1) _ (by omega) ?_ hDs
              rw [e19]; rw [hp]
              omega
          · rw [show (fx_cb .ne (nI m5) 19) = true from cb_neT (a := m5) (b := 19) (by omega) (by omega) (by omega)]
            dsimp only [cond]
            refine fe_s 6 (pc' := 87) (lc' := [(4, .int 0), (3, .int (nI m4)), (2, .int (nI k2)), (0, .ref 0), (1, .int (nI k))]) (stk' := [.int (nI m4), .ref 19, .int (nI m4), .ref 19]) (mem' := fm g tp bt a1 b) (by intro _ _ _; eq_refl) ?_
            refine fe_ldI (by rfl) (by rfl) (fx_inN (i := m4) (by omega) (by omega)) ?_
            rw [show Int32.toNatClampNeg (nI m4) = m4 from nI_clamp (by omega)]
            refine fe_s 1 (pc' := 90) (lc' := [(4, .int 0), (3, .int (nI m4)), (2, .int (nI k2)), (0, .ref 0), (1, .int (nI k))]) (stk' := [.int 0, .int (a1 19 m4), .int (nI m4), .ref 19]) (mem' := fm g tp bt a1 b) (by intro _ _ _; eq_refl) ?_
            refine fe_s 1 (pc' := cond (fx_cb .eq 0 0) 97 93) (lc' := [(4, .int 0), (3, .int (nI m4)), (2, .int (nI k2)), (0, .ref 0), (1, .int (nI k))]) (stk' := [.int (a1 19 m4), .int (nI m4), .ref 19]) (mem' := fm g tp bt a1 b) (by intro _ _ _; eq_refl) ?_
            rw [show (fx_cb .eq 0 0) = true from by decide]
            dsimp only [cond]
            refine fe_s 2 (pc' := 99) (lc' := [(4, .int 0), (3, .int (nI m4)), (2, .int (nI k2)), (0, .ref 0), (1, .int (nI k))]) (stk' := [.int ((a1 19 m4) - 0), .int (nI m4), .ref 19]) (mem' := fm g tp bt a1 b) (by intro _ _ _; eq_refl) ?_
            refine fe_stI (mem' := fm g tp bt (fm_u a1 19 (nI m4 : Int32).toNatClampNeg ((a1 19 m4) - 0)) b) (by rfl) (by rfl) (fx_inN (i := m4) (by omega) (by omega)) fm_si19 ?_
            rw [show Int32.toNatClampNeg (nI m4) = m4 from nI_clamp (by omega)]
            have hDs := fm_D_ot hD1 (t := 19) (i := m4) (v := (a1 19 m4) - 0) (by decide) (by decide) rfl
            have hsu := fm_sum_upd (f := a1 19) (o := m4) (v := (a1 19 m4) - 0) 60 (by omega)
            refine fe_s 1 (pc' := 102) (lc' := [(4, .int 0), (3, .int (nI m4)), (2, .int (nI k2)), (0, .ref 0), (1, .int (nI k))]) (stk' := [.int 0]) (mem' := fm g tp bt (fm_u a1 19 (m4) ((a1 19 m4) - 0)) b) (by intro _ _ _; eq_refl) ?_
            refine fe_s 1 (pc' := cond (fx_cb .eq 0 0) 111 105) (lc' := [(4, .int 0), (3, .int (nI m4)), (2, .int (nI k2)), (0, .ref 0), (1, .int (nI k))]) (stk' := []) (mem' := fm g tp bt (fm_u a1 19 (m4) ((a1 19 m4) - 0)) b) (by intro _ _ _; eq_refl) ?_
            rw [show (fx_cb .eq 0 0) = true from by decide]
            dsimp only [cond]
            refine fe_s 4 (pc' := 115) (lc' := [(2, .int ((nI k2) + 1)), (4, .int 0), (3, .int (nI m4)), (0, .ref 0), (1, .int (nI k))]) (stk' := []) (mem' := fm g tp bt (fm_u a1 19 (m4) ((a1 19 m4) - 0)) b) (by intro _ _ _; eq_refl) ?_
            rw [show ((nI k2) + 1 : Int32) = nI (k2 + 1) from by simp only [show (1 : Int32) = nI 1 from rfl, nI_add, fm_mul]]
            refine fe_s 1 (pc' := fx_to 115 (-113)) (lc' := [(2, .int (nI (k2 + 1))), (4, .int 0), (3, .int (nI m4)), (0, .ref 0), (1, .int (nI k))]) (stk' := []) (mem' := fm g tp bt (fm_u a1 19 (m4) ((a1 19 m4) - 0)) b) (by intro _ _ _; eq_refl) ?_
            rw [show fx_to 115 (-113) = 2 from by decide]
            refine fe_w (lc' := [(2, .int (nI (k2 + 1))), (0, .ref 0), (1, .int (nI k))]) ⟨rfl, rfl, rfl, trivial⟩ (by show List.Nodup [2, 0, 1]; decide) (by show List.Nodup [2, 4, 3, 0, 1]; decide) ?_
            have e19 : ((fm_u a1 19 (m4) ((a1 19 m4) - 0))) 19 = upd (a1 19) m4 ((a1 19 m4) - 0) := by unfold fm_u; rw [if_pos rfl]
            have hp := fm_sub0 (a1 19 m4)
            rw [hp] at hsu
            refine ih (k2 + 1) _ (by omega) ?_ hDs
            rw [e19]; rw [hp]
            omega
        · rw [show (fx_cb .ne (nI m2) 20) = true from cb_neT (a := m2) (b := 20) (by omega) (by omega) (by omega)]
          dsimp only [cond]
          refine fe_s 1 (pc' := 119) (lc' := [(2, .int (nI k2)), (0, .ref 0), (1, .int (nI k))]) (stk' := [.int (nI k2)]) (mem' := fm g tp bt a1 b) (by intro _ _ _; eq_refl) ?_
          exact fe_ret ⟨k2, _, hk2, hD1, rfl⟩ (by rfl) (by rfl) (by rfl)
  refine fe_s 2 (pc' := 2) (lc' := [(2, .int (nI k)), (0, .ref 0), (1, .int (nI k))]) (stk' := []) (mem' := fm g tp bt a b) (by intro _ _ _; eq_refl) ?_
  refine fe_w (lc' := [(2, .int (nI k)), (0, .ref 0), (1, .int (nI k))]) ⟨rfl, rfl, rfl, trivial⟩ (by show List.Nodup [2, 0, 1]; decide) (by show List.Nodup [2, 0, 1]; decide) ?_
  exact loop _ k a hk (Nat.lt_succ_self _) hD
set_option maxHeartbeats 16000000 in
theorem li_32 {N s : Nat} (hB : fm_B a0) (hN : a0 1 6 = nI N) (hN6 : N ≤ 60) : ∀ (r rs k : Nat), rs + r = 300 → k ≤ 60 → ∀ (a1 : Nat → Nat → Int32) (T1 d1 : Nat) (g1 : Nat → Int32), T1 ≤ 9999 → fm_D a0 a1 T1 → (∀ j, j ≠ 36 → j ≠ 37 → g1 j = g j) → g1 36 = nI d1 → d1 ≤ 65535 → g1 37 = nI rs → fe_R 11 gk_m365 32 [(2, .int (nI k)), (0, .ref 0), (1, .int (nI s))] [] (fm g1 tp bt a1 b) (fun R => ∃ (g' : Nat → Int32) (a' : Nat → Nat → Int32) (T' r' : Nat), T' ≤ 9999 ∧ r' ≤ 300 ∧ (∀ j, j ≠ 36 → j ≠ 37 → g' j = g j) ∧ g' 37 = nI r' ∧ fm_D a0 a' T' ∧ R = (none, fm g' tp bt a' b)) := by
  intro r
  induction r with
  | zero =>
    intro rs k hrs hk a1 T1 d1 g1 hT1 hD1 hg1 hd1 hd19 hr1
    obtain rfl : rs = 300 := by omega
    refine fe_s 4 (pc' := 39) (lc' := [(2, .int (nI k)), (0, .ref 0), (1, .int (nI s))]) (stk' := [.int 6, .ref 1, .int (nI k)]) (mem' := fm g1 tp bt a1 b) (by intro _ _ _; eq_refl) ?_
    refine fe_ldI (by rfl) (by rfl) (fx_inN (i := 6) (by omega) (by omega)) ?_
    rw [show Int32.toNatClampNeg (6) = 6 from rfl]
    rw [show a1 1 6 = nI N from (fm_D_h hD1 (by decide) rfl).trans hN]
    refine fe_s 1 (pc' := cond (fx_cb .ge (nI k) (nI N)) 185 43) (lc' := [(2, .int (nI k)), (0, .ref 0), (1, .int (nI s))]) (stk' := []) (mem' := fm g1 tp bt a1 b) (by intro _ _ _; eq_refl) ?_
    by_cases h1 : N ≤ k
    · rw [show (fx_cb .ge (nI k) (nI N)) = true from cb_geT (a := k) (b := N) (by omega) (by omega) (by omega)]
      dsimp only [cond]
      exact fe_ret ⟨_, _, _, 300, by omega, by omega, hg1, hr1, hD1, rfl⟩ (by rfl) (by rfl) (by rfl)
    · rw [show (fx_cb .ge (nI k) (nI N)) = false from cb_geF (a := k) (b := N) (by omega) (by omega) (by omega)]
      dsimp only [cond]
      refine fe_s 3 (pc' := 50) (lc' := [(2, .int (nI k)), (0, .ref 0), (1, .int (nI s))]) (stk' := [.int 300, .int (g1 37)]) (mem' := fm g1 tp bt a1 b) (by intro _ _ _; eq_refl) ?_
      try rw [hr1]
      refine fe_s 1 (pc' := cond (fx_cb .ne (nI 300) 300) 61 53) (lc' := [(2, .int (nI k)), (0, .ref 0), (1, .int (nI s))]) (stk' := []) (mem' := fm g1 tp bt a1 b) (by intro _ _ _; eq_refl) ?_
      rw [show (fx_cb .ne (nI 300) 300) = false from cb_neF (a := 300) (b := 300) (by omega) (by omega) (by omega)]
      dsimp only [cond]
      refine fe_s 4 (pc' := 59) (lc' := [(2, .int (nI k)), (0, .ref 0), (1, .int (nI s))]) (stk' := [.int 1, .int 4, .ref 20]) (mem' := fm g1 tp bt a1 b) (by intro _ _ _; eq_refl) ?_
      refine fe_stI (mem' := fm g1 tp bt (fm_u a1 20 (4 : Int32).toNatClampNeg 1) b) (by rfl) (by rfl) (fx_inN (i := 4) (by omega) (by omega)) fm_si20 ?_
      rw [show Int32.toNatClampNeg (4) = 4 from rfl]
      obtain ⟨at2, hat2⟩ : ∃ z, z = fm_u a1 20 (4) 1 := ⟨_, rfl⟩
      rw [← hat2]
      have hDt2 : fm_D a0 at2 T1 := by rw [hat2]; exact fm_D_ot hD1 (by decide) (by decide) rfl
      exact fe_ret ⟨_, _, _, 300, by omega, by omega, hg1, hr1, hDt2, rfl⟩ (by rfl) (by rfl) (by rfl)
  | succ r ih =>
    intro rs k hrs hk a1 T1 d1 g1 hT1 hD1 hg1 hd1 hd19 hr1
    refine fe_s 4 (pc' := 39) (lc' := [(2, .int (nI k)), (0, .ref 0), (1, .int (nI s))]) (stk' := [.int 6, .ref 1, .int (nI k)]) (mem' := fm g1 tp bt a1 b) (by intro _ _ _; eq_refl) ?_
    refine fe_ldI (by rfl) (by rfl) (fx_inN (i := 6) (by omega) (by omega)) ?_
    rw [show Int32.toNatClampNeg (6) = 6 from rfl]
    rw [show a1 1 6 = nI N from (fm_D_h hD1 (by decide) rfl).trans hN]
    refine fe_s 1 (pc' := cond (fx_cb .ge (nI k) (nI N)) 185 43) (lc' := [(2, .int (nI k)), (0, .ref 0), (1, .int (nI s))]) (stk' := []) (mem' := fm g1 tp bt a1 b) (by intro _ _ _; eq_refl) ?_
    by_cases h3 : N ≤ k
    · rw [show (fx_cb .ge (nI k) (nI N)) = true from cb_geT (a := k) (b := N) (by omega) (by omega) (by omega)]
      dsimp only [cond]
      exact fe_ret ⟨_, _, _, rs, by omega, by omega, hg1, hr1, hD1, rfl⟩ (by rfl) (by rfl) (by rfl)
    · rw [show (fx_cb .ge (nI k) (nI N)) = false from cb_geF (a := k) (b := N) (by omega) (by omega) (by omega)]
      dsimp only [cond]
      refine fe_s 3 (pc' := 50) (lc' := [(2, .int (nI k)), (0, .ref 0), (1, .int (nI s))]) (stk' := [.int 300, .int (g1 37)]) (mem' := fm g1 tp bt a1 b) (by intro _ _ _; eq_refl) ?_
      try rw [hr1]
      refine fe_s 1 (pc' := cond (fx_cb .ne (nI rs) 300) 61 53) (lc' := [(2, .int (nI k)), (0, .ref 0), (1, .int (nI s))]) (stk' := []) (mem' := fm g1 tp bt a1 b) (by intro _ _ _; eq_refl) ?_
      rw [show (fx_cb .ne (nI rs) 300) = true from cb_neT (a := rs) (b := 300) (by omega) (by omega) (by omega)]
      dsimp only [cond]
      refine fe_s 15 (pc' := 85) (lc' := [(3, .int (478 + (6 * (nI k)))), (2, .int (nI k)), (0, .ref 0), (1, .int (nI s))]) (stk' := [.int (478 + (6 * (nI k))), .ref 1]) (mem' := fm (upd g1 37 ((g1 37) + 1)) tp bt a1 b) (by intro _ _ _; eq_refl) ?_
      try rw [hr1]
      rw [show ((nI rs) + 1 : Int32) = nI (rs + 1) from by simp only [show (1 : Int32) = nI 1 from rfl, nI_add, fm_mul]]
      rw [show (478 + (6 * (nI k)) : Int32) = nI (478 + (6 * k)) from by simp only [show (478 : Int32) = nI 478 from rfl, show (6 : Int32) = nI 6 from rfl, nI_add, fm_mul]]
      have hgfg4 : ∀ j, j ≠ 36 → j ≠ 37 → ((upd g1 37 (nI (rs + 1)))) j = g j := fun j hj hj7 => (pk_un hj7).trans (hg1 j hj hj7)
      have r37g4 : ((upd g1 37 (nI (rs + 1)))) 37 = nI (rs + 1) := pk_us
      have d36g4 : ((upd g1 37 (nI (rs + 1)))) 36 = nI d1 := (pk_un (by decide)).trans hd1
      refine fe_ldI (by rfl) (by rfl) (fx_inN (i := 478 + (6 * k)) (by omega) (by omega)) ?_
      rw [show Int32.toNatClampNeg (nI (478 + (6 * k))) = 478 + (6 * k) from nI_clamp (by omega)]
      obtain ⟨m, hm, em⟩ := fm_row_m hB (k := k) (by omega)
      rw [show a1 1 (478 + (6 * k)) = nI m from (fm_D_hi hD1 (by omega)).trans em]
      refine fe_s 1 (pc' := 88) (lc' := [(3, .int (nI (478 + (6 * k)))), (2, .int (nI k)), (0, .ref 0), (1, .int (nI s))]) (stk' := [.int 21, .int (nI m)]) (mem' := fm (upd g1 37 (nI (rs + 1))) tp bt a1 b) (by intro _ _ _; eq_refl) ?_
      refine fe_s 1 (pc' := cond (fx_cb .ne (nI m) 21) 92 91) (lc' := [(3, .int (nI (478 + (6 * k)))), (2, .int (nI k)), (0, .ref 0), (1, .int (nI s))]) (stk' := []) (mem' := fm (upd g1 37 (nI (rs + 1))) tp bt a1 b) (by intro _ _ _; eq_refl) ?_
      by_cases h5 : m = 21
      · rw [show (fx_cb .ne (nI m) 21) = false from cb_neF (a := m) (b := 21) (by omega) (by omega) (by omega)]
        dsimp only [cond]
        exact fe_ret ⟨_, _, _, (rs + 1), by omega, by omega, hgfg4, r37g4, hD1, rfl⟩ (by rfl) (by rfl) (by rfl)
      · rw [show (fx_cb .ne (nI m) 21) = true from cb_neT (a := m) (b := 21) (by omega) (by omega) (by omega)]
        dsimp only [cond]
        refine fe_s 4 (pc' := 98) (lc' := [(3, .int (nI (478 + (6 * k)))), (2, .int (nI k)), (0, .ref 0), (1, .int (nI s))]) (stk' := [.int 0, .ref 20, .int 0, .ref 20]) (mem' := fm (upd g1 37 (nI (rs + 1))) tp bt a1 b) (by intro _ _ _; eq_refl) ?_
        refine fe_ldI (by rfl) (by rfl) (fx_inN (i := 0) (by omega) (by omega)) ?_
        rw [show Int32.toNatClampNeg (0) = 0 from rfl]
        refine fe_s 2 (pc' := 101) (lc' := [(3, .int (nI (478 + (6 * k)))), (2, .int (nI k)), (0, .ref 0), (1, .int (nI s))]) (stk' := [.int (nI (478 + (6 * k))), .ref 0, .int (a1 20 0), .int 0, .ref 20]) (mem' := fm (upd g1 37 (nI (rs + 1))) tp bt a1 b) (by intro _ _ _; eq_refl) ?_
        obtain ⟨ve6, meme6, ⟨xe6, ge6, ae6, Te6, de6, hxe6, hTe6, hde6, hge6, hd36e6, hDe6, hRe6⟩, hfre6⟩ := fr_does (k := k) (g := (upd g1 37 (nI (rs + 1)))) (tp := tp) (bt := bt) (a := a1) (b := b) hB hD1 (by omega) d36g4 (by omega) (by omega) (fm_row_ro hB hN hN6 (by omega))
        cases hRe6
        have r37e6 : ge6 37 = nI (rs + 1) := (hge6 37 (by decide)).trans (r37g4)
        have hgfe6 : ∀ j, j ≠ 36 → j ≠ 37 → ge6 j = g j := fun j hj hj7 => (hge6 j hj).trans (hgfg4 j hj hj7)
        refine fe_ivV hfre6 (by omega) (by rfl) (by rfl) (by rfl) (by rfl) (by rfl) (by rfl) ?_
        rcases hxe6 with rfl | rfl
        · refine fe_s 1 (pc' := cond (fx_cb .eq 0 0) 111 107) (lc' := [(3, .int (nI (478 + (6 * k)))), (2, .int (nI k)), (0, .ref 0), (1, .int (nI s))]) (stk' := [.int (a1 20 0), .int 0, .ref 20]) (mem' := fm ge6 tp bt ae6 b) (by intro _ _ _; eq_refl) ?_
          rw [show (fx_cb .eq 0 0) = true from by decide]
          dsimp only [cond]
          refine fe_s 2 (pc' := 113) (lc' := [(3, .int (nI (478 + (6 * k)))), (2, .int (nI k)), (0, .ref 0), (1, .int (nI s))]) (stk' := [.int ((a1 20 0) + 1), .int 0, .ref 20]) (mem' := fm ge6 tp bt ae6 b) (by intro _ _ _; eq_refl) ?_
          refine fe_stI (mem' := fm ge6 tp bt (fm_u ae6 20 (0 : Int32).toNatClampNeg ((a1 20 0) + 1)) b) (by rfl) (by rfl) (fx_inN (i := 0) (by omega) (by omega)) fm_si20 ?_
          rw [show Int32.toNatClampNeg (0) = 0 from rfl]
          obtain ⟨at7, hat7⟩ : ∃ z, z = fm_u ae6 20 (0) ((a1 20 0) + 1) := ⟨_, rfl⟩
          rw [← hat7]
          have hDt7 : fm_D a0 at7 Te6 := by rw [hat7]; exact fm_D_ot hDe6 (by decide) (by decide) rfl
          refine fe_s 3 (pc' := 119) (lc' := [(3, .int (nI (478 + (6 * k)))), (2, .int (nI k)), (0, .ref 0), (1, .int (nI s))]) (stk' := [.int (nI (478 + (6 * k))), .ref 1]) (mem' := fm ge6 tp bt at7 b) (by intro _ _ _; eq_refl) ?_
          refine fe_ldI (by rfl) (by rfl) (fx_inN (i := 478 + (6 * k)) (by omega) (by omega)) ?_
          rw [show Int32.toNatClampNeg (nI (478 + (6 * k))) = 478 + (6 * k) from nI_clamp (by omega)]
          rw [show at7 1 (478 + (6 * k)) = nI m from (fm_D_hi hDt7 (by omega)).trans em]
          refine fe_s 1 (pc' := 122) (lc' := [(3, .int (nI (478 + (6 * k)))), (2, .int (nI k)), (0, .ref 0), (1, .int (nI s))]) (stk' := [.int 19, .int (nI m)]) (mem' := fm ge6 tp bt at7 b) (by intro _ _ _; eq_refl) ?_
          refine fe_s 1 (pc' := cond (fx_cb .ne (nI m) 19) 141 125) (lc' := [(3, .int (nI (478 + (6 * k)))), (2, .int (nI k)), (0, .ref 0), (1, .int (nI s))]) (stk' := []) (mem' := fm ge6 tp bt at7 b) (by intro _ _ _; eq_refl) ?_
          by_cases h8 : m = 19
          · rw [show (fx_cb .ne (nI m) 19) = false from cb_neF (a := m) (b := 19) (by omega) (by omega) (by omega)]
            dsimp only [cond]
            refine fe_s 8 (pc' := 137) (lc' := [(3, .int (nI (478 + (6 * k)))), (2, .int (nI k)), (0, .ref 0), (1, .int (nI s))]) (stk' := [.int ((nI (478 + (6 * k))) + 1), .ref 1, .int (nI k), .ref 19]) (mem' := fm ge6 tp bt at7 b) (by intro _ _ _; eq_refl) ?_
            rw [show ((nI (478 + (6 * k))) + 1 : Int32) = nI ((478 + (6 * k)) + 1) from by simp only [show (1 : Int32) = nI 1 from rfl, nI_add, fm_mul]]
            refine fe_ldI (by rfl) (by rfl) (fx_inN (i := (478 + (6 * k)) + 1) (by omega) (by omega)) ?_
            rw [show Int32.toNatClampNeg (nI ((478 + (6 * k)) + 1)) = (478 + (6 * k)) + 1 from nI_clamp (by omega)]
            refine fe_s 2 (pc' := 140) (lc' := [(3, .int (nI (478 + (6 * k)))), (2, .int (nI k)), (0, .ref 0), (1, .int (nI s))]) (stk' := [.int ((at7 1 ((478 + (6 * k)) + 1)) - 1), .int (nI k), .ref 19]) (mem' := fm ge6 tp bt at7 b) (by intro _ _ _; eq_refl) ?_
            refine fe_stI (mem' := fm ge6 tp bt (fm_u at7 19 (nI k : Int32).toNatClampNeg ((at7 1 ((478 + (6 * k)) + 1)) - 1)) b) (by rfl) (by rfl) (fx_inN (i := k) (by omega) (by omega)) fm_si19 ?_
            rw [show Int32.toNatClampNeg (nI k) = k from nI_clamp (by omega)]
            obtain ⟨at9, hat9⟩ : ∃ z, z = fm_u at7 19 (k) ((at7 1 ((478 + (6 * k)) + 1)) - 1) := ⟨_, rfl⟩
            rw [← hat9]
            have hDt9 : fm_D a0 at9 Te6 := by rw [hat9]; exact fm_D_ot hDt7 (by decide) (by decide) rfl
            refine fe_s 4 (pc' := 147) (lc' := [(3, .int (nI (478 + (6 * k)))), (2, .int (nI k)), (0, .ref 0), (1, .int (nI s))]) (stk' := [.int (nI (478 + (6 * k))), .ref 1, .ref 0]) (mem' := fm ge6 tp bt at9 b) (by intro _ _ _; eq_refl) ?_
            refine fe_ldI (by rfl) (by rfl) (fx_inN (i := 478 + (6 * k)) (by omega) (by omega)) ?_
            rw [show Int32.toNatClampNeg (nI (478 + (6 * k))) = 478 + (6 * k) from nI_clamp (by omega)]
            rw [show at9 1 (478 + (6 * k)) = nI m from (fm_D_hi hDt9 (by omega)).trans em]
            refine fe_s 1 (pc' := 151) (lc' := [(3, .int (nI (478 + (6 * k)))), (2, .int (nI k)), (0, .ref 0), (1, .int (nI s))]) (stk' := [.int 1800, .int (nI m), .ref 0]) (mem' := fm ge6 tp bt at9 b) (by intro _ _ _; eq_refl) ?_
            refine fe_s 1 (pc' := cond (fx_cb .lt (nI m) 1800) 175 154) (lc' := [(3, .int (nI (478 + (6 * k)))), (2, .int (nI k)), (0, .ref 0), (1, .int (nI s))]) (stk' := [.ref 0]) (mem' := fm ge6 tp bt at9 b) (by intro _ _ _; eq_refl) ?_
            rw [show (fx_cb .lt (nI m) 1800) = true from cb_ltT (a := m) (b := 1800) (by omega) (by omega) (by omega)]
            dsimp only [cond]
            refine fe_s 3 (pc' := 178) (lc' := [(3, .int (nI (478 + (6 * k)))), (2, .int (nI k)), (0, .ref 0), (1, .int (nI s))]) (stk' := [.int ((nI k) + 1), .ref 0]) (mem' := fm ge6 tp bt at9 b) (by intro _ _ _; eq_refl) ?_
            rw [show ((nI k) + 1 : Int32) = nI (k + 1) from by simp only [show (1 : Int32) = nI 1 from rfl, nI_add, fm_mul]]
            obtain ⟨ve10, meme10, ⟨ke10, ae10, hke10, hDe10, hRe10⟩, hfre10⟩ := fr_behindEnds (k := k + 1) (N := N) (g := ge6) (tp := tp) (bt := bt) (a := at9) (b := b) hB hDt9 (by omega) hN hN6
            cases hRe10
            refine fe_ivV hfre10 (by omega) (by rfl) (by rfl) (by rfl) (by rfl) (by rfl) (by rfl) ?_
            refine fe_s 1 (pc' := 182) (lc' := [(2, .int (nI ke10)), (3, .int (nI (478 + (6 * k)))), (0, .ref 0), (1, .int (nI s))]) (stk' := []) (mem' := fm ge6 tp bt ae10 b) (by intro _ _ _; eq_refl) ?_
            refine fe_s 1 (pc' := fx_to 182 (-150)) (lc' := [(2, .int (nI ke10)), (3, .int (nI (478 + (6 * k)))), (0, .ref 0), (1, .int (nI s))]) (stk' := []) (mem' := fm ge6 tp bt ae10 b) (by intro _ _ _; eq_refl) ?_
            rw [show fx_to 182 (-150) = 32 from by decide]
            refine fe_w (lc' := [(2, .int (nI ke10)), (0, .ref 0), (1, .int (nI s))]) ⟨rfl, rfl, rfl, trivial⟩ (by show List.Nodup [2, 0, 1]; decide) (by show List.Nodup [2, 3, 0, 1]; decide) ?_
            exact ih (rs + 1) (ke10) (by omega) (by omega) _ _ _ _ (by omega) hDe10 hgfe6 hd36e6 (by omega) r37e6
          · rw [show (fx_cb .ne (nI m) 19) = true from cb_neT (a := m) (b := 19) (by omega) (by omega) (by omega)]
            dsimp only [cond]
            refine fe_s 4 (pc' := 147) (lc' := [(3, .int (nI (478 + (6 * k)))), (2, .int (nI k)), (0, .ref 0), (1, .int (nI s))]) (stk' := [.int (nI (478 + (6 * k))), .ref 1, .ref 0]) (mem' := fm ge6 tp bt at7 b) (by intro _ _ _; eq_refl) ?_
            refine fe_ldI (by rfl) (by rfl) (fx_inN (i := 478 + (6 * k)) (by omega) (by omega)) ?_
            rw [show Int32.toNatClampNeg (nI (478 + (6 * k))) = 478 + (6 * k) from nI_clamp (by omega)]
            rw [show at7 1 (478 + (6 * k)) = nI m from (fm_D_hi hDt7 (by omega)).trans em]
            refine fe_s 1 (pc' := 151) (lc' := [(3, .int (nI (478 + (6 * k)))), (2, .int (nI k)), (0, .ref 0), (1, .int (nI s))]) (stk' := [.int 1800, .int (nI m), .ref 0]) (mem' := fm ge6 tp bt at7 b) (by intro _ _ _; eq_refl) ?_
            refine fe_s 1 (pc' := cond (fx_cb .lt (nI m) 1800) 175 154) (lc' := [(3, .int (nI (478 + (6 * k)))), (2, .int (nI k)), (0, .ref 0), (1, .int (nI s))]) (stk' := [.ref 0]) (mem' := fm ge6 tp bt at7 b) (by intro _ _ _; eq_refl) ?_
            by_cases h11 : m < 1800
            · rw [show (fx_cb .lt (nI m) 1800) = true from cb_ltT (a := m) (b := 1800) (by omega) (by omega) (by omega)]
              dsimp only [cond]
              refine fe_s 3 (pc' := 178) (lc' := [(3, .int (nI (478 + (6 * k)))), (2, .int (nI k)), (0, .ref 0), (1, .int (nI s))]) (stk' := [.int ((nI k) + 1), .ref 0]) (mem' := fm ge6 tp bt at7 b) (by intro _ _ _; eq_refl) ?_
              rw [show ((nI k) + 1 : Int32) = nI (k + 1) from by simp only [show (1 : Int32) = nI 1 from rfl, nI_add, fm_mul]]
              obtain ⟨ve12, meme12, ⟨ke12, ae12, hke12, hDe12, hRe12⟩, hfre12⟩ := fr_behindEnds (k := k + 1) (N := N) (g := ge6) (tp := tp) (bt := bt) (a := at7) (b := b) hB hDt7 (by omega) hN hN6
              cases hRe12
              refine fe_ivV hfre12 (by omega) (by rfl) (by rfl) (by rfl) (by rfl) (by rfl) (by rfl) ?_
              refine fe_s 1 (pc' := 182) (lc' := [(2, .int (nI ke12)), (3, .int (nI (478 + (6 * k)))), (0, .ref 0), (1, .int (nI s))]) (stk' := []) (mem' := fm ge6 tp bt ae12 b) (by intro _ _ _; eq_refl) ?_
              refine fe_s 1 (pc' := fx_to 182 (-150)) (lc' := [(2, .int (nI ke12)), (3, .int (nI (478 + (6 * k)))), (0, .ref 0), (1, .int (nI s))]) (stk' := []) (mem' := fm ge6 tp bt ae12 b) (by intro _ _ _; eq_refl) ?_
              rw [show fx_to 182 (-150) = 32 from by decide]
              refine fe_w (lc' := [(2, .int (nI ke12)), (0, .ref 0), (1, .int (nI s))]) ⟨rfl, rfl, rfl, trivial⟩ (by show List.Nodup [2, 0, 1]; decide) (by show List.Nodup [2, 3, 0, 1]; decide) ?_
              exact ih (rs + 1) (ke12) (by omega) (by omega) _ _ _ _ (by omega) hDe12 hgfe6 hd36e6 (by omega) r37e6
            · rw [show (fx_cb .lt (nI m) 1800) = false from cb_ltF (a := m) (b := 1800) (by omega) (by omega) (by omega)]
              dsimp only [cond]
              refine fe_s 2 (pc' := 156) (lc' := [(3, .int (nI (478 + (6 * k)))), (2, .int (nI k)), (0, .ref 0), (1, .int (nI s))]) (stk' := [.int (nI (478 + (6 * k))), .ref 0, .ref 0]) (mem' := fm ge6 tp bt at7 b) (by intro _ _ _; eq_refl) ?_
              obtain ⟨vs13, mems13, ⟨xs13, hxs13, hRs13⟩, hfrs13⟩ := fr_isSo (k := k) (g := ge6) (tp := tp) (bt := bt) (a := at7) (b := b) hB hDt7 (by omega) (fm_row_ro hB hN hN6 (by omega)) (by rw [em, nI_i32 (by omega)]; omega)
              cases hRs13
              refine fe_ivV hfrs13 (by omega) (by rfl) (by rfl) (by rfl) (by rfl) (by rfl) (by rfl) ?_
              rcases hxs13 with rfl | rfl
              · refine fe_s 1 (pc' := cond (fx_cb .ne 0 0) 175 162) (lc' := [(3, .int (nI (478 + (6 * k)))), (2, .int (nI k)), (0, .ref 0), (1, .int (nI s))]) (stk' := [.ref 0]) (mem' := fm ge6 tp bt at7 b) (by intro _ _ _; eq_refl) ?_
                rw [show (fx_cb .ne 0 0) = false from by decide]
                dsimp only [cond]
                refine fe_s 5 (pc' := 169) (lc' := [(3, .int (nI (478 + (6 * k)))), (2, .int (nI k)), (0, .ref 0), (1, .int (nI s))]) (stk' := [.int ((nI (478 + (6 * k))) + 4), .ref 1, .ref 0]) (mem' := fm ge6 tp bt at7 b) (by intro _ _ _; eq_refl) ?_
                rw [show ((nI (478 + (6 * k))) + 4 : Int32) = nI ((478 + (6 * k)) + 4) from by simp only [show (4 : Int32) = nI 4 from rfl, nI_add, fm_mul]]
                refine fe_ldI (by rfl) (by rfl) (fx_inN (i := (478 + (6 * k)) + 4) (by omega) (by omega)) ?_
                rw [show Int32.toNatClampNeg (nI ((478 + (6 * k)) + 4)) = (478 + (6 * k)) + 4 from nI_clamp (by omega)]
                obtain ⟨o, ho, eo⟩ := fm_row_o hB (k := k) (by omega)
                rw [show at7 1 ((478 + (6 * k)) + 4) = nI o from by rw [show (478 + (6 * k)) + 4 = 482 + 6 * k by omega]; exact (fm_D_hi hDt7 (by omega)).trans eo]
                refine fe_s 3 (pc' := 178) (lc' := [(3, .int (nI (478 + (6 * k)))), (2, .int (nI k)), (0, .ref 0), (1, .int (nI s))]) (stk' := [.int ((nI o) + 1), .ref 0]) (mem' := fm ge6 tp bt at7 b) (by intro _ _ _; eq_refl) ?_
                rw [show ((nI o) + 1 : Int32) = nI (o + 1) from by simp only [show (1 : Int32) = nI 1 from rfl, nI_add, fm_mul]]
                obtain ⟨ve14, meme14, ⟨ke14, ae14, hke14, hDe14, hRe14⟩, hfre14⟩ := fr_behindEnds (k := o + 1) (N := N) (g := ge6) (tp := tp) (bt := bt) (a := at7) (b := b) hB hDt7 (by omega) hN hN6
                cases hRe14
                refine fe_ivV hfre14 (by omega) (by rfl) (by rfl) (by rfl) (by rfl) (by rfl) (by rfl) ?_
                refine fe_s 1 (pc' := 182) (lc' := [(2, .int (nI ke14)), (3, .int (nI (478 + (6 * k)))), (0, .ref 0), (1, .int (nI s))]) (stk' := []) (mem' := fm ge6 tp bt ae14 b) (by intro _ _ _; eq_refl) ?_
                refine fe_s 1 (pc' := fx_to 182 (-150)) (lc' := [(2, .int (nI ke14)), (3, .int (nI (478 + (6 * k)))), (0, .ref 0), (1, .int (nI s))]) (stk' := []) (mem' := fm ge6 tp bt ae14 b) (by intro _ _ _; eq_refl) ?_
                rw [show fx_to 182 (-150) = 32 from by decide]
                refine fe_w (lc' := [(2, .int (nI ke14)), (0, .ref 0), (1, .int (nI s))]) ⟨rfl, rfl, rfl, trivial⟩ (by show List.Nodup [2, 0, 1]; decide) (by show List.Nodup [2, 3, 0, 1]; decide) ?_
                exact ih (rs + 1) (ke14) (by omega) (by omega) _ _ _ _ (by omega) hDe14 hgfe6 hd36e6 (by omega) r37e6
              · refine fe_s 1 (pc' := cond (fx_cb .ne 1 0) 175 162) (lc' := [(3, .int (nI (478 + (6 * k)))), (2, .int (nI k)), (0, .ref 0), (1, .int (nI s))]) (stk' := [.ref 0]) (mem' := fm ge6 tp bt at7 b) (by intro _ _ _; eq_refl) ?_
                rw [show (fx_cb .ne 1 0) = true from by decide]
                dsimp only [cond]
                refine fe_s 3 (pc' := 178) (lc' := [(3, .int (nI (478 + (6 * k)))), (2, .int (nI k)), (0, .ref 0), (1, .int (nI s))]) (stk' := [.int ((nI k) + 1), .ref 0]) (mem' := fm ge6 tp bt at7 b) (by intro _ _ _; eq_refl) ?_
                rw [show ((nI k) + 1 : Int32) = nI (k + 1) from by simp only [show (1 : Int32) = nI 1 from rfl, nI_add, fm_mul]]
                obtain ⟨ve15, meme15, ⟨ke15, ae15, hke15, hDe15, hRe15⟩, hfre15⟩ := fr_behindEnds (k := k + 1) (N := N) (g := ge6) (tp := tp) (bt := bt) (a := at7) (b := b) hB hDt7 (by omega) hN hN6
                cases hRe15
                refine fe_ivV hfre15 (by omega) (by rfl) (by rfl) (by rfl) (by rfl) (by rfl) (by rfl) ?_
                refine fe_s 1 (pc' := 182) (lc' := [(2, .int (nI ke15)), (3, .int (nI (478 + (6 * k)))), (0, .ref 0), (1, .int (nI s))]) (stk' := []) (mem' := fm ge6 tp bt ae15 b) (by intro _ _ _; eq_refl) ?_
                refine fe_s 1 (pc' := fx_to 182 (-150)) (lc' := [(2, .int (nI ke15)), (3, .int (nI (478 + (6 * k)))), (0, .ref 0), (1, .int (nI s))]) (stk' := []) (mem' := fm ge6 tp bt ae15 b) (by intro _ _ _; eq_refl) ?_
                rw [show fx_to 182 (-150) = 32 from by decide]
                refine fe_w (lc' := [(2, .int (nI ke15)), (0, .ref 0), (1, .int (nI s))]) ⟨rfl, rfl, rfl, trivial⟩ (by show List.Nodup [2, 0, 1]; decide) (by show List.Nodup [2, 3, 0, 1]; decide) ?_
                exact ih (rs + 1) (ke15) (by omega) (by omega) _ _ _ _ (by omega) hDe15 hgfe6 hd36e6 (by omega) r37e6
        · refine fe_s 1 (pc' := cond (fx_cb .eq 1 0) 111 107) (lc' := [(3, .int (nI (478 + (6 * k)))), (2, .int (nI k)), (0, .ref 0), (1, .int (nI s))]) (stk' := [.int (a1 20 0), .int 0, .ref 20]) (mem' := fm ge6 tp bt ae6 b) (by intro _ _ _; eq_refl) ?_
          rw [show (fx_cb .eq 1 0) = false from by decide]
          dsimp only [cond]
          refine fe_s 3 (pc' := 113) (lc' := [(3, .int (nI (478 + (6 * k)))), (2, .int (nI k)), (0, .ref 0), (1, .int (nI s))]) (stk' := [.int ((a1 20 0) + 0), .int 0, .ref 20]) (mem' := fm ge6 tp bt ae6 b) (by intro _ _ _; eq_refl) ?_
          refine fe_stI (mem' := fm ge6 tp bt (fm_u ae6 20 (0 : Int32).toNatClampNeg ((a1 20 0) + 0)) b) (by rfl) (by rfl) (fx_inN (i := 0) (by omega) (by omega)) fm_si20 ?_
          rw [show Int32.toNatClampNeg (0) = 0 from rfl]
          obtain ⟨at16, hat16⟩ : ∃ z, z = fm_u ae6 20 (0) ((a1 20 0) + 0) := ⟨_, rfl⟩
          rw [← hat16]
          have hDt16 : fm_D a0 at16 Te6 := by rw [hat16]; exact fm_D_ot hDe6 (by decide) (by decide) rfl
          refine fe_s 3 (pc' := 119) (lc' := [(3, .int (nI (478 + (6 * k)))), (2, .int (nI k)), (0, .ref 0), (1, .int (nI s))]) (stk' := [.int (nI (478 + (6 * k))), .ref 1]) (mem' := fm ge6 tp bt at16 b) (by intro _ _ _; eq_refl) ?_
          refine fe_ldI (by rfl) (by rfl) (fx_inN (i := 478 + (6 * k)) (by omega) (by omega)) ?_
          rw [show Int32.toNatClampNeg (nI (478 + (6 * k))) = 478 + (6 * k) from nI_clamp (by omega)]
          rw [show at16 1 (478 + (6 * k)) = nI m from (fm_D_hi hDt16 (by omega)).trans em]
          refine fe_s 1 (pc' := 122) (lc' := [(3, .int (nI (478 + (6 * k)))), (2, .int (nI k)), (0, .ref 0), (1, .int (nI s))]) (stk' := [.int 19, .int (nI m)]) (mem' := fm ge6 tp bt at16 b) (by intro _ _ _; eq_refl) ?_
          refine fe_s 1 (pc' := cond (fx_cb .ne (nI m) 19) 141 125) (lc' := [(3, .int (nI (478 + (6 * k)))), (2, .int (nI k)), (0, .ref 0), (1, .int (nI s))]) (stk' := []) (mem' := fm ge6 tp bt at16 b) (by intro _ _ _; eq_refl) ?_
          by_cases h17 : m = 19
          · rw [show (fx_cb .ne (nI m) 19) = false from cb_neF (a := m) (b := 19) (by omega) (by omega) (by omega)]
            dsimp only [cond]
            refine fe_s 8 (pc' := 137) (lc' := [(3, .int (nI (478 + (6 * k)))), (2, .int (nI k)), (0, .ref 0), (1, .int (nI s))]) (stk' := [.int ((nI (478 + (6 * k))) + 1), .ref 1, .int (nI k), .ref 19]) (mem' := fm ge6 tp bt at16 b) (by intro _ _ _; eq_refl) ?_
            rw [show ((nI (478 + (6 * k))) + 1 : Int32) = nI ((478 + (6 * k)) + 1) from by simp only [show (1 : Int32) = nI 1 from rfl, nI_add, fm_mul]]
            refine fe_ldI (by rfl) (by rfl) (fx_inN (i := (478 + (6 * k)) + 1) (by omega) (by omega)) ?_
            rw [show Int32.toNatClampNeg (nI ((478 + (6 * k)) + 1)) = (478 + (6 * k)) + 1 from nI_clamp (by omega)]
            refine fe_s 2 (pc' := 140) (lc' := [(3, .int (nI (478 + (6 * k)))), (2, .int (nI k)), (0, .ref 0), (1, .int (nI s))]) (stk' := [.int ((at16 1 ((478 + (6 * k)) + 1)) - 1), .int (nI k), .ref 19]) (mem' := fm ge6 tp bt at16 b) (by intro _ _ _; eq_refl) ?_
            refine fe_stI (mem' := fm ge6 tp bt (fm_u at16 19 (nI k : Int32).toNatClampNeg ((at16 1 ((478 + (6 * k)) + 1)) - 1)) b) (by rfl) (by rfl) (fx_inN (i := k) (by omega) (by omega)) fm_si19 ?_
            rw [show Int32.toNatClampNeg (nI k) = k from nI_clamp (by omega)]
            obtain ⟨at18, hat18⟩ : ∃ z, z = fm_u at16 19 (k) ((at16 1 ((478 + (6 * k)) + 1)) - 1) := ⟨_, rfl⟩
            rw [← hat18]
            have hDt18 : fm_D a0 at18 Te6 := by rw [hat18]; exact fm_D_ot hDt16 (by decide) (by decide) rfl
            refine fe_s 4 (pc' := 147) (lc' := [(3, .int (nI (478 + (6 * k)))), (2, .int (nI k)), (0, .ref 0), (1, .int (nI s))]) (stk' := [.int (nI (478 + (6 * k))), .ref 1, .ref 0]) (mem' := fm ge6 tp bt at18 b) (by intro _ _ _; eq_refl) ?_
            refine fe_ldI (by rfl) (by rfl) (fx_inN (i := 478 + (6 * k)) (by omega) (by omega)) ?_
            rw [show Int32.toNatClampNeg (nI (478 + (6 * k))) = 478 + (6 * k) from nI_clamp (by omega)]
            rw [show at18 1 (478 + (6 * k)) = nI m from (fm_D_hi hDt18 (by omega)).trans em]
            refine fe_s 1 (pc' := 151) (lc' := [(3, .int (nI (478 + (6 * k)))), (2, .int (nI k)), (0, .ref 0), (1, .int (nI s))]) (stk' := [.int 1800, .int (nI m), .ref 0]) (mem' := fm ge6 tp bt at18 b) (by intro _ _ _; eq_refl) ?_
            refine fe_s 1 (pc' := cond (fx_cb .lt (nI m) 1800) 175 154) (lc' := [(3, .int (nI (478 + (6 * k)))), (2, .int (nI k)), (0, .ref 0), (1, .int (nI s))]) (stk' := [.ref 0]) (mem' := fm ge6 tp bt at18 b) (by intro _ _ _; eq_refl) ?_
            rw [show (fx_cb .lt (nI m) 1800) = true from cb_ltT (a := m) (b := 1800) (by omega) (by omega) (by omega)]
            dsimp only [cond]
            refine fe_s 3 (pc' := 178) (lc' := [(3, .int (nI (478 + (6 * k)))), (2, .int (nI k)), (0, .ref 0), (1, .int (nI s))]) (stk' := [.int ((nI k) + 1), .ref 0]) (mem' := fm ge6 tp bt at18 b) (by intro _ _ _; eq_refl) ?_
            rw [show ((nI k) + 1 : Int32) = nI (k + 1) from by simp only [show (1 : Int32) = nI 1 from rfl, nI_add, fm_mul]]
            obtain ⟨ve19, meme19, ⟨ke19, ae19, hke19, hDe19, hRe19⟩, hfre19⟩ := fr_behindEnds (k := k + 1) (N := N) (g := ge6) (tp := tp) (bt := bt) (a := at18) (b := b) hB hDt18 (by omega) hN hN6
            cases hRe19
            refine fe_ivV hfre19 (by omega) (by rfl) (by rfl) (by rfl) (by rfl) (by rfl) (by rfl) ?_
            refine fe_s 1 (pc' := 182) (lc' := [(2, .int (nI ke19)), (3, .int (nI (478 + (6 * k)))), (0, .ref 0), (1, .int (nI s))]) (stk' := []) (mem' := fm ge6 tp bt ae19 b) (by intro _ _ _; eq_refl) ?_
            refine fe_s 1 (pc' := fx_to 182 (-150)) (lc' := [(2, .int (nI ke19)), (3, .int (nI (478 + (6 * k)))), (0, .ref 0), (1, .int (nI s))]) (stk' := []) (mem' := fm ge6 tp bt ae19 b) (by intro _ _ _; eq_refl) ?_
            rw [show fx_to 182 (-150) = 32 from by decide]
            refine fe_w (lc' := [(2, .int (nI ke19)), (0, .ref 0), (1, .int (nI s))]) ⟨rfl, rfl, rfl, trivial⟩ (by show List.Nodup [2, 0, 1]; decide) (by show List.Nodup [2, 3, 0, 1]; decide) ?_
            exact ih (rs + 1) (ke19) (by omega) (by omega) _ _ _ _ (by omega) hDe19 hgfe6 hd36e6 (by omega) r37e6
          · rw [show (fx_cb .ne (nI m) 19) = true from cb_neT (a := m) (b := 19) (by omega) (by omega) (by omega)]
            dsimp only [cond]
            refine fe_s 4 (pc' := 147) (lc' := [(3, .int (nI (478 + (6 * k)))), (2, .int (nI k)), (0, .ref 0), (1, .int (nI s))]) (stk' := [.int (nI (478 + (6 * k))), .ref 1, .ref 0]) (mem' := fm ge6 tp bt at16 b) (by intro _ _ _; eq_refl) ?_
            refine fe_ldI (by rfl) (by rfl) (fx_inN (i := 478 + (6 * k)) (by omega) (by omega)) ?_
            rw [show Int32.toNatClampNeg (nI (478 + (6 * k))) = 478 + (6 * k) from nI_clamp (by omega)]
            rw [show at16 1 (478 + (6 * k)) = nI m from (fm_D_hi hDt16 (by omega)).trans em]
            refine fe_s 1 (pc' := 151) (lc' := [(3, .int (nI (478 + (6 * k)))), (2, .int (nI k)), (0, .ref 0), (1, .int (nI s))]) (stk' := [.int 1800, .int (nI m), .ref 0]) (mem' := fm ge6 tp bt at16 b) (by intro _ _ _; eq_refl) ?_
            refine fe_s 1 (pc' := cond (fx_cb .lt (nI m) 1800) 175 154) (lc' := [(3, .int (nI (478 + (6 * k)))), (2, .int (nI k)), (0, .ref 0), (1, .int (nI s))]) (stk' := [.ref 0]) (mem' := fm ge6 tp bt at16 b) (by intro _ _ _; eq_refl) ?_
            by_cases h20 : m < 1800
            · rw [show (fx_cb .lt (nI m) 1800) = true from cb_ltT (a := m) (b := 1800) (by omega) (by omega) (by omega)]
              dsimp only [cond]
              refine fe_s 3 (pc' := 178) (lc' := [(3, .int (nI (478 + (6 * k)))), (2, .int (nI k)), (0, .ref 0), (1, .int (nI s))]) (stk' := [.int ((nI k) + 1), .ref 0]) (mem' := fm ge6 tp bt at16 b) (by intro _ _ _; eq_refl) ?_
              rw [show ((nI k) + 1 : Int32) = nI (k + 1) from by simp only [show (1 : Int32) = nI 1 from rfl, nI_add, fm_mul]]
              obtain ⟨ve21, meme21, ⟨ke21, ae21, hke21, hDe21, hRe21⟩, hfre21⟩ := fr_behindEnds (k := k + 1) (N := N) (g := ge6) (tp := tp) (bt := bt) (a := at16) (b := b) hB hDt16 (by omega) hN hN6
              cases hRe21
              refine fe_ivV hfre21 (by omega) (by rfl) (by rfl) (by rfl) (by rfl) (by rfl) (by rfl) ?_
              refine fe_s 1 (pc' := 182) (lc' := [(2, .int (nI ke21)), (3, .int (nI (478 + (6 * k)))), (0, .ref 0), (1, .int (nI s))]) (stk' := []) (mem' := fm ge6 tp bt ae21 b) (by intro _ _ _; eq_refl) ?_
              refine fe_s 1 (pc' := fx_to 182 (-150)) (lc' := [(2, .int (nI ke21)), (3, .int (nI (478 + (6 * k)))), (0, .ref 0), (1, .int (nI s))]) (stk' := []) (mem' := fm ge6 tp bt ae21 b) (by intro _ _ _; eq_refl) ?_
              rw [show fx_to 182 (-150) = 32 from by decide]
              refine fe_w (lc' := [(2, .int (nI ke21)), (0, .ref 0), (1, .int (nI s))]) ⟨rfl, rfl, rfl, trivial⟩ (by show List.Nodup [2, 0, 1]; decide) (by show List.Nodup [2, 3, 0, 1]; decide) ?_
              exact ih (rs + 1) (ke21) (by omega) (by omega) _ _ _ _ (by omega) hDe21 hgfe6 hd36e6 (by omega) r37e6
            · rw [show (fx_cb .lt (nI m) 1800) = false from cb_ltF (a := m) (b := 1800) (by omega) (by omega) (by omega)]
              dsimp only [cond]
              refine fe_s 2 (pc' := 156) (lc' := [(3, .int (nI (478 + (6 * k)))), (2, .int (nI k)), (0, .ref 0), (1, .int (nI s))]) (stk' := [.int (nI (478 + (6 * k))), .ref 0, .ref 0]) (mem' := fm ge6 tp bt at16 b) (by intro _ _ _; eq_refl) ?_
              obtain ⟨vs22, mems22, ⟨xs22, hxs22, hRs22⟩, hfrs22⟩ := fr_isSo (k := k) (g := ge6) (tp := tp) (bt := bt) (a := at16) (b := b) hB hDt16 (by omega) (fm_row_ro hB hN hN6 (by omega)) (by rw [em, nI_i32 (by omega)]; omega)
              cases hRs22
              refine fe_ivV hfrs22 (by omega) (by rfl) (by rfl) (by rfl) (by rfl) (by rfl) (by rfl) ?_
              rcases hxs22 with rfl | rfl
              · refine fe_s 1 (pc' := cond (fx_cb .ne 0 0) 175 162) (lc' := [(3, .int (nI (478 + (6 * k)))), (2, .int (nI k)), (0, .ref 0), (1, .int (nI s))]) (stk' := [.ref 0]) (mem' := fm ge6 tp bt at16 b) (by intro _ _ _; eq_refl) ?_
                rw [show (fx_cb .ne 0 0) = false from by decide]
                dsimp only [cond]
                refine fe_s 5 (pc' := 169) (lc' := [(3, .int (nI (478 + (6 * k)))), (2, .int (nI k)), (0, .ref 0), (1, .int (nI s))]) (stk' := [.int ((nI (478 + (6 * k))) + 4), .ref 1, .ref 0]) (mem' := fm ge6 tp bt at16 b) (by intro _ _ _; eq_refl) ?_
                rw [show ((nI (478 + (6 * k))) + 4 : Int32) = nI ((478 + (6 * k)) + 4) from by simp only [show (4 : Int32) = nI 4 from rfl, nI_add, fm_mul]]
                refine fe_ldI (by rfl) (by rfl) (fx_inN (i := (478 + (6 * k)) + 4) (by omega) (by omega)) ?_
                rw [show Int32.toNatClampNeg (nI ((478 + (6 * k)) + 4)) = (478 + (6 * k)) + 4 from nI_clamp (by omega)]
                obtain ⟨o, ho, eo⟩ := fm_row_o hB (k := k) (by omega)
                rw [show at16 1 ((478 + (6 * k)) + 4) = nI o from by rw [show (478 + (6 * k)) + 4 = 482 + 6 * k by omega]; exact (fm_D_hi hDt16 (by omega)).trans eo]
                refine fe_s 3 (pc' := 178) (lc' := [(3, .int (nI (478 + (6 * k)))), (2, .int (nI k)), (0, .ref 0), (1, .int (nI s))]) (stk' := [.int ((nI o) + 1), .ref 0]) (mem' := fm ge6 tp bt at16 b) (by intro _ _ _; eq_refl) ?_
                rw [show ((nI o) + 1 : Int32) = nI (o + 1) from by simp only [show (1 : Int32) = nI 1 from rfl, nI_add, fm_mul]]
                obtain ⟨ve23, meme23, ⟨ke23, ae23, hke23, hDe23, hRe23⟩, hfre23⟩ := fr_behindEnds (k := o + 1) (N := N) (g := ge6) (tp := tp) (bt := bt) (a := at16) (b := b) hB hDt16 (by omega) hN hN6
                cases hRe23
                refine fe_ivV hfre23 (by omega) (by rfl) (by rfl) (by rfl) (by rfl) (by rfl) (by rfl) ?_
                refine fe_s 1 (pc' := 182) (lc' := [(2, .int (nI ke23)), (3, .int (nI (478 + (6 * k)))), (0, .ref 0), (1, .int (nI s))]) (stk' := []) (mem' := fm ge6 tp bt ae23 b) (by intro _ _ _; eq_refl) ?_
                refine fe_s 1 (pc' := fx_to 182 (-150)) (lc' := [(2, .int (nI ke23)), (3, .int (nI (478 + (6 * k)))), (0, .ref 0), (1, .int (nI s))]) (stk' := []) (mem' := fm ge6 tp bt ae23 b) (by intro _ _ _; eq_refl) ?_
                rw [show fx_to 182 (-150) = 32 from by decide]
                refine fe_w (lc' := [(2, .int (nI ke23)), (0, .ref 0), (1, .int (nI s))]) ⟨rfl, rfl, rfl, trivial⟩ (by show List.Nodup [2, 0, 1]; decide) (by show List.Nodup [2, 3, 0, 1]; decide) ?_
                exact ih (rs + 1) (ke23) (by omega) (by omega) _ _ _ _ (by omega) hDe23 hgfe6 hd36e6 (by omega) r37e6
              · refine fe_s 1 (pc' := cond (fx_cb .ne 1 0) 175 162) (lc' := [(3, .int (nI (478 + (6 * k)))), (2, .int (nI k)), (0, .ref 0), (1, .int (nI s))]) (stk' := [.ref 0]) (mem' := fm ge6 tp bt at16 b) (by intro _ _ _; eq_refl) ?_
                rw [show (fx_cb .ne 1 0) = true from by decide]
                dsimp only [cond]
                refine fe_s 3 (pc' := 178) (lc' := [(3, .int (nI (478 + (6 * k)))), (2, .int (nI k)), (0, .ref 0), (1, .int (nI s))]) (stk' := [.int ((nI k) + 1), .ref 0]) (mem' := fm ge6 tp bt at16 b) (by intro _ _ _; eq_refl) ?_
                rw [show ((nI k) + 1 : Int32) = nI (k + 1) from by simp only [show (1 : Int32) = nI 1 from rfl, nI_add, fm_mul]]
                obtain ⟨ve24, meme24, ⟨ke24, ae24, hke24, hDe24, hRe24⟩, hfre24⟩ := fr_behindEnds (k := k + 1) (N := N) (g := ge6) (tp := tp) (bt := bt) (a := at16) (b := b) hB hDt16 (by omega) hN hN6
                cases hRe24
                refine fe_ivV hfre24 (by omega) (by rfl) (by rfl) (by rfl) (by rfl) (by rfl) (by rfl) ?_
                refine fe_s 1 (pc' := 182) (lc' := [(2, .int (nI ke24)), (3, .int (nI (478 + (6 * k)))), (0, .ref 0), (1, .int (nI s))]) (stk' := []) (mem' := fm ge6 tp bt ae24 b) (by intro _ _ _; eq_refl) ?_
                refine fe_s 1 (pc' := fx_to 182 (-150)) (lc' := [(2, .int (nI ke24)), (3, .int (nI (478 + (6 * k)))), (0, .ref 0), (1, .int (nI s))]) (stk' := []) (mem' := fm ge6 tp bt ae24 b) (by intro _ _ _; eq_refl) ?_
                rw [show fx_to 182 (-150) = 32 from by decide]
                refine fe_w (lc' := [(2, .int (nI ke24)), (0, .ref 0), (1, .int (nI s))]) ⟨rfl, rfl, rfl, trivial⟩ (by show List.Nodup [2, 0, 1]; decide) (by show List.Nodup [2, 3, 0, 1]; decide) ?_
                exact ih (rs + 1) (ke24) (by omega) (by omega) _ _ _ _ (by omega) hDe24 hgfe6 hd36e6 (by omega) r37e6
theorem fr_lives {T s N : Nat} (hB : fm_B a0) (hD : fm_D a0 a T) (hT : T ≤ 9999) (hs : s ≤ 65535) (hN : a0 1 6 = nI N) (hN6 : N ≤ 60) : ∃ (v : Option Value) (mem' : fx_M), (fun R => ∃ (g' : Nat → Int32) (a' : Nat → Nat → Int32) (T' r' : Nat), T' ≤ 9999 ∧ r' ≤ 300 ∧ (∀ j, j ≠ 36 → j ≠ 37 → g' j = g j) ∧ g' 37 = nI r' ∧ fm_D a0 a' T' ∧ R = (none, fm g' tp bt a' b)) (v, mem') ∧ fr_T 12 365 [.ref 0, .int (nI s)] (fm g tp bt a b) v mem' := by
  refine fe_meth (F := fun R => ∃ (g' : Nat → Int32) (a' : Nat → Nat → Int32) (T' r' : Nat), T' ≤ 9999 ∧ r' ≤ 300 ∧ (∀ j, j ≠ 36 → j ≠ 37 → g' j = g j) ∧ g' 37 = nI r' ∧ fm_D a0 a' T' ∧ R = (none, fm g' tp bt a' b)) (M := gk_m365) (by rfl) (by rfl) ?_
  refine fe_s 10 (pc' := 14) (lc' := [(2, .int 0), (0, .ref 0), (1, .int (nI s))]) (stk' := [.int 5, .int 0]) (mem' := fm (upd (upd g 36 (nI s)) 37 0) tp bt a b) (by intro _ _ _; eq_refl) ?_
  refine fe_s 1 (pc' := cond (fx_cb .ge 0 5) 30 17) (lc' := [(2, .int 0), (0, .ref 0), (1, .int (nI s))]) (stk' := []) (mem' := fm (upd (upd g 36 (nI s)) 37 0) tp bt a b) (by intro _ _ _; eq_refl) ?_
  rw [show (fx_cb .ge 0 5) = false from by decide]
  dsimp only [cond]
  refine fe_s 4 (pc' := 23) (lc' := [(2, .int 0), (0, .ref 0), (1, .int (nI s))]) (stk' := [.int 0, .int 0, .ref 20]) (mem' := fm (upd (upd g 36 (nI s)) 37 0) tp bt a b) (by intro _ _ _; eq_refl) ?_
  refine fe_stI (mem' := fm (upd (upd g 36 (nI s)) 37 0) tp bt (fm_u a 20 (0 : Int32).toNatClampNeg 0) b) (by rfl) (by rfl) (fx_inN (i := 0) (by omega) (by omega)) fm_si20 ?_
  rw [show Int32.toNatClampNeg (0) = 0 from rfl]
  obtain ⟨at1, hat1⟩ : ∃ z, z = fm_u a 20 (0) 0 := ⟨_, rfl⟩
  rw [← hat1]
  have hDt1 : fm_D a0 at1 T := by rw [hat1]; exact fm_D_ot hD (by decide) (by decide) rfl
  refine fe_s 4 (pc' := 14) (lc' := [(2, .int (0 + 1)), (0, .ref 0), (1, .int (nI s))]) (stk' := [.int 5, .int (0 + 1)]) (mem' := fm (upd (upd g 36 (nI s)) 37 0) tp bt at1 b) (by intro _ _ _; eq_refl) ?_
  rw [show (0 + 1 : Int32) = 1 from rfl]
  refine fe_s 1 (pc' := cond (fx_cb .ge 1 5) 30 17) (lc' := [(2, .int 1), (0, .ref 0), (1, .int (nI s))]) (stk' := []) (mem' := fm (upd (upd g 36 (nI s)) 37 0) tp bt at1 b) (by intro _ _ _; eq_refl) ?_
  rw [show (fx_cb .ge 1 5) = false from by decide]
  dsimp only [cond]
  refine fe_s 4 (pc' := 23) (lc' := [(2, .int 1), (0, .ref 0), (1, .int (nI s))]) (stk' := [.int 0, .int 1, .ref 20]) (mem' := fm (upd (upd g 36 (nI s)) 37 0) tp bt at1 b) (by intro _ _ _; eq_refl) ?_
  refine fe_stI (mem' := fm (upd (upd g 36 (nI s)) 37 0) tp bt (fm_u at1 20 (1 : Int32).toNatClampNeg 0) b) (by rfl) (by rfl) (fx_inN (i := 1) (by omega) (by omega)) fm_si20 ?_
  rw [show Int32.toNatClampNeg (1) = 1 from rfl]
  obtain ⟨at2, hat2⟩ : ∃ z, z = fm_u at1 20 (1) 0 := ⟨_, rfl⟩
  rw [← hat2]
  have hDt2 : fm_D a0 at2 T := by rw [hat2]; exact fm_D_ot hDt1 (by decide) (by decide) rfl
  refine fe_s 4 (pc' := 14) (lc' := [(2, .int (1 + 1)), (0, .ref 0), (1, .int (nI s))]) (stk' := [.int 5, .int (1 + 1)]) (mem' := fm (upd (upd g 36 (nI s)) 37 0) tp bt at2 b) (by intro _ _ _; eq_refl) ?_
  rw [show (1 + 1 : Int32) = 2 from rfl]
  refine fe_s 1 (pc' := cond (fx_cb .ge 2 5) 30 17) (lc' := [(2, .int 2), (0, .ref 0), (1, .int (nI s))]) (stk' := []) (mem' := fm (upd (upd g 36 (nI s)) 37 0) tp bt at2 b) (by intro _ _ _; eq_refl) ?_
  rw [show (fx_cb .ge 2 5) = false from by decide]
  dsimp only [cond]
  refine fe_s 4 (pc' := 23) (lc' := [(2, .int 2), (0, .ref 0), (1, .int (nI s))]) (stk' := [.int 0, .int 2, .ref 20]) (mem' := fm (upd (upd g 36 (nI s)) 37 0) tp bt at2 b) (by intro _ _ _; eq_refl) ?_
  refine fe_stI (mem' := fm (upd (upd g 36 (nI s)) 37 0) tp bt (fm_u at2 20 (2 : Int32).toNatClampNeg 0) b) (by rfl) (by rfl) (fx_inN (i := 2) (by omega) (by omega)) fm_si20 ?_
  rw [show Int32.toNatClampNeg (2) = 2 from rfl]
  obtain ⟨at3, hat3⟩ : ∃ z, z = fm_u at2 20 (2) 0 := ⟨_, rfl⟩
  rw [← hat3]
  have hDt3 : fm_D a0 at3 T := by rw [hat3]; exact fm_D_ot hDt2 (by decide) (by decide) rfl
  refine fe_s 4 (pc' := 14) (lc' := [(2, .int (2 + 1)), (0, .ref 0), (1, .int (nI s))]) (stk' := [.int 5, .int (2 + 1)]) (mem' := fm (upd (upd g 36 (nI s)) 37 0) tp bt at3 b) (by intro _ _ _; eq_refl) ?_
  rw [show (2 + 1 : Int32) = 3 from rfl]
  refine fe_s 1 (pc' := cond (fx_cb .ge 3 5) 30 17) (lc' := [(2, .int 3), (0, .ref 0), (1, .int (nI s))]) (stk' := []) (mem' := fm (upd (upd g 36 (nI s)) 37 0) tp bt at3 b) (by intro _ _ _; eq_refl) ?_
  rw [show (fx_cb .ge 3 5) = false from by decide]
  dsimp only [cond]
  refine fe_s 4 (pc' := 23) (lc' := [(2, .int 3), (0, .ref 0), (1, .int (nI s))]) (stk' := [.int 0, .int 3, .ref 20]) (mem' := fm (upd (upd g 36 (nI s)) 37 0) tp bt at3 b) (by intro _ _ _; eq_refl) ?_
  refine fe_stI (mem' := fm (upd (upd g 36 (nI s)) 37 0) tp bt (fm_u at3 20 (3 : Int32).toNatClampNeg 0) b) (by rfl) (by rfl) (fx_inN (i := 3) (by omega) (by omega)) fm_si20 ?_
  rw [show Int32.toNatClampNeg (3) = 3 from rfl]
  obtain ⟨at4, hat4⟩ : ∃ z, z = fm_u at3 20 (3) 0 := ⟨_, rfl⟩
  rw [← hat4]
  have hDt4 : fm_D a0 at4 T := by rw [hat4]; exact fm_D_ot hDt3 (by decide) (by decide) rfl
  refine fe_s 4 (pc' := 14) (lc' := [(2, .int (3 + 1)), (0, .ref 0), (1, .int (nI s))]) (stk' := [.int 5, .int (3 + 1)]) (mem' := fm (upd (upd g 36 (nI s)) 37 0) tp bt at4 b) (by intro _ _ _; eq_refl) ?_
  rw [show (3 + 1 : Int32) = 4 from rfl]
  refine fe_s 1 (pc' := cond (fx_cb .ge 4 5) 30 17) (lc' := [(2, .int 4), (0, .ref 0), (1, .int (nI s))]) (stk' := []) (mem' := fm (upd (upd g 36 (nI s)) 37 0) tp bt at4 b) (by intro _ _ _; eq_refl) ?_
  rw [show (fx_cb .ge 4 5) = false from by decide]
  dsimp only [cond]
  refine fe_s 4 (pc' := 23) (lc' := [(2, .int 4), (0, .ref 0), (1, .int (nI s))]) (stk' := [.int 0, .int 4, .ref 20]) (mem' := fm (upd (upd g 36 (nI s)) 37 0) tp bt at4 b) (by intro _ _ _; eq_refl) ?_
  refine fe_stI (mem' := fm (upd (upd g 36 (nI s)) 37 0) tp bt (fm_u at4 20 (4 : Int32).toNatClampNeg 0) b) (by rfl) (by rfl) (fx_inN (i := 4) (by omega) (by omega)) fm_si20 ?_
  rw [show Int32.toNatClampNeg (4) = 4 from rfl]
  obtain ⟨at5, hat5⟩ : ∃ z, z = fm_u at4 20 (4) 0 := ⟨_, rfl⟩
  rw [← hat5]
  have hDt5 : fm_D a0 at5 T := by rw [hat5]; exact fm_D_ot hDt4 (by decide) (by decide) rfl
  refine fe_s 4 (pc' := 14) (lc' := [(2, .int (4 + 1)), (0, .ref 0), (1, .int (nI s))]) (stk' := [.int 5, .int (4 + 1)]) (mem' := fm (upd (upd g 36 (nI s)) 37 0) tp bt at5 b) (by intro _ _ _; eq_refl) ?_
  rw [show (4 + 1 : Int32) = 5 from rfl]
  refine fe_s 1 (pc' := cond (fx_cb .ge 5 5) 30 17) (lc' := [(2, .int 5), (0, .ref 0), (1, .int (nI s))]) (stk' := []) (mem' := fm (upd (upd g 36 (nI s)) 37 0) tp bt at5 b) (by intro _ _ _; eq_refl) ?_
  rw [show (fx_cb .ge 5 5) = true from by decide]
  dsimp only [cond]
  refine fe_s 2 (pc' := 32) (lc' := [(2, .int 0), (0, .ref 0), (1, .int (nI s))]) (stk' := []) (mem' := fm (upd (upd g 36 (nI s)) 37 0) tp bt at5 b) (by intro _ _ _; eq_refl) ?_
  refine fe_w (lc' := [(2, .int (nI 0)), (0, .ref 0), (1, .int (nI s))]) ⟨rfl, rfl, rfl, trivial⟩ (by show List.Nodup [2, 0, 1]; decide) (by show List.Nodup [2, 0, 1]; decide) ?_
  exact li_32 hB hN hN6 300 0 0 (by omega) (by omega) _ _ s _ hT hDt5 (fun j h6 h7 => (pk_un h7).trans (pk_un h6)) ((pk_un (by decide)).trans pk_us) hs pk_us
end FLW
end MH8_0
section MH8_1
/-! ===== fx: live, mean ===== -/
section FLM
variable {g : Nat → Int32} {tp bt : Int64} {a0 a : Nat → Nat → Int32} {b : Nat → Nat → Int64}
theorem fm_6 {a : Nat → Nat → Int32} (hB : fm_B a) : a 1 6 = -1 ∨ ∃ N, N ≤ 60 ∧ a 1 6 = nI N := by
  have h := hB.1 6 (by decide)
  unfold fm_bd at h
  rw [show gm_at 6 = (-1, 60) from rfl] at h
  obtain ⟨h1, h2⟩ := h
  by_cases e : (a 1 6).toInt = -1
  · exact Or.inl (Int32.toInt_inj.mp e)
  · have h3 : (-1 : Int) ≤ (a 1 6).toInt := h1
    have h4 : (a 1 6).toInt ≤ (60 : Int) := h2
    exact Or.inr (nI_bd (n := 60) (by omega) h4)
theorem fm_G_lv {g g1 g2 : Nat → Int32} {r : Nat} (h : fm_G g g1) (hf : ∀ j, j ≠ 36 → j ≠ 37 → g2 j = g1 j) (h37 : g2 37 = nI r) (hr : r ≤ 300) : fm_G g g2 := by
  obtain ⟨k1, k2, k3, k4, k5⟩ := h
  refine ⟨fun j hj => ?_, ?_, ?_, ?_, ?_⟩
  · rw [hf j (fun e => by subst e; exact absurd hj (by decide)) (fun e => by subst e; exact absurd hj (by decide))]; exact k1 j hj
  · rw [hf 2 (by decide) (by decide)]; exact k2
  · rw [hf 30 (by decide) (by decide)]; exact k3
  · rw [h37, nI_i32 (by omega)]; omega
  · rw [hf 41 (by decide) (by decide)]; exact k5
theorem fm_E_K {a a0 a9 : Nat → Nat → Int32} {to T : Nat} (hto : 3368 ≤ to) (hK : fm_K a a0 to) (hB : fm_B a0) (hD : fm_D a0 a9 T) (hT : T ≤ 9999) : fm_E a a9 := ⟨fm_D_B hB hD hT, fun t ht => (hD.1 t (fm_okE_t ht)).trans (hK.1 t (fun e => by subst e; exact absurd ht (by decide))), fun i hi => (hD.2.1 i (fm_st_5 hi) (fm_st_d hi)).trans (hK.2.1 i (by have := fm_st_n hi; omega))⟩
theorem fm_i64n {m : Nat} (h1 : 1 ≤ m) (h2 : m < 2147483648) : ¬ (nI m).toInt64 = 0 := fun z => by
  have := congrArg Int64.toInt z
  rw [Int32.toInt_toInt64, nI_i32 h2, show ((0 : Int64).toInt) = 0 from rfl] at this
  omega
set_option maxRecDepth 20000 in
theorem fr_live {sd : Int32} (hBa : fm_B a) (hgb : fm_gb g) : ∃ (v : Option Value) (mem' : fx_M), (fm_PO g tp bt a b) (v, mem') ∧ fr_T 13 366 [.ref 0, .int sd] (fm g tp bt a b) v mem' := by
  have hG := fm_G_rf hgb
  have hB := hBa
  obtain ⟨NC, hNC, eNC⟩ := fm_B_0 hB (i := 0) (n := 10) (by decide) rfl
  obtain ⟨NW, hNW, eNW⟩ := fm_B_0 hB (i := 1) (n := 8) (by decide) rfl
  obtain ⟨NG, hNG, eNG⟩ := fm_B_0 hB (i := 3) (n := 20) (by decide) rfl
  obtain ⟨T, hT9, eT⟩ := fm_T5 hB
  have hD : fm_D a a T := fm_D_rf hB eT (by omega)
  refine fe_meth (F := fm_PO g tp bt a b) (M := gk_m366) (by rfl) (by rfl) ?_
  refine fe_s 4 (pc' := 6) (lc' := [(0, .ref 0), (1, .int sd)]) (stk' := [.long 9999, .long (0 : Int64), .long (sd.toInt64)]) (mem' := fm g tp bt a b) (by intro _ _ _; eq_refl) ?_
  obtain ⟨vf1, memf1, ⟨xf1, hxf1, hRf1⟩, hfrf1⟩ := fr_isFrom (v := sd.toInt64) (l := (0 : Int64)) (m := 9999) (mem := fm g tp bt a b)
  cases hRf1
  refine fe_ivS hfrf1 (by omega) (by rfl) (by rfl) (by rfl) (by rfl) (by rfl) ?_
  rcases hxf1 with ⟨rfl, -⟩ | ⟨rfl, hlf1, hmf1⟩
  · refine fe_s 1 (pc' := cond (fx_cb .ne 0 0) 18 12) (lc' := [(0, .ref 0), (1, .int sd)]) (stk' := []) (mem' := fm g tp bt a b) (by intro _ _ _; eq_refl) ?_
    rw [show (fx_cb .ne 0 0) = false from by decide]
    dsimp only [cond]
    refine fe_s 2 (pc' := 14) (lc' := [(0, .ref 0), (1, .int sd)]) (stk' := [.int 1, .ref 0]) (mem' := fm g tp bt a b) (by intro _ _ _; eq_refl) ?_
    refine fe_ivV (fr_refuse (x := 1)) (by omega) (by rfl) (by rfl) (by rfl) (by rfl) (by rfl) (by rfl) ?_
    exact fe_ret ⟨_, _, _, _, _, _, (fm_E_rf hBa), (fm_G_2 hG (by decide) (by decide)), (fun _ _ _ => rfl), rfl⟩ (by rfl) (by rfl) (by rfl)
  · obtain ⟨s, hs, rfl⟩ : ∃ qq, qq ≤ 9999 ∧ sd = nI qq := by
      rw [Int32.toInt_toInt64] at hlf1 hmf1
      rw [show (((9999 : Int64)).toInt) = 9999 from rfl] at hmf1
      rw [show (((0 : Int64)).toInt) = 0 from rfl] at hlf1
      exact nI_bd (n := 9999) (by omega) hmf1
    refine fe_s 1 (pc' := cond (fx_cb .ne 1 0) 18 12) (lc' := [(0, .ref 0), (1, .int (nI s))]) (stk' := []) (mem' := fm g tp bt a b) (by intro _ _ _; eq_refl) ?_
    rw [show (fx_cb .ne 1 0) = true from by decide]
    dsimp only [cond]
    refine fe_s 3 (pc' := 24) (lc' := [(0, .ref 0), (1, .int (nI s))]) (stk' := [.int 6, .ref 1]) (mem' := fm g tp bt a b) (by intro _ _ _; eq_refl) ?_
    refine fe_ldI (by rfl) (by rfl) (fx_inN (i := 6) (by omega) (by omega)) ?_
    rw [show Int32.toNatClampNeg (6) = 6 from rfl]
    rcases fm_6 hBa with e6 | ⟨N, hN6, e6⟩
    · rw [show a 1 6 = -1 from e6]
      refine fe_s 1 (pc' := 26) (lc' := [(0, .ref 0), (1, .int (nI s))]) (stk' := [.int (-1), .int (-1)]) (mem' := fm g tp bt a b) (by intro _ _ _; eq_refl) ?_
      refine fe_s 1 (pc' := cond (fx_cb .ne (-1) (-1)) 36 29) (lc' := [(0, .ref 0), (1, .int (nI s))]) (stk' := []) (mem' := fm g tp bt a b) (by intro _ _ _; eq_refl) ?_
      rw [show (fx_cb .ne (-1) (-1)) = false from by decide]
      dsimp only [cond]
      refine fe_s 2 (pc' := 32) (lc' := [(0, .ref 0), (1, .int (nI s))]) (stk' := [.int 6, .ref 0]) (mem' := fm g tp bt a b) (by intro _ _ _; eq_refl) ?_
      refine fe_ivV (fr_refuse (x := 6)) (by omega) (by rfl) (by rfl) (by rfl) (by rfl) (by rfl) (by rfl) ?_
      exact fe_ret ⟨_, _, _, _, _, _, (fm_E_rf hBa), (fm_G_2 hG (by decide) (by decide)), (fun _ _ _ => rfl), rfl⟩ (by rfl) (by rfl) (by rfl)
    · rw [show a 1 6 = nI N from e6]
      refine fe_s 1 (pc' := 26) (lc' := [(0, .ref 0), (1, .int (nI s))]) (stk' := [.int (-1), .int (nI N)]) (mem' := fm g tp bt a b) (by intro _ _ _; eq_refl) ?_
      refine fe_s 1 (pc' := cond (fx_cb .ne (nI N) (-1)) 36 29) (lc' := [(0, .ref 0), (1, .int (nI s))]) (stk' := []) (mem' := fm g tp bt a b) (by intro _ _ _; eq_refl) ?_
      rw [show (fx_cb .ne (nI N) (-1)) = true from cb_n_ne (by omega) (by decide)]
      dsimp only [cond]
      refine fe_s 2 (pc' := 38) (lc' := [(0, .ref 0), (1, .int (nI s))]) (stk' := [.int (nI s), .ref 0]) (mem' := fm g tp bt a b) (by intro _ _ _; eq_refl) ?_
      obtain ⟨ve2, meme2, ⟨ge2, ae2, Te2, re2, hTe2, hre2, hge2, h37e2, hDe2, hRe2⟩, hfre2⟩ := fr_lives (s := s) (N := N) (g := g) (tp := tp) (bt := bt) (a := a) (b := b) hB hD (by omega) (by omega) e6 hN6
      cases hRe2
      have hGe2 := fm_G_lv hG hge2 h37e2 hre2
      refine fe_ivV hfre2 (by omega) (by rfl) (by rfl) (by rfl) (by rfl) (by rfl) (by rfl) ?_
      refine fe_s 4 (pc' := 45) (lc' := [(2, .int 0), (0, .ref 0), (1, .int (nI s))]) (stk' := [.int 5, .int 0]) (mem' := fm ge2 tp bt ae2 b) (by intro _ _ _; eq_refl) ?_
      refine fe_s 1 (pc' := cond (fx_cb .ge 0 5) 66 48) (lc' := [(2, .int 0), (0, .ref 0), (1, .int (nI s))]) (stk' := []) (mem' := fm ge2 tp bt ae2 b) (by intro _ _ _; eq_refl) ?_
      rw [show (fx_cb .ge 0 5) = false from by decide]
      dsimp only [cond]
      refine fe_s 6 (pc' := 58) (lc' := [(2, .int 0), (0, .ref 0), (1, .int (nI s))]) (stk' := [.int 0, .ref 20, .int 0, .ref 21]) (mem' := fm ge2 tp bt ae2 b) (by intro _ _ _; eq_refl) ?_
      refine fe_ldI (by rfl) (by rfl) (fx_inN (i := 0) (by omega) (by omega)) ?_
      rw [show Int32.toNatClampNeg (0) = 0 from rfl]
      refine fe_stI (mem' := fm ge2 tp bt (fm_u ae2 21 (0 : Int32).toNatClampNeg (ae2 20 0)) b) (by rfl) (by rfl) (fx_inN (i := 0) (by omega) (by omega)) fm_si21 ?_
      rw [show Int32.toNatClampNeg (0) = 0 from rfl]
      obtain ⟨at3, hat3⟩ : ∃ z, z = fm_u ae2 21 (0) (ae2 20 0) := ⟨_, rfl⟩
      rw [← hat3]
      have hDt3 : fm_D a at3 Te2 := by rw [hat3]; exact fm_D_ot hDe2 (by decide) (by decide) rfl
      refine fe_s 4 (pc' := 45) (lc' := [(2, .int (0 + 1)), (0, .ref 0), (1, .int (nI s))]) (stk' := [.int 5, .int (0 + 1)]) (mem' := fm ge2 tp bt at3 b) (by intro _ _ _; eq_refl) ?_
      rw [show (0 + 1 : Int32) = 1 from rfl]
      refine fe_s 1 (pc' := cond (fx_cb .ge 1 5) 66 48) (lc' := [(2, .int 1), (0, .ref 0), (1, .int (nI s))]) (stk' := []) (mem' := fm ge2 tp bt at3 b) (by intro _ _ _; eq_refl) ?_
      rw [show (fx_cb .ge 1 5) = false from by decide]
      dsimp only [cond]
      refine fe_s 6 (pc' := 58) (lc' := [(2, .int 1), (0, .ref 0), (1, .int (nI s))]) (stk' := [.int 1, .ref 20, .int 1, .ref 21]) (mem' := fm ge2 tp bt at3 b) (by intro _ _ _; eq_refl) ?_
      refine fe_ldI (by rfl) (by rfl) (fx_inN (i := 1) (by omega) (by omega)) ?_
      rw [show Int32.toNatClampNeg (1) = 1 from rfl]
      refine fe_stI (mem' := fm ge2 tp bt (fm_u at3 21 (1 : Int32).toNatClampNeg (at3 20 1)) b) (by rfl) (by rfl) (fx_inN (i := 1) (by omega) (by omega)) fm_si21 ?_
      rw [show Int32.toNatClampNeg (1) = 1 from rfl]
      obtain ⟨at4, hat4⟩ : ∃ z, z = fm_u at3 21 (1) (at3 20 1) := ⟨_, rfl⟩
      rw [← hat4]
      have hDt4 : fm_D a at4 Te2 := by rw [hat4]; exact fm_D_ot hDt3 (by decide) (by decide) rfl
      refine fe_s 4 (pc' := 45) (lc' := [(2, .int (1 + 1)), (0, .ref 0), (1, .int (nI s))]) (stk' := [.int 5, .int (1 + 1)]) (mem' := fm ge2 tp bt at4 b) (by intro _ _ _; eq_refl) ?_
      rw [show (1 + 1 : Int32) = 2 from rfl]
      refine fe_s 1 (pc' := cond (fx_cb .ge 2 5) 66 48) (lc' := [(2, .int 2), (0, .ref 0), (1, .int (nI s))]) (stk' := []) (mem' := fm ge2 tp bt at4 b) (by intro _ _ _; eq_refl) ?_
      rw [show (fx_cb .ge 2 5) = false from by decide]
      dsimp only [cond]
      refine fe_s 6 (pc' := 58) (lc' := [(2, .int 2), (0, .ref 0), (1, .int (nI s))]) (stk' := [.int 2, .ref 20, .int 2, .ref 21]) (mem' := fm ge2 tp bt at4 b) (by intro _ _ _; eq_refl) ?_
      refine fe_ldI (by rfl) (by rfl) (fx_inN (i := 2) (by omega) (by omega)) ?_
      rw [show Int32.toNatClampNeg (2) = 2 from rfl]
      refine fe_stI (mem' := fm ge2 tp bt (fm_u at4 21 (2 : Int32).toNatClampNeg (at4 20 2)) b) (by rfl) (by rfl) (fx_inN (i := 2) (by omega) (by omega)) fm_si21 ?_
      rw [show Int32.toNatClampNeg (2) = 2 from rfl]
      obtain ⟨at5, hat5⟩ : ∃ z, z = fm_u at4 21 (2) (at4 20 2) := ⟨_, rfl⟩
      rw [← hat5]
      have hDt5 : fm_D a at5 Te2 := by rw [hat5]; exact fm_D_ot hDt4 (by decide) (by decide) rfl
      refine fe_s 4 (pc' := 45) (lc' := [(2, .int (2 + 1)), (0, .ref 0), (1, .int (nI s))]) (stk' := [.int 5, .int (2 + 1)]) (mem' := fm ge2 tp bt at5 b) (by intro _ _ _; eq_refl) ?_
      rw [show (2 + 1 : Int32) = 3 from rfl]
      refine fe_s 1 (pc' := cond (fx_cb .ge 3 5) 66 48) (lc' := [(2, .int 3), (0, .ref 0), (1, .int (nI s))]) (stk' := []) (mem' := fm ge2 tp bt at5 b) (by intro _ _ _; eq_refl) ?_
      rw [show (fx_cb .ge 3 5) = false from by decide]
      dsimp only [cond]
      refine fe_s 6 (pc' := 58) (lc' := [(2, .int 3), (0, .ref 0), (1, .int (nI s))]) (stk' := [.int 3, .ref 20, .int 3, .ref 21]) (mem' := fm ge2 tp bt at5 b) (by intro _ _ _; eq_refl) ?_
      refine fe_ldI (by rfl) (by rfl) (fx_inN (i := 3) (by omega) (by omega)) ?_
      rw [show Int32.toNatClampNeg (3) = 3 from rfl]
      refine fe_stI (mem' := fm ge2 tp bt (fm_u at5 21 (3 : Int32).toNatClampNeg (at5 20 3)) b) (by rfl) (by rfl) (fx_inN (i := 3) (by omega) (by omega)) fm_si21 ?_
      rw [show Int32.toNatClampNeg (3) = 3 from rfl]
      obtain ⟨at6, hat6⟩ : ∃ z, z = fm_u at5 21 (3) (at5 20 3) := ⟨_, rfl⟩
      rw [← hat6]
      have hDt6 : fm_D a at6 Te2 := by rw [hat6]; exact fm_D_ot hDt5 (by decide) (by decide) rfl
      refine fe_s 4 (pc' := 45) (lc' := [(2, .int (3 + 1)), (0, .ref 0), (1, .int (nI s))]) (stk' := [.int 5, .int (3 + 1)]) (mem' := fm ge2 tp bt at6 b) (by intro _ _ _; eq_refl) ?_
      rw [show (3 + 1 : Int32) = 4 from rfl]
      refine fe_s 1 (pc' := cond (fx_cb .ge 4 5) 66 48) (lc' := [(2, .int 4), (0, .ref 0), (1, .int (nI s))]) (stk' := []) (mem' := fm ge2 tp bt at6 b) (by intro _ _ _; eq_refl) ?_
      rw [show (fx_cb .ge 4 5) = false from by decide]
      dsimp only [cond]
      refine fe_s 6 (pc' := 58) (lc' := [(2, .int 4), (0, .ref 0), (1, .int (nI s))]) (stk' := [.int 4, .ref 20, .int 4, .ref 21]) (mem' := fm ge2 tp bt at6 b) (by intro _ _ _; eq_refl) ?_
      refine fe_ldI (by rfl) (by rfl) (fx_inN (i := 4) (by omega) (by omega)) ?_
      rw [show Int32.toNatClampNeg (4) = 4 from rfl]
      refine fe_stI (mem' := fm ge2 tp bt (fm_u at6 21 (4 : Int32).toNatClampNeg (at6 20 4)) b) (by rfl) (by rfl) (fx_inN (i := 4) (by omega) (by omega)) fm_si21 ?_
      rw [show Int32.toNatClampNeg (4) = 4 from rfl]
      obtain ⟨at7, hat7⟩ : ∃ z, z = fm_u at6 21 (4) (at6 20 4) := ⟨_, rfl⟩
      rw [← hat7]
      have hDt7 : fm_D a at7 Te2 := by rw [hat7]; exact fm_D_ot hDt6 (by decide) (by decide) rfl
      refine fe_s 4 (pc' := 45) (lc' := [(2, .int (4 + 1)), (0, .ref 0), (1, .int (nI s))]) (stk' := [.int 5, .int (4 + 1)]) (mem' := fm ge2 tp bt at7 b) (by intro _ _ _; eq_refl) ?_
      rw [show (4 + 1 : Int32) = 5 from rfl]
      refine fe_s 1 (pc' := cond (fx_cb .ge 5 5) 66 48) (lc' := [(2, .int 5), (0, .ref 0), (1, .int (nI s))]) (stk' := []) (mem' := fm ge2 tp bt at7 b) (by intro _ _ _; eq_refl) ?_
      rw [show (fx_cb .ge 5 5) = true from by decide]
      dsimp only [cond]
      refine fe_s 6 (pc' := 76) (lc' := [(2, .int 5), (0, .ref 0), (1, .int (nI s))]) (stk' := [.int (ge2 37), .ref 0]) (mem' := fm (upd ge2 41 1) tp bt at7 b) (by intro _ _ _; eq_refl) ?_
      try rw [h37e2]
      refine fe_ivV (fr_gives (x := nI re2)) (by omega) (by rfl) (by rfl) (by rfl) (by rfl) (by rfl) (by rfl) ?_
      exact fe_ret ⟨_, _, _, _, _, _, fm_E_D hB hDt7 (by omega), (fm_G_2 (fm_G_41 hGe2) (by decide) (by decide)), (fun _ _ _ => rfl), rfl⟩ (by rfl) (by rfl) (by rfl)
set_option maxRecDepth 20000 in
theorem fr_mean {sd my : Int32} (hBa : fm_B a) (hgb : fm_gb g) : ∃ (v : Option Value) (mem' : fx_M), (fm_PZ g tp bt a b) (v, mem') ∧ fr_T 14 368 [.ref 0, .int sd, .int my] (fm g tp bt a b) v mem' := by
  have hG := fm_G_rf hgb
  refine fe_meth (F := fm_PZ g tp bt a b) (M := gk_m368) (by rfl) (by rfl) ?_
  refine fe_s 4 (pc' := 6) (lc' := [(0, .ref 0), (1, .int sd), (2, .int my)]) (stk' := [.long 9999, .long (0 : Int64), .long (sd.toInt64)]) (mem' := fm g tp bt a b) (by intro _ _ _; eq_refl) ?_
  obtain ⟨vf1, memf1, ⟨xf1, hxf1, hRf1⟩, hfrf1⟩ := fr_isFrom (v := sd.toInt64) (l := (0 : Int64)) (m := 9999) (mem := fm g tp bt a b)
  cases hRf1
  refine fe_ivS hfrf1 (by omega) (by rfl) (by rfl) (by rfl) (by rfl) (by rfl) ?_
  rcases hxf1 with ⟨rfl, -⟩ | ⟨rfl, hlf1, hmf1⟩
  · refine fe_s 1 (pc' := cond (fx_cb .eq 0 0) 35 12) (lc' := [(0, .ref 0), (1, .int sd), (2, .int my)]) (stk' := []) (mem' := fm g tp bt a b) (by intro _ _ _; eq_refl) ?_
    rw [show (fx_cb .eq 0 0) = true from by decide]
    dsimp only [cond]
    refine fe_s 2 (pc' := 37) (lc' := [(0, .ref 0), (1, .int sd), (2, .int my)]) (stk' := [.int 1, .ref 0]) (mem' := fm g tp bt a b) (by intro _ _ _; eq_refl) ?_
    refine fe_ivV fr_isx1 (by omega) (by rfl) (by rfl) (by rfl) (by rfl) (by rfl) (by rfl) ?_
    exact fe_ret ⟨_, _, _, _, _, _, Or.inl rfl, (fm_E_rf hBa), (fm_G_2 hG (by decide) (by decide)), (fun _ _ _ => rfl), rfl⟩ (by rfl) (by rfl) (by rfl)
  · obtain ⟨s, hs, rfl⟩ : ∃ qq, qq ≤ 9999 ∧ sd = nI qq := by
      rw [Int32.toInt_toInt64] at hlf1 hmf1
      rw [show (((9999 : Int64)).toInt) = 9999 from rfl] at hmf1
      rw [show (((0 : Int64)).toInt) = 0 from rfl] at hlf1
      exact nI_bd (n := 9999) (by omega) hmf1
    refine fe_s 1 (pc' := cond (fx_cb .eq 1 0) 35 12) (lc' := [(0, .ref 0), (1, .int (nI s)), (2, .int my)]) (stk' := []) (mem' := fm g tp bt a b) (by intro _ _ _; eq_refl) ?_
    rw [show (fx_cb .eq 1 0) = false from by decide]
    dsimp only [cond]
    refine fe_s 4 (pc' := 18) (lc' := [(0, .ref 0), (1, .int (nI s)), (2, .int my)]) (stk' := [.long 20, .long (1 : Int64), .long (my.toInt64)]) (mem' := fm g tp bt a b) (by intro _ _ _; eq_refl) ?_
    obtain ⟨vf2, memf2, ⟨xf2, hxf2, hRf2⟩, hfrf2⟩ := fr_isFrom (v := my.toInt64) (l := (1 : Int64)) (m := 20) (mem := fm g tp bt a b)
    cases hRf2
    refine fe_ivS hfrf2 (by omega) (by rfl) (by rfl) (by rfl) (by rfl) (by rfl) ?_
    rcases hxf2 with ⟨rfl, -⟩ | ⟨rfl, hlf2, hmf2⟩
    · refine fe_s 1 (pc' := cond (fx_cb .eq 0 0) 35 24) (lc' := [(0, .ref 0), (1, .int (nI s)), (2, .int my)]) (stk' := []) (mem' := fm g tp bt a b) (by intro _ _ _; eq_refl) ?_
      rw [show (fx_cb .eq 0 0) = true from by decide]
      dsimp only [cond]
      refine fe_s 2 (pc' := 37) (lc' := [(0, .ref 0), (1, .int (nI s)), (2, .int my)]) (stk' := [.int 1, .ref 0]) (mem' := fm g tp bt a b) (by intro _ _ _; eq_refl) ?_
      refine fe_ivV fr_isx1 (by omega) (by rfl) (by rfl) (by rfl) (by rfl) (by rfl) (by rfl) ?_
      exact fe_ret ⟨_, _, _, _, _, _, Or.inl rfl, (fm_E_rf hBa), (fm_G_2 hG (by decide) (by decide)), (fun _ _ _ => rfl), rfl⟩ (by rfl) (by rfl) (by rfl)
    · obtain ⟨m, hm, rfl⟩ : ∃ qq, qq ≤ 20 ∧ my = nI qq := by
        rw [Int32.toInt_toInt64] at hlf2 hmf2
        rw [show (((20 : Int64)).toInt) = 20 from rfl] at hmf2
        rw [show (((1 : Int64)).toInt) = 1 from rfl] at hlf2
        exact nI_bd (n := 20) (by omega) hmf2
      have h1m : 1 ≤ m := by
        rw [Int32.toInt_toInt64, nI_i32 (by omega), show (((1 : Int64)).toInt) = 1 from rfl] at hlf2; omega
      refine fe_s 1 (pc' := cond (fx_cb .eq 1 0) 35 24) (lc' := [(0, .ref 0), (1, .int (nI s)), (2, .int (nI m))]) (stk' := []) (mem' := fm g tp bt a b) (by intro _ _ _; eq_refl) ?_
      rw [show (fx_cb .eq 1 0) = false from by decide]
      dsimp only [cond]
      refine fe_s 6 (pc' := 32) (lc' := [(0, .ref 0), (1, .int (nI s)), (2, .int (nI m))]) (stk' := [.int 9999, .int (((nI s) + (nI m)) - 1)]) (mem' := fm g tp bt a b) (by intro _ _ _; eq_refl) ?_
      rw [show (((nI s) + (nI m)) - 1 : Int32) = nI ((s + m) - 1) from by simp only [show (1 : Int32) = nI 1 from rfl, tg_sub2 (x := s + m) (y := 1) (by omega), nI_add, fm_mul]]
      refine fe_s 1 (pc' := cond (fx_cb .le (nI ((s + m) - 1)) 9999) 41 35) (lc' := [(0, .ref 0), (1, .int (nI s)), (2, .int (nI m))]) (stk' := []) (mem' := fm g tp bt a b) (by intro _ _ _; eq_refl) ?_
      by_cases h3 : ((s + m) - 1) ≤ 9999
      · rw [show (fx_cb .le (nI ((s + m) - 1)) 9999) = true from cb_leT (a := (s + m) - 1) (b := 9999) (by omega) (by omega) (by omega)]
        dsimp only [cond]
        refine fe_s 3 (pc' := 47) (lc' := [(0, .ref 0), (1, .int (nI s)), (2, .int (nI m))]) (stk' := [.int 6, .ref 1]) (mem' := fm g tp bt a b) (by intro _ _ _; eq_refl) ?_
        refine fe_ldI (by rfl) (by rfl) (fx_inN (i := 6) (by omega) (by omega)) ?_
        rw [show Int32.toNatClampNeg (6) = 6 from rfl]
        rcases fm_6 hBa with e6 | ⟨N, hN6, e6⟩
        · rw [show a 1 6 = -1 from e6]
          refine fe_s 1 (pc' := 49) (lc' := [(0, .ref 0), (1, .int (nI s)), (2, .int (nI m))]) (stk' := [.int (-1), .int (-1)]) (mem' := fm g tp bt a b) (by intro _ _ _; eq_refl) ?_
          refine fe_s 1 (pc' := cond (fx_cb .ne (-1) (-1)) 59 52) (lc' := [(0, .ref 0), (1, .int (nI s)), (2, .int (nI m))]) (stk' := []) (mem' := fm g tp bt a b) (by intro _ _ _; eq_refl) ?_
          rw [show (fx_cb .ne (-1) (-1)) = false from by decide]
          dsimp only [cond]
          refine fe_s 2 (pc' := 55) (lc' := [(0, .ref 0), (1, .int (nI s)), (2, .int (nI m))]) (stk' := [.int 6, .ref 0]) (mem' := fm g tp bt a b) (by intro _ _ _; eq_refl) ?_
          refine fe_ivV fr_isx6 (by omega) (by rfl) (by rfl) (by rfl) (by rfl) (by rfl) (by rfl) ?_
          exact fe_ret ⟨_, _, _, _, _, _, Or.inl rfl, (fm_E_rf hBa), (fm_G_2 hG (by decide) (by decide)), (fun _ _ _ => rfl), rfl⟩ (by rfl) (by rfl) (by rfl)
        · rw [show a 1 6 = nI N from e6]
          refine fe_s 1 (pc' := 49) (lc' := [(0, .ref 0), (1, .int (nI s)), (2, .int (nI m))]) (stk' := [.int (-1), .int (nI N)]) (mem' := fm g tp bt a b) (by intro _ _ _; eq_refl) ?_
          refine fe_s 1 (pc' := cond (fx_cb .ne (nI N) (-1)) 59 52) (lc' := [(0, .ref 0), (1, .int (nI s)), (2, .int (nI m))]) (stk' := []) (mem' := fm g tp bt a b) (by intro _ _ _; eq_refl) ?_
          rw [show (fx_cb .ne (nI N) (-1)) = true from cb_n_ne (by omega) (by decide)]
          dsimp only [cond]
          refine fe_s 2 (pc' := 63) (lc' := [(0, .ref 0), (1, .int (nI s)), (2, .int (nI m))]) (stk' := [.int 4210, .ref 0]) (mem' := fm g tp bt a b) (by intro _ _ _; eq_refl) ?_
          obtain ⟨vK, memK, ⟨a0, hK, hRK⟩, hfrK⟩ := fr_keeps4210 (g := g) (tp := tp) (bt := bt) (a := a) (b := b)
          cases hRK
          have hB : fm_B a0 := fm_kept hBa (by decide) hK
          obtain ⟨NC, hNC, eNC⟩ := fm_B_0 hB (i := 0) (n := 10) (by decide) rfl
          obtain ⟨NW, hNW, eNW⟩ := fm_B_0 hB (i := 1) (n := 8) (by decide) rfl
          obtain ⟨NG, hNG, eNG⟩ := fm_B_0 hB (i := 3) (n := 20) (by decide) rfl
          obtain ⟨T, hT9, eT⟩ := fm_T5 hB
          have hD : fm_D a0 a0 T := fm_D_rf hB eT (by omega)
          refine fe_ivV hfrK (by omega) (by rfl) (by rfl) (by rfl) (by rfl) (by rfl) (by rfl) ?_
          refine fe_s 4 (pc' := 71) (lc' := [(5, .int 0), (3, .long (0 : Int64)), (0, .ref 0), (1, .int (nI s)), (2, .int (nI m))]) (stk' := []) (mem' := fm g tp bt a0 b) (by intro _ _ _; eq_refl) ?_
          have loop : ∀ (r i : Nat), i + r = m → ∀ (x : Int64) (a1 : Nat → Nat → Int32) (g1 : Nat → Int32), fm_D a0 a1 T → fm_G g g1 → fe_R 13 gk_m368 71 [(5, .int (nI i)), (3, .long x), (0, .ref 0), (1, .int (nI s)), (2, .int (nI m))] [] (fm g1 tp bt a1 b) (fm_PZ g tp bt a b) := by
            intro r
            induction r with
            | zero =>
              intro i hi x a1 g1 hD1 hG1
              obtain rfl : m = i := by omega
              refine fe_s 2 (pc' := 74) (lc' := [(5, .int (nI m)), (3, .long x), (0, .ref 0), (1, .int (nI s)), (2, .int (nI m))]) (stk' := [.int (nI m), .int (nI m)]) (mem' := fm g1 tp bt a1 b) (by intro _ _ _; eq_refl) ?_
              refine fe_s 1 (pc' := cond (fx_cb .ge (nI m) (nI m)) 110 77) (lc' := [(5, .int (nI m)), (3, .long x), (0, .ref 0), (1, .int (nI s)), (2, .int (nI m))]) (stk' := []) (mem' := fm g1 tp bt a1 b) (by intro _ _ _; eq_refl) ?_
              rw [show (fx_cb .ge (nI m) (nI m)) = true from cb_geT (a := m) (b := m) (by omega) (by omega) (by omega)]
              dsimp only [cond]
              refine fe_s 4 (pc' := 114) (lc' := [(5, .int (nI m)), (3, .long x), (0, .ref 0), (1, .int (nI s)), (2, .int (nI m))]) (stk' := [.long ((nI m).toInt64), .long x, .ref 0]) (mem' := fm g1 tp bt a1 b) (by intro _ _ _; eq_refl) ?_
              obtain ⟨vt4, memt4, ⟨tt4, ut4, hRt4⟩, hfrt4⟩ := fr_tellsByX (n := x) (d := (nI m).toInt64) (g := g1) (tp := tp) (bt := bt) (a := a1) (b := b) (fm_i64n (by omega) (by omega))
              cases hRt4
              refine fe_ivV hfrt4 (by omega) (by rfl) (by rfl) (by rfl) (by rfl) (by rfl) (by rfl) ?_
              exact fe_ret ⟨_, _, _, _, _, _, Or.inr rfl, fm_E_K (by decide) hK hB hD1 (by omega), (fm_G_2 hG1 (by decide) (by decide)), (fun _ _ _ => rfl), rfl⟩ (by rfl) (by rfl) (by rfl)
            | succ r ih =>
              intro i hi x a1 g1 hD1 hG1
              have him : i < m := by omega
              refine fe_s 2 (pc' := 74) (lc' := [(5, .int (nI i)), (3, .long x), (0, .ref 0), (1, .int (nI s)), (2, .int (nI m))]) (stk' := [.int (nI m), .int (nI i)]) (mem' := fm g1 tp bt a1 b) (by intro _ _ _; eq_refl) ?_
              refine fe_s 1 (pc' := cond (fx_cb .ge (nI i) (nI m)) 110 77) (lc' := [(5, .int (nI i)), (3, .long x), (0, .ref 0), (1, .int (nI s)), (2, .int (nI m))]) (stk' := []) (mem' := fm g1 tp bt a1 b) (by intro _ _ _; eq_refl) ?_
              rw [show (fx_cb .ge (nI i) (nI m)) = false from cb_geF (a := i) (b := m) (by omega) (by omega) (by omega)]
              dsimp only [cond]
              refine fe_s 4 (pc' := 82) (lc' := [(5, .int (nI i)), (3, .long x), (0, .ref 0), (1, .int (nI s)), (2, .int (nI m))]) (stk' := [.int ((nI s) + (nI i)), .ref 0]) (mem' := fm g1 tp bt a1 b) (by intro _ _ _; eq_refl) ?_
              rw [show ((nI s) + (nI i) : Int32) = nI (s + i) from by simp only [nI_add, fm_mul]]
              obtain ⟨ve5, meme5, ⟨ge5, ae5, Te5, re5, hTe5, hre5, hge5, h37e5, hDe5, hRe5⟩, hfre5⟩ := fr_lives (s := s + i) (N := N) (g := g1) (tp := tp) (bt := bt) (a := a1) (b := b) hB hD1 (by omega) (by omega) ((hK.2.1 6 (by omega)).trans e6) hN6
              cases hRe5
              have hGe5 := fm_G_lv hG1 hge5 h37e5 hre5
              refine fe_ivV hfre5 (by omega) (by rfl) (by rfl) (by rfl) (by rfl) (by rfl) (by rfl) ?_
              refine fe_s 3 (pc' := 88) (lc' := [(5, .int (nI i)), (3, .long x), (0, .ref 0), (1, .int (nI s)), (2, .int (nI m))]) (stk' := [.int 2, .ref 0, .long x]) (mem' := fm ge5 tp bt ae5 b) (by intro _ _ _; eq_refl) ?_
              obtain ⟨vd6, memd6, ⟨xd6, ad6, hDd6, hRd6⟩, hfrd6⟩ := fr_setOf2 (g := ge5) (tp := tp) (bt := bt) (a := ae5) (b := b) hB hDe5
              cases hRd6
              refine fe_ivV hfrd6 (by omega) (by rfl) (by rfl) (by rfl) (by rfl) (by rfl) (by rfl) ?_
              obtain ⟨vb7, hfrb7⟩ := fr_bits (x := xd6) (mem := fm ge5 tp bt ad6 b)
              refine fe_ivS hfrb7 (by omega) (by rfl) (by rfl) (by rfl) (by rfl) (by rfl) ?_
              refine fe_s 5 (pc' := 101) (lc' := [(3, .long (x + (vb7.toInt64))), (5, .int (nI i)), (0, .ref 0), (1, .int (nI s)), (2, .int (nI m))]) (stk' := [.int 4210, .ref 0]) (mem' := fm ge5 tp bt ad6 b) (by intro _ _ _; eq_refl) ?_
              obtain ⟨vz8, memz8, ⟨az8, hSz8, hRz8⟩, hfrz8⟩ := fr_restores4210 (g := ge5) (tp := tp) (bt := bt) (a := ad6) (b := b)
              cases hRz8
              have hDz8 := fm_restD (by decide) hK hB hD hDd6 hSz8
              refine fe_ivV hfrz8 (by omega) (by rfl) (by rfl) (by rfl) (by rfl) (by rfl) (by rfl) ?_
              refine fe_s 2 (pc' := 71) (lc' := [(5, .int ((nI i) + 1)), (3, .long (x + (vb7.toInt64))), (0, .ref 0), (1, .int (nI s)), (2, .int (nI m))]) (stk' := []) (mem' := fm ge5 tp bt az8 b) (by intro _ _ _; eq_refl) ?_
              rw [show ((nI i) + 1 : Int32) = nI (i + 1) from by simp only [show (1 : Int32) = nI 1 from rfl, nI_add, fm_mul]]
              refine fe_w (lc' := [(5, .int (nI (i + 1))), (3, .long (x + (vb7.toInt64))), (0, .ref 0), (1, .int (nI s)), (2, .int (nI m))]) ⟨rfl, rfl, rfl, rfl, rfl, trivial⟩ (by show List.Nodup [5, 3, 0, 1, 2]; decide) (by show List.Nodup [5, 3, 0, 1, 2]; decide) ?_
              exact ih (i + 1) (by omega) _ _ _ hDz8 hGe5
          refine fe_w (lc' := [(5, .int (nI 0)), (3, .long (0 : Int64)), (0, .ref 0), (1, .int (nI s)), (2, .int (nI m))]) ⟨rfl, rfl, rfl, rfl, rfl, trivial⟩ (by show List.Nodup [5, 3, 0, 1, 2]; decide) (by show List.Nodup [5, 3, 0, 1, 2]; decide) ?_
          exact loop m 0 (by omega) _ _ _ hD hG
      · rw [show (fx_cb .le (nI ((s + m) - 1)) 9999) = false from cb_leF (a := (s + m) - 1) (b := 9999) (by omega) (by omega) (by omega)]
        dsimp only [cond]
        refine fe_s 2 (pc' := 37) (lc' := [(0, .ref 0), (1, .int (nI s)), (2, .int (nI m))]) (stk' := [.int 1, .ref 0]) (mem' := fm g tp bt a b) (by intro _ _ _; eq_refl) ?_
        refine fe_ivV fr_isx1 (by omega) (by rfl) (by rfl) (by rfl) (by rfl) (by rfl) (by rfl) ?_
        exact fe_ret ⟨_, _, _, _, _, _, Or.inl rfl, (fm_E_rf hBa), (fm_G_2 hG (by decide) (by decide)), (fun _ _ _ => rfl), rfl⟩ (by rfl) (by rfl) (by rfl)
end FLM
end MH8_1
section MH8_2
/-! ===== fx: days ===== -/
section FDY
variable {g : Nat → Int32} {tp bt : Int64} {a0 a : Nat → Nat → Int32} {b : Nat → Nat → Int64}
theorem fm_uLs {b : Nat → Nat → Int64} {t i j : Nat} {v : Int64} : fm_uL b t i v t j = if j = i then v else b t j := by
  unfold fm_uL
  rw [if_pos rfl]
  rfl
theorem fm_uLt {b : Nat → Nat → Int64} {t i s : Nat} {v : Int64} (h : s ≠ t) : fm_uL b t i v s = b s := by
  unfold fm_uL
  rw [if_neg h]
theorem fm_16s (j : Nat) : Int64.ofNat (16 ^ j) * 16 = Int64.ofNat (16 ^ (j + 1)) := by
  rw [Nat.pow_succ, Int64.ofNat_mul]
  rfl
theorem fm_16n : ∀ j, j < 11 → ¬ Int64.ofNat (16 ^ j) = 0 := by decide
def fm_W (b0 b : Nat → Nat → Int64) (j : Nat) : Prop := (∀ t, t ≠ 17 → t ≠ 18 → b t = b0 t) ∧ ∀ i, i < 21 → (i + j < 10 ∨ 10 + j < i) → b 17 i = 0
def fm_W8 (b : Nat → Nat → Int64) (j : Nat) : Prop := ∀ i, i < 21 → (i + j < 10 ∨ 10 + j < i) → b 18 i = 0
theorem fm_W8_u {b b2 : Nat → Nat → Int64} {j T : Nat} {v : Int64} (h : fm_W8 b j) (hT : ¬ (T + j < 10 ∨ 10 + j < T)) (e : b2 = fm_uL b 18 T v) : fm_W8 b2 j := fun i hi h2 => by
  rw [e, fm_uLs]
  split
  · next e2 => subst e2; exact absurd h2 hT
  · exact h i hi h2
theorem fm_W_8 {b0 b b2 : Nat → Nat → Int64} {j T : Nat} {v : Int64} (h : fm_W b0 b j) (e : b2 = fm_uL b 18 T v) : fm_W b0 b2 j := ⟨fun t h7 h8 => by rw [e, fm_uLt h8]; exact h.1 t h7 h8, fun i hi h2 => by rw [e, fm_uLt (by decide)]; exact h.2 i hi h2⟩
theorem fm_i64ne {x : Int64} (h : fx_cb .ne (lg_cmp x 0) 0 = true) : ¬ x = 0 := by
  rintro rfl
  exact absurd h (by decide)
theorem fq_bearsNow {C : Nat} (hC : C < 10) : fm_P 2 351 [.ref 0, .int (nI C)] (fm g tp bt a b) := by
  refine fm_P_of (by rfl) (by rfl) ?_
  refine fe_s 3 (pc' := 5) (lc' := [(0, .ref 0), (1, .int (nI C))]) (stk' := [.int (nI C), .ref 1]) (mem' := fm g tp bt a b) (by intro _ _ _; eq_refl) ?_
  refine fe_ivS fr_cellRow (by omega) (by rfl) (by rfl) (by rfl) (by rfl) (by rfl) ?_
  rw [show (8 + 6 * (nI C) : Int32) = nI (8 + (6 * C)) from by simp only [show (8 : Int32) = nI 8 from rfl, show (6 : Int32) = nI 6 from rfl, nI_add, fm_mul]]
  refine fe_s 2 (pc' := 10) (lc' := [(0, .ref 0), (1, .int (nI C))]) (stk' := [.int ((nI (8 + (6 * C))) + 1), .ref 1]) (mem' := fm g tp bt a b) (by intro _ _ _; eq_refl) ?_
  rw [show ((nI (8 + (6 * C))) + 1 : Int32) = nI ((8 + (6 * C)) + 1) from by simp only [show (1 : Int32) = nI 1 from rfl, nI_add, fm_mul]]
  refine fe_ldI (by rfl) (by rfl) (fx_inN (i := (8 + (6 * C)) + 1) (by omega) (by omega)) ?_
  rw [show Int32.toNatClampNeg (nI ((8 + (6 * C)) + 1)) = (8 + (6 * C)) + 1 from nI_clamp (by omega)]
  exact fe_ret ⟨_, rfl⟩ (by rfl) (by rfl) (by rfl)
theorem ld_229 {b0 : Nat → Nat → Int64} {C days : Nat} {f t : Int32} (hC : C < 10) (hdays : days ≤ 10) {j : Nat} {x : Int64} (hj : j < days) (hx : x = Int64.ofNat (16 ^ j)) (ih : ∀ (b2 : Nat → Nat → Int64), fm_W b0 b2 (j + 1) → fe_R 2 gk_m352 41 [(7, .int (nI (j + 1))), (5, .long (Int64.ofNat (16 ^ (j + 1)))), (0, .ref 0), (1, .int (nI C)), (2, .int (nI days)), (3, .int f), (4, .int t)] [] (fm g tp bt a b2) (fun R => ∃ (x : Int64) (b' : Nat → Nat → Int64), x = Int64.ofNat (16 ^ days) ∧ (∀ t, t ≠ 17 → t ≠ 18 → b' t = b0 t) ∧ R = (some (.long x), fm g tp bt a b'))) : ∀ (r k : Nat), k + r = 21 → ∀ b : Nat → Nat → Int64, (∀ t, t ≠ 17 → t ≠ 18 → b t = b0 t) → fm_W8 b (j + 1) → (∀ i, i < k → b 17 i = b 18 i) → fe_R 2 gk_m352 229 [(8, .int (nI k)), (7, .int (nI j)), (5, .long x), (0, .ref 0), (1, .int (nI C)), (2, .int (nI days)), (3, .int f), (4, .int t)] [] (fm g tp bt a b) (fun R => ∃ (x : Int64) (b' : Nat → Nat → Int64), x = Int64.ofNat (16 ^ days) ∧ (∀ t, t ≠ 17 → t ≠ 18 → b' t = b0 t) ∧ R = (some (.long x), fm g tp bt a b')) := by
  intro r
  induction r with
  | zero =>
    intro k hk b h1 h2 h3
    obtain rfl : k = 21 := by omega
    refine fe_s 2 (pc' := 233) (lc' := [(8, .int (nI 21)), (7, .int (nI j)), (5, .long x), (0, .ref 0), (1, .int (nI C)), (2, .int (nI days)), (3, .int f), (4, .int t)]) (stk' := [.int 21, .int (nI 21)]) (mem' := fm g tp bt a b) (by intro _ _ _; eq_refl) ?_
    refine fe_s 1 (pc' := cond (fx_cb .ge (nI 21) 21) 256 236) (lc' := [(8, .int (nI 21)), (7, .int (nI j)), (5, .long x), (0, .ref 0), (1, .int (nI C)), (2, .int (nI days)), (3, .int f), (4, .int t)]) (stk' := []) (mem' := fm g tp bt a b) (by intro _ _ _; eq_refl) ?_
    rw [show (fx_cb .ge (nI 21) 21) = true from cb_geT (a := 21) (b := 21) (by omega) (by omega) (by omega)]
    dsimp only [cond]
    refine fe_s 5 (pc' := 267) (lc' := [(7, .int ((nI j) + 1)), (5, .long (x * 16)), (8, .int (nI 21)), (0, .ref 0), (1, .int (nI C)), (2, .int (nI days)), (3, .int f), (4, .int t)]) (stk' := []) (mem' := fm g tp bt a b) (by intro _ _ _; eq_refl) ?_
    rw [show ((nI j) + 1 : Int32) = nI (j + 1) from by simp only [show (1 : Int32) = nI 1 from rfl, nI_add, fm_mul]]
    refine fe_s 1 (pc' := fx_to 267 (-226)) (lc' := [(7, .int (nI (j + 1))), (5, .long (x * 16)), (8, .int (nI 21)), (0, .ref 0), (1, .int (nI C)), (2, .int (nI days)), (3, .int f), (4, .int t)]) (stk' := []) (mem' := fm g tp bt a b) (by intro _ _ _; eq_refl) ?_
    rw [show fx_to 267 (-226) = 41 from by decide]
    rw [hx, fm_16s j]
    refine fe_w (lc' := [(7, .int (nI (j + 1))), (5, .long (Int64.ofNat (16 ^ (j + 1)))), (0, .ref 0), (1, .int (nI C)), (2, .int (nI days)), (3, .int f), (4, .int t)]) ⟨rfl, rfl, rfl, rfl, rfl, rfl, rfl, trivial⟩ (by show List.Nodup [7, 5, 0, 1, 2, 3, 4]; decide) (by show List.Nodup [7, 5, 8, 0, 1, 2, 3, 4]; decide) ?_
    exact ih b ⟨h1, fun i hi h4 => by rw [h3 i hi]; exact h2 i hi h4⟩
  | succ r ih2 =>
    intro k hk b h1 h2 h3
    refine fe_s 2 (pc' := 233) (lc' := [(8, .int (nI k)), (7, .int (nI j)), (5, .long x), (0, .ref 0), (1, .int (nI C)), (2, .int (nI days)), (3, .int f), (4, .int t)]) (stk' := [.int 21, .int (nI k)]) (mem' := fm g tp bt a b) (by intro _ _ _; eq_refl) ?_
    refine fe_s 1 (pc' := cond (fx_cb .ge (nI k) 21) 256 236) (lc' := [(8, .int (nI k)), (7, .int (nI j)), (5, .long x), (0, .ref 0), (1, .int (nI C)), (2, .int (nI days)), (3, .int f), (4, .int t)]) (stk' := []) (mem' := fm g tp bt a b) (by intro _ _ _; eq_refl) ?_
    rw [show (fx_cb .ge (nI k) 21) = false from cb_geF (a := k) (b := 21) (by omega) (by omega) (by omega)]
    dsimp only [cond]
    refine fe_s 6 (pc' := 248) (lc' := [(8, .int (nI k)), (7, .int (nI j)), (5, .long x), (0, .ref 0), (1, .int (nI C)), (2, .int (nI days)), (3, .int f), (4, .int t)]) (stk' := [.int (nI k), .ref 18, .int (nI k), .ref 17]) (mem' := fm g tp bt a b) (by intro _ _ _; eq_refl) ?_
    refine fe_ldL (by rfl) (by rfl) (fx_inN (i := k) (by omega) (by omega)) ?_
    rw [show Int32.toNatClampNeg (nI k) = k from nI_clamp (by omega)]
    refine fe_stL (mem' := fm g tp bt a (fm_uL b 17 (nI k : Int32).toNatClampNeg (b 18 k))) (by rfl) (by rfl) (fx_inN (i := k) (by omega) (by omega)) fm_sl17 ?_
    rw [show Int32.toNatClampNeg (nI k) = k from nI_clamp (by omega)]
    obtain ⟨b101, hb101⟩ : ∃ z, z = fm_uL b 17 (k) (b 18 k) := ⟨_, rfl⟩
    rw [← hb101]
    refine fe_s 2 (pc' := 229) (lc' := [(8, .int ((nI k) + 1)), (7, .int (nI j)), (5, .long x), (0, .ref 0), (1, .int (nI C)), (2, .int (nI days)), (3, .int f), (4, .int t)]) (stk' := []) (mem' := fm g tp bt a b101) (by intro _ _ _; eq_refl) ?_
    rw [show ((nI k) + 1 : Int32) = nI (k + 1) from by simp only [show (1 : Int32) = nI 1 from rfl, nI_add, fm_mul]]
    refine fe_w (lc' := [(8, .int (nI (k + 1))), (7, .int (nI j)), (5, .long x), (0, .ref 0), (1, .int (nI C)), (2, .int (nI days)), (3, .int f), (4, .int t)]) ⟨rfl, rfl, rfl, rfl, rfl, rfl, rfl, rfl, trivial⟩ (by show List.Nodup [8, 7, 5, 0, 1, 2, 3, 4]; decide) (by show List.Nodup [8, 7, 5, 0, 1, 2, 3, 4]; decide) ?_
    refine ih2 (k + 1) (by omega) _ (fun t h7 h8 => by rw [hb101, fm_uLt h7]; exact h1 t h7 h8) (fun i hi h4 => by rw [hb101, fm_uLt (by decide)]; exact h2 i hi h4) (fun i hi => ?_)
    rw [hb101, fm_uLs, fm_uLt (by decide)]
    split
    · next e => rw [e]
    · exact h3 i (by omega)
set_option maxHeartbeats 8000000 in
theorem ld_74 {b0 : Nat → Nat → Int64} {C days : Nat} {f t : Int32} (hC : C < 10) (hdays : days ≤ 10) {j : Nat} {x : Int64} (hj : j < days) (hx : x = Int64.ofNat (16 ^ j)) (ih : ∀ (b2 : Nat → Nat → Int64), fm_W b0 b2 (j + 1) → fe_R 2 gk_m352 41 [(7, .int (nI (j + 1))), (5, .long (Int64.ofNat (16 ^ (j + 1)))), (0, .ref 0), (1, .int (nI C)), (2, .int (nI days)), (3, .int f), (4, .int t)] [] (fm g tp bt a b2) (fun R => ∃ (x : Int64) (b' : Nat → Nat → Int64), x = Int64.ofNat (16 ^ days) ∧ (∀ t, t ≠ 17 → t ≠ 18 → b' t = b0 t) ∧ R = (some (.long x), fm g tp bt a b'))) : ∀ (r k : Nat), k + r = 21 → ∀ (b : Nat → Nat → Int64), fm_W b0 b j → fm_W8 b (j + 1) → fe_R 2 gk_m352 74 [(8, .int (nI k)), (7, .int (nI j)), (5, .long x), (0, .ref 0), (1, .int (nI C)), (2, .int (nI days)), (3, .int f), (4, .int t)] [] (fm g tp bt a b) (fun R => ∃ (x : Int64) (b' : Nat → Nat → Int64), x = Int64.ofNat (16 ^ days) ∧ (∀ t, t ≠ 17 → t ≠ 18 → b' t = b0 t) ∧ R = (some (.long x), fm g tp bt a b')) := by
  intro r
  induction r with
  | zero =>
    intro k hk b h1 h2
    obtain rfl : k = 21 := by omega
    refine fe_s 2 (pc' := 78) (lc' := [(8, .int (nI 21)), (7, .int (nI j)), (5, .long x), (0, .ref 0), (1, .int (nI C)), (2, .int (nI days)), (3, .int f), (4, .int t)]) (stk' := [.int 21, .int (nI 21)]) (mem' := fm g tp bt a b) (by intro _ _ _; eq_refl) ?_
    refine fe_s 1 (pc' := cond (fx_cb .ge (nI 21) 21) 226 81) (lc' := [(8, .int (nI 21)), (7, .int (nI j)), (5, .long x), (0, .ref 0), (1, .int (nI C)), (2, .int (nI days)), (3, .int f), (4, .int t)]) (stk' := []) (mem' := fm g tp bt a b) (by intro _ _ _; eq_refl) ?_
    rw [show (fx_cb .ge (nI 21) 21) = true from cb_geT (a := 21) (b := 21) (by omega) (by omega) (by omega)]
    dsimp only [cond]
    refine fe_s 2 (pc' := 229) (lc' := [(8, .int 0), (7, .int (nI j)), (5, .long x), (0, .ref 0), (1, .int (nI C)), (2, .int (nI days)), (3, .int f), (4, .int t)]) (stk' := []) (mem' := fm g tp bt a b) (by intro _ _ _; eq_refl) ?_
    refine fe_w (lc' := [(8, .int (nI 0)), (7, .int (nI j)), (5, .long x), (0, .ref 0), (1, .int (nI C)), (2, .int (nI days)), (3, .int f), (4, .int t)]) ⟨rfl, rfl, rfl, rfl, rfl, rfl, rfl, rfl, trivial⟩ (by show List.Nodup [8, 7, 5, 0, 1, 2, 3, 4]; decide) (by show List.Nodup [8, 7, 5, 0, 1, 2, 3, 4]; decide) ?_
    exact ld_229 hC hdays hj hx ih 21 0 (by omega) b h1.1 h2 (fun i hi => absurd hi (Nat.not_lt_zero i))
  | succ r ih2 =>
    intro k hk b h1 h2
    have hk21 : k < 21 := by omega
    refine fe_s 2 (pc' := 78) (lc' := [(8, .int (nI k)), (7, .int (nI j)), (5, .long x), (0, .ref 0), (1, .int (nI C)), (2, .int (nI days)), (3, .int f), (4, .int t)]) (stk' := [.int 21, .int (nI k)]) (mem' := fm g tp bt a b) (by intro _ _ _; eq_refl) ?_
    refine fe_s 1 (pc' := cond (fx_cb .ge (nI k) 21) 226 81) (lc' := [(8, .int (nI k)), (7, .int (nI j)), (5, .long x), (0, .ref 0), (1, .int (nI C)), (2, .int (nI days)), (3, .int f), (4, .int t)]) (stk' := []) (mem' := fm g tp bt a b) (by intro _ _ _; eq_refl) ?_
    rw [show (fx_cb .ge (nI k) 21) = false from cb_geF (a := k) (b := 21) (by omega) (by omega) (by omega)]
    dsimp only [cond]
    refine fe_s 3 (pc' := 87) (lc' := [(8, .int (nI k)), (7, .int (nI j)), (5, .long x), (0, .ref 0), (1, .int (nI C)), (2, .int (nI days)), (3, .int f), (4, .int t)]) (stk' := [.int (nI k), .ref 17]) (mem' := fm g tp bt a b) (by intro _ _ _; eq_refl) ?_
    refine fe_ldL (by rfl) (by rfl) (fx_inN (i := k) (by omega) (by omega)) ?_
    rw [show Int32.toNatClampNeg (nI k) = k from nI_clamp (by omega)]
    refine fe_s 2 (pc' := 90) (lc' := [(8, .int (nI k)), (7, .int (nI j)), (5, .long x), (0, .ref 0), (1, .int (nI C)), (2, .int (nI days)), (3, .int f), (4, .int t)]) (stk' := [.int (lg_cmp (b 17 k) (0 : Int64))]) (mem' := fm g tp bt a b) (by intro _ _ _; eq_refl) ?_
    refine fe_s 1 (pc' := cond (fx_cb .ne (lg_cmp (b 17 k) (0 : Int64)) 0) 96 93) (lc' := [(8, .int (nI k)), (7, .int (nI j)), (5, .long x), (0, .ref 0), (1, .int (nI C)), (2, .int (nI days)), (3, .int f), (4, .int t)]) (stk' := []) (mem' := fm g tp bt a b) (by intro _ _ _; eq_refl) ?_
    cases h101 : fx_cb .ne (lg_cmp (b 17 k) (0 : Int64)) 0
    · refine fe_s 2 (pc' := 223) (lc' := [(8, .int ((nI k) + 1)), (7, .int (nI j)), (5, .long x), (0, .ref 0), (1, .int (nI C)), (2, .int (nI days)), (3, .int f), (4, .int t)]) (stk' := []) (mem' := fm g tp bt a b) (by intro _ _ _; eq_refl) ?_
      rw [show ((nI k) + 1 : Int32) = nI (k + 1) from by simp only [show (1 : Int32) = nI 1 from rfl, nI_add, fm_mul]]
      refine fe_s 1 (pc' := fx_to 223 (-149)) (lc' := [(8, .int (nI (k + 1))), (7, .int (nI j)), (5, .long x), (0, .ref 0), (1, .int (nI C)), (2, .int (nI days)), (3, .int f), (4, .int t)]) (stk' := []) (mem' := fm g tp bt a b) (by intro _ _ _; eq_refl) ?_
      rw [show fx_to 223 (-149) = 74 from by decide]
      refine fe_w (lc' := [(8, .int (nI (k + 1))), (7, .int (nI j)), (5, .long x), (0, .ref 0), (1, .int (nI C)), (2, .int (nI days)), (3, .int f), (4, .int t)]) ⟨rfl, rfl, rfl, rfl, rfl, rfl, rfl, rfl, trivial⟩ (by show List.Nodup [8, 7, 5, 0, 1, 2, 3, 4]; decide) (by show List.Nodup [8, 7, 5, 0, 1, 2, 3, 4]; decide) ?_
      exact ih2 (k + 1) (by omega) _ h1 h2
    · have hk0 : ¬ b 17 k = 0 := fm_i64ne h101
      have hk1 : ¬ (k + j < 10 ∨ 10 + j < k) := fun z => hk0 (h1.2 k (by omega) z)
      refine fe_s 2 (pc' := 98) (lc' := [(8, .int (nI k)), (7, .int (nI j)), (5, .long x), (0, .ref 0), (1, .int (nI C)), (2, .int (nI days)), (3, .int f), (4, .int t)]) (stk' := [.int (nI C), .ref 0]) (mem' := fm g tp bt a b) (by intro _ _ _; eq_refl) ?_
      obtain ⟨v102, hv102⟩ := fq_bearsNow (C := C) (g := g) (tp := tp) (bt := bt) (a := a) (b := b) (by omega)
      refine fe_ivV hv102 (by omega) (by rfl) (by rfl) (by rfl) (by rfl) (by rfl) (by rfl) ?_
      refine fe_s 9 (pc' := 116) (lc' := [(9, .int ((v102 + (nI k)) - 10)), (8, .int (nI k)), (7, .int (nI j)), (5, .long x), (0, .ref 0), (1, .int (nI C)), (2, .int (nI days)), (3, .int f), (4, .int t)]) (stk' := [.int (nI k), .ref 18, .int (nI k), .ref 18]) (mem' := fm g tp bt a b) (by intro _ _ _; eq_refl) ?_
      refine fe_ldL (by rfl) (by rfl) (fx_inN (i := k) (by omega) (by omega)) ?_
      rw [show Int32.toNatClampNeg (nI k) = k from nI_clamp (by omega)]
      refine fe_s 3 (pc' := 123) (lc' := [(9, .int ((v102 + (nI k)) - 10)), (8, .int (nI k)), (7, .int (nI j)), (5, .long x), (0, .ref 0), (1, .int (nI C)), (2, .int (nI days)), (3, .int f), (4, .int t)]) (stk' := [.int (nI k), .ref 17, .long (b 18 k), .int (nI k), .ref 18]) (mem' := fm g tp bt a b) (by intro _ _ _; eq_refl) ?_
      refine fe_ldL (by rfl) (by rfl) (fx_inN (i := k) (by omega) (by omega)) ?_
      rw [show Int32.toNatClampNeg (nI k) = k from nI_clamp (by omega)]
      refine fe_s 8 (pc' := 134) (lc' := [(9, .int ((v102 + (nI k)) - 10)), (8, .int (nI k)), (7, .int (nI j)), (5, .long x), (0, .ref 0), (1, .int (nI C)), (2, .int (nI days)), (3, .int f), (4, .int t)]) (stk' := [.long ((b 18 k) + ((b 17 k) * (((16 - f) - t).toInt64))), .int (nI k), .ref 18]) (mem' := fm g tp bt a b) (by intro _ _ _; eq_refl) ?_
      refine fe_stL (mem' := fm g tp bt a (fm_uL b 18 (nI k : Int32).toNatClampNeg ((b 18 k) + ((b 17 k) * (((16 - f) - t).toInt64))))) (by rfl) (by rfl) (fx_inN (i := k) (by omega) (by omega)) fm_sl18 ?_
      rw [show Int32.toNatClampNeg (nI k) = k from nI_clamp (by omega)]
      obtain ⟨b103, hb103⟩ : ∃ z, z = fm_uL b 18 (k) ((b 18 k) + ((b 17 k) * (((16 - f) - t).toInt64))) := ⟨_, rfl⟩
      rw [← hb103]
      refine fe_s 4 (pc' := 144) (lc' := [(9, .int ((v102 + (nI k)) - 10)), (8, .int (nI k)), (7, .int (nI j)), (5, .long x), (0, .ref 0), (1, .int (nI C)), (2, .int (nI days)), (3, .int f), (4, .int t)]) (stk' := [.int 999, .int ((v102 + (nI k)) - 10), .ref 18]) (mem' := fm g tp bt a b103) (by intro _ _ _; eq_refl) ?_
      refine fe_s 1 (pc' := cond (fx_cb .ne ((v102 + (nI k)) - 10) 999) 152 147) (lc' := [(9, .int ((v102 + (nI k)) - 10)), (8, .int (nI k)), (7, .int (nI j)), (5, .long x), (0, .ref 0), (1, .int (nI C)), (2, .int (nI days)), (3, .int f), (4, .int t)]) (stk' := [.ref 18]) (mem' := fm g tp bt a b103) (by intro _ _ _; eq_refl) ?_
      cases h104 : fx_cb .ne ((v102 + (nI k)) - 10) 999
      · refine fe_s 3 (pc' := 157) (lc' := [(9, .int ((v102 + (nI k)) - 10)), (8, .int (nI k)), (7, .int (nI j)), (5, .long x), (0, .ref 0), (1, .int (nI C)), (2, .int (nI days)), (3, .int f), (4, .int t)]) (stk' := [.int (nI k), .ref 18, .int (nI k), .ref 18]) (mem' := fm g tp bt a b103) (by intro _ _ _; eq_refl) ?_
        refine fe_ldL (by rfl) (by rfl) (fx_inN (i := k) (by omega) (by omega)) ?_
        rw [show Int32.toNatClampNeg (nI k) = k from nI_clamp (by omega)]
        refine fe_s 1 (pc' := 159) (lc' := [(9, .int ((v102 + (nI k)) - 10)), (8, .int (nI k)), (7, .int (nI j)), (5, .long x), (0, .ref 0), (1, .int (nI C)), (2, .int (nI days)), (3, .int f), (4, .int t)]) (stk' := [.int f, .long (b103 18 k), .int (nI k), .ref 18]) (mem' := fm g tp bt a b103) (by intro _ _ _; eq_refl) ?_
        refine fe_s 1 (pc' := cond (fx_cb .ne f 0) 166 162) (lc' := [(9, .int ((v102 + (nI k)) - 10)), (8, .int (nI k)), (7, .int (nI j)), (5, .long x), (0, .ref 0), (1, .int (nI C)), (2, .int (nI days)), (3, .int f), (4, .int t)]) (stk' := [.long (b103 18 k), .int (nI k), .ref 18]) (mem' := fm g tp bt a b103) (by intro _ _ _; eq_refl) ?_
        cases h105 : fx_cb .ne f 0
        · refine fe_s 3 (pc' := 177) (lc' := [(9, .int ((v102 + (nI k)) - 10)), (8, .int (nI k)), (7, .int (nI j)), (5, .long x), (0, .ref 0), (1, .int (nI C)), (2, .int (nI days)), (3, .int f), (4, .int t)]) (stk' := [.long ((b103 18 k) + (0 : Int64)), .int (nI k), .ref 18]) (mem' := fm g tp bt a b103) (by intro _ _ _; eq_refl) ?_
          refine fe_stL (mem' := fm g tp bt a (fm_uL b103 18 (nI k : Int32).toNatClampNeg ((b103 18 k) + (0 : Int64)))) (by rfl) (by rfl) (fx_inN (i := k) (by omega) (by omega)) fm_sl18 ?_
          rw [show Int32.toNatClampNeg (nI k) = k from nI_clamp (by omega)]
          obtain ⟨b106, hb106⟩ : ∃ z, z = fm_uL b103 18 (k) ((b103 18 k) + (0 : Int64)) := ⟨_, rfl⟩
          rw [← hb106]
          refine fe_s 3 (pc' := 184) (lc' := [(9, .int ((v102 + (nI k)) - 10)), (8, .int (nI k)), (7, .int (nI j)), (5, .long x), (0, .ref 0), (1, .int (nI C)), (2, .int (nI days)), (3, .int f), (4, .int t)]) (stk' := [.int ((v102 + (nI k)) - 10), .ref 18]) (mem' := fm g tp bt a b106) (by intro _ _ _; eq_refl) ?_
          refine fe_s 1 (pc' := cond (fx_cb .ne ((v102 + (nI k)) - 10) 0) 192 187) (lc' := [(9, .int ((v102 + (nI k)) - 10)), (8, .int (nI k)), (7, .int (nI j)), (5, .long x), (0, .ref 0), (1, .int (nI C)), (2, .int (nI days)), (3, .int f), (4, .int t)]) (stk' := [.ref 18]) (mem' := fm g tp bt a b106) (by intro _ _ _; eq_refl) ?_
          cases h107 : fx_cb .ne ((v102 + (nI k)) - 10) 0
          · refine fe_s 3 (pc' := 197) (lc' := [(9, .int ((v102 + (nI k)) - 10)), (8, .int (nI k)), (7, .int (nI j)), (5, .long x), (0, .ref 0), (1, .int (nI C)), (2, .int (nI days)), (3, .int f), (4, .int t)]) (stk' := [.int (nI k), .ref 18, .int (nI k), .ref 18]) (mem' := fm g tp bt a b106) (by intro _ _ _; eq_refl) ?_
            refine fe_ldL (by rfl) (by rfl) (fx_inN (i := k) (by omega) (by omega)) ?_
            rw [show Int32.toNatClampNeg (nI k) = k from nI_clamp (by omega)]
            refine fe_s 1 (pc' := 200) (lc' := [(9, .int ((v102 + (nI k)) - 10)), (8, .int (nI k)), (7, .int (nI j)), (5, .long x), (0, .ref 0), (1, .int (nI C)), (2, .int (nI days)), (3, .int f), (4, .int t)]) (stk' := [.int t, .long (b106 18 k), .int (nI k), .ref 18]) (mem' := fm g tp bt a b106) (by intro _ _ _; eq_refl) ?_
            refine fe_s 1 (pc' := cond (fx_cb .ne t 0) 207 203) (lc' := [(9, .int ((v102 + (nI k)) - 10)), (8, .int (nI k)), (7, .int (nI j)), (5, .long x), (0, .ref 0), (1, .int (nI C)), (2, .int (nI days)), (3, .int f), (4, .int t)]) (stk' := [.long (b106 18 k), .int (nI k), .ref 18]) (mem' := fm g tp bt a b106) (by intro _ _ _; eq_refl) ?_
            cases h108 : fx_cb .ne t 0
            · refine fe_s 3 (pc' := 219) (lc' := [(9, .int ((v102 + (nI k)) - 10)), (8, .int (nI k)), (7, .int (nI j)), (5, .long x), (0, .ref 0), (1, .int (nI C)), (2, .int (nI days)), (3, .int f), (4, .int t)]) (stk' := [.long ((b106 18 k) + (0 : Int64)), .int (nI k), .ref 18]) (mem' := fm g tp bt a b106) (by intro _ _ _; eq_refl) ?_
              refine fe_stL (mem' := fm g tp bt a (fm_uL b106 18 (nI k : Int32).toNatClampNeg ((b106 18 k) + (0 : Int64)))) (by rfl) (by rfl) (fx_inN (i := k) (by omega) (by omega)) fm_sl18 ?_
              rw [show Int32.toNatClampNeg (nI k) = k from nI_clamp (by omega)]
              obtain ⟨b109, hb109⟩ : ∃ z, z = fm_uL b106 18 (k) ((b106 18 k) + (0 : Int64)) := ⟨_, rfl⟩
              rw [← hb109]
              refine fe_s 1 (pc' := 223) (lc' := [(8, .int ((nI k) + 1)), (9, .int ((v102 + (nI k)) - 10)), (7, .int (nI j)), (5, .long x), (0, .ref 0), (1, .int (nI C)), (2, .int (nI days)), (3, .int f), (4, .int t)]) (stk' := []) (mem' := fm g tp bt a b109) (by intro _ _ _; eq_refl) ?_
              rw [show ((nI k) + 1 : Int32) = nI (k + 1) from by simp only [show (1 : Int32) = nI 1 from rfl, nI_add, fm_mul]]
              refine fe_s 1 (pc' := fx_to 223 (-149)) (lc' := [(8, .int (nI (k + 1))), (9, .int ((v102 + (nI k)) - 10)), (7, .int (nI j)), (5, .long x), (0, .ref 0), (1, .int (nI C)), (2, .int (nI days)), (3, .int f), (4, .int t)]) (stk' := []) (mem' := fm g tp bt a b109) (by intro _ _ _; eq_refl) ?_
              rw [show fx_to 223 (-149) = 74 from by decide]
              refine fe_w (lc' := [(8, .int (nI (k + 1))), (7, .int (nI j)), (5, .long x), (0, .ref 0), (1, .int (nI C)), (2, .int (nI days)), (3, .int f), (4, .int t)]) ⟨rfl, rfl, rfl, rfl, rfl, rfl, rfl, rfl, trivial⟩ (by show List.Nodup [8, 7, 5, 0, 1, 2, 3, 4]; decide) (by show List.Nodup [8, 9, 7, 5, 0, 1, 2, 3, 4]; decide) ?_
              have wb103 := fm_W_8 h1 hb103
              have zb103 := fm_W8_u h2 (by omega) hb103
              have wb106 := fm_W_8 wb103 hb106
              have zb106 := fm_W8_u zb103 (by omega) hb106
              have wb109 := fm_W_8 wb106 hb109
              have zb109 := fm_W8_u zb106 (by omega) hb109
              exact ih2 (k + 1) (by omega) _ wb109 zb109
            · refine fe_s 3 (pc' := 213) (lc' := [(9, .int ((v102 + (nI k)) - 10)), (8, .int (nI k)), (7, .int (nI j)), (5, .long x), (0, .ref 0), (1, .int (nI C)), (2, .int (nI days)), (3, .int f), (4, .int t)]) (stk' := [.int (nI k), .ref 17, .long (b106 18 k), .int (nI k), .ref 18]) (mem' := fm g tp bt a b106) (by intro _ _ _; eq_refl) ?_
              refine fe_ldL (by rfl) (by rfl) (fx_inN (i := k) (by omega) (by omega)) ?_
              rw [show Int32.toNatClampNeg (nI k) = k from nI_clamp (by omega)]
              refine fe_s 4 (pc' := 219) (lc' := [(9, .int ((v102 + (nI k)) - 10)), (8, .int (nI k)), (7, .int (nI j)), (5, .long x), (0, .ref 0), (1, .int (nI C)), (2, .int (nI days)), (3, .int f), (4, .int t)]) (stk' := [.long ((b106 18 k) + ((b106 17 k) * (t.toInt64))), .int (nI k), .ref 18]) (mem' := fm g tp bt a b106) (by intro _ _ _; eq_refl) ?_
              refine fe_stL (mem' := fm g tp bt a (fm_uL b106 18 (nI k : Int32).toNatClampNeg ((b106 18 k) + ((b106 17 k) * (t.toInt64))))) (by rfl) (by rfl) (fx_inN (i := k) (by omega) (by omega)) fm_sl18 ?_
              rw [show Int32.toNatClampNeg (nI k) = k from nI_clamp (by omega)]
              obtain ⟨b110, hb110⟩ : ∃ z, z = fm_uL b106 18 (k) ((b106 18 k) + ((b106 17 k) * (t.toInt64))) := ⟨_, rfl⟩
              rw [← hb110]
              refine fe_s 1 (pc' := 223) (lc' := [(8, .int ((nI k) + 1)), (9, .int ((v102 + (nI k)) - 10)), (7, .int (nI j)), (5, .long x), (0, .ref 0), (1, .int (nI C)), (2, .int (nI days)), (3, .int f), (4, .int t)]) (stk' := []) (mem' := fm g tp bt a b110) (by intro _ _ _; eq_refl) ?_
              rw [show ((nI k) + 1 : Int32) = nI (k + 1) from by simp only [show (1 : Int32) = nI 1 from rfl, nI_add, fm_mul]]
              refine fe_s 1 (pc' := fx_to 223 (-149)) (lc' := [(8, .int (nI (k + 1))), (9, .int ((v102 + (nI k)) - 10)), (7, .int (nI j)), (5, .long x), (0, .ref 0), (1, .int (nI C)), (2, .int (nI days)), (3, .int f), (4, .int t)]) (stk' := []) (mem' := fm g tp bt a b110) (by intro _ _ _; eq_refl) ?_
              rw [show fx_to 223 (-149) = 74 from by decide]
              refine fe_w (lc' := [(8, .int (nI (k + 1))), (7, .int (nI j)), (5, .long x), (0, .ref 0), (1, .int (nI C)), (2, .int (nI days)), (3, .int f), (4, .int t)]) ⟨rfl, rfl, rfl, rfl, rfl, rfl, rfl, rfl, trivial⟩ (by show List.Nodup [8, 7, 5, 0, 1, 2, 3, 4]; decide) (by show List.Nodup [8, 9, 7, 5, 0, 1, 2, 3, 4]; decide) ?_
              have wb103 := fm_W_8 h1 hb103
              have zb103 := fm_W8_u h2 (by omega) hb103
              have wb106 := fm_W_8 wb103 hb106
              have zb106 := fm_W8_u zb103 (by omega) hb106
              have wb110 := fm_W_8 wb106 hb110
              have zb110 := fm_W8_u zb106 (by omega) hb110
              exact ih2 (k + 1) (by omega) _ wb110 zb110
          · refine fe_s 4 (pc' := 197) (lc' := [(9, .int ((v102 + (nI k)) - 10)), (8, .int (nI k)), (7, .int (nI j)), (5, .long x), (0, .ref 0), (1, .int (nI C)), (2, .int (nI days)), (3, .int f), (4, .int t)]) (stk' := [.int ((nI k) - 1), .ref 18, .int ((nI k) - 1), .ref 18]) (mem' := fm g tp bt a b106) (by intro _ _ _; eq_refl) ?_
            rw [show ((nI k) - 1 : Int32) = nI (k - 1) from by simp only [show (1 : Int32) = nI 1 from rfl, tg_sub2 (x := k) (y := 1) (by omega), nI_add, fm_mul]]
            refine fe_ldL (by rfl) (by rfl) (fx_inN (i := k - 1) (by omega) (by omega)) ?_
            rw [show Int32.toNatClampNeg (nI (k - 1)) = k - 1 from nI_clamp (by omega)]
            refine fe_s 1 (pc' := 200) (lc' := [(9, .int ((v102 + (nI k)) - 10)), (8, .int (nI k)), (7, .int (nI j)), (5, .long x), (0, .ref 0), (1, .int (nI C)), (2, .int (nI days)), (3, .int f), (4, .int t)]) (stk' := [.int t, .long (b106 18 (k - 1)), .int (nI (k - 1)), .ref 18]) (mem' := fm g tp bt a b106) (by intro _ _ _; eq_refl) ?_
            refine fe_s 1 (pc' := cond (fx_cb .ne t 0) 207 203) (lc' := [(9, .int ((v102 + (nI k)) - 10)), (8, .int (nI k)), (7, .int (nI j)), (5, .long x), (0, .ref 0), (1, .int (nI C)), (2, .int (nI days)), (3, .int f), (4, .int t)]) (stk' := [.long (b106 18 (k - 1)), .int (nI (k - 1)), .ref 18]) (mem' := fm g tp bt a b106) (by intro _ _ _; eq_refl) ?_
            cases h111 : fx_cb .ne t 0
            · refine fe_s 3 (pc' := 219) (lc' := [(9, .int ((v102 + (nI k)) - 10)), (8, .int (nI k)), (7, .int (nI j)), (5, .long x), (0, .ref 0), (1, .int (nI C)), (2, .int (nI days)), (3, .int f), (4, .int t)]) (stk' := [.long ((b106 18 (k - 1)) + (0 : Int64)), .int (nI (k - 1)), .ref 18]) (mem' := fm g tp bt a b106) (by intro _ _ _; eq_refl) ?_
              refine fe_stL (mem' := fm g tp bt a (fm_uL b106 18 (nI (k - 1) : Int32).toNatClampNeg ((b106 18 (k - 1)) + (0 : Int64)))) (by rfl) (by rfl) (fx_inN (i := k - 1) (by omega) (by omega)) fm_sl18 ?_
              rw [show Int32.toNatClampNeg (nI (k - 1)) = k - 1 from nI_clamp (by omega)]
              obtain ⟨b112, hb112⟩ : ∃ z, z = fm_uL b106 18 (k - 1) ((b106 18 (k - 1)) + (0 : Int64)) := ⟨_, rfl⟩
              rw [← hb112]
              refine fe_s 1 (pc' := 223) (lc' := [(8, .int ((nI k) + 1)), (9, .int ((v102 + (nI k)) - 10)), (7, .int (nI j)), (5, .long x), (0, .ref 0), (1, .int (nI C)), (2, .int (nI days)), (3, .int f), (4, .int t)]) (stk' := []) (mem' := fm g tp bt a b112) (by intro _ _ _; eq_refl) ?_
              rw [show ((nI k) + 1 : Int32) = nI (k + 1) from by simp only [show (1 : Int32) = nI 1 from rfl, nI_add, fm_mul]]
              refine fe_s 1 (pc' := fx_to 223 (-149)) (lc' := [(8, .int (nI (k + 1))), (9, .int ((v102 + (nI k)) - 10)), (7, .int (nI j)), (5, .long x), (0, .ref 0), (1, .int (nI C)), (2, .int (nI days)), (3, .int f), (4, .int t)]) (stk' := []) (mem' := fm g tp bt a b112) (by intro _ _ _; eq_refl) ?_
              rw [show fx_to 223 (-149) = 74 from by decide]
              refine fe_w (lc' := [(8, .int (nI (k + 1))), (7, .int (nI j)), (5, .long x), (0, .ref 0), (1, .int (nI C)), (2, .int (nI days)), (3, .int f), (4, .int t)]) ⟨rfl, rfl, rfl, rfl, rfl, rfl, rfl, rfl, trivial⟩ (by show List.Nodup [8, 7, 5, 0, 1, 2, 3, 4]; decide) (by show List.Nodup [8, 9, 7, 5, 0, 1, 2, 3, 4]; decide) ?_
              have wb103 := fm_W_8 h1 hb103
              have zb103 := fm_W8_u h2 (by omega) hb103
              have wb106 := fm_W_8 wb103 hb106
              have zb106 := fm_W8_u zb103 (by omega) hb106
              have wb112 := fm_W_8 wb106 hb112
              have zb112 := fm_W8_u zb106 (by omega) hb112
              exact ih2 (k + 1) (by omega) _ wb112 zb112
            · refine fe_s 3 (pc' := 213) (lc' := [(9, .int ((v102 + (nI k)) - 10)), (8, .int (nI k)), (7, .int (nI j)), (5, .long x), (0, .ref 0), (1, .int (nI C)), (2, .int (nI days)), (3, .int f), (4, .int t)]) (stk' := [.int (nI k), .ref 17, .long (b106 18 (k - 1)), .int (nI (k - 1)), .ref 18]) (mem' := fm g tp bt a b106) (by intro _ _ _; eq_refl) ?_
              refine fe_ldL (by rfl) (by rfl) (fx_inN (i := k) (by omega) (by omega)) ?_
              rw [show Int32.toNatClampNeg (nI k) = k from nI_clamp (by omega)]
              refine fe_s 4 (pc' := 219) (lc' := [(9, .int ((v102 + (nI k)) - 10)), (8, .int (nI k)), (7, .int (nI j)), (5, .long x), (0, .ref 0), (1, .int (nI C)), (2, .int (nI days)), (3, .int f), (4, .int t)]) (stk' := [.long ((b106 18 (k - 1)) + ((b106 17 k) * (t.toInt64))), .int (nI (k - 1)), .ref 18]) (mem' := fm g tp bt a b106) (by intro _ _ _; eq_refl) ?_
              refine fe_stL (mem' := fm g tp bt a (fm_uL b106 18 (nI (k - 1) : Int32).toNatClampNeg ((b106 18 (k - 1)) + ((b106 17 k) * (t.toInt64))))) (by rfl) (by rfl) (fx_inN (i := k - 1) (by omega) (by omega)) fm_sl18 ?_
              rw [show Int32.toNatClampNeg (nI (k - 1)) = k - 1 from nI_clamp (by omega)]
              obtain ⟨b113, hb113⟩ : ∃ z, z = fm_uL b106 18 (k - 1) ((b106 18 (k - 1)) + ((b106 17 k) * (t.toInt64))) := ⟨_, rfl⟩
              rw [← hb113]
              refine fe_s 1 (pc' := 223) (lc' := [(8, .int ((nI k) + 1)), (9, .int ((v102 + (nI k)) - 10)), (7, .int (nI j)), (5, .long x), (0, .ref 0), (1, .int (nI C)), (2, .int (nI days)), (3, .int f), (4, .int t)]) (stk' := []) (mem' := fm g tp bt a b113) (by intro _ _ _; eq_refl) ?_
              rw [show ((nI k) + 1 : Int32) = nI (k + 1) from by simp only [show (1 : Int32) = nI 1 from rfl, nI_add, fm_mul]]
              refine fe_s 1 (pc' := fx_to 223 (-149)) (lc' := [(8, .int (nI (k + 1))), (9, .int ((v102 + (nI k)) - 10)), (7, .int (nI j)), (5, .long x), (0, .ref 0), (1, .int (nI C)), (2, .int (nI days)), (3, .int f), (4, .int t)]) (stk' := []) (mem' := fm g tp bt a b113) (by intro _ _ _; eq_refl) ?_
              rw [show fx_to 223 (-149) = 74 from by decide]
              refine fe_w (lc' := [(8, .int (nI (k + 1))), (7, .int (nI j)), (5, .long x), (0, .ref 0), (1, .int (nI C)), (2, .int (nI days)), (3, .int f), (4, .int t)]) ⟨rfl, rfl, rfl, rfl, rfl, rfl, rfl, rfl, trivial⟩ (by show List.Nodup [8, 7, 5, 0, 1, 2, 3, 4]; decide) (by show List.Nodup [8, 9, 7, 5, 0, 1, 2, 3, 4]; decide) ?_
              have wb103 := fm_W_8 h1 hb103
              have zb103 := fm_W8_u h2 (by omega) hb103
              have wb106 := fm_W_8 wb103 hb106
              have zb106 := fm_W8_u zb103 (by omega) hb106
              have wb113 := fm_W_8 wb106 hb113
              have zb113 := fm_W8_u zb106 (by omega) hb113
              exact ih2 (k + 1) (by omega) _ wb113 zb113
        · refine fe_s 3 (pc' := 172) (lc' := [(9, .int ((v102 + (nI k)) - 10)), (8, .int (nI k)), (7, .int (nI j)), (5, .long x), (0, .ref 0), (1, .int (nI C)), (2, .int (nI days)), (3, .int f), (4, .int t)]) (stk' := [.int (nI k), .ref 17, .long (b103 18 k), .int (nI k), .ref 18]) (mem' := fm g tp bt a b103) (by intro _ _ _; eq_refl) ?_
          refine fe_ldL (by rfl) (by rfl) (fx_inN (i := k) (by omega) (by omega)) ?_
          rw [show Int32.toNatClampNeg (nI k) = k from nI_clamp (by omega)]
          refine fe_s 4 (pc' := 177) (lc' := [(9, .int ((v102 + (nI k)) - 10)), (8, .int (nI k)), (7, .int (nI j)), (5, .long x), (0, .ref 0), (1, .int (nI C)), (2, .int (nI days)), (3, .int f), (4, .int t)]) (stk' := [.long ((b103 18 k) + ((b103 17 k) * (f.toInt64))), .int (nI k), .ref 18]) (mem' := fm g tp bt a b103) (by intro _ _ _; eq_refl) ?_
          refine fe_stL (mem' := fm g tp bt a (fm_uL b103 18 (nI k : Int32).toNatClampNeg ((b103 18 k) + ((b103 17 k) * (f.toInt64))))) (by rfl) (by rfl) (fx_inN (i := k) (by omega) (by omega)) fm_sl18 ?_
          rw [show Int32.toNatClampNeg (nI k) = k from nI_clamp (by omega)]
          obtain ⟨b114, hb114⟩ : ∃ z, z = fm_uL b103 18 (k) ((b103 18 k) + ((b103 17 k) * (f.toInt64))) := ⟨_, rfl⟩
          rw [← hb114]
          refine fe_s 3 (pc' := 184) (lc' := [(9, .int ((v102 + (nI k)) - 10)), (8, .int (nI k)), (7, .int (nI j)), (5, .long x), (0, .ref 0), (1, .int (nI C)), (2, .int (nI days)), (3, .int f), (4, .int t)]) (stk' := [.int ((v102 + (nI k)) - 10), .ref 18]) (mem' := fm g tp bt a b114) (by intro _ _ _; eq_refl) ?_
          refine fe_s 1 (pc' := cond (fx_cb .ne ((v102 + (nI k)) - 10) 0) 192 187) (lc' := [(9, .int ((v102 + (nI k)) - 10)), (8, .int (nI k)), (7, .int (nI j)), (5, .long x), (0, .ref 0), (1, .int (nI C)), (2, .int (nI days)), (3, .int f), (4, .int t)]) (stk' := [.ref 18]) (mem' := fm g tp bt a b114) (by intro _ _ _; eq_refl) ?_
          cases h115 : fx_cb .ne ((v102 + (nI k)) - 10) 0
          · refine fe_s 3 (pc' := 197) (lc' := [(9, .int ((v102 + (nI k)) - 10)), (8, .int (nI k)), (7, .int (nI j)), (5, .long x), (0, .ref 0), (1, .int (nI C)), (2, .int (nI days)), (3, .int f), (4, .int t)]) (stk' := [.int (nI k), .ref 18, .int (nI k), .ref 18]) (mem' := fm g tp bt a b114) (by intro _ _ _; eq_refl) ?_
            refine fe_ldL (by rfl) (by rfl) (fx_inN (i := k) (by omega) (by omega)) ?_
            rw [show Int32.toNatClampNeg (nI k) = k from nI_clamp (by omega)]
            refine fe_s 1 (pc' := 200) (lc' := [(9, .int ((v102 + (nI k)) - 10)), (8, .int (nI k)), (7, .int (nI j)), (5, .long x), (0, .ref 0), (1, .int (nI C)), (2, .int (nI days)), (3, .int f), (4, .int t)]) (stk' := [.int t, .long (b114 18 k), .int (nI k), .ref 18]) (mem' := fm g tp bt a b114) (by intro _ _ _; eq_refl) ?_
            refine fe_s 1 (pc' := cond (fx_cb .ne t 0) 207 203) (lc' := [(9, .int ((v102 + (nI k)) - 10)), (8, .int (nI k)), (7, .int (nI j)), (5, .long x), (0, .ref 0), (1, .int (nI C)), (2, .int (nI days)), (3, .int f), (4, .int t)]) (stk' := [.long (b114 18 k), .int (nI k), .ref 18]) (mem' := fm g tp bt a b114) (by intro _ _ _; eq_refl) ?_
            cases h116 : fx_cb .ne t 0
            · refine fe_s 3 (pc' := 219) (lc' := [(9, .int ((v102 + (nI k)) - 10)), (8, .int (nI k)), (7, .int (nI j)), (5, .long x), (0, .ref 0), (1, .int (nI C)), (2, .int (nI days)), (3, .int f), (4, .int t)]) (stk' := [.long ((b114 18 k) + (0 : Int64)), .int (nI k), .ref 18]) (mem' := fm g tp bt a b114) (by intro _ _ _; eq_refl) ?_
              refine fe_stL (mem' := fm g tp bt a (fm_uL b114 18 (nI k : Int32).toNatClampNeg ((b114 18 k) + (0 : Int64)))) (by rfl) (by rfl) (fx_inN (i := k) (by omega) (by omega)) fm_sl18 ?_
              rw [show Int32.toNatClampNeg (nI k) = k from nI_clamp (by omega)]
              obtain ⟨b117, hb117⟩ : ∃ z, z = fm_uL b114 18 (k) ((b114 18 k) + (0 : Int64)) := ⟨_, rfl⟩
              rw [← hb117]
              refine fe_s 1 (pc' := 223) (lc' := [(8, .int ((nI k) + 1)), (9, .int ((v102 + (nI k)) - 10)), (7, .int (nI j)), (5, .long x), (0, .ref 0), (1, .int (nI C)), (2, .int (nI days)), (3, .int f), (4, .int t)]) (stk' := []) (mem' := fm g tp bt a b117) (by intro _ _ _; eq_refl) ?_
              rw [show ((nI k) + 1 : Int32) = nI (k + 1) from by simp only [show (1 : Int32) = nI 1 from rfl, nI_add, fm_mul]]
              refine fe_s 1 (pc' := fx_to 223 (-149)) (lc' := [(8, .int (nI (k + 1))), (9, .int ((v102 + (nI k)) - 10)), (7, .int (nI j)), (5, .long x), (0, .ref 0), (1, .int (nI C)), (2, .int (nI days)), (3, .int f), (4, .int t)]) (stk' := []) (mem' := fm g tp bt a b117) (by intro _ _ _; eq_refl) ?_
              rw [show fx_to 223 (-149) = 74 from by decide]
              refine fe_w (lc' := [(8, .int (nI (k + 1))), (7, .int (nI j)), (5, .long x), (0, .ref 0), (1, .int (nI C)), (2, .int (nI days)), (3, .int f), (4, .int t)]) ⟨rfl, rfl, rfl, rfl, rfl, rfl, rfl, rfl, trivial⟩ (by show List.Nodup [8, 7, 5, 0, 1, 2, 3, 4]; decide) (by show List.Nodup [8, 9, 7, 5, 0, 1, 2, 3, 4]; decide) ?_
              have wb103 := fm_W_8 h1 hb103
              have zb103 := fm_W8_u h2 (by omega) hb103
              have wb114 := fm_W_8 wb103 hb114
              have zb114 := fm_W8_u zb103 (by omega) hb114
              have wb117 := fm_W_8 wb114 hb117
              have zb117 := fm_W8_u zb114 (by omega) hb117
              exact ih2 (k + 1) (by omega) _ wb117 zb117
            · refine fe_s 3 (pc' := 213) (lc' := [(9, .int ((v102 + (nI k)) - 10)), (8, .int (nI k)), (7, .int (nI j)), (5, .long x), (0, .ref 0), (1, .int (nI C)), (2, .int (nI days)), (3, .int f), (4, .int t)]) (stk' := [.int (nI k), .ref 17, .long (b114 18 k), .int (nI k), .ref 18]) (mem' := fm g tp bt a b114) (by intro _ _ _; eq_refl) ?_
              refine fe_ldL (by rfl) (by rfl) (fx_inN (i := k) (by omega) (by omega)) ?_
              rw [show Int32.toNatClampNeg (nI k) = k from nI_clamp (by omega)]
              refine fe_s 4 (pc' := 219) (lc' := [(9, .int ((v102 + (nI k)) - 10)), (8, .int (nI k)), (7, .int (nI j)), (5, .long x), (0, .ref 0), (1, .int (nI C)), (2, .int (nI days)), (3, .int f), (4, .int t)]) (stk' := [.long ((b114 18 k) + ((b114 17 k) * (t.toInt64))), .int (nI k), .ref 18]) (mem' := fm g tp bt a b114) (by intro _ _ _; eq_refl) ?_
              refine fe_stL (mem' := fm g tp bt a (fm_uL b114 18 (nI k : Int32).toNatClampNeg ((b114 18 k) + ((b114 17 k) * (t.toInt64))))) (by rfl) (by rfl) (fx_inN (i := k) (by omega) (by omega)) fm_sl18 ?_
              rw [show Int32.toNatClampNeg (nI k) = k from nI_clamp (by omega)]
              obtain ⟨b118, hb118⟩ : ∃ z, z = fm_uL b114 18 (k) ((b114 18 k) + ((b114 17 k) * (t.toInt64))) := ⟨_, rfl⟩
              rw [← hb118]
              refine fe_s 1 (pc' := 223) (lc' := [(8, .int ((nI k) + 1)), (9, .int ((v102 + (nI k)) - 10)), (7, .int (nI j)), (5, .long x), (0, .ref 0), (1, .int (nI C)), (2, .int (nI days)), (3, .int f), (4, .int t)]) (stk' := []) (mem' := fm g tp bt a b118) (by intro _ _ _; eq_refl) ?_
              rw [show ((nI k) + 1 : Int32) = nI (k + 1) from by simp only [show (1 : Int32) = nI 1 from rfl, nI_add, fm_mul]]
              refine fe_s 1 (pc' := fx_to 223 (-149)) (lc' := [(8, .int (nI (k + 1))), (9, .int ((v102 + (nI k)) - 10)), (7, .int (nI j)), (5, .long x), (0, .ref 0), (1, .int (nI C)), (2, .int (nI days)), (3, .int f), (4, .int t)]) (stk' := []) (mem' := fm g tp bt a b118) (by intro _ _ _; eq_refl) ?_
              rw [show fx_to 223 (-149) = 74 from by decide]
              refine fe_w (lc' := [(8, .int (nI (k + 1))), (7, .int (nI j)), (5, .long x), (0, .ref 0), (1, .int (nI C)), (2, .int (nI days)), (3, .int f), (4, .int t)]) ⟨rfl, rfl, rfl, rfl, rfl, rfl, rfl, rfl, trivial⟩ (by show List.Nodup [8, 7, 5, 0, 1, 2, 3, 4]; decide) (by show List.Nodup [8, 9, 7, 5, 0, 1, 2, 3, 4]; decide) ?_
              have wb103 := fm_W_8 h1 hb103
              have zb103 := fm_W8_u h2 (by omega) hb103
              have wb114 := fm_W_8 wb103 hb114
              have zb114 := fm_W8_u zb103 (by omega) hb114
              have wb118 := fm_W_8 wb114 hb118
              have zb118 := fm_W8_u zb114 (by omega) hb118
              exact ih2 (k + 1) (by omega) _ wb118 zb118
          · refine fe_s 4 (pc' := 197) (lc' := [(9, .int ((v102 + (nI k)) - 10)), (8, .int (nI k)), (7, .int (nI j)), (5, .long x), (0, .ref 0), (1, .int (nI C)), (2, .int (nI days)), (3, .int f), (4, .int t)]) (stk' := [.int ((nI k) - 1), .ref 18, .int ((nI k) - 1), .ref 18]) (mem' := fm g tp bt a b114) (by intro _ _ _; eq_refl) ?_
            rw [show ((nI k) - 1 : Int32) = nI (k - 1) from by simp only [show (1 : Int32) = nI 1 from rfl, tg_sub2 (x := k) (y := 1) (by omega), nI_add, fm_mul]]
            refine fe_ldL (by rfl) (by rfl) (fx_inN (i := k - 1) (by omega) (by omega)) ?_
            rw [show Int32.toNatClampNeg (nI (k - 1)) = k - 1 from nI_clamp (by omega)]
            refine fe_s 1 (pc' := 200) (lc' := [(9, .int ((v102 + (nI k)) - 10)), (8, .int (nI k)), (7, .int (nI j)), (5, .long x), (0, .ref 0), (1, .int (nI C)), (2, .int (nI days)), (3, .int f), (4, .int t)]) (stk' := [.int t, .long (b114 18 (k - 1)), .int (nI (k - 1)), .ref 18]) (mem' := fm g tp bt a b114) (by intro _ _ _; eq_refl) ?_
            refine fe_s 1 (pc' := cond (fx_cb .ne t 0) 207 203) (lc' := [(9, .int ((v102 + (nI k)) - 10)), (8, .int (nI k)), (7, .int (nI j)), (5, .long x), (0, .ref 0), (1, .int (nI C)), (2, .int (nI days)), (3, .int f), (4, .int t)]) (stk' := [.long (b114 18 (k - 1)), .int (nI (k - 1)), .ref 18]) (mem' := fm g tp bt a b114) (by intro _ _ _; eq_refl) ?_
            cases h119 : fx_cb .ne t 0
            · refine fe_s 3 (pc' := 219) (lc' := [(9, .int ((v102 + (nI k)) - 10)), (8, .int (nI k)), (7, .int (nI j)), (5, .long x), (0, .ref 0), (1, .int (nI C)), (2, .int (nI days)), (3, .int f), (4, .int t)]) (stk' := [.long ((b114 18 (k - 1)) + (0 : Int64)), .int (nI (k - 1)), .ref 18]) (mem' := fm g tp bt a b114) (by intro _ _ _; eq_refl) ?_
              refine fe_stL (mem' := fm g tp bt a (fm_uL b114 18 (nI (k - 1) : Int32).toNatClampNeg ((b114 18 (k - 1)) + (0 : Int64)))) (by rfl) (by rfl) (fx_inN (i := k - 1) (by omega) (by omega)) fm_sl18 ?_
              rw [show Int32.toNatClampNeg (nI (k - 1)) = k - 1 from nI_clamp (by omega)]
              obtain ⟨b120, hb120⟩ : ∃ z, z = fm_uL b114 18 (k - 1) ((b114 18 (k - 1)) + (0 : Int64)) := ⟨_, rfl⟩
              rw [← hb120]
              refine fe_s 1 (pc' := 223) (lc' := [(8, .int ((nI k) + 1)), (9, .int ((v102 + (nI k)) - 10)), (7, .int (nI j)), (5, .long x), (0, .ref 0), (1, .int (nI C)), (2, .int (nI days)), (3, .int f), (4, .int t)]) (stk' := []) (mem' := fm g tp bt a b120) (by intro _ _ _; eq_refl) ?_
              rw [show ((nI k) + 1 : Int32) = nI (k + 1) from by simp only [show (1 : Int32) = nI 1 from rfl, nI_add, fm_mul]]
              refine fe_s 1 (pc' := fx_to 223 (-149)) (lc' := [(8, .int (nI (k + 1))), (9, .int ((v102 + (nI k)) - 10)), (7, .int (nI j)), (5, .long x), (0, .ref 0), (1, .int (nI C)), (2, .int (nI days)), (3, .int f), (4, .int t)]) (stk' := []) (mem' := fm g tp bt a b120) (by intro _ _ _; eq_refl) ?_
              rw [show fx_to 223 (-149) = 74 from by decide]
              refine fe_w (lc' := [(8, .int (nI (k + 1))), (7, .int (nI j)), (5, .long x), (0, .ref 0), (1, .int (nI C)), (2, .int (nI days)), (3, .int f), (4, .int t)]) ⟨rfl, rfl, rfl, rfl, rfl, rfl, rfl, rfl, trivial⟩ (by show List.Nodup [8, 7, 5, 0, 1, 2, 3, 4]; decide) (by show List.Nodup [8, 9, 7, 5, 0, 1, 2, 3, 4]; decide) ?_
              have wb103 := fm_W_8 h1 hb103
              have zb103 := fm_W8_u h2 (by omega) hb103
              have wb114 := fm_W_8 wb103 hb114
              have zb114 := fm_W8_u zb103 (by omega) hb114
              have wb120 := fm_W_8 wb114 hb120
              have zb120 := fm_W8_u zb114 (by omega) hb120
              exact ih2 (k + 1) (by omega) _ wb120 zb120
            · refine fe_s 3 (pc' := 213) (lc' := [(9, .int ((v102 + (nI k)) - 10)), (8, .int (nI k)), (7, .int (nI j)), (5, .long x), (0, .ref 0), (1, .int (nI C)), (2, .int (nI days)), (3, .int f), (4, .int t)]) (stk' := [.int (nI k), .ref 17, .long (b114 18 (k - 1)), .int (nI (k - 1)), .ref 18]) (mem' := fm g tp bt a b114) (by intro _ _ _; eq_refl) ?_
              refine fe_ldL (by rfl) (by rfl) (fx_inN (i := k) (by omega) (by omega)) ?_
              rw [show Int32.toNatClampNeg (nI k) = k from nI_clamp (by omega)]
              refine fe_s 4 (pc' := 219) (lc' := [(9, .int ((v102 + (nI k)) - 10)), (8, .int (nI k)), (7, .int (nI j)), (5, .long x), (0, .ref 0), (1, .int (nI C)), (2, .int (nI days)), (3, .int f), (4, .int t)]) (stk' := [.long ((b114 18 (k - 1)) + ((b114 17 k) * (t.toInt64))), .int (nI (k - 1)), .ref 18]) (mem' := fm g tp bt a b114) (by intro _ _ _; eq_refl) ?_
              refine fe_stL (mem' := fm g tp bt a (fm_uL b114 18 (nI (k - 1) : Int32).toNatClampNeg ((b114 18 (k - 1)) + ((b114 17 k) * (t.toInt64))))) (by rfl) (by rfl) (fx_inN (i := k - 1) (by omega) (by omega)) fm_sl18 ?_
              rw [show Int32.toNatClampNeg (nI (k - 1)) = k - 1 from nI_clamp (by omega)]
              obtain ⟨b121, hb121⟩ : ∃ z, z = fm_uL b114 18 (k - 1) ((b114 18 (k - 1)) + ((b114 17 k) * (t.toInt64))) := ⟨_, rfl⟩
              rw [← hb121]
              refine fe_s 1 (pc' := 223) (lc' := [(8, .int ((nI k) + 1)), (9, .int ((v102 + (nI k)) - 10)), (7, .int (nI j)), (5, .long x), (0, .ref 0), (1, .int (nI C)), (2, .int (nI days)), (3, .int f), (4, .int t)]) (stk' := []) (mem' := fm g tp bt a b121) (by intro _ _ _; eq_refl) ?_
              rw [show ((nI k) + 1 : Int32) = nI (k + 1) from by simp only [show (1 : Int32) = nI 1 from rfl, nI_add, fm_mul]]
              refine fe_s 1 (pc' := fx_to 223 (-149)) (lc' := [(8, .int (nI (k + 1))), (9, .int ((v102 + (nI k)) - 10)), (7, .int (nI j)), (5, .long x), (0, .ref 0), (1, .int (nI C)), (2, .int (nI days)), (3, .int f), (4, .int t)]) (stk' := []) (mem' := fm g tp bt a b121) (by intro _ _ _; eq_refl) ?_
              rw [show fx_to 223 (-149) = 74 from by decide]
              refine fe_w (lc' := [(8, .int (nI (k + 1))), (7, .int (nI j)), (5, .long x), (0, .ref 0), (1, .int (nI C)), (2, .int (nI days)), (3, .int f), (4, .int t)]) ⟨rfl, rfl, rfl, rfl, rfl, rfl, rfl, rfl, trivial⟩ (by show List.Nodup [8, 7, 5, 0, 1, 2, 3, 4]; decide) (by show List.Nodup [8, 9, 7, 5, 0, 1, 2, 3, 4]; decide) ?_
              have wb103 := fm_W_8 h1 hb103
              have zb103 := fm_W8_u h2 (by omega) hb103
              have wb114 := fm_W_8 wb103 hb114
              have zb114 := fm_W8_u zb103 (by omega) hb114
              have wb121 := fm_W_8 wb114 hb121
              have zb121 := fm_W8_u zb114 (by omega) hb121
              exact ih2 (k + 1) (by omega) _ wb121 zb121
      · refine fe_s 4 (pc' := 157) (lc' := [(9, .int ((v102 + (nI k)) - 10)), (8, .int (nI k)), (7, .int (nI j)), (5, .long x), (0, .ref 0), (1, .int (nI C)), (2, .int (nI days)), (3, .int f), (4, .int t)]) (stk' := [.int ((nI k) + 1), .ref 18, .int ((nI k) + 1), .ref 18]) (mem' := fm g tp bt a b103) (by intro _ _ _; eq_refl) ?_
        rw [show ((nI k) + 1 : Int32) = nI (k + 1) from by simp only [show (1 : Int32) = nI 1 from rfl, nI_add, fm_mul]]
        refine fe_ldL (by rfl) (by rfl) (fx_inN (i := k + 1) (by omega) (by omega)) ?_
        rw [show Int32.toNatClampNeg (nI (k + 1)) = k + 1 from nI_clamp (by omega)]
        refine fe_s 1 (pc' := 159) (lc' := [(9, .int ((v102 + (nI k)) - 10)), (8, .int (nI k)), (7, .int (nI j)), (5, .long x), (0, .ref 0), (1, .int (nI C)), (2, .int (nI days)), (3, .int f), (4, .int t)]) (stk' := [.int f, .long (b103 18 (k + 1)), .int (nI (k + 1)), .ref 18]) (mem' := fm g tp bt a b103) (by intro _ _ _; eq_refl) ?_
        refine fe_s 1 (pc' := cond (fx_cb .ne f 0) 166 162) (lc' := [(9, .int ((v102 + (nI k)) - 10)), (8, .int (nI k)), (7, .int (nI j)), (5, .long x), (0, .ref 0), (1, .int (nI C)), (2, .int (nI days)), (3, .int f), (4, .int t)]) (stk' := [.long (b103 18 (k + 1)), .int (nI (k + 1)), .ref 18]) (mem' := fm g tp bt a b103) (by intro _ _ _; eq_refl) ?_
        cases h122 : fx_cb .ne f 0
        · refine fe_s 3 (pc' := 177) (lc' := [(9, .int ((v102 + (nI k)) - 10)), (8, .int (nI k)), (7, .int (nI j)), (5, .long x), (0, .ref 0), (1, .int (nI C)), (2, .int (nI days)), (3, .int f), (4, .int t)]) (stk' := [.long ((b103 18 (k + 1)) + (0 : Int64)), .int (nI (k + 1)), .ref 18]) (mem' := fm g tp bt a b103) (by intro _ _ _; eq_refl) ?_
          refine fe_stL (mem' := fm g tp bt a (fm_uL b103 18 (nI (k + 1) : Int32).toNatClampNeg ((b103 18 (k + 1)) + (0 : Int64)))) (by rfl) (by rfl) (fx_inN (i := k + 1) (by omega) (by omega)) fm_sl18 ?_
          rw [show Int32.toNatClampNeg (nI (k + 1)) = k + 1 from nI_clamp (by omega)]
          obtain ⟨b123, hb123⟩ : ∃ z, z = fm_uL b103 18 (k + 1) ((b103 18 (k + 1)) + (0 : Int64)) := ⟨_, rfl⟩
          rw [← hb123]
          refine fe_s 3 (pc' := 184) (lc' := [(9, .int ((v102 + (nI k)) - 10)), (8, .int (nI k)), (7, .int (nI j)), (5, .long x), (0, .ref 0), (1, .int (nI C)), (2, .int (nI days)), (3, .int f), (4, .int t)]) (stk' := [.int ((v102 + (nI k)) - 10), .ref 18]) (mem' := fm g tp bt a b123) (by intro _ _ _; eq_refl) ?_
          refine fe_s 1 (pc' := cond (fx_cb .ne ((v102 + (nI k)) - 10) 0) 192 187) (lc' := [(9, .int ((v102 + (nI k)) - 10)), (8, .int (nI k)), (7, .int (nI j)), (5, .long x), (0, .ref 0), (1, .int (nI C)), (2, .int (nI days)), (3, .int f), (4, .int t)]) (stk' := [.ref 18]) (mem' := fm g tp bt a b123) (by intro _ _ _; eq_refl) ?_
          cases h124 : fx_cb .ne ((v102 + (nI k)) - 10) 0
          · refine fe_s 3 (pc' := 197) (lc' := [(9, .int ((v102 + (nI k)) - 10)), (8, .int (nI k)), (7, .int (nI j)), (5, .long x), (0, .ref 0), (1, .int (nI C)), (2, .int (nI days)), (3, .int f), (4, .int t)]) (stk' := [.int (nI k), .ref 18, .int (nI k), .ref 18]) (mem' := fm g tp bt a b123) (by intro _ _ _; eq_refl) ?_
            refine fe_ldL (by rfl) (by rfl) (fx_inN (i := k) (by omega) (by omega)) ?_
            rw [show Int32.toNatClampNeg (nI k) = k from nI_clamp (by omega)]
            refine fe_s 1 (pc' := 200) (lc' := [(9, .int ((v102 + (nI k)) - 10)), (8, .int (nI k)), (7, .int (nI j)), (5, .long x), (0, .ref 0), (1, .int (nI C)), (2, .int (nI days)), (3, .int f), (4, .int t)]) (stk' := [.int t, .long (b123 18 k), .int (nI k), .ref 18]) (mem' := fm g tp bt a b123) (by intro _ _ _; eq_refl) ?_
            refine fe_s 1 (pc' := cond (fx_cb .ne t 0) 207 203) (lc' := [(9, .int ((v102 + (nI k)) - 10)), (8, .int (nI k)), (7, .int (nI j)), (5, .long x), (0, .ref 0), (1, .int (nI C)), (2, .int (nI days)), (3, .int f), (4, .int t)]) (stk' := [.long (b123 18 k), .int (nI k), .ref 18]) (mem' := fm g tp bt a b123) (by intro _ _ _; eq_refl) ?_
            cases h125 : fx_cb .ne t 0
            · refine fe_s 3 (pc' := 219) (lc' := [(9, .int ((v102 + (nI k)) - 10)), (8, .int (nI k)), (7, .int (nI j)), (5, .long x), (0, .ref 0), (1, .int (nI C)), (2, .int (nI days)), (3, .int f), (4, .int t)]) (stk' := [.long ((b123 18 k) + (0 : Int64)), .int (nI k), .ref 18]) (mem' := fm g tp bt a b123) (by intro _ _ _; eq_refl) ?_
              refine fe_stL (mem' := fm g tp bt a (fm_uL b123 18 (nI k : Int32).toNatClampNeg ((b123 18 k) + (0 : Int64)))) (by rfl) (by rfl) (fx_inN (i := k) (by omega) (by omega)) fm_sl18 ?_
              rw [show Int32.toNatClampNeg (nI k) = k from nI_clamp (by omega)]
              obtain ⟨b126, hb126⟩ : ∃ z, z = fm_uL b123 18 (k) ((b123 18 k) + (0 : Int64)) := ⟨_, rfl⟩
              rw [← hb126]
              refine fe_s 1 (pc' := 223) (lc' := [(8, .int ((nI k) + 1)), (9, .int ((v102 + (nI k)) - 10)), (7, .int (nI j)), (5, .long x), (0, .ref 0), (1, .int (nI C)), (2, .int (nI days)), (3, .int f), (4, .int t)]) (stk' := []) (mem' := fm g tp bt a b126) (by intro _ _ _; eq_refl) ?_
              rw [show ((nI k) + 1 : Int32) = nI (k + 1) from by simp only [show (1 : Int32) = nI 1 from rfl, nI_add, fm_mul]]
              refine fe_s 1 (pc' := fx_to 223 (-149)) (lc' := [(8, .int (nI (k + 1))), (9, .int ((v102 + (nI k)) - 10)), (7, .int (nI j)), (5, .long x), (0, .ref 0), (1, .int (nI C)), (2, .int (nI days)), (3, .int f), (4, .int t)]) (stk' := []) (mem' := fm g tp bt a b126) (by intro _ _ _; eq_refl) ?_
              rw [show fx_to 223 (-149) = 74 from by decide]
              refine fe_w (lc' := [(8, .int (nI (k + 1))), (7, .int (nI j)), (5, .long x), (0, .ref 0), (1, .int (nI C)), (2, .int (nI days)), (3, .int f), (4, .int t)]) ⟨rfl, rfl, rfl, rfl, rfl, rfl, rfl, rfl, trivial⟩ (by show List.Nodup [8, 7, 5, 0, 1, 2, 3, 4]; decide) (by show List.Nodup [8, 9, 7, 5, 0, 1, 2, 3, 4]; decide) ?_
              have wb103 := fm_W_8 h1 hb103
              have zb103 := fm_W8_u h2 (by omega) hb103
              have wb123 := fm_W_8 wb103 hb123
              have zb123 := fm_W8_u zb103 (by omega) hb123
              have wb126 := fm_W_8 wb123 hb126
              have zb126 := fm_W8_u zb123 (by omega) hb126
              exact ih2 (k + 1) (by omega) _ wb126 zb126
            · refine fe_s 3 (pc' := 213) (lc' := [(9, .int ((v102 + (nI k)) - 10)), (8, .int (nI k)), (7, .int (nI j)), (5, .long x), (0, .ref 0), (1, .int (nI C)), (2, .int (nI days)), (3, .int f), (4, .int t)]) (stk' := [.int (nI k), .ref 17, .long (b123 18 k), .int (nI k), .ref 18]) (mem' := fm g tp bt a b123) (by intro _ _ _; eq_refl) ?_
              refine fe_ldL (by rfl) (by rfl) (fx_inN (i := k) (by omega) (by omega)) ?_
              rw [show Int32.toNatClampNeg (nI k) = k from nI_clamp (by omega)]
              refine fe_s 4 (pc' := 219) (lc' := [(9, .int ((v102 + (nI k)) - 10)), (8, .int (nI k)), (7, .int (nI j)), (5, .long x), (0, .ref 0), (1, .int (nI C)), (2, .int (nI days)), (3, .int f), (4, .int t)]) (stk' := [.long ((b123 18 k) + ((b123 17 k) * (t.toInt64))), .int (nI k), .ref 18]) (mem' := fm g tp bt a b123) (by intro _ _ _; eq_refl) ?_
              refine fe_stL (mem' := fm g tp bt a (fm_uL b123 18 (nI k : Int32).toNatClampNeg ((b123 18 k) + ((b123 17 k) * (t.toInt64))))) (by rfl) (by rfl) (fx_inN (i := k) (by omega) (by omega)) fm_sl18 ?_
              rw [show Int32.toNatClampNeg (nI k) = k from nI_clamp (by omega)]
              obtain ⟨b127, hb127⟩ : ∃ z, z = fm_uL b123 18 (k) ((b123 18 k) + ((b123 17 k) * (t.toInt64))) := ⟨_, rfl⟩
              rw [← hb127]
              refine fe_s 1 (pc' := 223) (lc' := [(8, .int ((nI k) + 1)), (9, .int ((v102 + (nI k)) - 10)), (7, .int (nI j)), (5, .long x), (0, .ref 0), (1, .int (nI C)), (2, .int (nI days)), (3, .int f), (4, .int t)]) (stk' := []) (mem' := fm g tp bt a b127) (by intro _ _ _; eq_refl) ?_
              rw [show ((nI k) + 1 : Int32) = nI (k + 1) from by simp only [show (1 : Int32) = nI 1 from rfl, nI_add, fm_mul]]
              refine fe_s 1 (pc' := fx_to 223 (-149)) (lc' := [(8, .int (nI (k + 1))), (9, .int ((v102 + (nI k)) - 10)), (7, .int (nI j)), (5, .long x), (0, .ref 0), (1, .int (nI C)), (2, .int (nI days)), (3, .int f), (4, .int t)]) (stk' := []) (mem' := fm g tp bt a b127) (by intro _ _ _; eq_refl) ?_
              rw [show fx_to 223 (-149) = 74 from by decide]
              refine fe_w (lc' := [(8, .int (nI (k + 1))), (7, .int (nI j)), (5, .long x), (0, .ref 0), (1, .int (nI C)), (2, .int (nI days)), (3, .int f), (4, .int t)]) ⟨rfl, rfl, rfl, rfl, rfl, rfl, rfl, rfl, trivial⟩ (by show List.Nodup [8, 7, 5, 0, 1, 2, 3, 4]; decide) (by show List.Nodup [8, 9, 7, 5, 0, 1, 2, 3, 4]; decide) ?_
              have wb103 := fm_W_8 h1 hb103
              have zb103 := fm_W8_u h2 (by omega) hb103
              have wb123 := fm_W_8 wb103 hb123
              have zb123 := fm_W8_u zb103 (by omega) hb123
              have wb127 := fm_W_8 wb123 hb127
              have zb127 := fm_W8_u zb123 (by omega) hb127
              exact ih2 (k + 1) (by omega) _ wb127 zb127
          · refine fe_s 4 (pc' := 197) (lc' := [(9, .int ((v102 + (nI k)) - 10)), (8, .int (nI k)), (7, .int (nI j)), (5, .long x), (0, .ref 0), (1, .int (nI C)), (2, .int (nI days)), (3, .int f), (4, .int t)]) (stk' := [.int ((nI k) - 1), .ref 18, .int ((nI k) - 1), .ref 18]) (mem' := fm g tp bt a b123) (by intro _ _ _; eq_refl) ?_
            rw [show ((nI k) - 1 : Int32) = nI (k - 1) from by simp only [show (1 : Int32) = nI 1 from rfl, tg_sub2 (x := k) (y := 1) (by omega), nI_add, fm_mul]]
            refine fe_ldL (by rfl) (by rfl) (fx_inN (i := k - 1) (by omega) (by omega)) ?_
            rw [show Int32.toNatClampNeg (nI (k - 1)) = k - 1 from nI_clamp (by omega)]
            refine fe_s 1 (pc' := 200) (lc' := [(9, .int ((v102 + (nI k)) - 10)), (8, .int (nI k)), (7, .int (nI j)), (5, .long x), (0, .ref 0), (1, .int (nI C)), (2, .int (nI days)), (3, .int f), (4, .int t)]) (stk' := [.int t, .long (b123 18 (k - 1)), .int (nI (k - 1)), .ref 18]) (mem' := fm g tp bt a b123) (by intro _ _ _; eq_refl) ?_
            refine fe_s 1 (pc' := cond (fx_cb .ne t 0) 207 203) (lc' := [(9, .int ((v102 + (nI k)) - 10)), (8, .int (nI k)), (7, .int (nI j)), (5, .long x), (0, .ref 0), (1, .int (nI C)), (2, .int (nI days)), (3, .int f), (4, .int t)]) (stk' := [.long (b123 18 (k - 1)), .int (nI (k - 1)), .ref 18]) (mem' := fm g tp bt a b123) (by intro _ _ _; eq_refl) ?_
            cases h128 : fx_cb .ne t 0
            · refine fe_s 3 (pc' := 219) (lc' := [(9, .int ((v102 + (nI k)) - 10)), (8, .int (nI k)), (7, .int (nI j)), (5, .long x), (0, .ref 0), (1, .int (nI C)), (2, .int (nI days)), (3, .int f), (4, .int t)]) (stk' := [.long ((b123 18 (k - 1)) + (0 : Int64)), .int (nI (k - 1)), .ref 18]) (mem' := fm g tp bt a b123) (by intro _ _ _; eq_refl) ?_
              refine fe_stL (mem' := fm g tp bt a (fm_uL b123 18 (nI (k - 1) : Int32).toNatClampNeg ((b123 18 (k - 1)) + (0 : Int64)))) (by rfl) (by rfl) (fx_inN (i := k - 1) (by omega) (by omega)) fm_sl18 ?_
              rw [show Int32.toNatClampNeg (nI (k - 1)) = k - 1 from nI_clamp (by omega)]
              obtain ⟨b129, hb129⟩ : ∃ z, z = fm_uL b123 18 (k - 1) ((b123 18 (k - 1)) + (0 : Int64)) := ⟨_, rfl⟩
              rw [← hb129]
              refine fe_s 1 (pc' := 223) (lc' := [(8, .int ((nI k) + 1)), (9, .int ((v102 + (nI k)) - 10)), (7, .int (nI j)), (5, .long x), (0, .ref 0), (1, .int (nI C)), (2, .int (nI days)), (3, .int f), (4, .int t)]) (stk' := []) (mem' := fm g tp bt a b129) (by intro _ _ _; eq_refl) ?_
              rw [show ((nI k) + 1 : Int32) = nI (k + 1) from by simp only [show (1 : Int32) = nI 1 from rfl, nI_add, fm_mul]]
              refine fe_s 1 (pc' := fx_to 223 (-149)) (lc' := [(8, .int (nI (k + 1))), (9, .int ((v102 + (nI k)) - 10)), (7, .int (nI j)), (5, .long x), (0, .ref 0), (1, .int (nI C)), (2, .int (nI days)), (3, .int f), (4, .int t)]) (stk' := []) (mem' := fm g tp bt a b129) (by intro _ _ _; eq_refl) ?_
              rw [show fx_to 223 (-149) = 74 from by decide]
              refine fe_w (lc' := [(8, .int (nI (k + 1))), (7, .int (nI j)), (5, .long x), (0, .ref 0), (1, .int (nI C)), (2, .int (nI days)), (3, .int f), (4, .int t)]) ⟨rfl, rfl, rfl, rfl, rfl, rfl, rfl, rfl, trivial⟩ (by show List.Nodup [8, 7, 5, 0, 1, 2, 3, 4]; decide) (by show List.Nodup [8, 9, 7, 5, 0, 1, 2, 3, 4]; decide) ?_
              have wb103 := fm_W_8 h1 hb103
              have zb103 := fm_W8_u h2 (by omega) hb103
              have wb123 := fm_W_8 wb103 hb123
              have zb123 := fm_W8_u zb103 (by omega) hb123
              have wb129 := fm_W_8 wb123 hb129
              have zb129 := fm_W8_u zb123 (by omega) hb129
              exact ih2 (k + 1) (by omega) _ wb129 zb129
            · refine fe_s 3 (pc' := 213) (lc' := [(9, .int ((v102 + (nI k)) - 10)), (8, .int (nI k)), (7, .int (nI j)), (5, .long x), (0, .ref 0), (1, .int (nI C)), (2, .int (nI days)), (3, .int f), (4, .int t)]) (stk' := [.int (nI k), .ref 17, .long (b123 18 (k - 1)), .int (nI (k - 1)), .ref 18]) (mem' := fm g tp bt a b123) (by intro _ _ _; eq_refl) ?_
              refine fe_ldL (by rfl) (by rfl) (fx_inN (i := k) (by omega) (by omega)) ?_
              rw [show Int32.toNatClampNeg (nI k) = k from nI_clamp (by omega)]
              refine fe_s 4 (pc' := 219) (lc' := [(9, .int ((v102 + (nI k)) - 10)), (8, .int (nI k)), (7, .int (nI j)), (5, .long x), (0, .ref 0), (1, .int (nI C)), (2, .int (nI days)), (3, .int f), (4, .int t)]) (stk' := [.long ((b123 18 (k - 1)) + ((b123 17 k) * (t.toInt64))), .int (nI (k - 1)), .ref 18]) (mem' := fm g tp bt a b123) (by intro _ _ _; eq_refl) ?_
              refine fe_stL (mem' := fm g tp bt a (fm_uL b123 18 (nI (k - 1) : Int32).toNatClampNeg ((b123 18 (k - 1)) + ((b123 17 k) * (t.toInt64))))) (by rfl) (by rfl) (fx_inN (i := k - 1) (by omega) (by omega)) fm_sl18 ?_
              rw [show Int32.toNatClampNeg (nI (k - 1)) = k - 1 from nI_clamp (by omega)]
              obtain ⟨b130, hb130⟩ : ∃ z, z = fm_uL b123 18 (k - 1) ((b123 18 (k - 1)) + ((b123 17 k) * (t.toInt64))) := ⟨_, rfl⟩
              rw [← hb130]
              refine fe_s 1 (pc' := 223) (lc' := [(8, .int ((nI k) + 1)), (9, .int ((v102 + (nI k)) - 10)), (7, .int (nI j)), (5, .long x), (0, .ref 0), (1, .int (nI C)), (2, .int (nI days)), (3, .int f), (4, .int t)]) (stk' := []) (mem' := fm g tp bt a b130) (by intro _ _ _; eq_refl) ?_
              rw [show ((nI k) + 1 : Int32) = nI (k + 1) from by simp only [show (1 : Int32) = nI 1 from rfl, nI_add, fm_mul]]
              refine fe_s 1 (pc' := fx_to 223 (-149)) (lc' := [(8, .int (nI (k + 1))), (9, .int ((v102 + (nI k)) - 10)), (7, .int (nI j)), (5, .long x), (0, .ref 0), (1, .int (nI C)), (2, .int (nI days)), (3, .int f), (4, .int t)]) (stk' := []) (mem' := fm g tp bt a b130) (by intro _ _ _; eq_refl) ?_
              rw [show fx_to 223 (-149) = 74 from by decide]
              refine fe_w (lc' := [(8, .int (nI (k + 1))), (7, .int (nI j)), (5, .long x), (0, .ref 0), (1, .int (nI C)), (2, .int (nI days)), (3, .int f), (4, .int t)]) ⟨rfl, rfl, rfl, rfl, rfl, rfl, rfl, rfl, trivial⟩ (by show List.Nodup [8, 7, 5, 0, 1, 2, 3, 4]; decide) (by show List.Nodup [8, 9, 7, 5, 0, 1, 2, 3, 4]; decide) ?_
              have wb103 := fm_W_8 h1 hb103
              have zb103 := fm_W8_u h2 (by omega) hb103
              have wb123 := fm_W_8 wb103 hb123
              have zb123 := fm_W8_u zb103 (by omega) hb123
              have wb130 := fm_W_8 wb123 hb130
              have zb130 := fm_W8_u zb123 (by omega) hb130
              exact ih2 (k + 1) (by omega) _ wb130 zb130
        · refine fe_s 3 (pc' := 172) (lc' := [(9, .int ((v102 + (nI k)) - 10)), (8, .int (nI k)), (7, .int (nI j)), (5, .long x), (0, .ref 0), (1, .int (nI C)), (2, .int (nI days)), (3, .int f), (4, .int t)]) (stk' := [.int (nI k), .ref 17, .long (b103 18 (k + 1)), .int (nI (k + 1)), .ref 18]) (mem' := fm g tp bt a b103) (by intro _ _ _; eq_refl) ?_
          refine fe_ldL (by rfl) (by rfl) (fx_inN (i := k) (by omega) (by omega)) ?_
          rw [show Int32.toNatClampNeg (nI k) = k from nI_clamp (by omega)]
          refine fe_s 4 (pc' := 177) (lc' := [(9, .int ((v102 + (nI k)) - 10)), (8, .int (nI k)), (7, .int (nI j)), (5, .long x), (0, .ref 0), (1, .int (nI C)), (2, .int (nI days)), (3, .int f), (4, .int t)]) (stk' := [.long ((b103 18 (k + 1)) + ((b103 17 k) * (f.toInt64))), .int (nI (k + 1)), .ref 18]) (mem' := fm g tp bt a b103) (by intro _ _ _; eq_refl) ?_
          refine fe_stL (mem' := fm g tp bt a (fm_uL b103 18 (nI (k + 1) : Int32).toNatClampNeg ((b103 18 (k + 1)) + ((b103 17 k) * (f.toInt64))))) (by rfl) (by rfl) (fx_inN (i := k + 1) (by omega) (by omega)) fm_sl18 ?_
          rw [show Int32.toNatClampNeg (nI (k + 1)) = k + 1 from nI_clamp (by omega)]
          obtain ⟨b131, hb131⟩ : ∃ z, z = fm_uL b103 18 (k + 1) ((b103 18 (k + 1)) + ((b103 17 k) * (f.toInt64))) := ⟨_, rfl⟩
          rw [← hb131]
          refine fe_s 3 (pc' := 184) (lc' := [(9, .int ((v102 + (nI k)) - 10)), (8, .int (nI k)), (7, .int (nI j)), (5, .long x), (0, .ref 0), (1, .int (nI C)), (2, .int (nI days)), (3, .int f), (4, .int t)]) (stk' := [.int ((v102 + (nI k)) - 10), .ref 18]) (mem' := fm g tp bt a b131) (by intro _ _ _; eq_refl) ?_
          refine fe_s 1 (pc' := cond (fx_cb .ne ((v102 + (nI k)) - 10) 0) 192 187) (lc' := [(9, .int ((v102 + (nI k)) - 10)), (8, .int (nI k)), (7, .int (nI j)), (5, .long x), (0, .ref 0), (1, .int (nI C)), (2, .int (nI days)), (3, .int f), (4, .int t)]) (stk' := [.ref 18]) (mem' := fm g tp bt a b131) (by intro _ _ _; eq_refl) ?_
          cases h132 : fx_cb .ne ((v102 + (nI k)) - 10) 0
          · refine fe_s 3 (pc' := 197) (lc' := [(9, .int ((v102 + (nI k)) - 10)), (8, .int (nI k)), (7, .int (nI j)), (5, .long x), (0, .ref 0), (1, .int (nI C)), (2, .int (nI days)), (3, .int f), (4, .int t)]) (stk' := [.int (nI k), .ref 18, .int (nI k), .ref 18]) (mem' := fm g tp bt a b131) (by intro _ _ _; eq_refl) ?_
            refine fe_ldL (by rfl) (by rfl) (fx_inN (i := k) (by omega) (by omega)) ?_
            rw [show Int32.toNatClampNeg (nI k) = k from nI_clamp (by omega)]
            refine fe_s 1 (pc' := 200) (lc' := [(9, .int ((v102 + (nI k)) - 10)), (8, .int (nI k)), (7, .int (nI j)), (5, .long x), (0, .ref 0), (1, .int (nI C)), (2, .int (nI days)), (3, .int f), (4, .int t)]) (stk' := [.int t, .long (b131 18 k), .int (nI k), .ref 18]) (mem' := fm g tp bt a b131) (by intro _ _ _; eq_refl) ?_
            refine fe_s 1 (pc' := cond (fx_cb .ne t 0) 207 203) (lc' := [(9, .int ((v102 + (nI k)) - 10)), (8, .int (nI k)), (7, .int (nI j)), (5, .long x), (0, .ref 0), (1, .int (nI C)), (2, .int (nI days)), (3, .int f), (4, .int t)]) (stk' := [.long (b131 18 k), .int (nI k), .ref 18]) (mem' := fm g tp bt a b131) (by intro _ _ _; eq_refl) ?_
            cases h133 : fx_cb .ne t 0
            · refine fe_s 3 (pc' := 219) (lc' := [(9, .int ((v102 + (nI k)) - 10)), (8, .int (nI k)), (7, .int (nI j)), (5, .long x), (0, .ref 0), (1, .int (nI C)), (2, .int (nI days)), (3, .int f), (4, .int t)]) (stk' := [.long ((b131 18 k) + (0 : Int64)), .int (nI k), .ref 18]) (mem' := fm g tp bt a b131) (by intro _ _ _; eq_refl) ?_
              refine fe_stL (mem' := fm g tp bt a (fm_uL b131 18 (nI k : Int32).toNatClampNeg ((b131 18 k) + (0 : Int64)))) (by rfl) (by rfl) (fx_inN (i := k) (by omega) (by omega)) fm_sl18 ?_
              rw [show Int32.toNatClampNeg (nI k) = k from nI_clamp (by omega)]
              obtain ⟨b134, hb134⟩ : ∃ z, z = fm_uL b131 18 (k) ((b131 18 k) + (0 : Int64)) := ⟨_, rfl⟩
              rw [← hb134]
              refine fe_s 1 (pc' := 223) (lc' := [(8, .int ((nI k) + 1)), (9, .int ((v102 + (nI k)) - 10)), (7, .int (nI j)), (5, .long x), (0, .ref 0), (1, .int (nI C)), (2, .int (nI days)), (3, .int f), (4, .int t)]) (stk' := []) (mem' := fm g tp bt a b134) (by intro _ _ _; eq_refl) ?_
              rw [show ((nI k) + 1 : Int32) = nI (k + 1) from by simp only [show (1 : Int32) = nI 1 from rfl, nI_add, fm_mul]]
              refine fe_s 1 (pc' := fx_to 223 (-149)) (lc' := [(8, .int (nI (k + 1))), (9, .int ((v102 + (nI k)) - 10)), (7, .int (nI j)), (5, .long x), (0, .ref 0), (1, .int (nI C)), (2, .int (nI days)), (3, .int f), (4, .int t)]) (stk' := []) (mem' := fm g tp bt a b134) (by intro _ _ _; eq_refl) ?_
              rw [show fx_to 223 (-149) = 74 from by decide]
              refine fe_w (lc' := [(8, .int (nI (k + 1))), (7, .int (nI j)), (5, .long x), (0, .ref 0), (1, .int (nI C)), (2, .int (nI days)), (3, .int f), (4, .int t)]) ⟨rfl, rfl, rfl, rfl, rfl, rfl, rfl, rfl, trivial⟩ (by show List.Nodup [8, 7, 5, 0, 1, 2, 3, 4]; decide) (by show List.Nodup [8, 9, 7, 5, 0, 1, 2, 3, 4]; decide) ?_
              have wb103 := fm_W_8 h1 hb103
              have zb103 := fm_W8_u h2 (by omega) hb103
              have wb131 := fm_W_8 wb103 hb131
              have zb131 := fm_W8_u zb103 (by omega) hb131
              have wb134 := fm_W_8 wb131 hb134
              have zb134 := fm_W8_u zb131 (by omega) hb134
              exact ih2 (k + 1) (by omega) _ wb134 zb134
            · refine fe_s 3 (pc' := 213) (lc' := [(9, .int ((v102 + (nI k)) - 10)), (8, .int (nI k)), (7, .int (nI j)), (5, .long x), (0, .ref 0), (1, .int (nI C)), (2, .int (nI days)), (3, .int f), (4, .int t)]) (stk' := [.int (nI k), .ref 17, .long (b131 18 k), .int (nI k), .ref 18]) (mem' := fm g tp bt a b131) (by intro _ _ _; eq_refl) ?_
              refine fe_ldL (by rfl) (by rfl) (fx_inN (i := k) (by omega) (by omega)) ?_
              rw [show Int32.toNatClampNeg (nI k) = k from nI_clamp (by omega)]
              refine fe_s 4 (pc' := 219) (lc' := [(9, .int ((v102 + (nI k)) - 10)), (8, .int (nI k)), (7, .int (nI j)), (5, .long x), (0, .ref 0), (1, .int (nI C)), (2, .int (nI days)), (3, .int f), (4, .int t)]) (stk' := [.long ((b131 18 k) + ((b131 17 k) * (t.toInt64))), .int (nI k), .ref 18]) (mem' := fm g tp bt a b131) (by intro _ _ _; eq_refl) ?_
              refine fe_stL (mem' := fm g tp bt a (fm_uL b131 18 (nI k : Int32).toNatClampNeg ((b131 18 k) + ((b131 17 k) * (t.toInt64))))) (by rfl) (by rfl) (fx_inN (i := k) (by omega) (by omega)) fm_sl18 ?_
              rw [show Int32.toNatClampNeg (nI k) = k from nI_clamp (by omega)]
              obtain ⟨b135, hb135⟩ : ∃ z, z = fm_uL b131 18 (k) ((b131 18 k) + ((b131 17 k) * (t.toInt64))) := ⟨_, rfl⟩
              rw [← hb135]
              refine fe_s 1 (pc' := 223) (lc' := [(8, .int ((nI k) + 1)), (9, .int ((v102 + (nI k)) - 10)), (7, .int (nI j)), (5, .long x), (0, .ref 0), (1, .int (nI C)), (2, .int (nI days)), (3, .int f), (4, .int t)]) (stk' := []) (mem' := fm g tp bt a b135) (by intro _ _ _; eq_refl) ?_
              rw [show ((nI k) + 1 : Int32) = nI (k + 1) from by simp only [show (1 : Int32) = nI 1 from rfl, nI_add, fm_mul]]
              refine fe_s 1 (pc' := fx_to 223 (-149)) (lc' := [(8, .int (nI (k + 1))), (9, .int ((v102 + (nI k)) - 10)), (7, .int (nI j)), (5, .long x), (0, .ref 0), (1, .int (nI C)), (2, .int (nI days)), (3, .int f), (4, .int t)]) (stk' := []) (mem' := fm g tp bt a b135) (by intro _ _ _; eq_refl) ?_
              rw [show fx_to 223 (-149) = 74 from by decide]
              refine fe_w (lc' := [(8, .int (nI (k + 1))), (7, .int (nI j)), (5, .long x), (0, .ref 0), (1, .int (nI C)), (2, .int (nI days)), (3, .int f), (4, .int t)]) ⟨rfl, rfl, rfl, rfl, rfl, rfl, rfl, rfl, trivial⟩ (by show List.Nodup [8, 7, 5, 0, 1, 2, 3, 4]; decide) (by show List.Nodup [8, 9, 7, 5, 0, 1, 2, 3, 4]; decide) ?_
              have wb103 := fm_W_8 h1 hb103
              have zb103 := fm_W8_u h2 (by omega) hb103
              have wb131 := fm_W_8 wb103 hb131
              have zb131 := fm_W8_u zb103 (by omega) hb131
              have wb135 := fm_W_8 wb131 hb135
              have zb135 := fm_W8_u zb131 (by omega) hb135
              exact ih2 (k + 1) (by omega) _ wb135 zb135
          · refine fe_s 4 (pc' := 197) (lc' := [(9, .int ((v102 + (nI k)) - 10)), (8, .int (nI k)), (7, .int (nI j)), (5, .long x), (0, .ref 0), (1, .int (nI C)), (2, .int (nI days)), (3, .int f), (4, .int t)]) (stk' := [.int ((nI k) - 1), .ref 18, .int ((nI k) - 1), .ref 18]) (mem' := fm g tp bt a b131) (by intro _ _ _; eq_refl) ?_
            rw [show ((nI k) - 1 : Int32) = nI (k - 1) from by simp only [show (1 : Int32) = nI 1 from rfl, tg_sub2 (x := k) (y := 1) (by omega), nI_add, fm_mul]]
            refine fe_ldL (by rfl) (by rfl) (fx_inN (i := k - 1) (by omega) (by omega)) ?_
            rw [show Int32.toNatClampNeg (nI (k - 1)) = k - 1 from nI_clamp (by omega)]
            refine fe_s 1 (pc' := 200) (lc' := [(9, .int ((v102 + (nI k)) - 10)), (8, .int (nI k)), (7, .int (nI j)), (5, .long x), (0, .ref 0), (1, .int (nI C)), (2, .int (nI days)), (3, .int f), (4, .int t)]) (stk' := [.int t, .long (b131 18 (k - 1)), .int (nI (k - 1)), .ref 18]) (mem' := fm g tp bt a b131) (by intro _ _ _; eq_refl) ?_
            refine fe_s 1 (pc' := cond (fx_cb .ne t 0) 207 203) (lc' := [(9, .int ((v102 + (nI k)) - 10)), (8, .int (nI k)), (7, .int (nI j)), (5, .long x), (0, .ref 0), (1, .int (nI C)), (2, .int (nI days)), (3, .int f), (4, .int t)]) (stk' := [.long (b131 18 (k - 1)), .int (nI (k - 1)), .ref 18]) (mem' := fm g tp bt a b131) (by intro _ _ _; eq_refl) ?_
            cases h136 : fx_cb .ne t 0
            · refine fe_s 3 (pc' := 219) (lc' := [(9, .int ((v102 + (nI k)) - 10)), (8, .int (nI k)), (7, .int (nI j)), (5, .long x), (0, .ref 0), (1, .int (nI C)), (2, .int (nI days)), (3, .int f), (4, .int t)]) (stk' := [.long ((b131 18 (k - 1)) + (0 : Int64)), .int (nI (k - 1)), .ref 18]) (mem' := fm g tp bt a b131) (by intro _ _ _; eq_refl) ?_
              refine fe_stL (mem' := fm g tp bt a (fm_uL b131 18 (nI (k - 1) : Int32).toNatClampNeg ((b131 18 (k - 1)) + (0 : Int64)))) (by rfl) (by rfl) (fx_inN (i := k - 1) (by omega) (by omega)) fm_sl18 ?_
              rw [show Int32.toNatClampNeg (nI (k - 1)) = k - 1 from nI_clamp (by omega)]
              obtain ⟨b137, hb137⟩ : ∃ z, z = fm_uL b131 18 (k - 1) ((b131 18 (k - 1)) + (0 : Int64)) := ⟨_, rfl⟩
              rw [← hb137]
              refine fe_s 1 (pc' := 223) (lc' := [(8, .int ((nI k) + 1)), (9, .int ((v102 + (nI k)) - 10)), (7, .int (nI j)), (5, .long x), (0, .ref 0), (1, .int (nI C)), (2, .int (nI days)), (3, .int f), (4, .int t)]) (stk' := []) (mem' := fm g tp bt a b137) (by intro _ _ _; eq_refl) ?_
              rw [show ((nI k) + 1 : Int32) = nI (k + 1) from by simp only [show (1 : Int32) = nI 1 from rfl, nI_add, fm_mul]]
              refine fe_s 1 (pc' := fx_to 223 (-149)) (lc' := [(8, .int (nI (k + 1))), (9, .int ((v102 + (nI k)) - 10)), (7, .int (nI j)), (5, .long x), (0, .ref 0), (1, .int (nI C)), (2, .int (nI days)), (3, .int f), (4, .int t)]) (stk' := []) (mem' := fm g tp bt a b137) (by intro _ _ _; eq_refl) ?_
              rw [show fx_to 223 (-149) = 74 from by decide]
              refine fe_w (lc' := [(8, .int (nI (k + 1))), (7, .int (nI j)), (5, .long x), (0, .ref 0), (1, .int (nI C)), (2, .int (nI days)), (3, .int f), (4, .int t)]) ⟨rfl, rfl, rfl, rfl, rfl, rfl, rfl, rfl, trivial⟩ (by show List.Nodup [8, 7, 5, 0, 1, 2, 3, 4]; decide) (by show List.Nodup [8, 9, 7, 5, 0, 1, 2, 3, 4]; decide) ?_
              have wb103 := fm_W_8 h1 hb103
              have zb103 := fm_W8_u h2 (by omega) hb103
              have wb131 := fm_W_8 wb103 hb131
              have zb131 := fm_W8_u zb103 (by omega) hb131
              have wb137 := fm_W_8 wb131 hb137
              have zb137 := fm_W8_u zb131 (by omega) hb137
              exact ih2 (k + 1) (by omega) _ wb137 zb137
            · refine fe_s 3 (pc' := 213) (lc' := [(9, .int ((v102 + (nI k)) - 10)), (8, .int (nI k)), (7, .int (nI j)), (5, .long x), (0, .ref 0), (1, .int (nI C)), (2, .int (nI days)), (3, .int f), (4, .int t)]) (stk' := [.int (nI k), .ref 17, .long (b131 18 (k - 1)), .int (nI (k - 1)), .ref 18]) (mem' := fm g tp bt a b131) (by intro _ _ _; eq_refl) ?_
              refine fe_ldL (by rfl) (by rfl) (fx_inN (i := k) (by omega) (by omega)) ?_
              rw [show Int32.toNatClampNeg (nI k) = k from nI_clamp (by omega)]
              refine fe_s 4 (pc' := 219) (lc' := [(9, .int ((v102 + (nI k)) - 10)), (8, .int (nI k)), (7, .int (nI j)), (5, .long x), (0, .ref 0), (1, .int (nI C)), (2, .int (nI days)), (3, .int f), (4, .int t)]) (stk' := [.long ((b131 18 (k - 1)) + ((b131 17 k) * (t.toInt64))), .int (nI (k - 1)), .ref 18]) (mem' := fm g tp bt a b131) (by intro _ _ _; eq_refl) ?_
              refine fe_stL (mem' := fm g tp bt a (fm_uL b131 18 (nI (k - 1) : Int32).toNatClampNeg ((b131 18 (k - 1)) + ((b131 17 k) * (t.toInt64))))) (by rfl) (by rfl) (fx_inN (i := k - 1) (by omega) (by omega)) fm_sl18 ?_
              rw [show Int32.toNatClampNeg (nI (k - 1)) = k - 1 from nI_clamp (by omega)]
              obtain ⟨b138, hb138⟩ : ∃ z, z = fm_uL b131 18 (k - 1) ((b131 18 (k - 1)) + ((b131 17 k) * (t.toInt64))) := ⟨_, rfl⟩
              rw [← hb138]
              refine fe_s 1 (pc' := 223) (lc' := [(8, .int ((nI k) + 1)), (9, .int ((v102 + (nI k)) - 10)), (7, .int (nI j)), (5, .long x), (0, .ref 0), (1, .int (nI C)), (2, .int (nI days)), (3, .int f), (4, .int t)]) (stk' := []) (mem' := fm g tp bt a b138) (by intro _ _ _; eq_refl) ?_
              rw [show ((nI k) + 1 : Int32) = nI (k + 1) from by simp only [show (1 : Int32) = nI 1 from rfl, nI_add, fm_mul]]
              refine fe_s 1 (pc' := fx_to 223 (-149)) (lc' := [(8, .int (nI (k + 1))), (9, .int ((v102 + (nI k)) - 10)), (7, .int (nI j)), (5, .long x), (0, .ref 0), (1, .int (nI C)), (2, .int (nI days)), (3, .int f), (4, .int t)]) (stk' := []) (mem' := fm g tp bt a b138) (by intro _ _ _; eq_refl) ?_
              rw [show fx_to 223 (-149) = 74 from by decide]
              refine fe_w (lc' := [(8, .int (nI (k + 1))), (7, .int (nI j)), (5, .long x), (0, .ref 0), (1, .int (nI C)), (2, .int (nI days)), (3, .int f), (4, .int t)]) ⟨rfl, rfl, rfl, rfl, rfl, rfl, rfl, rfl, trivial⟩ (by show List.Nodup [8, 7, 5, 0, 1, 2, 3, 4]; decide) (by show List.Nodup [8, 9, 7, 5, 0, 1, 2, 3, 4]; decide) ?_
              have wb103 := fm_W_8 h1 hb103
              have zb103 := fm_W8_u h2 (by omega) hb103
              have wb131 := fm_W_8 wb103 hb131
              have zb131 := fm_W8_u zb103 (by omega) hb131
              have wb138 := fm_W_8 wb131 hb138
              have zb138 := fm_W8_u zb131 (by omega) hb138
              exact ih2 (k + 1) (by omega) _ wb138 zb138
theorem ld_50 {b0 : Nat → Nat → Int64} {C days : Nat} {f t : Int32} (hC : C < 10) (hdays : days ≤ 10) {j : Nat} {x : Int64} (hj : j < days) (hx : x = Int64.ofNat (16 ^ j)) (ih : ∀ (b2 : Nat → Nat → Int64), fm_W b0 b2 (j + 1) → fe_R 2 gk_m352 41 [(7, .int (nI (j + 1))), (5, .long (Int64.ofNat (16 ^ (j + 1)))), (0, .ref 0), (1, .int (nI C)), (2, .int (nI days)), (3, .int f), (4, .int t)] [] (fm g tp bt a b2) (fun R => ∃ (x : Int64) (b' : Nat → Nat → Int64), x = Int64.ofNat (16 ^ days) ∧ (∀ t, t ≠ 17 → t ≠ 18 → b' t = b0 t) ∧ R = (some (.long x), fm g tp bt a b'))) : ∀ (r k : Nat), k + r = 21 → ∀ (b : Nat → Nat → Int64), fm_W b0 b j → (∀ i, i < k → b 18 i = 0) → fe_R 2 gk_m352 50 [(8, .int (nI k)), (7, .int (nI j)), (5, .long x), (0, .ref 0), (1, .int (nI C)), (2, .int (nI days)), (3, .int f), (4, .int t)] [] (fm g tp bt a b) (fun R => ∃ (x : Int64) (b' : Nat → Nat → Int64), x = Int64.ofNat (16 ^ days) ∧ (∀ t, t ≠ 17 → t ≠ 18 → b' t = b0 t) ∧ R = (some (.long x), fm g tp bt a b')) := by
  intro r
  induction r with
  | zero =>
    intro k hk b h1 h2
    obtain rfl : k = 21 := by omega
    refine fe_s 2 (pc' := 54) (lc' := [(8, .int (nI 21)), (7, .int (nI j)), (5, .long x), (0, .ref 0), (1, .int (nI C)), (2, .int (nI days)), (3, .int f), (4, .int t)]) (stk' := [.int 21, .int (nI 21)]) (mem' := fm g tp bt a b) (by intro _ _ _; eq_refl) ?_
    refine fe_s 1 (pc' := cond (fx_cb .ge (nI 21) 21) 71 57) (lc' := [(8, .int (nI 21)), (7, .int (nI j)), (5, .long x), (0, .ref 0), (1, .int (nI C)), (2, .int (nI days)), (3, .int f), (4, .int t)]) (stk' := []) (mem' := fm g tp bt a b) (by intro _ _ _; eq_refl) ?_
    rw [show (fx_cb .ge (nI 21) 21) = true from cb_geT (a := 21) (b := 21) (by omega) (by omega) (by omega)]
    dsimp only [cond]
    refine fe_s 2 (pc' := 74) (lc' := [(8, .int 0), (7, .int (nI j)), (5, .long x), (0, .ref 0), (1, .int (nI C)), (2, .int (nI days)), (3, .int f), (4, .int t)]) (stk' := []) (mem' := fm g tp bt a b) (by intro _ _ _; eq_refl) ?_
    refine fe_w (lc' := [(8, .int (nI 0)), (7, .int (nI j)), (5, .long x), (0, .ref 0), (1, .int (nI C)), (2, .int (nI days)), (3, .int f), (4, .int t)]) ⟨rfl, rfl, rfl, rfl, rfl, rfl, rfl, rfl, trivial⟩ (by show List.Nodup [8, 7, 5, 0, 1, 2, 3, 4]; decide) (by show List.Nodup [8, 7, 5, 0, 1, 2, 3, 4]; decide) ?_
    exact ld_74 hC hdays hj hx ih 21 0 (by omega) b h1 (fun i hi _ => h2 i hi)
  | succ r ih2 =>
    intro k hk b h1 h2
    refine fe_s 2 (pc' := 54) (lc' := [(8, .int (nI k)), (7, .int (nI j)), (5, .long x), (0, .ref 0), (1, .int (nI C)), (2, .int (nI days)), (3, .int f), (4, .int t)]) (stk' := [.int 21, .int (nI k)]) (mem' := fm g tp bt a b) (by intro _ _ _; eq_refl) ?_
    refine fe_s 1 (pc' := cond (fx_cb .ge (nI k) 21) 71 57) (lc' := [(8, .int (nI k)), (7, .int (nI j)), (5, .long x), (0, .ref 0), (1, .int (nI C)), (2, .int (nI days)), (3, .int f), (4, .int t)]) (stk' := []) (mem' := fm g tp bt a b) (by intro _ _ _; eq_refl) ?_
    rw [show (fx_cb .ge (nI k) 21) = false from cb_geF (a := k) (b := 21) (by omega) (by omega) (by omega)]
    dsimp only [cond]
    refine fe_s 4 (pc' := 64) (lc' := [(8, .int (nI k)), (7, .int (nI j)), (5, .long x), (0, .ref 0), (1, .int (nI C)), (2, .int (nI days)), (3, .int f), (4, .int t)]) (stk' := [.long (0 : Int64), .int (nI k), .ref 18]) (mem' := fm g tp bt a b) (by intro _ _ _; eq_refl) ?_
    refine fe_stL (mem' := fm g tp bt a (fm_uL b 18 (nI k : Int32).toNatClampNeg ((0 : Int64)))) (by rfl) (by rfl) (fx_inN (i := k) (by omega) (by omega)) fm_sl18 ?_
    rw [show Int32.toNatClampNeg (nI k) = k from nI_clamp (by omega)]
    obtain ⟨b101, hb101⟩ : ∃ z, z = fm_uL b 18 (k) ((0 : Int64)) := ⟨_, rfl⟩
    rw [← hb101]
    refine fe_s 2 (pc' := 50) (lc' := [(8, .int ((nI k) + 1)), (7, .int (nI j)), (5, .long x), (0, .ref 0), (1, .int (nI C)), (2, .int (nI days)), (3, .int f), (4, .int t)]) (stk' := []) (mem' := fm g tp bt a b101) (by intro _ _ _; eq_refl) ?_
    rw [show ((nI k) + 1 : Int32) = nI (k + 1) from by simp only [show (1 : Int32) = nI 1 from rfl, nI_add, fm_mul]]
    refine fe_w (lc' := [(8, .int (nI (k + 1))), (7, .int (nI j)), (5, .long x), (0, .ref 0), (1, .int (nI C)), (2, .int (nI days)), (3, .int f), (4, .int t)]) ⟨rfl, rfl, rfl, rfl, rfl, rfl, rfl, rfl, trivial⟩ (by show List.Nodup [8, 7, 5, 0, 1, 2, 3, 4]; decide) (by show List.Nodup [8, 7, 5, 0, 1, 2, 3, 4]; decide) ?_
    refine ih2 (k + 1) (by omega) _ (fm_W_8 h1 hb101) (fun i hi => ?_)
    rw [hb101, fm_uLs]
    split
    · rfl
    · exact h2 i (by omega)
theorem ld_41 {b0 : Nat → Nat → Int64} {C days : Nat} {f t : Int32} (hC : C < 10) (hdays : days ≤ 10) : ∀ (r j : Nat), j + r = days → ∀ (b : Nat → Nat → Int64), fm_W b0 b j → fe_R 2 gk_m352 41 [(7, .int (nI j)), (5, .long (Int64.ofNat (16 ^ j))), (0, .ref 0), (1, .int (nI C)), (2, .int (nI days)), (3, .int f), (4, .int t)] [] (fm g tp bt a b) (fun R => ∃ (x : Int64) (b' : Nat → Nat → Int64), x = Int64.ofNat (16 ^ days) ∧ (∀ t, t ≠ 17 → t ≠ 18 → b' t = b0 t) ∧ R = (some (.long x), fm g tp bt a b')) := by
  intro r
  induction r with
  | zero =>
    intro j hj b h1
    obtain rfl : days = j := by omega
    refine fe_s 2 (pc' := 44) (lc' := [(7, .int (nI days)), (5, .long (Int64.ofNat (16 ^ days))), (0, .ref 0), (1, .int (nI C)), (2, .int (nI days)), (3, .int f), (4, .int t)]) (stk' := [.int (nI days), .int (nI days)]) (mem' := fm g tp bt a b) (by intro _ _ _; eq_refl) ?_
    refine fe_s 1 (pc' := cond (fx_cb .ge (nI days) (nI days)) 270 47) (lc' := [(7, .int (nI days)), (5, .long (Int64.ofNat (16 ^ days))), (0, .ref 0), (1, .int (nI C)), (2, .int (nI days)), (3, .int f), (4, .int t)]) (stk' := []) (mem' := fm g tp bt a b) (by intro _ _ _; eq_refl) ?_
    rw [show (fx_cb .ge (nI days) (nI days)) = true from cb_geT (a := days) (b := days) (by omega) (by omega) (by omega)]
    dsimp only [cond]
    refine fe_s 1 (pc' := 272) (lc' := [(7, .int (nI days)), (5, .long (Int64.ofNat (16 ^ days))), (0, .ref 0), (1, .int (nI C)), (2, .int (nI days)), (3, .int f), (4, .int t)]) (stk' := [.long (Int64.ofNat (16 ^ days))]) (mem' := fm g tp bt a b) (by intro _ _ _; eq_refl) ?_
    exact fe_ret ⟨_, b, rfl, h1.1, rfl⟩ (by rfl) (by rfl) (by rfl)
  | succ r ih2 =>
    intro j hj b h1
    refine fe_s 2 (pc' := 44) (lc' := [(7, .int (nI j)), (5, .long (Int64.ofNat (16 ^ j))), (0, .ref 0), (1, .int (nI C)), (2, .int (nI days)), (3, .int f), (4, .int t)]) (stk' := [.int (nI days), .int (nI j)]) (mem' := fm g tp bt a b) (by intro _ _ _; eq_refl) ?_
    refine fe_s 1 (pc' := cond (fx_cb .ge (nI j) (nI days)) 270 47) (lc' := [(7, .int (nI j)), (5, .long (Int64.ofNat (16 ^ j))), (0, .ref 0), (1, .int (nI C)), (2, .int (nI days)), (3, .int f), (4, .int t)]) (stk' := []) (mem' := fm g tp bt a b) (by intro _ _ _; eq_refl) ?_
    rw [show (fx_cb .ge (nI j) (nI days)) = false from cb_geF (a := j) (b := days) (by omega) (by omega) (by omega)]
    dsimp only [cond]
    refine fe_s 2 (pc' := 50) (lc' := [(8, .int 0), (7, .int (nI j)), (5, .long (Int64.ofNat (16 ^ j))), (0, .ref 0), (1, .int (nI C)), (2, .int (nI days)), (3, .int f), (4, .int t)]) (stk' := []) (mem' := fm g tp bt a b) (by intro _ _ _; eq_refl) ?_
    refine fe_w (lc' := [(8, .int (nI 0)), (7, .int (nI j)), (5, .long (Int64.ofNat (16 ^ j))), (0, .ref 0), (1, .int (nI C)), (2, .int (nI days)), (3, .int f), (4, .int t)]) ⟨rfl, rfl, rfl, rfl, rfl, rfl, rfl, rfl, trivial⟩ (by show List.Nodup [8, 7, 5, 0, 1, 2, 3, 4]; decide) (by show List.Nodup [8, 7, 5, 0, 1, 2, 3, 4]; decide) ?_
    exact ld_50 hC hdays (by omega) rfl (fun b2 h => ih2 (j + 1) (by omega) b2 h) 21 0 (by omega) b h1 (fun i hi => absurd hi (Nat.not_lt_zero i))
theorem fr_laysDays {C days : Nat} {f t : Int32} (hC : C < 10) (hdays : days ≤ 10) : ∃ (v : Option Value) (mem' : fx_M), (fun R => ∃ (x : Int64) (b' : Nat → Nat → Int64), x = Int64.ofNat (16 ^ days) ∧ (∀ t, t ≠ 17 → t ≠ 18 → b' t = b t) ∧ R = (some (.long x), fm g tp bt a b')) (v, mem') ∧ fr_T 3 352 [.ref 0, .int (nI C), .int (nI days), .int f, .int t] (fm g tp bt a b) v mem' := by
  refine fe_meth (F := fun R => ∃ (x : Int64) (b' : Nat → Nat → Int64), x = Int64.ofNat (16 ^ days) ∧ (∀ t, t ≠ 17 → t ≠ 18 → b' t = b t) ∧ R = (some (.long x), fm g tp bt a b')) (M := gk_m352) (by rfl) (by rfl) ?_
  have loop : ∀ (r k : Nat), k + r = 21 → ∀ b2 : Nat → Nat → Int64, (∀ t, t ≠ 17 → b2 t = b t) → (∀ i, i < k → ¬ i = 10 → b2 17 i = 0) → fe_R 2 gk_m352 3 [(5, .int (nI k)), (0, .ref 0), (1, .int (nI C)), (2, .int (nI days)), (3, .int f), (4, .int t)] [] (fm g tp bt a b2) (fun R => ∃ (x : Int64) (b' : Nat → Nat → Int64), x = Int64.ofNat (16 ^ days) ∧ (∀ t, t ≠ 17 → t ≠ 18 → b' t = b t) ∧ R = (some (.long x), fm g tp bt a b')) := by
    intro r
    induction r with
    | zero =>
      intro k hk b2 h1 h2
      obtain rfl : k = 21 := by omega
      refine fe_s 2 (pc' := 7) (lc' := [(5, .int (nI 21)), (0, .ref 0), (1, .int (nI C)), (2, .int (nI days)), (3, .int f), (4, .int t)]) (stk' := [.int 21, .int (nI 21)]) (mem' := fm g tp bt a b2) (by intro _ _ _; eq_refl) ?_
      refine fe_s 1 (pc' := cond (fx_cb .ge (nI 21) 21) 35 10) (lc' := [(5, .int (nI 21)), (0, .ref 0), (1, .int (nI C)), (2, .int (nI days)), (3, .int f), (4, .int t)]) (stk' := []) (mem' := fm g tp bt a b2) (by intro _ _ _; eq_refl) ?_
      rw [show (fx_cb .ge (nI 21) 21) = true from cb_geT (a := 21) (b := 21) (by omega) (by omega) (by omega)]
      dsimp only [cond]
      refine fe_s 4 (pc' := 41) (lc' := [(7, .int 0), (5, .long (1 : Int64)), (0, .ref 0), (1, .int (nI C)), (2, .int (nI days)), (3, .int f), (4, .int t)]) (stk' := []) (mem' := fm g tp bt a b2) (by intro _ _ _; eq_refl) ?_
      refine fe_w (lc' := [(7, .int (nI 0)), (5, .long (Int64.ofNat (16 ^ 0))), (0, .ref 0), (1, .int (nI C)), (2, .int (nI days)), (3, .int f), (4, .int t)]) ⟨rfl, rfl, rfl, rfl, rfl, rfl, rfl, trivial⟩ (by show List.Nodup [7, 5, 0, 1, 2, 3, 4]; decide) (by show List.Nodup [7, 5, 0, 1, 2, 3, 4]; decide) ?_
      exact ld_41 hC hdays days 0 (by omega) b2 ⟨fun t h7 _ => h1 t h7, fun i hi h4 => h2 i hi (by omega)⟩
    | succ r ih2 =>
      intro k hk b2 h1 h2
      refine fe_s 2 (pc' := 7) (lc' := [(5, .int (nI k)), (0, .ref 0), (1, .int (nI C)), (2, .int (nI days)), (3, .int f), (4, .int t)]) (stk' := [.int 21, .int (nI k)]) (mem' := fm g tp bt a b2) (by intro _ _ _; eq_refl) ?_
      refine fe_s 1 (pc' := cond (fx_cb .ge (nI k) 21) 35 10) (lc' := [(5, .int (nI k)), (0, .ref 0), (1, .int (nI C)), (2, .int (nI days)), (3, .int f), (4, .int t)]) (stk' := []) (mem' := fm g tp bt a b2) (by intro _ _ _; eq_refl) ?_
      rw [show (fx_cb .ge (nI k) 21) = false from cb_geF (a := k) (b := 21) (by omega) (by omega) (by omega)]
      dsimp only [cond]
      refine fe_s 5 (pc' := 20) (lc' := [(5, .int (nI k)), (0, .ref 0), (1, .int (nI C)), (2, .int (nI days)), (3, .int f), (4, .int t)]) (stk' := [.int 10, .int (nI k), .int (nI k), .ref 17]) (mem' := fm g tp bt a b2) (by intro _ _ _; eq_refl) ?_
      refine fe_s 1 (pc' := cond (fx_cb .ne (nI k) 10) 27 23) (lc' := [(5, .int (nI k)), (0, .ref 0), (1, .int (nI C)), (2, .int (nI days)), (3, .int f), (4, .int t)]) (stk' := [.int (nI k), .ref 17]) (mem' := fm g tp bt a b2) (by intro _ _ _; eq_refl) ?_
      by_cases h101 : k = 10
      · rw [show (fx_cb .ne (nI k) 10) = false from cb_neF (a := k) (b := 10) (by omega) (by omega) (by omega)]
        dsimp only [cond]
        refine fe_s 2 (pc' := 28) (lc' := [(5, .int (nI k)), (0, .ref 0), (1, .int (nI C)), (2, .int (nI days)), (3, .int f), (4, .int t)]) (stk' := [.long (1 : Int64), .int (nI k), .ref 17]) (mem' := fm g tp bt a b2) (by intro _ _ _; eq_refl) ?_
        refine fe_stL (mem' := fm g tp bt a (fm_uL b2 17 (nI k : Int32).toNatClampNeg ((1 : Int64)))) (by rfl) (by rfl) (fx_inN (i := k) (by omega) (by omega)) fm_sl17 ?_
        rw [show Int32.toNatClampNeg (nI k) = k from nI_clamp (by omega)]
        obtain ⟨b102, hb102⟩ : ∃ z, z = fm_uL b2 17 (k) ((1 : Int64)) := ⟨_, rfl⟩
        rw [← hb102]
        refine fe_s 2 (pc' := 3) (lc' := [(5, .int ((nI k) + 1)), (0, .ref 0), (1, .int (nI C)), (2, .int (nI days)), (3, .int f), (4, .int t)]) (stk' := []) (mem' := fm g tp bt a b102) (by intro _ _ _; eq_refl) ?_
        rw [show ((nI k) + 1 : Int32) = nI (k + 1) from by simp only [show (1 : Int32) = nI 1 from rfl, nI_add, fm_mul]]
        refine fe_w (lc' := [(5, .int (nI (k + 1))), (0, .ref 0), (1, .int (nI C)), (2, .int (nI days)), (3, .int f), (4, .int t)]) ⟨rfl, rfl, rfl, rfl, rfl, rfl, trivial⟩ (by show List.Nodup [5, 0, 1, 2, 3, 4]; decide) (by show List.Nodup [5, 0, 1, 2, 3, 4]; decide) ?_
        refine ih2 (k + 1) (by omega) _ (fun t h7 => by rw [hb102, fm_uLt h7]; exact h1 t h7) (fun i hi hi0 => ?_)
        rw [hb102, fm_uLs]
        split
        · first | rfl | (exfalso; omega)
        · exact h2 i (by omega) hi0
      · rw [show (fx_cb .ne (nI k) 10) = true from cb_neT (a := k) (b := 10) (by omega) (by omega) (by omega)]
        dsimp only [cond]
        refine fe_s 1 (pc' := 28) (lc' := [(5, .int (nI k)), (0, .ref 0), (1, .int (nI C)), (2, .int (nI days)), (3, .int f), (4, .int t)]) (stk' := [.long (0 : Int64), .int (nI k), .ref 17]) (mem' := fm g tp bt a b2) (by intro _ _ _; eq_refl) ?_
        refine fe_stL (mem' := fm g tp bt a (fm_uL b2 17 (nI k : Int32).toNatClampNeg ((0 : Int64)))) (by rfl) (by rfl) (fx_inN (i := k) (by omega) (by omega)) fm_sl17 ?_
        rw [show Int32.toNatClampNeg (nI k) = k from nI_clamp (by omega)]
        obtain ⟨b103, hb103⟩ : ∃ z, z = fm_uL b2 17 (k) ((0 : Int64)) := ⟨_, rfl⟩
        rw [← hb103]
        refine fe_s 2 (pc' := 3) (lc' := [(5, .int ((nI k) + 1)), (0, .ref 0), (1, .int (nI C)), (2, .int (nI days)), (3, .int f), (4, .int t)]) (stk' := []) (mem' := fm g tp bt a b103) (by intro _ _ _; eq_refl) ?_
        rw [show ((nI k) + 1 : Int32) = nI (k + 1) from by simp only [show (1 : Int32) = nI 1 from rfl, nI_add, fm_mul]]
        refine fe_w (lc' := [(5, .int (nI (k + 1))), (0, .ref 0), (1, .int (nI C)), (2, .int (nI days)), (3, .int f), (4, .int t)]) ⟨rfl, rfl, rfl, rfl, rfl, rfl, trivial⟩ (by show List.Nodup [5, 0, 1, 2, 3, 4]; decide) (by show List.Nodup [5, 0, 1, 2, 3, 4]; decide) ?_
        refine ih2 (k + 1) (by omega) _ (fun t h7 => by rw [hb103, fm_uLt h7]; exact h1 t h7) (fun i hi hi0 => ?_)
        rw [hb103, fm_uLs]
        split
        · first | rfl | (exfalso; omega)
        · exact h2 i (by omega) hi0
  refine fe_s 2 (pc' := 3) (lc' := [(5, .int 0), (0, .ref 0), (1, .int (nI C)), (2, .int (nI days)), (3, .int f), (4, .int t)]) (stk' := []) (mem' := fm g tp bt a b) (by intro _ _ _; eq_refl) ?_
  refine fe_w (lc' := [(5, .int (nI 0)), (0, .ref 0), (1, .int (nI C)), (2, .int (nI days)), (3, .int f), (4, .int t)]) ⟨rfl, rfl, rfl, rfl, rfl, rfl, trivial⟩ (by show List.Nodup [5, 0, 1, 2, 3, 4]; decide) (by show List.Nodup [5, 0, 1, 2, 3, 4]; decide) ?_
  exact loop 21 0 (by omega) b (fun _ _ => rfl) (fun i hi => absurd hi (Nat.not_lt_zero i))
end FDY
end MH8_2
section MH8_3
/-! ===== fx: odds, best day, mean ===== -/
section FDZ
variable {g : Nat → Int32} {tp bt : Int64} {a0 a : Nat → Nat → Int32} {b : Nat → Nat → Int64}
theorem fr_waysTo {C : Nat} {m : Int32} (hC : C < 10) : ∃ (v : Option Value) (mem' : fx_M), (fun R => ∃ x : Int64, R = (some (.long x), fm g tp bt a b)) (v, mem') ∧ fr_T 3 353 [.ref 0, .int (nI C), .int m] (fm g tp bt a b) v mem' := by
  refine fe_meth (F := fun R => ∃ x : Int64, R = (some (.long x), fm g tp bt a b)) (M := gk_m353) (by rfl) (by rfl) ?_
  refine fe_s 4 (pc' := 5) (lc' := [(5, .int 0), (3, .long (0 : Int64)), (0, .ref 0), (1, .int (nI C)), (2, .int m)]) (stk' := []) (mem' := fm g tp bt a b) (by intro _ _ _; eq_refl) ?_
  have loop101 : ∀ (r i101 : Nat), i101 + r = 21 → ∀ x3_101 : Int64, fe_R 2 gk_m353 5 [(5, .int (nI i101)), (3, .long x3_101), (0, .ref 0), (1, .int (nI C)), (2, .int m)] [] (fm g tp bt a b) (fun R => ∃ x : Int64, R = (some (.long x), fm g tp bt a b)) := by
    intro r
    induction r with
    | zero =>
      intro i101 hi101 x3_101
      obtain rfl : i101 = 21 := by omega
      refine fe_s 2 (pc' := 9) (lc' := [(5, .int (nI 21)), (3, .long x3_101), (0, .ref 0), (1, .int (nI C)), (2, .int m)]) (stk' := [.int 21, .int (nI 21)]) (mem' := fm g tp bt a b) (by intro _ _ _; eq_refl) ?_
      refine fe_s 1 (pc' := cond (fx_cb .ge (nI 21) 21) 47 12) (lc' := [(5, .int (nI 21)), (3, .long x3_101), (0, .ref 0), (1, .int (nI C)), (2, .int m)]) (stk' := []) (mem' := fm g tp bt a b) (by intro _ _ _; eq_refl) ?_
      rw [show (fx_cb .ge (nI 21) 21) = true from cb_geT (a := 21) (b := 21) (by omega) (by omega) (by omega)]
      dsimp only [cond]
      refine fe_s 1 (pc' := 48) (lc' := [(5, .int (nI 21)), (3, .long x3_101), (0, .ref 0), (1, .int (nI C)), (2, .int m)]) (stk' := [.long x3_101]) (mem' := fm g tp bt a b) (by intro _ _ _; eq_refl) ?_
      exact fe_ret ⟨_, rfl⟩ (by rfl) (by rfl) (by rfl)
    | succ r ih101 =>
      intro i101 hi101 x3_101
      have hl101 : i101 < 21 := by omega
      refine fe_s 2 (pc' := 9) (lc' := [(5, .int (nI i101)), (3, .long x3_101), (0, .ref 0), (1, .int (nI C)), (2, .int m)]) (stk' := [.int 21, .int (nI i101)]) (mem' := fm g tp bt a b) (by intro _ _ _; eq_refl) ?_
      refine fe_s 1 (pc' := cond (fx_cb .ge (nI i101) 21) 47 12) (lc' := [(5, .int (nI i101)), (3, .long x3_101), (0, .ref 0), (1, .int (nI C)), (2, .int m)]) (stk' := []) (mem' := fm g tp bt a b) (by intro _ _ _; eq_refl) ?_
      rw [show (fx_cb .ge (nI i101) 21) = false from cb_geF (a := i101) (b := 21) (by omega) (by omega) (by omega)]
      dsimp only [cond]
      refine fe_s 3 (pc' := 15) (lc' := [(5, .int (nI i101)), (3, .long x3_101), (0, .ref 0), (1, .int (nI C)), (2, .int m)]) (stk' := [.int (nI C), .ref 0, .long x3_101]) (mem' := fm g tp bt a b) (by intro _ _ _; eq_refl) ?_
      obtain ⟨v102, hv102⟩ := fq_bearsNow (C := C) (g := g) (tp := tp) (bt := bt) (a := a) (b := b) (by omega)
      refine fe_ivV hv102 (by omega) (by rfl) (by rfl) (by rfl) (by rfl) (by rfl) (by rfl) ?_
      refine fe_s 5 (pc' := 25) (lc' := [(5, .int (nI i101)), (3, .long x3_101), (0, .ref 0), (1, .int (nI C)), (2, .int m)]) (stk' := [.int m, .int ((v102 + (nI i101)) - 10), .long x3_101]) (mem' := fm g tp bt a b) (by intro _ _ _; eq_refl) ?_
      refine fe_s 1 (pc' := cond (fx_cb .lt ((v102 + (nI i101)) - 10) m) 38 28) (lc' := [(5, .int (nI i101)), (3, .long x3_101), (0, .ref 0), (1, .int (nI C)), (2, .int m)]) (stk' := [.long x3_101]) (mem' := fm g tp bt a b) (by intro _ _ _; eq_refl) ?_
      cases h103 : fx_cb .lt ((v102 + (nI i101)) - 10) m
      · refine fe_s 3 (pc' := 34) (lc' := [(5, .int (nI i101)), (3, .long x3_101), (0, .ref 0), (1, .int (nI C)), (2, .int m)]) (stk' := [.int (nI i101), .ref 17, .long x3_101]) (mem' := fm g tp bt a b) (by intro _ _ _; eq_refl) ?_
        refine fe_ldL (by rfl) (by rfl) (fx_inN (i := i101) (by omega) (by omega)) ?_
        rw [show Int32.toNatClampNeg (nI i101) = i101 from nI_clamp (by omega)]
        refine fe_s 5 (pc' := 5) (lc' := [(5, .int ((nI i101) + 1)), (3, .long (x3_101 + (b 17 i101))), (0, .ref 0), (1, .int (nI C)), (2, .int m)]) (stk' := []) (mem' := fm g tp bt a b) (by intro _ _ _; eq_refl) ?_
        rw [show ((nI i101) + 1 : Int32) = nI (i101 + 1) from by simp only [show (1 : Int32) = nI 1 from rfl, nI_add, fm_mul]]
        refine fe_w (lc' := [(5, .int (nI (i101 + 1))), (3, .long (x3_101 + (b 17 i101))), (0, .ref 0), (1, .int (nI C)), (2, .int m)]) ⟨rfl, rfl, rfl, rfl, rfl, trivial⟩ (by show List.Nodup [5, 3, 0, 1, 2]; decide) (by show List.Nodup [5, 3, 0, 1, 2]; decide) ?_
        exact ih101 (i101 + 1) (by omega) _
      · refine fe_s 5 (pc' := 5) (lc' := [(5, .int ((nI i101) + 1)), (3, .long (x3_101 + (0 : Int64))), (0, .ref 0), (1, .int (nI C)), (2, .int m)]) (stk' := []) (mem' := fm g tp bt a b) (by intro _ _ _; eq_refl) ?_
        rw [show ((nI i101) + 1 : Int32) = nI (i101 + 1) from by simp only [show (1 : Int32) = nI 1 from rfl, nI_add, fm_mul]]
        refine fe_w (lc' := [(5, .int (nI (i101 + 1))), (3, .long (x3_101 + (0 : Int64))), (0, .ref 0), (1, .int (nI C)), (2, .int m)]) ⟨rfl, rfl, rfl, rfl, rfl, trivial⟩ (by show List.Nodup [5, 3, 0, 1, 2]; decide) (by show List.Nodup [5, 3, 0, 1, 2]; decide) ?_
        exact ih101 (i101 + 1) (by omega) _
  exact loop101 (21) (0) (by omega) _
theorem fr_areDays {c days f t : Int32} {NCa : Nat} (eNCa : a 1 0 = nI NCa) (hNCa : NCa ≤ 10) : ∃ (v : Option Value) (mem' : fx_M), (fun R => ∃ z : Int32, (z = 0 ∨ z = 1 ∧ ∃ C d : Nat, C < 10 ∧ d ≤ 10 ∧ c = nI C ∧ days = nI d) ∧ R = (some (.int z), fm g tp bt a b)) (v, mem') ∧ fr_T 4 354 [.ref 0, .int c, .int days, .int f, .int t] (fm g tp bt a b) v mem' := by
  refine fe_meth (F := fun R => ∃ z : Int32, (z = 0 ∨ z = 1 ∧ ∃ C d : Nat, C < 10 ∧ d ≤ 10 ∧ c = nI C ∧ days = nI d) ∧ R = (some (.int z), fm g tp bt a b)) (M := gk_m354) (by rfl) (by rfl) ?_
  refine fe_s 2 (pc' := 2) (lc' := [(0, .ref 0), (1, .int c), (2, .int days), (3, .int f), (4, .int t)]) (stk' := [.int c, .ref 0]) (mem' := fm g tp bt a b) (by intro _ _ _; eq_refl) ?_
  obtain ⟨vj101, memj101, ⟨xj101, hxj101, hRj101⟩, hfrj101⟩ := fr_isIceX (c := c) (g := g) (tp := tp) (bt := bt) (b := b) eNCa hNCa
  cases hRj101
  refine fe_ivV hfrj101 (by omega) (by rfl) (by rfl) (by rfl) (by rfl) (by rfl) (by rfl) ?_
  rcases hxj101 with rfl | ⟨rfl, Cj101, hCj101, rfl⟩
  · refine fe_s 1 (pc' := cond (fx_cb .eq 0 0) 52 8) (lc' := [(0, .ref 0), (1, .int c), (2, .int days), (3, .int f), (4, .int t)]) (stk' := []) (mem' := fm g tp bt a b) (by intro _ _ _; eq_refl) ?_
    rw [show (fx_cb .eq 0 0) = true from by decide]
    dsimp only [cond]
    refine fe_s 1 (pc' := 53) (lc' := [(0, .ref 0), (1, .int c), (2, .int days), (3, .int f), (4, .int t)]) (stk' := [.int 0]) (mem' := fm g tp bt a b) (by intro _ _ _; eq_refl) ?_
    exact fe_ret ⟨_, Or.inl rfl, rfl⟩ (by rfl) (by rfl) (by rfl)
  · refine fe_s 1 (pc' := cond (fx_cb .eq 1 0) 52 8) (lc' := [(0, .ref 0), (1, .int (nI Cj101)), (2, .int days), (3, .int f), (4, .int t)]) (stk' := []) (mem' := fm g tp bt a b) (by intro _ _ _; eq_refl) ?_
    rw [show (fx_cb .eq 1 0) = false from by decide]
    dsimp only [cond]
    refine fe_s 4 (pc' := 14) (lc' := [(0, .ref 0), (1, .int (nI Cj101)), (2, .int days), (3, .int f), (4, .int t)]) (stk' := [.long 10, .long (0 : Int64), .long (days.toInt64)]) (mem' := fm g tp bt a b) (by intro _ _ _; eq_refl) ?_
    obtain ⟨vf102, memf102, ⟨xf102, hxf102, hRf102⟩, hfrf102⟩ := fr_isFrom (v := days.toInt64) (l := (0 : Int64)) (m := 10) (mem := fm g tp bt a b)
    cases hRf102
    refine fe_ivS hfrf102 (by omega) (by rfl) (by rfl) (by rfl) (by rfl) (by rfl) ?_
    rcases hxf102 with ⟨rfl, -⟩ | ⟨rfl, hlf102, hmf102⟩
    · refine fe_s 1 (pc' := cond (fx_cb .eq 0 0) 52 20) (lc' := [(0, .ref 0), (1, .int (nI Cj101)), (2, .int days), (3, .int f), (4, .int t)]) (stk' := []) (mem' := fm g tp bt a b) (by intro _ _ _; eq_refl) ?_
      rw [show (fx_cb .eq 0 0) = true from by decide]
      dsimp only [cond]
      refine fe_s 1 (pc' := 53) (lc' := [(0, .ref 0), (1, .int (nI Cj101)), (2, .int days), (3, .int f), (4, .int t)]) (stk' := [.int 0]) (mem' := fm g tp bt a b) (by intro _ _ _; eq_refl) ?_
      exact fe_ret ⟨_, Or.inl rfl, rfl⟩ (by rfl) (by rfl) (by rfl)
    · obtain ⟨d, hd, rfl⟩ : ∃ qq, qq ≤ 10 ∧ days = nI qq := by
        rw [Int32.toInt_toInt64] at hlf102 hmf102
        rw [show (((10 : Int64)).toInt) = 10 from rfl] at hmf102
        rw [show (((0 : Int64)).toInt) = 0 from rfl] at hlf102
        exact nI_bd (n := 10) (by omega) hmf102
      refine fe_s 1 (pc' := cond (fx_cb .eq 1 0) 52 20) (lc' := [(0, .ref 0), (1, .int (nI Cj101)), (2, .int (nI d)), (3, .int f), (4, .int t)]) (stk' := []) (mem' := fm g tp bt a b) (by intro _ _ _; eq_refl) ?_
      rw [show (fx_cb .eq 1 0) = false from by decide]
      dsimp only [cond]
      refine fe_s 4 (pc' := 26) (lc' := [(0, .ref 0), (1, .int (nI Cj101)), (2, .int (nI d)), (3, .int f), (4, .int t)]) (stk' := [.long 16, .long (0 : Int64), .long (f.toInt64)]) (mem' := fm g tp bt a b) (by intro _ _ _; eq_refl) ?_
      obtain ⟨vf103, memf103, ⟨xf103, hxf103, hRf103⟩, hfrf103⟩ := fr_isFrom (v := f.toInt64) (l := (0 : Int64)) (m := 16) (mem := fm g tp bt a b)
      cases hRf103
      refine fe_ivS hfrf103 (by omega) (by rfl) (by rfl) (by rfl) (by rfl) (by rfl) ?_
      rcases hxf103 with ⟨rfl, -⟩ | ⟨rfl, hlf103, hmf103⟩
      · refine fe_s 1 (pc' := cond (fx_cb .eq 0 0) 52 32) (lc' := [(0, .ref 0), (1, .int (nI Cj101)), (2, .int (nI d)), (3, .int f), (4, .int t)]) (stk' := []) (mem' := fm g tp bt a b) (by intro _ _ _; eq_refl) ?_
        rw [show (fx_cb .eq 0 0) = true from by decide]
        dsimp only [cond]
        refine fe_s 1 (pc' := 53) (lc' := [(0, .ref 0), (1, .int (nI Cj101)), (2, .int (nI d)), (3, .int f), (4, .int t)]) (stk' := [.int 0]) (mem' := fm g tp bt a b) (by intro _ _ _; eq_refl) ?_
        exact fe_ret ⟨_, Or.inl rfl, rfl⟩ (by rfl) (by rfl) (by rfl)
      · refine fe_s 1 (pc' := cond (fx_cb .eq 1 0) 52 32) (lc' := [(0, .ref 0), (1, .int (nI Cj101)), (2, .int (nI d)), (3, .int f), (4, .int t)]) (stk' := []) (mem' := fm g tp bt a b) (by intro _ _ _; eq_refl) ?_
        rw [show (fx_cb .eq 1 0) = false from by decide]
        dsimp only [cond]
        refine fe_s 7 (pc' := 42) (lc' := [(0, .ref 0), (1, .int (nI Cj101)), (2, .int (nI d)), (3, .int f), (4, .int t)]) (stk' := [.long (16 - (f.toInt64)), .long (0 : Int64), .long (t.toInt64)]) (mem' := fm g tp bt a b) (by intro _ _ _; eq_refl) ?_
        obtain ⟨vf104, memf104, ⟨xf104, hxf104, hRf104⟩, hfrf104⟩ := fr_isFrom (v := t.toInt64) (l := (0 : Int64)) (m := 16 - (f.toInt64)) (mem := fm g tp bt a b)
        cases hRf104
        refine fe_ivS hfrf104 (by omega) (by rfl) (by rfl) (by rfl) (by rfl) (by rfl) ?_
        rcases hxf104 with ⟨rfl, -⟩ | ⟨rfl, hlf104, hmf104⟩
        · refine fe_s 1 (pc' := cond (fx_cb .eq 0 0) 52 48) (lc' := [(0, .ref 0), (1, .int (nI Cj101)), (2, .int (nI d)), (3, .int f), (4, .int t)]) (stk' := []) (mem' := fm g tp bt a b) (by intro _ _ _; eq_refl) ?_
          rw [show (fx_cb .eq 0 0) = true from by decide]
          dsimp only [cond]
          refine fe_s 1 (pc' := 53) (lc' := [(0, .ref 0), (1, .int (nI Cj101)), (2, .int (nI d)), (3, .int f), (4, .int t)]) (stk' := [.int 0]) (mem' := fm g tp bt a b) (by intro _ _ _; eq_refl) ?_
          exact fe_ret ⟨_, Or.inl rfl, rfl⟩ (by rfl) (by rfl) (by rfl)
        · refine fe_s 1 (pc' := cond (fx_cb .eq 1 0) 52 48) (lc' := [(0, .ref 0), (1, .int (nI Cj101)), (2, .int (nI d)), (3, .int f), (4, .int t)]) (stk' := []) (mem' := fm g tp bt a b) (by intro _ _ _; eq_refl) ?_
          rw [show (fx_cb .eq 1 0) = false from by decide]
          dsimp only [cond]
          refine fe_s 2 (pc' := 53) (lc' := [(0, .ref 0), (1, .int (nI Cj101)), (2, .int (nI d)), (3, .int f), (4, .int t)]) (stk' := [.int 1]) (mem' := fm g tp bt a b) (by intro _ _ _; eq_refl) ?_
          exact fe_ret ⟨_, Or.inr ⟨rfl, Cj101, d, by omega, by omega, rfl, rfl⟩, rfl⟩ (by rfl) (by rfl) (by rfl)
theorem fr_odds {c m dd f t : Int32} (hBa : fm_B a) (hgb : fm_gb g) : ∃ (v : Option Value) (mem' : fx_M), (fm_PZ g tp bt a b) (v, mem') ∧ fr_T 9 355 [.ref 0, .int c, .int m, .int dd, .int f, .int t] (fm g tp bt a b) v mem' := by
  have hG := fm_G_rf hgb
  obtain ⟨NCa, hNCa, eNCa⟩ := fm_B_0 hBa (i := 0) (n := 10) (by decide) rfl
  obtain ⟨NWa, hNWa, eNWa⟩ := fm_B_0 hBa (i := 1) (n := 8) (by decide) rfl
  refine fe_meth (F := fm_PZ g tp bt a b) (M := gk_m355) (by rfl) (by rfl) ?_
  refine fe_s 5 (pc' := 7) (lc' := [(0, .ref 0), (1, .int c), (2, .int m), (3, .int dd), (4, .int f), (5, .int t)]) (stk' := [.int t, .int f, .int dd, .int c, .ref 0]) (mem' := fm g tp bt a b) (by intro _ _ _; eq_refl) ?_
  obtain ⟨vw1, memw1, ⟨xw1, hxw1, hRw1⟩, hfrw1⟩ := fr_areDays (c := c) (days := dd) (f := f) (t := t) (g := g) (tp := tp) (bt := bt) (a := a) (b := b) eNCa hNCa
  cases hRw1
  refine fe_ivV hfrw1 (by omega) (by rfl) (by rfl) (by rfl) (by rfl) (by rfl) (by rfl) ?_
  rcases hxw1 with rfl | ⟨rfl, C, d, hC, hd, rfl, rfl⟩
  · refine fe_s 1 (pc' := cond (fx_cb .eq 0 0) 25 13) (lc' := [(0, .ref 0), (1, .int c), (2, .int m), (3, .int dd), (4, .int f), (5, .int t)]) (stk' := []) (mem' := fm g tp bt a b) (by intro _ _ _; eq_refl) ?_
    rw [show (fx_cb .eq 0 0) = true from by decide]
    dsimp only [cond]
    refine fe_s 2 (pc' := 27) (lc' := [(0, .ref 0), (1, .int c), (2, .int m), (3, .int dd), (4, .int f), (5, .int t)]) (stk' := [.int 1, .ref 0]) (mem' := fm g tp bt a b) (by intro _ _ _; eq_refl) ?_
    refine fe_ivV fr_isx1 (by omega) (by rfl) (by rfl) (by rfl) (by rfl) (by rfl) (by rfl) ?_
    exact fe_ret ⟨_, _, _, _, _, _, Or.inl rfl, (fm_E_rf hBa), (fm_G_2 hG (by decide) (by decide)), (fun _ _ _ => rfl), rfl⟩ (by rfl) (by rfl) (by rfl)
  · refine fe_s 1 (pc' := cond (fx_cb .eq 1 0) 25 13) (lc' := [(0, .ref 0), (1, .int (nI C)), (2, .int m), (3, .int (nI d)), (4, .int f), (5, .int t)]) (stk' := []) (mem' := fm g tp bt a b) (by intro _ _ _; eq_refl) ?_
    rw [show (fx_cb .eq 1 0) = false from by decide]
    dsimp only [cond]
    refine fe_s 4 (pc' := 19) (lc' := [(0, .ref 0), (1, .int (nI C)), (2, .int m), (3, .int (nI d)), (4, .int f), (5, .int t)]) (stk' := [.long 999, .long (0 : Int64), .long (m.toInt64)]) (mem' := fm g tp bt a b) (by intro _ _ _; eq_refl) ?_
    obtain ⟨vf2, memf2, ⟨xf2, hxf2, hRf2⟩, hfrf2⟩ := fr_isFrom (v := m.toInt64) (l := (0 : Int64)) (m := 999) (mem := fm g tp bt a b)
    cases hRf2
    refine fe_ivS hfrf2 (by omega) (by rfl) (by rfl) (by rfl) (by rfl) (by rfl) ?_
    rcases hxf2 with ⟨rfl, -⟩ | ⟨rfl, hlf2, hmf2⟩
    · refine fe_s 1 (pc' := cond (fx_cb .ne 0 0) 31 25) (lc' := [(0, .ref 0), (1, .int (nI C)), (2, .int m), (3, .int (nI d)), (4, .int f), (5, .int t)]) (stk' := []) (mem' := fm g tp bt a b) (by intro _ _ _; eq_refl) ?_
      rw [show (fx_cb .ne 0 0) = false from by decide]
      dsimp only [cond]
      refine fe_s 2 (pc' := 27) (lc' := [(0, .ref 0), (1, .int (nI C)), (2, .int m), (3, .int (nI d)), (4, .int f), (5, .int t)]) (stk' := [.int 1, .ref 0]) (mem' := fm g tp bt a b) (by intro _ _ _; eq_refl) ?_
      refine fe_ivV fr_isx1 (by omega) (by rfl) (by rfl) (by rfl) (by rfl) (by rfl) (by rfl) ?_
      exact fe_ret ⟨_, _, _, _, _, _, Or.inl rfl, (fm_E_rf hBa), (fm_G_2 hG (by decide) (by decide)), (fun _ _ _ => rfl), rfl⟩ (by rfl) (by rfl) (by rfl)
    · refine fe_s 1 (pc' := cond (fx_cb .ne 1 0) 31 25) (lc' := [(0, .ref 0), (1, .int (nI C)), (2, .int m), (3, .int (nI d)), (4, .int f), (5, .int t)]) (stk' := []) (mem' := fm g tp bt a b) (by intro _ _ _; eq_refl) ?_
      rw [show (fx_cb .ne 1 0) = true from by decide]
      dsimp only [cond]
      refine fe_s 5 (pc' := 38) (lc' := [(0, .ref 0), (1, .int (nI C)), (2, .int m), (3, .int (nI d)), (4, .int f), (5, .int t)]) (stk' := [.int t, .int f, .int (nI d), .int (nI C), .ref 0]) (mem' := fm g tp bt a b) (by intro _ _ _; eq_refl) ?_
      obtain ⟨vy3, memy3, ⟨xy3, by3, hxy3, hby3, hRy3⟩, hfry3⟩ := fr_laysDays (C := C) (days := d) (f := f) (t := t) (g := g) (tp := tp) (bt := bt) (a := a) (b := b) (by omega) (by omega)
      cases hRy3
      have hbby3 : ∀ t, t ≠ 17 → t ≠ 18 → by3 t = b t := fun t h7 h8 => (hby3 t h7 h8).trans ((fun _ _ _ => rfl) t h7 h8)
      refine fe_ivV hfry3 (by omega) (by rfl) (by rfl) (by rfl) (by rfl) (by rfl) (by rfl) ?_
      refine fe_s 5 (pc' := 47) (lc' := [(6, .long xy3), (0, .ref 0), (1, .int (nI C)), (2, .int m), (3, .int (nI d)), (4, .int f), (5, .int t)]) (stk' := [.int m, .int (nI C), .ref 0, .ref 0]) (mem' := fm g tp bt a by3) (by intro _ _ _; eq_refl) ?_
      obtain ⟨vu4, memu4, ⟨xu4, hRu4⟩, hfru4⟩ := fr_waysTo (C := C) (m := m) (g := g) (tp := tp) (bt := bt) (a := a) (b := by3) (by omega)
      cases hRu4
      refine fe_ivV hfru4 (by omega) (by rfl) (by rfl) (by rfl) (by rfl) (by rfl) (by rfl) ?_
      refine fe_s 1 (pc' := 52) (lc' := [(6, .long xy3), (0, .ref 0), (1, .int (nI C)), (2, .int m), (3, .int (nI d)), (4, .int f), (5, .int t)]) (stk' := [.long xy3, .long xu4, .ref 0]) (mem' := fm g tp bt a by3) (by intro _ _ _; eq_refl) ?_
      obtain ⟨vt5, memt5, ⟨tt5, ut5, hRt5⟩, hfrt5⟩ := fr_tellsByX (n := xu4) (d := xy3) (g := g) (tp := tp) (bt := bt) (a := a) (b := by3) (by rw [hxy3]; exact fm_16n _ (by omega))
      cases hRt5
      refine fe_ivV hfrt5 (by omega) (by rfl) (by rfl) (by rfl) (by rfl) (by rfl) (by rfl) ?_
      exact fe_ret ⟨_, _, _, _, _, _, Or.inr rfl, (fm_E_rf hBa), (fm_G_2 hG (by decide) (by decide)), hbby3, rfl⟩ (by rfl) (by rfl) (by rfl)
theorem fr_meanIn {c dd f t : Int32} (hBa : fm_B a) (hgb : fm_gb g) : ∃ (v : Option Value) (mem' : fx_M), (fm_PZ g tp bt a b) (v, mem') ∧ fr_T 9 357 [.ref 0, .int c, .int dd, .int f, .int t] (fm g tp bt a b) v mem' := by
  have hG := fm_G_rf hgb
  obtain ⟨NCa, hNCa, eNCa⟩ := fm_B_0 hBa (i := 0) (n := 10) (by decide) rfl
  obtain ⟨NWa, hNWa, eNWa⟩ := fm_B_0 hBa (i := 1) (n := 8) (by decide) rfl
  refine fe_meth (F := fm_PZ g tp bt a b) (M := gk_m357) (by rfl) (by rfl) ?_
  refine fe_s 5 (pc' := 6) (lc' := [(0, .ref 0), (1, .int c), (2, .int dd), (3, .int f), (4, .int t)]) (stk' := [.int t, .int f, .int dd, .int c, .ref 0]) (mem' := fm g tp bt a b) (by intro _ _ _; eq_refl) ?_
  obtain ⟨vw1, memw1, ⟨xw1, hxw1, hRw1⟩, hfrw1⟩ := fr_areDays (c := c) (days := dd) (f := f) (t := t) (g := g) (tp := tp) (bt := bt) (a := a) (b := b) eNCa hNCa
  cases hRw1
  refine fe_ivV hfrw1 (by omega) (by rfl) (by rfl) (by rfl) (by rfl) (by rfl) (by rfl) ?_
  rcases hxw1 with rfl | ⟨rfl, C, d, hC, hd, rfl, rfl⟩
  · refine fe_s 1 (pc' := cond (fx_cb .ne 0 0) 18 12) (lc' := [(0, .ref 0), (1, .int c), (2, .int dd), (3, .int f), (4, .int t)]) (stk' := []) (mem' := fm g tp bt a b) (by intro _ _ _; eq_refl) ?_
    rw [show (fx_cb .ne 0 0) = false from by decide]
    dsimp only [cond]
    refine fe_s 2 (pc' := 14) (lc' := [(0, .ref 0), (1, .int c), (2, .int dd), (3, .int f), (4, .int t)]) (stk' := [.int 1, .ref 0]) (mem' := fm g tp bt a b) (by intro _ _ _; eq_refl) ?_
    refine fe_ivV fr_isx1 (by omega) (by rfl) (by rfl) (by rfl) (by rfl) (by rfl) (by rfl) ?_
    exact fe_ret ⟨_, _, _, _, _, _, Or.inl rfl, (fm_E_rf hBa), (fm_G_2 hG (by decide) (by decide)), (fun _ _ _ => rfl), rfl⟩ (by rfl) (by rfl) (by rfl)
  · refine fe_s 1 (pc' := cond (fx_cb .ne 1 0) 18 12) (lc' := [(0, .ref 0), (1, .int (nI C)), (2, .int (nI d)), (3, .int f), (4, .int t)]) (stk' := []) (mem' := fm g tp bt a b) (by intro _ _ _; eq_refl) ?_
    rw [show (fx_cb .ne 1 0) = true from by decide]
    dsimp only [cond]
    refine fe_s 5 (pc' := 24) (lc' := [(0, .ref 0), (1, .int (nI C)), (2, .int (nI d)), (3, .int f), (4, .int t)]) (stk' := [.int t, .int f, .int (nI d), .int (nI C), .ref 0]) (mem' := fm g tp bt a b) (by intro _ _ _; eq_refl) ?_
    obtain ⟨vy2, memy2, ⟨xy2, by2, hxy2, hby2, hRy2⟩, hfry2⟩ := fr_laysDays (C := C) (days := d) (f := f) (t := t) (g := g) (tp := tp) (bt := bt) (a := a) (b := b) (by omega) (by omega)
    cases hRy2
    have hbby2 : ∀ t, t ≠ 17 → t ≠ 18 → by2 t = b t := fun t h7 h8 => (hby2 t h7 h8).trans ((fun _ _ _ => rfl) t h7 h8)
    refine fe_ivV hfry2 (by omega) (by rfl) (by rfl) (by rfl) (by rfl) (by rfl) (by rfl) ?_
    refine fe_s 5 (pc' := 35) (lc' := [(9, .int 0), (7, .long (0 : Int64)), (5, .long xy2), (0, .ref 0), (1, .int (nI C)), (2, .int (nI d)), (3, .int f), (4, .int t)]) (stk' := []) (mem' := fm g tp bt a by2) (by intro _ _ _; eq_refl) ?_
    have loop3 : ∀ (r i3 : Nat), i3 + r = 21 → ∀ x7_3 : Int64, fe_R 8 gk_m357 35 [(9, .int (nI i3)), (7, .long x7_3), (5, .long xy2), (0, .ref 0), (1, .int (nI C)), (2, .int (nI d)), (3, .int f), (4, .int t)] [] (fm g tp bt a by2) (fm_PZ g tp bt a b) := by
      intro r
      induction r with
      | zero =>
        intro i3 hi3 x7_3
        obtain rfl : i3 = 21 := by omega
        refine fe_s 2 (pc' := 39) (lc' := [(9, .int (nI 21)), (7, .long x7_3), (5, .long xy2), (0, .ref 0), (1, .int (nI C)), (2, .int (nI d)), (3, .int f), (4, .int t)]) (stk' := [.int 21, .int (nI 21)]) (mem' := fm g tp bt a by2) (by intro _ _ _; eq_refl) ?_
        refine fe_s 1 (pc' := cond (fx_cb .ge (nI 21) 21) 73 42) (lc' := [(9, .int (nI 21)), (7, .long x7_3), (5, .long xy2), (0, .ref 0), (1, .int (nI C)), (2, .int (nI d)), (3, .int f), (4, .int t)]) (stk' := []) (mem' := fm g tp bt a by2) (by intro _ _ _; eq_refl) ?_
        rw [show (fx_cb .ge (nI 21) 21) = true from cb_geT (a := 21) (b := 21) (by omega) (by omega) (by omega)]
        dsimp only [cond]
        refine fe_s 3 (pc' := 78) (lc' := [(9, .int (nI 21)), (7, .long x7_3), (5, .long xy2), (0, .ref 0), (1, .int (nI C)), (2, .int (nI d)), (3, .int f), (4, .int t)]) (stk' := [.long xy2, .long x7_3, .ref 0]) (mem' := fm g tp bt a by2) (by intro _ _ _; eq_refl) ?_
        obtain ⟨vt4, memt4, ⟨tt4, ut4, hRt4⟩, hfrt4⟩ := fr_tellsByX (n := x7_3) (d := xy2) (g := g) (tp := tp) (bt := bt) (a := a) (b := by2) (by rw [hxy2]; exact fm_16n _ (by omega))
        cases hRt4
        refine fe_ivV hfrt4 (by omega) (by rfl) (by rfl) (by rfl) (by rfl) (by rfl) (by rfl) ?_
        exact fe_ret ⟨_, _, _, _, _, _, Or.inr rfl, (fm_E_rf hBa), (fm_G_2 hG (by decide) (by decide)), hbby2, rfl⟩ (by rfl) (by rfl) (by rfl)
      | succ r ih3 =>
        intro i3 hi3 x7_3
        have hl3 : i3 < 21 := by omega
        refine fe_s 2 (pc' := 39) (lc' := [(9, .int (nI i3)), (7, .long x7_3), (5, .long xy2), (0, .ref 0), (1, .int (nI C)), (2, .int (nI d)), (3, .int f), (4, .int t)]) (stk' := [.int 21, .int (nI i3)]) (mem' := fm g tp bt a by2) (by intro _ _ _; eq_refl) ?_
        refine fe_s 1 (pc' := cond (fx_cb .ge (nI i3) 21) 73 42) (lc' := [(9, .int (nI i3)), (7, .long x7_3), (5, .long xy2), (0, .ref 0), (1, .int (nI C)), (2, .int (nI d)), (3, .int f), (4, .int t)]) (stk' := []) (mem' := fm g tp bt a by2) (by intro _ _ _; eq_refl) ?_
        rw [show (fx_cb .ge (nI i3) 21) = false from cb_geF (a := i3) (b := 21) (by omega) (by omega) (by omega)]
        dsimp only [cond]
        refine fe_s 4 (pc' := 50) (lc' := [(9, .int (nI i3)), (7, .long x7_3), (5, .long xy2), (0, .ref 0), (1, .int (nI C)), (2, .int (nI d)), (3, .int f), (4, .int t)]) (stk' := [.int (nI i3), .ref 17, .long x7_3]) (mem' := fm g tp bt a by2) (by intro _ _ _; eq_refl) ?_
        refine fe_ldL (by rfl) (by rfl) (fx_inN (i := i3) (by omega) (by omega)) ?_
        rw [show Int32.toNatClampNeg (nI i3) = i3 from nI_clamp (by omega)]
        refine fe_s 2 (pc' := 53) (lc' := [(9, .int (nI i3)), (7, .long x7_3), (5, .long xy2), (0, .ref 0), (1, .int (nI C)), (2, .int (nI d)), (3, .int f), (4, .int t)]) (stk' := [.int (nI C), .ref 0, .long (by2 17 i3), .long x7_3]) (mem' := fm g tp bt a by2) (by intro _ _ _; eq_refl) ?_
        obtain ⟨v5, hv5⟩ := fq_bearsNow (C := C) (g := g) (tp := tp) (bt := bt) (a := a) (b := by2) (by omega)
        refine fe_ivV hv5 (by omega) (by rfl) (by rfl) (by rfl) (by rfl) (by rfl) (by rfl) ?_
        refine fe_s 10 (pc' := 35) (lc' := [(9, .int ((nI i3) + 1)), (7, .long (x7_3 + ((by2 17 i3) * (((v5 + (nI i3)) - 10).toInt64)))), (5, .long xy2), (0, .ref 0), (1, .int (nI C)), (2, .int (nI d)), (3, .int f), (4, .int t)]) (stk' := []) (mem' := fm g tp bt a by2) (by intro _ _ _; eq_refl) ?_
        rw [show ((nI i3) + 1 : Int32) = nI (i3 + 1) from by simp only [show (1 : Int32) = nI 1 from rfl, nI_add, fm_mul]]
        refine fe_w (lc' := [(9, .int (nI (i3 + 1))), (7, .long (x7_3 + ((by2 17 i3) * (((v5 + (nI i3)) - 10).toInt64)))), (5, .long xy2), (0, .ref 0), (1, .int (nI C)), (2, .int (nI d)), (3, .int f), (4, .int t)]) ⟨rfl, rfl, rfl, rfl, rfl, rfl, rfl, rfl, trivial⟩ (by show List.Nodup [9, 7, 5, 0, 1, 2, 3, 4]; decide) (by show List.Nodup [9, 7, 5, 0, 1, 2, 3, 4]; decide) ?_
        exact ih3 (i3 + 1) (by omega) _
    exact loop3 (21) (0) (by omega) _
theorem fr_bestDay {c m dd f t : Int32} (hBa : fm_B a) (hgb : fm_gb g) : ∃ (v : Option Value) (mem' : fx_M), (fm_PO g tp bt a b) (v, mem') ∧ fr_T 9 356 [.ref 0, .int c, .int m, .int dd, .int f, .int t] (fm g tp bt a b) v mem' := by
  have hG := fm_G_rf hgb
  obtain ⟨NCa, hNCa, eNCa⟩ := fm_B_0 hBa (i := 0) (n := 10) (by decide) rfl
  obtain ⟨NWa, hNWa, eNWa⟩ := fm_B_0 hBa (i := 1) (n := 8) (by decide) rfl
  refine fe_meth (F := fm_PO g tp bt a b) (M := gk_m356) (by rfl) (by rfl) ?_
  refine fe_s 5 (pc' := 7) (lc' := [(0, .ref 0), (1, .int c), (2, .int m), (3, .int dd), (4, .int f), (5, .int t)]) (stk' := [.int t, .int f, .int dd, .int c, .ref 0]) (mem' := fm g tp bt a b) (by intro _ _ _; eq_refl) ?_
  obtain ⟨vw1, memw1, ⟨xw1, hxw1, hRw1⟩, hfrw1⟩ := fr_areDays (c := c) (days := dd) (f := f) (t := t) (g := g) (tp := tp) (bt := bt) (a := a) (b := b) eNCa hNCa
  cases hRw1
  refine fe_ivV hfrw1 (by omega) (by rfl) (by rfl) (by rfl) (by rfl) (by rfl) (by rfl) ?_
  rcases hxw1 with rfl | ⟨rfl, C, d, hC, hd, rfl, rfl⟩
  · refine fe_s 1 (pc' := cond (fx_cb .eq 0 0) 25 13) (lc' := [(0, .ref 0), (1, .int c), (2, .int m), (3, .int dd), (4, .int f), (5, .int t)]) (stk' := []) (mem' := fm g tp bt a b) (by intro _ _ _; eq_refl) ?_
    rw [show (fx_cb .eq 0 0) = true from by decide]
    dsimp only [cond]
    refine fe_s 2 (pc' := 27) (lc' := [(0, .ref 0), (1, .int c), (2, .int m), (3, .int dd), (4, .int f), (5, .int t)]) (stk' := [.int 1, .ref 0]) (mem' := fm g tp bt a b) (by intro _ _ _; eq_refl) ?_
    refine fe_ivV (fr_refuse (x := 1)) (by omega) (by rfl) (by rfl) (by rfl) (by rfl) (by rfl) (by rfl) ?_
    exact fe_ret ⟨_, _, _, _, _, _, (fm_E_rf hBa), (fm_G_2 hG (by decide) (by decide)), (fun _ _ _ => rfl), rfl⟩ (by rfl) (by rfl) (by rfl)
  · refine fe_s 1 (pc' := cond (fx_cb .eq 1 0) 25 13) (lc' := [(0, .ref 0), (1, .int (nI C)), (2, .int m), (3, .int (nI d)), (4, .int f), (5, .int t)]) (stk' := []) (mem' := fm g tp bt a b) (by intro _ _ _; eq_refl) ?_
    rw [show (fx_cb .eq 1 0) = false from by decide]
    dsimp only [cond]
    refine fe_s 4 (pc' := 19) (lc' := [(0, .ref 0), (1, .int (nI C)), (2, .int m), (3, .int (nI d)), (4, .int f), (5, .int t)]) (stk' := [.long 999, .long (0 : Int64), .long (m.toInt64)]) (mem' := fm g tp bt a b) (by intro _ _ _; eq_refl) ?_
    obtain ⟨vf2, memf2, ⟨xf2, hxf2, hRf2⟩, hfrf2⟩ := fr_isFrom (v := m.toInt64) (l := (0 : Int64)) (m := 999) (mem := fm g tp bt a b)
    cases hRf2
    refine fe_ivS hfrf2 (by omega) (by rfl) (by rfl) (by rfl) (by rfl) (by rfl) ?_
    rcases hxf2 with ⟨rfl, -⟩ | ⟨rfl, hlf2, hmf2⟩
    · refine fe_s 1 (pc' := cond (fx_cb .ne 0 0) 31 25) (lc' := [(0, .ref 0), (1, .int (nI C)), (2, .int m), (3, .int (nI d)), (4, .int f), (5, .int t)]) (stk' := []) (mem' := fm g tp bt a b) (by intro _ _ _; eq_refl) ?_
      rw [show (fx_cb .ne 0 0) = false from by decide]
      dsimp only [cond]
      refine fe_s 2 (pc' := 27) (lc' := [(0, .ref 0), (1, .int (nI C)), (2, .int m), (3, .int (nI d)), (4, .int f), (5, .int t)]) (stk' := [.int 1, .ref 0]) (mem' := fm g tp bt a b) (by intro _ _ _; eq_refl) ?_
      refine fe_ivV (fr_refuse (x := 1)) (by omega) (by rfl) (by rfl) (by rfl) (by rfl) (by rfl) (by rfl) ?_
      exact fe_ret ⟨_, _, _, _, _, _, (fm_E_rf hBa), (fm_G_2 hG (by decide) (by decide)), (fun _ _ _ => rfl), rfl⟩ (by rfl) (by rfl) (by rfl)
    · refine fe_s 1 (pc' := cond (fx_cb .ne 1 0) 31 25) (lc' := [(0, .ref 0), (1, .int (nI C)), (2, .int m), (3, .int (nI d)), (4, .int f), (5, .int t)]) (stk' := []) (mem' := fm g tp bt a b) (by intro _ _ _; eq_refl) ?_
      rw [show (fx_cb .ne 1 0) = true from by decide]
      dsimp only [cond]
      refine fe_s 6 (pc' := 42) (lc' := [(9, .int 0), (7, .long (-1)), (6, .int (-1)), (0, .ref 0), (1, .int (nI C)), (2, .int m), (3, .int (nI d)), (4, .int f), (5, .int t)]) (stk' := []) (mem' := fm g tp bt a b) (by intro _ _ _; eq_refl) ?_
      have loop : ∀ (r i : Nat), i + r = d + 1 → ∀ (y6 : Int32) (y7 : Int64) (b1 : Nat → Nat → Int64), (∀ t, t ≠ 17 → t ≠ 18 → b1 t = b t) → fe_R 8 gk_m356 42 [(9, .int (nI i)), (7, .long y7), (6, .int y6), (0, .ref 0), (1, .int (nI C)), (2, .int m), (3, .int (nI d)), (4, .int f), (5, .int t)] [] (fm g tp bt a b1) (fm_PO g tp bt a b) := by
        intro r
        induction r with
        | zero =>
          intro i hi y6 y7 b1 hb1
          obtain rfl : i = d + 1 := by omega
          refine fe_s 2 (pc' := 45) (lc' := [(9, .int (nI (d + 1))), (7, .long y7), (6, .int y6), (0, .ref 0), (1, .int (nI C)), (2, .int m), (3, .int (nI d)), (4, .int f), (5, .int t)]) (stk' := [.int (nI d), .int (nI (d + 1))]) (mem' := fm g tp bt a b1) (by intro _ _ _; eq_refl) ?_
          refine fe_s 1 (pc' := cond (fx_cb .gt (nI (d + 1)) (nI d)) 117 48) (lc' := [(9, .int (nI (d + 1))), (7, .long y7), (6, .int y6), (0, .ref 0), (1, .int (nI C)), (2, .int m), (3, .int (nI d)), (4, .int f), (5, .int t)]) (stk' := []) (mem' := fm g tp bt a b1) (by intro _ _ _; eq_refl) ?_
          rw [show (fx_cb .gt (nI (d + 1)) (nI d)) = true from cb_gtT (a := d + 1) (b := d) (by omega) (by omega) (by omega)]
          dsimp only [cond]
          refine fe_s 2 (pc' := 120) (lc' := [(9, .int (nI (d + 1))), (7, .long y7), (6, .int y6), (0, .ref 0), (1, .int (nI C)), (2, .int m), (3, .int (nI d)), (4, .int f), (5, .int t)]) (stk' := [.int y6, .ref 0]) (mem' := fm g tp bt a b1) (by intro _ _ _; eq_refl) ?_
          refine fe_ivV (fr_gives (x := y6)) (by omega) (by rfl) (by rfl) (by rfl) (by rfl) (by rfl) (by rfl) ?_
          exact fe_ret ⟨_, _, _, _, _, _, (fm_E_rf hBa), (fm_G_2 hG (by decide) (by decide)), hb1, rfl⟩ (by rfl) (by rfl) (by rfl)
        | succ r ih =>
          intro i hi y6 y7 b1 hb1
          have hid : i ≤ d := by omega
          refine fe_s 2 (pc' := 45) (lc' := [(9, .int (nI i)), (7, .long y7), (6, .int y6), (0, .ref 0), (1, .int (nI C)), (2, .int m), (3, .int (nI d)), (4, .int f), (5, .int t)]) (stk' := [.int (nI d), .int (nI i)]) (mem' := fm g tp bt a b1) (by intro _ _ _; eq_refl) ?_
          refine fe_s 1 (pc' := cond (fx_cb .gt (nI i) (nI d)) 117 48) (lc' := [(9, .int (nI i)), (7, .long y7), (6, .int y6), (0, .ref 0), (1, .int (nI C)), (2, .int m), (3, .int (nI d)), (4, .int f), (5, .int t)]) (stk' := []) (mem' := fm g tp bt a b1) (by intro _ _ _; eq_refl) ?_
          rw [show (fx_cb .gt (nI i) (nI d)) = false from cb_gtF (a := i) (b := d) (by omega) (by omega) (by omega)]
          dsimp only [cond]
          refine fe_s 5 (pc' := 56) (lc' := [(9, .int (nI i)), (7, .long y7), (6, .int y6), (0, .ref 0), (1, .int (nI C)), (2, .int m), (3, .int (nI d)), (4, .int f), (5, .int t)]) (stk' := [.int t, .int f, .int (nI i), .int (nI C), .ref 0]) (mem' := fm g tp bt a b1) (by intro _ _ _; eq_refl) ?_
          obtain ⟨vy3, memy3, ⟨xy3, by3, hxy3, hby3, hRy3⟩, hfry3⟩ := fr_laysDays (C := C) (days := i) (f := f) (t := t) (g := g) (tp := tp) (bt := bt) (a := a) (b := b1) (by omega) (by omega)
          cases hRy3
          have hbby3 : ∀ t, t ≠ 17 → t ≠ 18 → by3 t = b t := fun t h7 h8 => (hby3 t h7 h8).trans (hb1 t h7 h8)
          refine fe_ivV hfry3 (by omega) (by rfl) (by rfl) (by rfl) (by rfl) (by rfl) (by rfl) ?_
          refine fe_s 1 (pc' := 60) (lc' := [(9, .int (nI i)), (7, .long y7), (6, .int y6), (0, .ref 0), (1, .int (nI C)), (2, .int m), (3, .int (nI d)), (4, .int f), (5, .int t)]) (stk' := []) (mem' := fm g tp bt a by3) (by intro _ _ _; eq_refl) ?_
          refine fe_s 3 (pc' := 63) (lc' := [(9, .int (nI i)), (7, .long y7), (6, .int y6), (0, .ref 0), (1, .int (nI C)), (2, .int m), (3, .int (nI d)), (4, .int f), (5, .int t)]) (stk' := [.int m, .int (nI C), .ref 0]) (mem' := fm g tp bt a by3) (by intro _ _ _; eq_refl) ?_
          obtain ⟨vu4, memu4, ⟨xu4, hRu4⟩, hfru4⟩ := fr_waysTo (C := C) (m := m) (g := g) (tp := tp) (bt := bt) (a := a) (b := by3) (by omega)
          cases hRu4
          refine fe_ivV hfru4 (by omega) (by rfl) (by rfl) (by rfl) (by rfl) (by rfl) (by rfl) ?_
          refine fe_s 3 (pc' := 72) (lc' := [(12, .int (nI i)), (10, .long xu4), (9, .int (nI i)), (7, .long y7), (6, .int y6), (0, .ref 0), (1, .int (nI C)), (2, .int m), (3, .int (nI d)), (4, .int f), (5, .int t)]) (stk' := []) (mem' := fm g tp bt a by3) (by intro _ _ _; eq_refl) ?_
          have loop5 : ∀ (r i5 : Nat), i5 + r = d → ∀ x10_5 : Int64, fe_R 8 gk_m356 72 [(12, .int (nI i5)), (10, .long x10_5), (9, .int (nI i)), (7, .long y7), (6, .int y6), (0, .ref 0), (1, .int (nI C)), (2, .int m), (3, .int (nI d)), (4, .int f), (5, .int t)] [] (fm g tp bt a by3) (fm_PO g tp bt a b) := by
            intro r
            induction r with
            | zero =>
              intro i5 hi5 x10_5
              obtain rfl : d = i5 := by omega
              refine fe_s 2 (pc' := 75) (lc' := [(12, .int (nI d)), (10, .long x10_5), (9, .int (nI i)), (7, .long y7), (6, .int y6), (0, .ref 0), (1, .int (nI C)), (2, .int m), (3, .int (nI d)), (4, .int f), (5, .int t)]) (stk' := [.int (nI d), .int (nI d)]) (mem' := fm g tp bt a by3) (by intro _ _ _; eq_refl) ?_
              refine fe_s 1 (pc' := cond (fx_cb .ge (nI d) (nI d)) 92 78) (lc' := [(12, .int (nI d)), (10, .long x10_5), (9, .int (nI i)), (7, .long y7), (6, .int y6), (0, .ref 0), (1, .int (nI C)), (2, .int m), (3, .int (nI d)), (4, .int f), (5, .int t)]) (stk' := []) (mem' := fm g tp bt a by3) (by intro _ _ _; eq_refl) ?_
              rw [show (fx_cb .ge (nI d) (nI d)) = true from cb_geT (a := d) (b := d) (by omega) (by omega) (by omega)]
              dsimp only [cond]
              refine fe_s 3 (pc' := 97) (lc' := [(12, .int (nI d)), (10, .long x10_5), (9, .int (nI i)), (7, .long y7), (6, .int y6), (0, .ref 0), (1, .int (nI C)), (2, .int m), (3, .int (nI d)), (4, .int f), (5, .int t)]) (stk' := [.int (lg_cmp x10_5 y7)]) (mem' := fm g tp bt a by3) (by intro _ _ _; eq_refl) ?_
              refine fe_s 1 (pc' := cond (fx_cb .gt (lg_cmp x10_5 y7) 0) 103 100) (lc' := [(12, .int (nI d)), (10, .long x10_5), (9, .int (nI i)), (7, .long y7), (6, .int y6), (0, .ref 0), (1, .int (nI C)), (2, .int m), (3, .int (nI d)), (4, .int f), (5, .int t)]) (stk' := []) (mem' := fm g tp bt a by3) (by intro _ _ _; eq_refl) ?_
              cases h6 : fx_cb .gt (lg_cmp x10_5 y7) 0
              · refine fe_s 2 (pc' := 114) (lc' := [(9, .int ((nI i) + 1)), (12, .int (nI d)), (10, .long x10_5), (7, .long y7), (6, .int y6), (0, .ref 0), (1, .int (nI C)), (2, .int m), (3, .int (nI d)), (4, .int f), (5, .int t)]) (stk' := []) (mem' := fm g tp bt a by3) (by intro _ _ _; eq_refl) ?_
                rw [show ((nI i) + 1 : Int32) = nI (i + 1) from by simp only [show (1 : Int32) = nI 1 from rfl, nI_add, fm_mul]]
                refine fe_s 1 (pc' := fx_to 114 (-72)) (lc' := [(9, .int (nI (i + 1))), (12, .int (nI d)), (10, .long x10_5), (7, .long y7), (6, .int y6), (0, .ref 0), (1, .int (nI C)), (2, .int m), (3, .int (nI d)), (4, .int f), (5, .int t)]) (stk' := []) (mem' := fm g tp bt a by3) (by intro _ _ _; eq_refl) ?_
                rw [show fx_to 114 (-72) = 42 from by decide]
                refine fe_w (lc' := [(9, .int (nI (i + 1))), (7, .long y7), (6, .int y6), (0, .ref 0), (1, .int (nI C)), (2, .int m), (3, .int (nI d)), (4, .int f), (5, .int t)]) ⟨rfl, rfl, rfl, rfl, rfl, rfl, rfl, rfl, rfl, trivial⟩ (by show List.Nodup [9, 7, 6, 0, 1, 2, 3, 4, 5]; decide) (by show List.Nodup [9, 12, 10, 7, 6, 0, 1, 2, 3, 4, 5]; decide) ?_
                exact ih (i + 1) (by omega) _ _ _ hbby3
              · refine fe_s 5 (pc' := 114) (lc' := [(9, .int ((nI i) + 1)), (6, .int (nI i)), (7, .long x10_5), (12, .int (nI d)), (10, .long x10_5), (0, .ref 0), (1, .int (nI C)), (2, .int m), (3, .int (nI d)), (4, .int f), (5, .int t)]) (stk' := []) (mem' := fm g tp bt a by3) (by intro _ _ _; eq_refl) ?_
                rw [show ((nI i) + 1 : Int32) = nI (i + 1) from by simp only [show (1 : Int32) = nI 1 from rfl, nI_add, fm_mul]]
                refine fe_s 1 (pc' := fx_to 114 (-72)) (lc' := [(9, .int (nI (i + 1))), (6, .int (nI i)), (7, .long x10_5), (12, .int (nI d)), (10, .long x10_5), (0, .ref 0), (1, .int (nI C)), (2, .int m), (3, .int (nI d)), (4, .int f), (5, .int t)]) (stk' := []) (mem' := fm g tp bt a by3) (by intro _ _ _; eq_refl) ?_
                rw [show fx_to 114 (-72) = 42 from by decide]
                refine fe_w (lc' := [(9, .int (nI (i + 1))), (7, .long x10_5), (6, .int (nI i)), (0, .ref 0), (1, .int (nI C)), (2, .int m), (3, .int (nI d)), (4, .int f), (5, .int t)]) ⟨rfl, rfl, rfl, rfl, rfl, rfl, rfl, rfl, rfl, trivial⟩ (by show List.Nodup [9, 7, 6, 0, 1, 2, 3, 4, 5]; decide) (by show List.Nodup [9, 6, 7, 12, 10, 0, 1, 2, 3, 4, 5]; decide) ?_
                exact ih (i + 1) (by omega) _ _ _ hbby3
            | succ r ih5 =>
              intro i5 hi5 x10_5
              have hl5 : i5 < d := by omega
              refine fe_s 2 (pc' := 75) (lc' := [(12, .int (nI i5)), (10, .long x10_5), (9, .int (nI i)), (7, .long y7), (6, .int y6), (0, .ref 0), (1, .int (nI C)), (2, .int m), (3, .int (nI d)), (4, .int f), (5, .int t)]) (stk' := [.int (nI d), .int (nI i5)]) (mem' := fm g tp bt a by3) (by intro _ _ _; eq_refl) ?_
              refine fe_s 1 (pc' := cond (fx_cb .ge (nI i5) (nI d)) 92 78) (lc' := [(12, .int (nI i5)), (10, .long x10_5), (9, .int (nI i)), (7, .long y7), (6, .int y6), (0, .ref 0), (1, .int (nI C)), (2, .int m), (3, .int (nI d)), (4, .int f), (5, .int t)]) (stk' := []) (mem' := fm g tp bt a by3) (by intro _ _ _; eq_refl) ?_
              rw [show (fx_cb .ge (nI i5) (nI d)) = false from cb_geF (a := i5) (b := d) (by omega) (by omega) (by omega)]
              dsimp only [cond]
              refine fe_s 6 (pc' := 72) (lc' := [(12, .int ((nI i5) + 1)), (10, .long (x10_5 * 16)), (9, .int (nI i)), (7, .long y7), (6, .int y6), (0, .ref 0), (1, .int (nI C)), (2, .int m), (3, .int (nI d)), (4, .int f), (5, .int t)]) (stk' := []) (mem' := fm g tp bt a by3) (by intro _ _ _; eq_refl) ?_
              rw [show ((nI i5) + 1 : Int32) = nI (i5 + 1) from by simp only [show (1 : Int32) = nI 1 from rfl, nI_add, fm_mul]]
              refine fe_w (lc' := [(12, .int (nI (i5 + 1))), (10, .long (x10_5 * 16)), (9, .int (nI i)), (7, .long y7), (6, .int y6), (0, .ref 0), (1, .int (nI C)), (2, .int m), (3, .int (nI d)), (4, .int f), (5, .int t)]) ⟨rfl, rfl, rfl, rfl, rfl, rfl, rfl, rfl, rfl, rfl, rfl, trivial⟩ (by show List.Nodup [12, 10, 9, 7, 6, 0, 1, 2, 3, 4, 5]; decide) (by show List.Nodup [12, 10, 9, 7, 6, 0, 1, 2, 3, 4, 5]; decide) ?_
              exact ih5 (i5 + 1) (by omega) _
          exact loop5 (d - i) (i) (by omega) _
      refine fe_w (lc' := [(9, .int 0), (7, .long (-1)), (6, .int (-1)), (0, .ref 0), (1, .int (nI C)), (2, .int m), (3, .int (nI d)), (4, .int f), (5, .int t)]) ⟨rfl, rfl, rfl, rfl, rfl, rfl, rfl, rfl, rfl, trivial⟩ (by show List.Nodup [9, 7, 6, 0, 1, 2, 3, 4, 5]; decide) (by show List.Nodup [9, 7, 6, 0, 1, 2, 3, 4, 5]; decide) ?_
      exact loop (d + 1) 0 (by omega) _ _ _ (fun _ _ _ => rfl)
end FDZ
end MH8_3
