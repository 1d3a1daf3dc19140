/-! ===== fx: who lives: the TALES are lived ===== -/
section FLW
variable {g : Nat → Int32} {tp bt : Int64} {a0 a : Nat → Nat → Int32} {b : Nat → Nat → Int64}
set_option maxHeartbeats 8000000 in
theorem fr_behindEnds {T k N : Nat} (hB : fm_B a0) (hD : fm_D a0 a T) (hk : k ≤ 60) (hN : a0 1 6 = nI N) (hN6 : N ≤ 60) : ∃ (v : Option Value) (mem' : fx_M), (fun R => ∃ (k' : Nat) (a' : Nat → Nat → Int32), k' ≤ 60 ∧ fm_D a0 a' T ∧ R = (some (.int (nI k')), fm g tp bt a' b)) (v, mem') ∧ fr_T 1 364 [.ref 0, .int (nI k)] (fm g tp bt a b) v mem' := by
  refine fe_meth (F := fun R => ∃ (k' : Nat) (a' : Nat → Nat → Int32), k' ≤ 60 ∧ fm_D a0 a' T ∧ R = (some (.int (nI k')), fm g tp bt a' b)) (M := gk_m364) (by rfl) (by rfl) ?_
  have loop : ∀ (r k2 : Nat) (a1 : Nat → Nat → Int32), k2 ≤ 60 → fm_sum (a1 19) 60 * 100 + (60 - k2) < r → fm_D a0 a1 T → fe_R 0 gk_m364 2 [(2, .int (nI k2)), (0, .ref 0), (1, .int (nI k))] [] (fm g tp bt a1 b) (fun R => ∃ (k' : Nat) (a' : Nat → Nat → Int32), k' ≤ 60 ∧ fm_D a0 a' T ∧ R = (some (.int (nI k')), fm g tp bt a' b)) := by
    intro r
    induction r with
    | zero => intro k2 a1 hk2 h; exact absurd h (Nat.not_lt_zero _)
    | succ r ih =>
      intro k2 a1 hk2 hr hD1
      refine fe_s 4 (pc' := 9) (lc' := [(2, .int (nI k2)), (0, .ref 0), (1, .int (nI k))]) (stk' := [.int 6, .ref 1, .int (nI k2)]) (mem' := fm g tp bt a1 b) (fun _ _ _ => rfl) ?_
      refine fe_ldI (by rfl) (by rfl) (fx_inN (i := 6) (by omega) (by omega)) ?_
      rw [show Int32.toNatClampNeg (6) = 6 from rfl]
      rw [show a1 1 6 = nI N from (fm_D_h hD1 (by decide) rfl).trans hN]
      refine fe_s 1 (pc' := cond (fx_cb .ge (nI k2) (nI N)) 118 13) (lc' := [(2, .int (nI k2)), (0, .ref 0), (1, .int (nI k))]) (stk' := []) (mem' := fm g tp bt a1 b) (fun _ _ _ => rfl) ?_
      by_cases h1 : N ≤ k2
      · rw [show (fx_cb .ge (nI k2) (nI N)) = true from cb_geT (a := k2) (b := N) (by omega) (by omega) (by omega)]
        dsimp only [cond]
        refine fe_s 1 (pc' := 119) (lc' := [(2, .int (nI k2)), (0, .ref 0), (1, .int (nI k))]) (stk' := [.int (nI k2)]) (mem' := fm g tp bt a1 b) (fun _ _ _ => rfl) ?_
        exact fe_ret ⟨k2, _, hk2, hD1, rfl⟩ (by rfl) (by rfl) (by rfl)
      · rw [show (fx_cb .ge (nI k2) (nI N)) = false from cb_geF (a := k2) (b := N) (by omega) (by omega) (by omega)]
        dsimp only [cond]
        refine fe_s 7 (pc' := 25) (lc' := [(2, .int (nI k2)), (0, .ref 0), (1, .int (nI k))]) (stk' := [.int (478 + (6 * (nI k2))), .ref 1]) (mem' := fm g tp bt a1 b) (fun _ _ _ => rfl) ?_
        rw [show (478 + (6 * (nI k2)) : Int32) = nI (478 + (6 * k2)) from by simp only [show (478 : Int32) = nI 478 from rfl, show (6 : Int32) = nI 6 from rfl, nI_add, fm_mul]]
        refine fe_ldI (by rfl) (by rfl) (fx_inN (i := 478 + (6 * k2)) (by omega) (by omega)) ?_
        rw [show Int32.toNatClampNeg (nI (478 + (6 * k2))) = 478 + (6 * k2) from nI_clamp (by omega)]
        obtain ⟨m2, hm2, em2⟩ := fm_row_m hB (k := k2) (by omega)
        rw [show a1 1 (478 + (6 * k2)) = nI m2 from (fm_D_hi hD1 (by omega)).trans em2]
        refine fe_s 1 (pc' := 28) (lc' := [(2, .int (nI k2)), (0, .ref 0), (1, .int (nI k))]) (stk' := [.int 20, .int (nI m2)]) (mem' := fm g tp bt a1 b) (fun _ _ _ => rfl) ?_
        refine fe_s 1 (pc' := cond (fx_cb .ne (nI m2) 20) 118 31) (lc' := [(2, .int (nI k2)), (0, .ref 0), (1, .int (nI k))]) (stk' := []) (mem' := fm g tp bt a1 b) (fun _ _ _ => rfl) ?_
        by_cases h3 : m2 = 20
        · rw [show (fx_cb .ne (nI m2) 20) = false from cb_neF (a := m2) (b := 20) (by omega) (by omega) (by omega)]
          dsimp only [cond]
          refine fe_s 9 (pc' := 45) (lc' := [(2, .int (nI k2)), (0, .ref 0), (1, .int (nI k))]) (stk' := [.int ((478 + (6 * (nI k2))) + 4), .ref 1]) (mem' := fm g tp bt a1 b) (fun _ _ _ => rfl) ?_
          rw [show ((478 + (6 * (nI k2))) + 4 : Int32) = nI ((478 + (6 * k2)) + 4) from by simp only [show (478 : Int32) = nI 478 from rfl, show (6 : Int32) = nI 6 from rfl, show (4 : Int32) = nI 4 from rfl, nI_add, fm_mul]]
          refine fe_ldI (by rfl) (by rfl) (fx_inN (i := (478 + (6 * k2)) + 4) (by omega) (by omega)) ?_
          rw [show Int32.toNatClampNeg (nI ((478 + (6 * k2)) + 4)) = (478 + (6 * k2)) + 4 from nI_clamp (by omega)]
          obtain ⟨m4, hm4, em4⟩ := fm_row_o hB (k := k2) (by omega)
          rw [show a1 1 ((478 + (6 * k2)) + 4) = nI m4 from by rw [show (478 + (6 * k2)) + 4 = 482 + 6 * k2 by omega]; exact (fm_D_hi hD1 (by omega)).trans em4]
          refine fe_s 8 (pc' := 59) (lc' := [(3, .int (nI m4)), (2, .int (nI k2)), (0, .ref 0), (1, .int (nI k))]) (stk' := [.int (478 + (6 * (nI m4))), .ref 1]) (mem' := fm g tp bt a1 b) (fun _ _ _ => rfl) ?_
          rw [show (478 + (6 * (nI m4)) : Int32) = nI (478 + (6 * m4)) from by simp only [show (478 : Int32) = nI 478 from rfl, show (6 : Int32) = nI 6 from rfl, nI_add, fm_mul]]
          refine fe_ldI (by rfl) (by rfl) (fx_inN (i := 478 + (6 * m4)) (by omega) (by omega)) ?_
          rw [show Int32.toNatClampNeg (nI (478 + (6 * m4))) = 478 + (6 * m4) from nI_clamp (by omega)]
          obtain ⟨m5, hm5, em5⟩ := fm_row_m hB (k := m4) (by omega)
          rw [show a1 1 (478 + (6 * m4)) = nI m5 from (fm_D_hi hD1 (by omega)).trans em5]
          refine fe_s 1 (pc' := 62) (lc' := [(3, .int (nI m4)), (2, .int (nI k2)), (0, .ref 0), (1, .int (nI k))]) (stk' := [.int 19, .int (nI m5)]) (mem' := fm g tp bt a1 b) (fun _ _ _ => rfl) ?_
          refine fe_s 1 (pc' := cond (fx_cb .ne (nI m5) 19) 78 65) (lc' := [(3, .int (nI m4)), (2, .int (nI k2)), (0, .ref 0), (1, .int (nI k))]) (stk' := []) (mem' := fm g tp bt a1 b) (fun _ _ _ => rfl) ?_
          by_cases h6 : m5 = 19
          · rw [show (fx_cb .ne (nI m5) 19) = false from cb_neF (a := m5) (b := 19) (by omega) (by omega) (by omega)]
            dsimp only [cond]
            refine fe_s 3 (pc' := 70) (lc' := [(3, .int (nI m4)), (2, .int (nI k2)), (0, .ref 0), (1, .int (nI k))]) (stk' := [.int (nI m4), .ref 19]) (mem' := fm g tp bt a1 b) (fun _ _ _ => rfl) ?_
            refine fe_ldI (by rfl) (by rfl) (fx_inN (i := m4) (by omega) (by omega)) ?_
            rw [show Int32.toNatClampNeg (nI m4) = m4 from nI_clamp (by omega)]
            refine fe_s 1 (pc' := cond (fx_cb .le (a1 19 m4) 0) 78 74) (lc' := [(3, .int (nI m4)), (2, .int (nI k2)), (0, .ref 0), (1, .int (nI k))]) (stk' := []) (mem' := fm g tp bt a1 b) (fun _ _ _ => rfl) ?_
            cases h7 : fx_cb .le (a1 19 m4) 0
            · refine fe_s 7 (pc' := 87) (lc' := [(4, .int 1), (3, .int (nI m4)), (2, .int (nI k2)), (0, .ref 0), (1, .int (nI k))]) (stk' := [.int (nI m4), .ref 19, .int (nI m4), .ref 19]) (mem' := fm g tp bt a1 b) (fun _ _ _ => rfl) ?_
              refine fe_ldI (by rfl) (by rfl) (fx_inN (i := m4) (by omega) (by omega)) ?_
              rw [show Int32.toNatClampNeg (nI m4) = m4 from nI_clamp (by omega)]
              refine fe_s 1 (pc' := 90) (lc' := [(4, .int 1), (3, .int (nI m4)), (2, .int (nI k2)), (0, .ref 0), (1, .int (nI k))]) (stk' := [.int 1, .int (a1 19 m4), .int (nI m4), .ref 19]) (mem' := fm g tp bt a1 b) (fun _ _ _ => rfl) ?_
              refine fe_s 1 (pc' := cond (fx_cb .eq 1 0) 97 93) (lc' := [(4, .int 1), (3, .int (nI m4)), (2, .int (nI k2)), (0, .ref 0), (1, .int (nI k))]) (stk' := [.int (a1 19 m4), .int (nI m4), .ref 19]) (mem' := fm g tp bt a1 b) (fun _ _ _ => rfl) ?_
              rw [show (fx_cb .eq 1 0) = false from by decide]
              dsimp only [cond]
              refine fe_s 3 (pc' := 99) (lc' := [(4, .int 1), (3, .int (nI m4)), (2, .int (nI k2)), (0, .ref 0), (1, .int (nI k))]) (stk' := [.int ((a1 19 m4) - 1), .int (nI m4), .ref 19]) (mem' := fm g tp bt a1 b) (fun _ _ _ => rfl) ?_
              refine fe_stI (mem' := fm g tp bt (fm_u a1 19 (nI m4 : Int32).toNatClampNeg ((a1 19 m4) - 1)) b) (by rfl) (by rfl) (fx_inN (i := m4) (by omega) (by omega)) fm_si19 ?_
              rw [show Int32.toNatClampNeg (nI m4) = m4 from nI_clamp (by omega)]
              have hDs := fm_D_ot hD1 (t := 19) (i := m4) (v := (a1 19 m4) - 1) (by decide) (by decide) rfl
              have hsu := fm_sum_upd (f := a1 19) (o := m4) (v := (a1 19 m4) - 1) 60 (by omega)
              refine fe_s 1 (pc' := 102) (lc' := [(4, .int 1), (3, .int (nI m4)), (2, .int (nI k2)), (0, .ref 0), (1, .int (nI k))]) (stk' := [.int 1]) (mem' := fm g tp bt (fm_u a1 19 (m4) ((a1 19 m4) - 1)) b) (fun _ _ _ => rfl) ?_
              refine fe_s 1 (pc' := cond (fx_cb .eq 1 0) 111 105) (lc' := [(4, .int 1), (3, .int (nI m4)), (2, .int (nI k2)), (0, .ref 0), (1, .int (nI k))]) (stk' := []) (mem' := fm g tp bt (fm_u a1 19 (m4) ((a1 19 m4) - 1)) b) (fun _ _ _ => rfl) ?_
              rw [show (fx_cb .eq 1 0) = false from by decide]
              dsimp only [cond]
              refine fe_s 5 (pc' := 115) (lc' := [(2, .int ((nI m4) + 1)), (4, .int 1), (3, .int (nI m4)), (0, .ref 0), (1, .int (nI k))]) (stk' := []) (mem' := fm g tp bt (fm_u a1 19 (m4) ((a1 19 m4) - 1)) b) (fun _ _ _ => rfl) ?_
              rw [show ((nI m4) + 1 : Int32) = nI (m4 + 1) from by simp only [show (1 : Int32) = nI 1 from rfl, nI_add, fm_mul]]
              refine fe_s 1 (pc' := fx_to 115 (-113)) (lc' := [(2, .int (nI (m4 + 1))), (4, .int 1), (3, .int (nI m4)), (0, .ref 0), (1, .int (nI k))]) (stk' := []) (mem' := fm g tp bt (fm_u a1 19 (m4) ((a1 19 m4) - 1)) b) (fun _ _ _ => rfl) ?_
              rw [show fx_to 115 (-113) = 2 from by decide]
              refine fe_w (lc' := [(2, .int (nI (m4 + 1))), (0, .ref 0), (1, .int (nI k))]) ⟨rfl, rfl, rfl, trivial⟩ (by show List.Nodup [2, 0, 1]; decide) (by show List.Nodup [2, 4, 3, 0, 1]; decide) ?_
              have e19 : ((fm_u a1 19 (m4) ((a1 19 m4) - 1))) 19 = upd (a1 19) m4 ((a1 19 m4) - 1) := by unfold fm_u; rw [if_pos rfl]
              have hp := fm_pos1 h7
              refine ih (m4 + 1) _ (by omega) ?_ hDs
              rw [e19]
              omega
            · refine fe_s 6 (pc' := 87) (lc' := [(4, .int 0), (3, .int (nI m4)), (2, .int (nI k2)), (0, .ref 0), (1, .int (nI k))]) (stk' := [.int (nI m4), .ref 19, .int (nI m4), .ref 19]) (mem' := fm g tp bt a1 b) (fun _ _ _ => rfl) ?_
              refine fe_ldI (by rfl) (by rfl) (fx_inN (i := m4) (by omega) (by omega)) ?_
              rw [show Int32.toNatClampNeg (nI m4) = m4 from nI_clamp (by omega)]
              refine fe_s 1 (pc' := 90) (lc' := [(4, .int 0), (3, .int (nI m4)), (2, .int (nI k2)), (0, .ref 0), (1, .int (nI k))]) (stk' := [.int 0, .int (a1 19 m4), .int (nI m4), .ref 19]) (mem' := fm g tp bt a1 b) (fun _ _ _ => rfl) ?_
              refine fe_s 1 (pc' := cond (fx_cb .eq 0 0) 97 93) (lc' := [(4, .int 0), (3, .int (nI m4)), (2, .int (nI k2)), (0, .ref 0), (1, .int (nI k))]) (stk' := [.int (a1 19 m4), .int (nI m4), .ref 19]) (mem' := fm g tp bt a1 b) (fun _ _ _ => rfl) ?_
              rw [show (fx_cb .eq 0 0) = true from by decide]
              dsimp only [cond]
              refine fe_s 2 (pc' := 99) (lc' := [(4, .int 0), (3, .int (nI m4)), (2, .int (nI k2)), (0, .ref 0), (1, .int (nI k))]) (stk' := [.int ((a1 19 m4) - 0), .int (nI m4), .ref 19]) (mem' := fm g tp bt a1 b) (fun _ _ _ => rfl) ?_
              refine fe_stI (mem' := fm g tp bt (fm_u a1 19 (nI m4 : Int32).toNatClampNeg ((a1 19 m4) - 0)) b) (by rfl) (by rfl) (fx_inN (i := m4) (by omega) (by omega)) fm_si19 ?_
              rw [show Int32.toNatClampNeg (nI m4) = m4 from nI_clamp (by omega)]
              have hDs := fm_D_ot hD1 (t := 19) (i := m4) (v := (a1 19 m4) - 0) (by decide) (by decide) rfl
              have hsu := fm_sum_upd (f := a1 19) (o := m4) (v := (a1 19 m4) - 0) 60 (by omega)
              refine fe_s 1 (pc' := 102) (lc' := [(4, .int 0), (3, .int (nI m4)), (2, .int (nI k2)), (0, .ref 0), (1, .int (nI k))]) (stk' := [.int 0]) (mem' := fm g tp bt (fm_u a1 19 (m4) ((a1 19 m4) - 0)) b) (fun _ _ _ => rfl) ?_
              refine fe_s 1 (pc' := cond (fx_cb .eq 0 0) 111 105) (lc' := [(4, .int 0), (3, .int (nI m4)), (2, .int (nI k2)), (0, .ref 0), (1, .int (nI k))]) (stk' := []) (mem' := fm g tp bt (fm_u a1 19 (m4) ((a1 19 m4) - 0)) b) (fun _ _ _ => rfl) ?_
              rw [show (fx_cb .eq 0 0) = true from by decide]
              dsimp only [cond]
              refine fe_s 4 (pc' := 115) (lc' := [(2, .int ((nI k2) + 1)), (4, .int 0), (3, .int (nI m4)), (0, .ref 0), (1, .int (nI k))]) (stk' := []) (mem' := fm g tp bt (fm_u a1 19 (m4) ((a1 19 m4) - 0)) b) (fun _ _ _ => rfl) ?_
              rw [show ((nI k2) + 1 : Int32) = nI (k2 + 1) from by simp only [show (1 : Int32) = nI 1 from rfl, nI_add, fm_mul]]
              refine fe_s 1 (pc' := fx_to 115 (-113)) (lc' := [(2, .int (nI (k2 + 1))), (4, .int 0), (3, .int (nI m4)), (0, .ref 0), (1, .int (nI k))]) (stk' := []) (mem' := fm g tp bt (fm_u a1 19 (m4) ((a1 19 m4) - 0)) b) (fun _ _ _ => rfl) ?_
              rw [show fx_to 115 (-113) = 2 from by decide]
              refine fe_w (lc' := [(2, .int (nI (k2 + 1))), (0, .ref 0), (1, .int (nI k))]) ⟨rfl, rfl, rfl, trivial⟩ (by show List.Nodup [2, 0, 1]; decide) (by show List.Nodup [2, 4, 3, 0, 1]; decide) ?_
              have e19 : ((fm_u a1 19 (m4) ((a1 19 m4) - 0))) 19 = upd (a1 19) m4 ((a1 19 m4) - 0) := by unfold fm_u; rw [if_pos rfl]
              have hp := fm_sub0 (a1 19 m4)
              rw [hp] at hsu
              refine ih (k2 + 1) _ (by omega) ?_ hDs
              rw [e19]; rw [hp]
              omega
          · rw [show (fx_cb .ne (nI m5) 19) = true from cb_neT (a := m5) (b := 19) (by omega) (by omega) (by omega)]
            dsimp only [cond]
            refine fe_s 6 (pc' := 87) (lc' := [(4, .int 0), (3, .int (nI m4)), (2, .int (nI k2)), (0, .ref 0), (1, .int (nI k))]) (stk' := [.int (nI m4), .ref 19, .int (nI m4), .ref 19]) (mem' := fm g tp bt a1 b) (fun _ _ _ => rfl) ?_
            refine fe_ldI (by rfl) (by rfl) (fx_inN (i := m4) (by omega) (by omega)) ?_
            rw [show Int32.toNatClampNeg (nI m4) = m4 from nI_clamp (by omega)]
            refine fe_s 1 (pc' := 90) (lc' := [(4, .int 0), (3, .int (nI m4)), (2, .int (nI k2)), (0, .ref 0), (1, .int (nI k))]) (stk' := [.int 0, .int (a1 19 m4), .int (nI m4), .ref 19]) (mem' := fm g tp bt a1 b) (fun _ _ _ => rfl) ?_
            refine fe_s 1 (pc' := cond (fx_cb .eq 0 0) 97 93) (lc' := [(4, .int 0), (3, .int (nI m4)), (2, .int (nI k2)), (0, .ref 0), (1, .int (nI k))]) (stk' := [.int (a1 19 m4), .int (nI m4), .ref 19]) (mem' := fm g tp bt a1 b) (fun _ _ _ => rfl) ?_
            rw [show (fx_cb .eq 0 0) = true from by decide]
            dsimp only [cond]
            refine fe_s 2 (pc' := 99) (lc' := [(4, .int 0), (3, .int (nI m4)), (2, .int (nI k2)), (0, .ref 0), (1, .int (nI k))]) (stk' := [.int ((a1 19 m4) - 0), .int (nI m4), .ref 19]) (mem' := fm g tp bt a1 b) (fun _ _ _ => rfl) ?_
            refine fe_stI (mem' := fm g tp bt (fm_u a1 19 (nI m4 : Int32).toNatClampNeg ((a1 19 m4) - 0)) b) (by rfl) (by rfl) (fx_inN (i := m4) (by omega) (by omega)) fm_si19 ?_
            rw [show Int32.toNatClampNeg (nI m4) = m4 from nI_clamp (by omega)]
            have hDs := fm_D_ot hD1 (t := 19) (i := m4) (v := (a1 19 m4) - 0) (by decide) (by decide) rfl
            have hsu := fm_sum_upd (f := a1 19) (o := m4) (v := (a1 19 m4) - 0) 60 (by omega)
            refine fe_s 1 (pc' := 102) (lc' := [(4, .int 0), (3, .int (nI m4)), (2, .int (nI k2)), (0, .ref 0), (1, .int (nI k))]) (stk' := [.int 0]) (mem' := fm g tp bt (fm_u a1 19 (m4) ((a1 19 m4) - 0)) b) (fun _ _ _ => rfl) ?_
            refine fe_s 1 (pc' := cond (fx_cb .eq 0 0) 111 105) (lc' := [(4, .int 0), (3, .int (nI m4)), (2, .int (nI k2)), (0, .ref 0), (1, .int (nI k))]) (stk' := []) (mem' := fm g tp bt (fm_u a1 19 (m4) ((a1 19 m4) - 0)) b) (fun _ _ _ => rfl) ?_
            rw [show (fx_cb .eq 0 0) = true from by decide]
            dsimp only [cond]
            refine fe_s 4 (pc' := 115) (lc' := [(2, .int ((nI k2) + 1)), (4, .int 0), (3, .int (nI m4)), (0, .ref 0), (1, .int (nI k))]) (stk' := []) (mem' := fm g tp bt (fm_u a1 19 (m4) ((a1 19 m4) - 0)) b) (fun _ _ _ => rfl) ?_
            rw [show ((nI k2) + 1 : Int32) = nI (k2 + 1) from by simp only [show (1 : Int32) = nI 1 from rfl, nI_add, fm_mul]]
            refine fe_s 1 (pc' := fx_to 115 (-113)) (lc' := [(2, .int (nI (k2 + 1))), (4, .int 0), (3, .int (nI m4)), (0, .ref 0), (1, .int (nI k))]) (stk' := []) (mem' := fm g tp bt (fm_u a1 19 (m4) ((a1 19 m4) - 0)) b) (fun _ _ _ => rfl) ?_
            rw [show fx_to 115 (-113) = 2 from by decide]
            refine fe_w (lc' := [(2, .int (nI (k2 + 1))), (0, .ref 0), (1, .int (nI k))]) ⟨rfl, rfl, rfl, trivial⟩ (by show List.Nodup [2, 0, 1]; decide) (by show List.Nodup [2, 4, 3, 0, 1]; decide) ?_
            have e19 : ((fm_u a1 19 (m4) ((a1 19 m4) - 0))) 19 = upd (a1 19) m4 ((a1 19 m4) - 0) := by unfold fm_u; rw [if_pos rfl]
            have hp := fm_sub0 (a1 19 m4)
            rw [hp] at hsu
            refine ih (k2 + 1) _ (by omega) ?_ hDs
            rw [e19]; rw [hp]
            omega
        · rw [show (fx_cb .ne (nI m2) 20) = true from cb_neT (a := m2) (b := 20) (by omega) (by omega) (by omega)]
          dsimp only [cond]
          refine fe_s 1 (pc' := 119) (lc' := [(2, .int (nI k2)), (0, .ref 0), (1, .int (nI k))]) (stk' := [.int (nI k2)]) (mem' := fm g tp bt a1 b) (fun _ _ _ => rfl) ?_
          exact fe_ret ⟨k2, _, hk2, hD1, rfl⟩ (by rfl) (by rfl) (by rfl)
  refine fe_s 2 (pc' := 2) (lc' := [(2, .int (nI k)), (0, .ref 0), (1, .int (nI k))]) (stk' := []) (mem' := fm g tp bt a b) (fun _ _ _ => rfl) ?_
  refine fe_w (lc' := [(2, .int (nI k)), (0, .ref 0), (1, .int (nI k))]) ⟨rfl, rfl, rfl, trivial⟩ (by show List.Nodup [2, 0, 1]; decide) (by show List.Nodup [2, 0, 1]; decide) ?_
  exact loop _ k a hk (Nat.lt_succ_self _) hD
set_option maxHeartbeats 16000000 in
theorem li_32 {N s : Nat} (hB : fm_B a0) (hN : a0 1 6 = nI N) (hN6 : N ≤ 60) : ∀ (r rs k : Nat), rs + r = 300 → k ≤ 60 → ∀ (a1 : Nat → Nat → Int32) (T1 d1 : Nat) (g1 : Nat → Int32), T1 ≤ 9999 → fm_D a0 a1 T1 → (∀ j, j ≠ 36 → j ≠ 37 → g1 j = g j) → g1 36 = nI d1 → d1 ≤ 65535 → g1 37 = nI rs → fe_R 11 gk_m365 32 [(2, .int (nI k)), (0, .ref 0), (1, .int (nI s))] [] (fm g1 tp bt a1 b) (fun R => ∃ (g' : Nat → Int32) (a' : Nat → Nat → Int32) (T' r' : Nat), T' ≤ 9999 ∧ r' ≤ 300 ∧ (∀ j, j ≠ 36 → j ≠ 37 → g' j = g j) ∧ g' 37 = nI r' ∧ fm_D a0 a' T' ∧ R = (none, fm g' tp bt a' b)) := by
  intro r
  induction r with
  | zero =>
    intro rs k hrs hk a1 T1 d1 g1 hT1 hD1 hg1 hd1 hd19 hr1
    obtain rfl : rs = 300 := by omega
    refine fe_s 4 (pc' := 39) (lc' := [(2, .int (nI k)), (0, .ref 0), (1, .int (nI s))]) (stk' := [.int 6, .ref 1, .int (nI k)]) (mem' := fm g1 tp bt a1 b) (fun _ _ _ => rfl) ?_
    refine fe_ldI (by rfl) (by rfl) (fx_inN (i := 6) (by omega) (by omega)) ?_
    rw [show Int32.toNatClampNeg (6) = 6 from rfl]
    rw [show a1 1 6 = nI N from (fm_D_h hD1 (by decide) rfl).trans hN]
    refine fe_s 1 (pc' := cond (fx_cb .ge (nI k) (nI N)) 185 43) (lc' := [(2, .int (nI k)), (0, .ref 0), (1, .int (nI s))]) (stk' := []) (mem' := fm g1 tp bt a1 b) (fun _ _ _ => rfl) ?_
    by_cases h1 : N ≤ k
    · rw [show (fx_cb .ge (nI k) (nI N)) = true from cb_geT (a := k) (b := N) (by omega) (by omega) (by omega)]
      dsimp only [cond]
      exact fe_ret ⟨_, _, _, 300, by omega, by omega, hg1, hr1, hD1, rfl⟩ (by rfl) (by rfl) (by rfl)
    · rw [show (fx_cb .ge (nI k) (nI N)) = false from cb_geF (a := k) (b := N) (by omega) (by omega) (by omega)]
      dsimp only [cond]
      refine fe_s 3 (pc' := 50) (lc' := [(2, .int (nI k)), (0, .ref 0), (1, .int (nI s))]) (stk' := [.int 300, .int (g1 37)]) (mem' := fm g1 tp bt a1 b) (fun _ _ _ => rfl) ?_
      try rw [hr1]
      refine fe_s 1 (pc' := cond (fx_cb .ne (nI 300) 300) 61 53) (lc' := [(2, .int (nI k)), (0, .ref 0), (1, .int (nI s))]) (stk' := []) (mem' := fm g1 tp bt a1 b) (fun _ _ _ => rfl) ?_
      rw [show (fx_cb .ne (nI 300) 300) = false from cb_neF (a := 300) (b := 300) (by omega) (by omega) (by omega)]
      dsimp only [cond]
      refine fe_s 4 (pc' := 59) (lc' := [(2, .int (nI k)), (0, .ref 0), (1, .int (nI s))]) (stk' := [.int 1, .int 4, .ref 20]) (mem' := fm g1 tp bt a1 b) (fun _ _ _ => rfl) ?_
      refine fe_stI (mem' := fm g1 tp bt (fm_u a1 20 (4 : Int32).toNatClampNeg 1) b) (by rfl) (by rfl) (fx_inN (i := 4) (by omega) (by omega)) fm_si20 ?_
      rw [show Int32.toNatClampNeg (4) = 4 from rfl]
      obtain ⟨at2, hat2⟩ : ∃ z, z = fm_u a1 20 (4) 1 := ⟨_, rfl⟩
      rw [← hat2]
      have hDt2 : fm_D a0 at2 T1 := by rw [hat2]; exact fm_D_ot hD1 (by decide) (by decide) rfl
      exact fe_ret ⟨_, _, _, 300, by omega, by omega, hg1, hr1, hDt2, rfl⟩ (by rfl) (by rfl) (by rfl)
  | succ r ih =>
    intro rs k hrs hk a1 T1 d1 g1 hT1 hD1 hg1 hd1 hd19 hr1
    refine fe_s 4 (pc' := 39) (lc' := [(2, .int (nI k)), (0, .ref 0), (1, .int (nI s))]) (stk' := [.int 6, .ref 1, .int (nI k)]) (mem' := fm g1 tp bt a1 b) (fun _ _ _ => rfl) ?_
    refine fe_ldI (by rfl) (by rfl) (fx_inN (i := 6) (by omega) (by omega)) ?_
    rw [show Int32.toNatClampNeg (6) = 6 from rfl]
    rw [show a1 1 6 = nI N from (fm_D_h hD1 (by decide) rfl).trans hN]
    refine fe_s 1 (pc' := cond (fx_cb .ge (nI k) (nI N)) 185 43) (lc' := [(2, .int (nI k)), (0, .ref 0), (1, .int (nI s))]) (stk' := []) (mem' := fm g1 tp bt a1 b) (fun _ _ _ => rfl) ?_
    by_cases h3 : N ≤ k
    · rw [show (fx_cb .ge (nI k) (nI N)) = true from cb_geT (a := k) (b := N) (by omega) (by omega) (by omega)]
      dsimp only [cond]
      exact fe_ret ⟨_, _, _, rs, by omega, by omega, hg1, hr1, hD1, rfl⟩ (by rfl) (by rfl) (by rfl)
    · rw [show (fx_cb .ge (nI k) (nI N)) = false from cb_geF (a := k) (b := N) (by omega) (by omega) (by omega)]
      dsimp only [cond]
      refine fe_s 3 (pc' := 50) (lc' := [(2, .int (nI k)), (0, .ref 0), (1, .int (nI s))]) (stk' := [.int 300, .int (g1 37)]) (mem' := fm g1 tp bt a1 b) (fun _ _ _ => rfl) ?_
      try rw [hr1]
      refine fe_s 1 (pc' := cond (fx_cb .ne (nI rs) 300) 61 53) (lc' := [(2, .int (nI k)), (0, .ref 0), (1, .int (nI s))]) (stk' := []) (mem' := fm g1 tp bt a1 b) (fun _ _ _ => rfl) ?_
      rw [show (fx_cb .ne (nI rs) 300) = true from cb_neT (a := rs) (b := 300) (by omega) (by omega) (by omega)]
      dsimp only [cond]
      refine fe_s 15 (pc' := 85) (lc' := [(3, .int (478 + (6 * (nI k)))), (2, .int (nI k)), (0, .ref 0), (1, .int (nI s))]) (stk' := [.int (478 + (6 * (nI k))), .ref 1]) (mem' := fm (upd g1 37 ((g1 37) + 1)) tp bt a1 b) (fun _ _ _ => rfl) ?_
      try rw [hr1]
      rw [show ((nI rs) + 1 : Int32) = nI (rs + 1) from by simp only [show (1 : Int32) = nI 1 from rfl, nI_add, fm_mul]]
      rw [show (478 + (6 * (nI k)) : Int32) = nI (478 + (6 * k)) from by simp only [show (478 : Int32) = nI 478 from rfl, show (6 : Int32) = nI 6 from rfl, nI_add, fm_mul]]
      have hgfg4 : ∀ j, j ≠ 36 → j ≠ 37 → ((upd g1 37 (nI (rs + 1)))) j = g j := fun j hj hj7 => (pk_un hj7).trans (hg1 j hj hj7)
      have r37g4 : ((upd g1 37 (nI (rs + 1)))) 37 = nI (rs + 1) := pk_us
      have d36g4 : ((upd g1 37 (nI (rs + 1)))) 36 = nI d1 := (pk_un (by decide)).trans hd1
      refine fe_ldI (by rfl) (by rfl) (fx_inN (i := 478 + (6 * k)) (by omega) (by omega)) ?_
      rw [show Int32.toNatClampNeg (nI (478 + (6 * k))) = 478 + (6 * k) from nI_clamp (by omega)]
      obtain ⟨m, hm, em⟩ := fm_row_m hB (k := k) (by omega)
      rw [show a1 1 (478 + (6 * k)) = nI m from (fm_D_hi hD1 (by omega)).trans em]
      refine fe_s 1 (pc' := 88) (lc' := [(3, .int (nI (478 + (6 * k)))), (2, .int (nI k)), (0, .ref 0), (1, .int (nI s))]) (stk' := [.int 21, .int (nI m)]) (mem' := fm (upd g1 37 (nI (rs + 1))) tp bt a1 b) (fun _ _ _ => rfl) ?_
      refine fe_s 1 (pc' := cond (fx_cb .ne (nI m) 21) 92 91) (lc' := [(3, .int (nI (478 + (6 * k)))), (2, .int (nI k)), (0, .ref 0), (1, .int (nI s))]) (stk' := []) (mem' := fm (upd g1 37 (nI (rs + 1))) tp bt a1 b) (fun _ _ _ => rfl) ?_
      by_cases h5 : m = 21
      · rw [show (fx_cb .ne (nI m) 21) = false from cb_neF (a := m) (b := 21) (by omega) (by omega) (by omega)]
        dsimp only [cond]
        exact fe_ret ⟨_, _, _, (rs + 1), by omega, by omega, hgfg4, r37g4, hD1, rfl⟩ (by rfl) (by rfl) (by rfl)
      · rw [show (fx_cb .ne (nI m) 21) = true from cb_neT (a := m) (b := 21) (by omega) (by omega) (by omega)]
        dsimp only [cond]
        refine fe_s 4 (pc' := 98) (lc' := [(3, .int (nI (478 + (6 * k)))), (2, .int (nI k)), (0, .ref 0), (1, .int (nI s))]) (stk' := [.int 0, .ref 20, .int 0, .ref 20]) (mem' := fm (upd g1 37 (nI (rs + 1))) tp bt a1 b) (fun _ _ _ => rfl) ?_
        refine fe_ldI (by rfl) (by rfl) (fx_inN (i := 0) (by omega) (by omega)) ?_
        rw [show Int32.toNatClampNeg (0) = 0 from rfl]
        refine fe_s 2 (pc' := 101) (lc' := [(3, .int (nI (478 + (6 * k)))), (2, .int (nI k)), (0, .ref 0), (1, .int (nI s))]) (stk' := [.int (nI (478 + (6 * k))), .ref 0, .int (a1 20 0), .int 0, .ref 20]) (mem' := fm (upd g1 37 (nI (rs + 1))) tp bt a1 b) (fun _ _ _ => rfl) ?_
        obtain ⟨ve6, meme6, ⟨xe6, ge6, ae6, Te6, de6, hxe6, hTe6, hde6, hge6, hd36e6, hDe6, hRe6⟩, hfre6⟩ := fr_does (k := k) (g := (upd g1 37 (nI (rs + 1)))) (tp := tp) (bt := bt) (a := a1) (b := b) hB hD1 (by omega) d36g4 (by omega) (by omega) (fm_row_ro hB hN hN6 (by omega))
        cases hRe6
        have r37e6 : ge6 37 = nI (rs + 1) := (hge6 37 (by decide)).trans (r37g4)
        have hgfe6 : ∀ j, j ≠ 36 → j ≠ 37 → ge6 j = g j := fun j hj hj7 => (hge6 j hj).trans (hgfg4 j hj hj7)
        refine fe_ivV hfre6 (by omega) (by rfl) (by rfl) (by rfl) (by rfl) (by rfl) (by rfl) ?_
        rcases hxe6 with rfl | rfl
        · refine fe_s 1 (pc' := cond (fx_cb .eq 0 0) 111 107) (lc' := [(3, .int (nI (478 + (6 * k)))), (2, .int (nI k)), (0, .ref 0), (1, .int (nI s))]) (stk' := [.int (a1 20 0), .int 0, .ref 20]) (mem' := fm ge6 tp bt ae6 b) (fun _ _ _ => rfl) ?_
          rw [show (fx_cb .eq 0 0) = true from by decide]
          dsimp only [cond]
          refine fe_s 2 (pc' := 113) (lc' := [(3, .int (nI (478 + (6 * k)))), (2, .int (nI k)), (0, .ref 0), (1, .int (nI s))]) (stk' := [.int ((a1 20 0) + 1), .int 0, .ref 20]) (mem' := fm ge6 tp bt ae6 b) (fun _ _ _ => rfl) ?_
          refine fe_stI (mem' := fm ge6 tp bt (fm_u ae6 20 (0 : Int32).toNatClampNeg ((a1 20 0) + 1)) b) (by rfl) (by rfl) (fx_inN (i := 0) (by omega) (by omega)) fm_si20 ?_
          rw [show Int32.toNatClampNeg (0) = 0 from rfl]
          obtain ⟨at7, hat7⟩ : ∃ z, z = fm_u ae6 20 (0) ((a1 20 0) + 1) := ⟨_, rfl⟩
          rw [← hat7]
          have hDt7 : fm_D a0 at7 Te6 := by rw [hat7]; exact fm_D_ot hDe6 (by decide) (by decide) rfl
          refine fe_s 3 (pc' := 119) (lc' := [(3, .int (nI (478 + (6 * k)))), (2, .int (nI k)), (0, .ref 0), (1, .int (nI s))]) (stk' := [.int (nI (478 + (6 * k))), .ref 1]) (mem' := fm ge6 tp bt at7 b) (fun _ _ _ => rfl) ?_
          refine fe_ldI (by rfl) (by rfl) (fx_inN (i := 478 + (6 * k)) (by omega) (by omega)) ?_
          rw [show Int32.toNatClampNeg (nI (478 + (6 * k))) = 478 + (6 * k) from nI_clamp (by omega)]
          rw [show at7 1 (478 + (6 * k)) = nI m from (fm_D_hi hDt7 (by omega)).trans em]
          refine fe_s 1 (pc' := 122) (lc' := [(3, .int (nI (478 + (6 * k)))), (2, .int (nI k)), (0, .ref 0), (1, .int (nI s))]) (stk' := [.int 19, .int (nI m)]) (mem' := fm ge6 tp bt at7 b) (fun _ _ _ => rfl) ?_
          refine fe_s 1 (pc' := cond (fx_cb .ne (nI m) 19) 141 125) (lc' := [(3, .int (nI (478 + (6 * k)))), (2, .int (nI k)), (0, .ref 0), (1, .int (nI s))]) (stk' := []) (mem' := fm ge6 tp bt at7 b) (fun _ _ _ => rfl) ?_
          by_cases h8 : m = 19
          · rw [show (fx_cb .ne (nI m) 19) = false from cb_neF (a := m) (b := 19) (by omega) (by omega) (by omega)]
            dsimp only [cond]
            refine fe_s 8 (pc' := 137) (lc' := [(3, .int (nI (478 + (6 * k)))), (2, .int (nI k)), (0, .ref 0), (1, .int (nI s))]) (stk' := [.int ((nI (478 + (6 * k))) + 1), .ref 1, .int (nI k), .ref 19]) (mem' := fm ge6 tp bt at7 b) (fun _ _ _ => rfl) ?_
            rw [show ((nI (478 + (6 * k))) + 1 : Int32) = nI ((478 + (6 * k)) + 1) from by simp only [show (1 : Int32) = nI 1 from rfl, nI_add, fm_mul]]
            refine fe_ldI (by rfl) (by rfl) (fx_inN (i := (478 + (6 * k)) + 1) (by omega) (by omega)) ?_
            rw [show Int32.toNatClampNeg (nI ((478 + (6 * k)) + 1)) = (478 + (6 * k)) + 1 from nI_clamp (by omega)]
            refine fe_s 2 (pc' := 140) (lc' := [(3, .int (nI (478 + (6 * k)))), (2, .int (nI k)), (0, .ref 0), (1, .int (nI s))]) (stk' := [.int ((at7 1 ((478 + (6 * k)) + 1)) - 1), .int (nI k), .ref 19]) (mem' := fm ge6 tp bt at7 b) (fun _ _ _ => rfl) ?_
            refine fe_stI (mem' := fm ge6 tp bt (fm_u at7 19 (nI k : Int32).toNatClampNeg ((at7 1 ((478 + (6 * k)) + 1)) - 1)) b) (by rfl) (by rfl) (fx_inN (i := k) (by omega) (by omega)) fm_si19 ?_
            rw [show Int32.toNatClampNeg (nI k) = k from nI_clamp (by omega)]
            obtain ⟨at9, hat9⟩ : ∃ z, z = fm_u at7 19 (k) ((at7 1 ((478 + (6 * k)) + 1)) - 1) := ⟨_, rfl⟩
            rw [← hat9]
            have hDt9 : fm_D a0 at9 Te6 := by rw [hat9]; exact fm_D_ot hDt7 (by decide) (by decide) rfl
            refine fe_s 4 (pc' := 147) (lc' := [(3, .int (nI (478 + (6 * k)))), (2, .int (nI k)), (0, .ref 0), (1, .int (nI s))]) (stk' := [.int (nI (478 + (6 * k))), .ref 1, .ref 0]) (mem' := fm ge6 tp bt at9 b) (fun _ _ _ => rfl) ?_
            refine fe_ldI (by rfl) (by rfl) (fx_inN (i := 478 + (6 * k)) (by omega) (by omega)) ?_
            rw [show Int32.toNatClampNeg (nI (478 + (6 * k))) = 478 + (6 * k) from nI_clamp (by omega)]
            rw [show at9 1 (478 + (6 * k)) = nI m from (fm_D_hi hDt9 (by omega)).trans em]
            refine fe_s 1 (pc' := 151) (lc' := [(3, .int (nI (478 + (6 * k)))), (2, .int (nI k)), (0, .ref 0), (1, .int (nI s))]) (stk' := [.int 1800, .int (nI m), .ref 0]) (mem' := fm ge6 tp bt at9 b) (fun _ _ _ => rfl) ?_
            refine fe_s 1 (pc' := cond (fx_cb .lt (nI m) 1800) 175 154) (lc' := [(3, .int (nI (478 + (6 * k)))), (2, .int (nI k)), (0, .ref 0), (1, .int (nI s))]) (stk' := [.ref 0]) (mem' := fm ge6 tp bt at9 b) (fun _ _ _ => rfl) ?_
            rw [show (fx_cb .lt (nI m) 1800) = true from cb_ltT (a := m) (b := 1800) (by omega) (by omega) (by omega)]
            dsimp only [cond]
            refine fe_s 3 (pc' := 178) (lc' := [(3, .int (nI (478 + (6 * k)))), (2, .int (nI k)), (0, .ref 0), (1, .int (nI s))]) (stk' := [.int ((nI k) + 1), .ref 0]) (mem' := fm ge6 tp bt at9 b) (fun _ _ _ => rfl) ?_
            rw [show ((nI k) + 1 : Int32) = nI (k + 1) from by simp only [show (1 : Int32) = nI 1 from rfl, nI_add, fm_mul]]
            obtain ⟨ve10, meme10, ⟨ke10, ae10, hke10, hDe10, hRe10⟩, hfre10⟩ := fr_behindEnds (k := k + 1) (N := N) (g := ge6) (tp := tp) (bt := bt) (a := at9) (b := b) hB hDt9 (by omega) hN hN6
            cases hRe10
            refine fe_ivV hfre10 (by omega) (by rfl) (by rfl) (by rfl) (by rfl) (by rfl) (by rfl) ?_
            refine fe_s 1 (pc' := 182) (lc' := [(2, .int (nI ke10)), (3, .int (nI (478 + (6 * k)))), (0, .ref 0), (1, .int (nI s))]) (stk' := []) (mem' := fm ge6 tp bt ae10 b) (fun _ _ _ => rfl) ?_
            refine fe_s 1 (pc' := fx_to 182 (-150)) (lc' := [(2, .int (nI ke10)), (3, .int (nI (478 + (6 * k)))), (0, .ref 0), (1, .int (nI s))]) (stk' := []) (mem' := fm ge6 tp bt ae10 b) (fun _ _ _ => rfl) ?_
            rw [show fx_to 182 (-150) = 32 from by decide]
            refine fe_w (lc' := [(2, .int (nI ke10)), (0, .ref 0), (1, .int (nI s))]) ⟨rfl, rfl, rfl, trivial⟩ (by show List.Nodup [2, 0, 1]; decide) (by show List.Nodup [2, 3, 0, 1]; decide) ?_
            exact ih (rs + 1) (ke10) (by omega) (by omega) _ _ _ _ (by omega) hDe10 hgfe6 hd36e6 (by omega) r37e6
          · rw [show (fx_cb .ne (nI m) 19) = true from cb_neT (a := m) (b := 19) (by omega) (by omega) (by omega)]
            dsimp only [cond]
            refine fe_s 4 (pc' := 147) (lc' := [(3, .int (nI (478 + (6 * k)))), (2, .int (nI k)), (0, .ref 0), (1, .int (nI s))]) (stk' := [.int (nI (478 + (6 * k))), .ref 1, .ref 0]) (mem' := fm ge6 tp bt at7 b) (fun _ _ _ => rfl) ?_
            refine fe_ldI (by rfl) (by rfl) (fx_inN (i := 478 + (6 * k)) (by omega) (by omega)) ?_
            rw [show Int32.toNatClampNeg (nI (478 + (6 * k))) = 478 + (6 * k) from nI_clamp (by omega)]
            rw [show at7 1 (478 + (6 * k)) = nI m from (fm_D_hi hDt7 (by omega)).trans em]
            refine fe_s 1 (pc' := 151) (lc' := [(3, .int (nI (478 + (6 * k)))), (2, .int (nI k)), (0, .ref 0), (1, .int (nI s))]) (stk' := [.int 1800, .int (nI m), .ref 0]) (mem' := fm ge6 tp bt at7 b) (fun _ _ _ => rfl) ?_
            refine fe_s 1 (pc' := cond (fx_cb .lt (nI m) 1800) 175 154) (lc' := [(3, .int (nI (478 + (6 * k)))), (2, .int (nI k)), (0, .ref 0), (1, .int (nI s))]) (stk' := [.ref 0]) (mem' := fm ge6 tp bt at7 b) (fun _ _ _ => rfl) ?_
            by_cases h11 : m < 1800
            · rw [show (fx_cb .lt (nI m) 1800) = true from cb_ltT (a := m) (b := 1800) (by omega) (by omega) (by omega)]
              dsimp only [cond]
              refine fe_s 3 (pc' := 178) (lc' := [(3, .int (nI (478 + (6 * k)))), (2, .int (nI k)), (0, .ref 0), (1, .int (nI s))]) (stk' := [.int ((nI k) + 1), .ref 0]) (mem' := fm ge6 tp bt at7 b) (fun _ _ _ => rfl) ?_
              rw [show ((nI k) + 1 : Int32) = nI (k + 1) from by simp only [show (1 : Int32) = nI 1 from rfl, nI_add, fm_mul]]
              obtain ⟨ve12, meme12, ⟨ke12, ae12, hke12, hDe12, hRe12⟩, hfre12⟩ := fr_behindEnds (k := k + 1) (N := N) (g := ge6) (tp := tp) (bt := bt) (a := at7) (b := b) hB hDt7 (by omega) hN hN6
              cases hRe12
              refine fe_ivV hfre12 (by omega) (by rfl) (by rfl) (by rfl) (by rfl) (by rfl) (by rfl) ?_
              refine fe_s 1 (pc' := 182) (lc' := [(2, .int (nI ke12)), (3, .int (nI (478 + (6 * k)))), (0, .ref 0), (1, .int (nI s))]) (stk' := []) (mem' := fm ge6 tp bt ae12 b) (fun _ _ _ => rfl) ?_
              refine fe_s 1 (pc' := fx_to 182 (-150)) (lc' := [(2, .int (nI ke12)), (3, .int (nI (478 + (6 * k)))), (0, .ref 0), (1, .int (nI s))]) (stk' := []) (mem' := fm ge6 tp bt ae12 b) (fun _ _ _ => rfl) ?_
              rw [show fx_to 182 (-150) = 32 from by decide]
              refine fe_w (lc' := [(2, .int (nI ke12)), (0, .ref 0), (1, .int (nI s))]) ⟨rfl, rfl, rfl, trivial⟩ (by show List.Nodup [2, 0, 1]; decide) (by show List.Nodup [2, 3, 0, 1]; decide) ?_
              exact ih (rs + 1) (ke12) (by omega) (by omega) _ _ _ _ (by omega) hDe12 hgfe6 hd36e6 (by omega) r37e6
            · rw [show (fx_cb .lt (nI m) 1800) = false from cb_ltF (a := m) (b := 1800) (by omega) (by omega) (by omega)]
              dsimp only [cond]
              refine fe_s 2 (pc' := 156) (lc' := [(3, .int (nI (478 + (6 * k)))), (2, .int (nI k)), (0, .ref 0), (1, .int (nI s))]) (stk' := [.int (nI (478 + (6 * k))), .ref 0, .ref 0]) (mem' := fm ge6 tp bt at7 b) (fun _ _ _ => rfl) ?_
              obtain ⟨vs13, mems13, ⟨xs13, hxs13, hRs13⟩, hfrs13⟩ := fr_isSo (k := k) (g := ge6) (tp := tp) (bt := bt) (a := at7) (b := b) hB hDt7 (by omega) (fm_row_ro hB hN hN6 (by omega)) (by rw [em, nI_i32 (by omega)]; omega)
              cases hRs13
              refine fe_ivV hfrs13 (by omega) (by rfl) (by rfl) (by rfl) (by rfl) (by rfl) (by rfl) ?_
              rcases hxs13 with rfl | rfl
              · refine fe_s 1 (pc' := cond (fx_cb .ne 0 0) 175 162) (lc' := [(3, .int (nI (478 + (6 * k)))), (2, .int (nI k)), (0, .ref 0), (1, .int (nI s))]) (stk' := [.ref 0]) (mem' := fm ge6 tp bt at7 b) (fun _ _ _ => rfl) ?_
                rw [show (fx_cb .ne 0 0) = false from by decide]
                dsimp only [cond]
                refine fe_s 5 (pc' := 169) (lc' := [(3, .int (nI (478 + (6 * k)))), (2, .int (nI k)), (0, .ref 0), (1, .int (nI s))]) (stk' := [.int ((nI (478 + (6 * k))) + 4), .ref 1, .ref 0]) (mem' := fm ge6 tp bt at7 b) (fun _ _ _ => rfl) ?_
                rw [show ((nI (478 + (6 * k))) + 4 : Int32) = nI ((478 + (6 * k)) + 4) from by simp only [show (4 : Int32) = nI 4 from rfl, nI_add, fm_mul]]
                refine fe_ldI (by rfl) (by rfl) (fx_inN (i := (478 + (6 * k)) + 4) (by omega) (by omega)) ?_
                rw [show Int32.toNatClampNeg (nI ((478 + (6 * k)) + 4)) = (478 + (6 * k)) + 4 from nI_clamp (by omega)]
                obtain ⟨o, ho, eo⟩ := fm_row_o hB (k := k) (by omega)
                rw [show at7 1 ((478 + (6 * k)) + 4) = nI o from by rw [show (478 + (6 * k)) + 4 = 482 + 6 * k by omega]; exact (fm_D_hi hDt7 (by omega)).trans eo]
                refine fe_s 3 (pc' := 178) (lc' := [(3, .int (nI (478 + (6 * k)))), (2, .int (nI k)), (0, .ref 0), (1, .int (nI s))]) (stk' := [.int ((nI o) + 1), .ref 0]) (mem' := fm ge6 tp bt at7 b) (fun _ _ _ => rfl) ?_
                rw [show ((nI o) + 1 : Int32) = nI (o + 1) from by simp only [show (1 : Int32) = nI 1 from rfl, nI_add, fm_mul]]
                obtain ⟨ve14, meme14, ⟨ke14, ae14, hke14, hDe14, hRe14⟩, hfre14⟩ := fr_behindEnds (k := o + 1) (N := N) (g := ge6) (tp := tp) (bt := bt) (a := at7) (b := b) hB hDt7 (by omega) hN hN6
                cases hRe14
                refine fe_ivV hfre14 (by omega) (by rfl) (by rfl) (by rfl) (by rfl) (by rfl) (by rfl) ?_
                refine fe_s 1 (pc' := 182) (lc' := [(2, .int (nI ke14)), (3, .int (nI (478 + (6 * k)))), (0, .ref 0), (1, .int (nI s))]) (stk' := []) (mem' := fm ge6 tp bt ae14 b) (fun _ _ _ => rfl) ?_
                refine fe_s 1 (pc' := fx_to 182 (-150)) (lc' := [(2, .int (nI ke14)), (3, .int (nI (478 + (6 * k)))), (0, .ref 0), (1, .int (nI s))]) (stk' := []) (mem' := fm ge6 tp bt ae14 b) (fun _ _ _ => rfl) ?_
                rw [show fx_to 182 (-150) = 32 from by decide]
                refine fe_w (lc' := [(2, .int (nI ke14)), (0, .ref 0), (1, .int (nI s))]) ⟨rfl, rfl, rfl, trivial⟩ (by show List.Nodup [2, 0, 1]; decide) (by show List.Nodup [2, 3, 0, 1]; decide) ?_
                exact ih (rs + 1) (ke14) (by omega) (by omega) _ _ _ _ (by omega) hDe14 hgfe6 hd36e6 (by omega) r37e6
              · refine fe_s 1 (pc' := cond (fx_cb .ne 1 0) 175 162) (lc' := [(3, .int (nI (478 + (6 * k)))), (2, .int (nI k)), (0, .ref 0), (1, .int (nI s))]) (stk' := [.ref 0]) (mem' := fm ge6 tp bt at7 b) (fun _ _ _ => rfl) ?_
                rw [show (fx_cb .ne 1 0) = true from by decide]
                dsimp only [cond]
                refine fe_s 3 (pc' := 178) (lc' := [(3, .int (nI (478 + (6 * k)))), (2, .int (nI k)), (0, .ref 0), (1, .int (nI s))]) (stk' := [.int ((nI k) + 1), .ref 0]) (mem' := fm ge6 tp bt at7 b) (fun _ _ _ => rfl) ?_
                rw [show ((nI k) + 1 : Int32) = nI (k + 1) from by simp only [show (1 : Int32) = nI 1 from rfl, nI_add, fm_mul]]
                obtain ⟨ve15, meme15, ⟨ke15, ae15, hke15, hDe15, hRe15⟩, hfre15⟩ := fr_behindEnds (k := k + 1) (N := N) (g := ge6) (tp := tp) (bt := bt) (a := at7) (b := b) hB hDt7 (by omega) hN hN6
                cases hRe15
                refine fe_ivV hfre15 (by omega) (by rfl) (by rfl) (by rfl) (by rfl) (by rfl) (by rfl) ?_
                refine fe_s 1 (pc' := 182) (lc' := [(2, .int (nI ke15)), (3, .int (nI (478 + (6 * k)))), (0, .ref 0), (1, .int (nI s))]) (stk' := []) (mem' := fm ge6 tp bt ae15 b) (fun _ _ _ => rfl) ?_
                refine fe_s 1 (pc' := fx_to 182 (-150)) (lc' := [(2, .int (nI ke15)), (3, .int (nI (478 + (6 * k)))), (0, .ref 0), (1, .int (nI s))]) (stk' := []) (mem' := fm ge6 tp bt ae15 b) (fun _ _ _ => rfl) ?_
                rw [show fx_to 182 (-150) = 32 from by decide]
                refine fe_w (lc' := [(2, .int (nI ke15)), (0, .ref 0), (1, .int (nI s))]) ⟨rfl, rfl, rfl, trivial⟩ (by show List.Nodup [2, 0, 1]; decide) (by show List.Nodup [2, 3, 0, 1]; decide) ?_
                exact ih (rs + 1) (ke15) (by omega) (by omega) _ _ _ _ (by omega) hDe15 hgfe6 hd36e6 (by omega) r37e6
        · refine fe_s 1 (pc' := cond (fx_cb .eq 1 0) 111 107) (lc' := [(3, .int (nI (478 + (6 * k)))), (2, .int (nI k)), (0, .ref 0), (1, .int (nI s))]) (stk' := [.int (a1 20 0), .int 0, .ref 20]) (mem' := fm ge6 tp bt ae6 b) (fun _ _ _ => rfl) ?_
          rw [show (fx_cb .eq 1 0) = false from by decide]
          dsimp only [cond]
          refine fe_s 3 (pc' := 113) (lc' := [(3, .int (nI (478 + (6 * k)))), (2, .int (nI k)), (0, .ref 0), (1, .int (nI s))]) (stk' := [.int ((a1 20 0) + 0), .int 0, .ref 20]) (mem' := fm ge6 tp bt ae6 b) (fun _ _ _ => rfl) ?_
          refine fe_stI (mem' := fm ge6 tp bt (fm_u ae6 20 (0 : Int32).toNatClampNeg ((a1 20 0) + 0)) b) (by rfl) (by rfl) (fx_inN (i := 0) (by omega) (by omega)) fm_si20 ?_
          rw [show Int32.toNatClampNeg (0) = 0 from rfl]
          obtain ⟨at16, hat16⟩ : ∃ z, z = fm_u ae6 20 (0) ((a1 20 0) + 0) := ⟨_, rfl⟩
          rw [← hat16]
          have hDt16 : fm_D a0 at16 Te6 := by rw [hat16]; exact fm_D_ot hDe6 (by decide) (by decide) rfl
          refine fe_s 3 (pc' := 119) (lc' := [(3, .int (nI (478 + (6 * k)))), (2, .int (nI k)), (0, .ref 0), (1, .int (nI s))]) (stk' := [.int (nI (478 + (6 * k))), .ref 1]) (mem' := fm ge6 tp bt at16 b) (fun _ _ _ => rfl) ?_
          refine fe_ldI (by rfl) (by rfl) (fx_inN (i := 478 + (6 * k)) (by omega) (by omega)) ?_
          rw [show Int32.toNatClampNeg (nI (478 + (6 * k))) = 478 + (6 * k) from nI_clamp (by omega)]
          rw [show at16 1 (478 + (6 * k)) = nI m from (fm_D_hi hDt16 (by omega)).trans em]
          refine fe_s 1 (pc' := 122) (lc' := [(3, .int (nI (478 + (6 * k)))), (2, .int (nI k)), (0, .ref 0), (1, .int (nI s))]) (stk' := [.int 19, .int (nI m)]) (mem' := fm ge6 tp bt at16 b) (fun _ _ _ => rfl) ?_
          refine fe_s 1 (pc' := cond (fx_cb .ne (nI m) 19) 141 125) (lc' := [(3, .int (nI (478 + (6 * k)))), (2, .int (nI k)), (0, .ref 0), (1, .int (nI s))]) (stk' := []) (mem' := fm ge6 tp bt at16 b) (fun _ _ _ => rfl) ?_
          by_cases h17 : m = 19
          · rw [show (fx_cb .ne (nI m) 19) = false from cb_neF (a := m) (b := 19) (by omega) (by omega) (by omega)]
            dsimp only [cond]
            refine fe_s 8 (pc' := 137) (lc' := [(3, .int (nI (478 + (6 * k)))), (2, .int (nI k)), (0, .ref 0), (1, .int (nI s))]) (stk' := [.int ((nI (478 + (6 * k))) + 1), .ref 1, .int (nI k), .ref 19]) (mem' := fm ge6 tp bt at16 b) (fun _ _ _ => rfl) ?_
            rw [show ((nI (478 + (6 * k))) + 1 : Int32) = nI ((478 + (6 * k)) + 1) from by simp only [show (1 : Int32) = nI 1 from rfl, nI_add, fm_mul]]
            refine fe_ldI (by rfl) (by rfl) (fx_inN (i := (478 + (6 * k)) + 1) (by omega) (by omega)) ?_
            rw [show Int32.toNatClampNeg (nI ((478 + (6 * k)) + 1)) = (478 + (6 * k)) + 1 from nI_clamp (by omega)]
            refine fe_s 2 (pc' := 140) (lc' := [(3, .int (nI (478 + (6 * k)))), (2, .int (nI k)), (0, .ref 0), (1, .int (nI s))]) (stk' := [.int ((at16 1 ((478 + (6 * k)) + 1)) - 1), .int (nI k), .ref 19]) (mem' := fm ge6 tp bt at16 b) (fun _ _ _ => rfl) ?_
            refine fe_stI (mem' := fm ge6 tp bt (fm_u at16 19 (nI k : Int32).toNatClampNeg ((at16 1 ((478 + (6 * k)) + 1)) - 1)) b) (by rfl) (by rfl) (fx_inN (i := k) (by omega) (by omega)) fm_si19 ?_
            rw [show Int32.toNatClampNeg (nI k) = k from nI_clamp (by omega)]
            obtain ⟨at18, hat18⟩ : ∃ z, z = fm_u at16 19 (k) ((at16 1 ((478 + (6 * k)) + 1)) - 1) := ⟨_, rfl⟩
            rw [← hat18]
            have hDt18 : fm_D a0 at18 Te6 := by rw [hat18]; exact fm_D_ot hDt16 (by decide) (by decide) rfl
            refine fe_s 4 (pc' := 147) (lc' := [(3, .int (nI (478 + (6 * k)))), (2, .int (nI k)), (0, .ref 0), (1, .int (nI s))]) (stk' := [.int (nI (478 + (6 * k))), .ref 1, .ref 0]) (mem' := fm ge6 tp bt at18 b) (fun _ _ _ => rfl) ?_
            refine fe_ldI (by rfl) (by rfl) (fx_inN (i := 478 + (6 * k)) (by omega) (by omega)) ?_
            rw [show Int32.toNatClampNeg (nI (478 + (6 * k))) = 478 + (6 * k) from nI_clamp (by omega)]
            rw [show at18 1 (478 + (6 * k)) = nI m from (fm_D_hi hDt18 (by omega)).trans em]
            refine fe_s 1 (pc' := 151) (lc' := [(3, .int (nI (478 + (6 * k)))), (2, .int (nI k)), (0, .ref 0), (1, .int (nI s))]) (stk' := [.int 1800, .int (nI m), .ref 0]) (mem' := fm ge6 tp bt at18 b) (fun _ _ _ => rfl) ?_
            refine fe_s 1 (pc' := cond (fx_cb .lt (nI m) 1800) 175 154) (lc' := [(3, .int (nI (478 + (6 * k)))), (2, .int (nI k)), (0, .ref 0), (1, .int (nI s))]) (stk' := [.ref 0]) (mem' := fm ge6 tp bt at18 b) (fun _ _ _ => rfl) ?_
            rw [show (fx_cb .lt (nI m) 1800) = true from cb_ltT (a := m) (b := 1800) (by omega) (by omega) (by omega)]
            dsimp only [cond]
            refine fe_s 3 (pc' := 178) (lc' := [(3, .int (nI (478 + (6 * k)))), (2, .int (nI k)), (0, .ref 0), (1, .int (nI s))]) (stk' := [.int ((nI k) + 1), .ref 0]) (mem' := fm ge6 tp bt at18 b) (fun _ _ _ => rfl) ?_
            rw [show ((nI k) + 1 : Int32) = nI (k + 1) from by simp only [show (1 : Int32) = nI 1 from rfl, nI_add, fm_mul]]
            obtain ⟨ve19, meme19, ⟨ke19, ae19, hke19, hDe19, hRe19⟩, hfre19⟩ := fr_behindEnds (k := k + 1) (N := N) (g := ge6) (tp := tp) (bt := bt) (a := at18) (b := b) hB hDt18 (by omega) hN hN6
            cases hRe19
            refine fe_ivV hfre19 (by omega) (by rfl) (by rfl) (by rfl) (by rfl) (by rfl) (by rfl) ?_
            refine fe_s 1 (pc' := 182) (lc' := [(2, .int (nI ke19)), (3, .int (nI (478 + (6 * k)))), (0, .ref 0), (1, .int (nI s))]) (stk' := []) (mem' := fm ge6 tp bt ae19 b) (fun _ _ _ => rfl) ?_
            refine fe_s 1 (pc' := fx_to 182 (-150)) (lc' := [(2, .int (nI ke19)), (3, .int (nI (478 + (6 * k)))), (0, .ref 0), (1, .int (nI s))]) (stk' := []) (mem' := fm ge6 tp bt ae19 b) (fun _ _ _ => rfl) ?_
            rw [show fx_to 182 (-150) = 32 from by decide]
            refine fe_w (lc' := [(2, .int (nI ke19)), (0, .ref 0), (1, .int (nI s))]) ⟨rfl, rfl, rfl, trivial⟩ (by show List.Nodup [2, 0, 1]; decide) (by show List.Nodup [2, 3, 0, 1]; decide) ?_
            exact ih (rs + 1) (ke19) (by omega) (by omega) _ _ _ _ (by omega) hDe19 hgfe6 hd36e6 (by omega) r37e6
          · rw [show (fx_cb .ne (nI m) 19) = true from cb_neT (a := m) (b := 19) (by omega) (by omega) (by omega)]
            dsimp only [cond]
            refine fe_s 4 (pc' := 147) (lc' := [(3, .int (nI (478 + (6 * k)))), (2, .int (nI k)), (0, .ref 0), (1, .int (nI s))]) (stk' := [.int (nI (478 + (6 * k))), .ref 1, .ref 0]) (mem' := fm ge6 tp bt at16 b) (fun _ _ _ => rfl) ?_
            refine fe_ldI (by rfl) (by rfl) (fx_inN (i := 478 + (6 * k)) (by omega) (by omega)) ?_
            rw [show Int32.toNatClampNeg (nI (478 + (6 * k))) = 478 + (6 * k) from nI_clamp (by omega)]
            rw [show at16 1 (478 + (6 * k)) = nI m from (fm_D_hi hDt16 (by omega)).trans em]
            refine fe_s 1 (pc' := 151) (lc' := [(3, .int (nI (478 + (6 * k)))), (2, .int (nI k)), (0, .ref 0), (1, .int (nI s))]) (stk' := [.int 1800, .int (nI m), .ref 0]) (mem' := fm ge6 tp bt at16 b) (fun _ _ _ => rfl) ?_
            refine fe_s 1 (pc' := cond (fx_cb .lt (nI m) 1800) 175 154) (lc' := [(3, .int (nI (478 + (6 * k)))), (2, .int (nI k)), (0, .ref 0), (1, .int (nI s))]) (stk' := [.ref 0]) (mem' := fm ge6 tp bt at16 b) (fun _ _ _ => rfl) ?_
            by_cases h20 : m < 1800
            · rw [show (fx_cb .lt (nI m) 1800) = true from cb_ltT (a := m) (b := 1800) (by omega) (by omega) (by omega)]
              dsimp only [cond]
              refine fe_s 3 (pc' := 178) (lc' := [(3, .int (nI (478 + (6 * k)))), (2, .int (nI k)), (0, .ref 0), (1, .int (nI s))]) (stk' := [.int ((nI k) + 1), .ref 0]) (mem' := fm ge6 tp bt at16 b) (fun _ _ _ => rfl) ?_
              rw [show ((nI k) + 1 : Int32) = nI (k + 1) from by simp only [show (1 : Int32) = nI 1 from rfl, nI_add, fm_mul]]
              obtain ⟨ve21, meme21, ⟨ke21, ae21, hke21, hDe21, hRe21⟩, hfre21⟩ := fr_behindEnds (k := k + 1) (N := N) (g := ge6) (tp := tp) (bt := bt) (a := at16) (b := b) hB hDt16 (by omega) hN hN6
              cases hRe21
              refine fe_ivV hfre21 (by omega) (by rfl) (by rfl) (by rfl) (by rfl) (by rfl) (by rfl) ?_
              refine fe_s 1 (pc' := 182) (lc' := [(2, .int (nI ke21)), (3, .int (nI (478 + (6 * k)))), (0, .ref 0), (1, .int (nI s))]) (stk' := []) (mem' := fm ge6 tp bt ae21 b) (fun _ _ _ => rfl) ?_
              refine fe_s 1 (pc' := fx_to 182 (-150)) (lc' := [(2, .int (nI ke21)), (3, .int (nI (478 + (6 * k)))), (0, .ref 0), (1, .int (nI s))]) (stk' := []) (mem' := fm ge6 tp bt ae21 b) (fun _ _ _ => rfl) ?_
              rw [show fx_to 182 (-150) = 32 from by decide]
              refine fe_w (lc' := [(2, .int (nI ke21)), (0, .ref 0), (1, .int (nI s))]) ⟨rfl, rfl, rfl, trivial⟩ (by show List.Nodup [2, 0, 1]; decide) (by show List.Nodup [2, 3, 0, 1]; decide) ?_
              exact ih (rs + 1) (ke21) (by omega) (by omega) _ _ _ _ (by omega) hDe21 hgfe6 hd36e6 (by omega) r37e6
            · rw [show (fx_cb .lt (nI m) 1800) = false from cb_ltF (a := m) (b := 1800) (by omega) (by omega) (by omega)]
              dsimp only [cond]
              refine fe_s 2 (pc' := 156) (lc' := [(3, .int (nI (478 + (6 * k)))), (2, .int (nI k)), (0, .ref 0), (1, .int (nI s))]) (stk' := [.int (nI (478 + (6 * k))), .ref 0, .ref 0]) (mem' := fm ge6 tp bt at16 b) (fun _ _ _ => rfl) ?_
              obtain ⟨vs22, mems22, ⟨xs22, hxs22, hRs22⟩, hfrs22⟩ := fr_isSo (k := k) (g := ge6) (tp := tp) (bt := bt) (a := at16) (b := b) hB hDt16 (by omega) (fm_row_ro hB hN hN6 (by omega)) (by rw [em, nI_i32 (by omega)]; omega)
              cases hRs22
              refine fe_ivV hfrs22 (by omega) (by rfl) (by rfl) (by rfl) (by rfl) (by rfl) (by rfl) ?_
              rcases hxs22 with rfl | rfl
              · refine fe_s 1 (pc' := cond (fx_cb .ne 0 0) 175 162) (lc' := [(3, .int (nI (478 + (6 * k)))), (2, .int (nI k)), (0, .ref 0), (1, .int (nI s))]) (stk' := [.ref 0]) (mem' := fm ge6 tp bt at16 b) (fun _ _ _ => rfl) ?_
                rw [show (fx_cb .ne 0 0) = false from by decide]
                dsimp only [cond]
                refine fe_s 5 (pc' := 169) (lc' := [(3, .int (nI (478 + (6 * k)))), (2, .int (nI k)), (0, .ref 0), (1, .int (nI s))]) (stk' := [.int ((nI (478 + (6 * k))) + 4), .ref 1, .ref 0]) (mem' := fm ge6 tp bt at16 b) (fun _ _ _ => rfl) ?_
                rw [show ((nI (478 + (6 * k))) + 4 : Int32) = nI ((478 + (6 * k)) + 4) from by simp only [show (4 : Int32) = nI 4 from rfl, nI_add, fm_mul]]
                refine fe_ldI (by rfl) (by rfl) (fx_inN (i := (478 + (6 * k)) + 4) (by omega) (by omega)) ?_
                rw [show Int32.toNatClampNeg (nI ((478 + (6 * k)) + 4)) = (478 + (6 * k)) + 4 from nI_clamp (by omega)]
                obtain ⟨o, ho, eo⟩ := fm_row_o hB (k := k) (by omega)
                rw [show at16 1 ((478 + (6 * k)) + 4) = nI o from by rw [show (478 + (6 * k)) + 4 = 482 + 6 * k by omega]; exact (fm_D_hi hDt16 (by omega)).trans eo]
                refine fe_s 3 (pc' := 178) (lc' := [(3, .int (nI (478 + (6 * k)))), (2, .int (nI k)), (0, .ref 0), (1, .int (nI s))]) (stk' := [.int ((nI o) + 1), .ref 0]) (mem' := fm ge6 tp bt at16 b) (fun _ _ _ => rfl) ?_
                rw [show ((nI o) + 1 : Int32) = nI (o + 1) from by simp only [show (1 : Int32) = nI 1 from rfl, nI_add, fm_mul]]
                obtain ⟨ve23, meme23, ⟨ke23, ae23, hke23, hDe23, hRe23⟩, hfre23⟩ := fr_behindEnds (k := o + 1) (N := N) (g := ge6) (tp := tp) (bt := bt) (a := at16) (b := b) hB hDt16 (by omega) hN hN6
                cases hRe23
                refine fe_ivV hfre23 (by omega) (by rfl) (by rfl) (by rfl) (by rfl) (by rfl) (by rfl) ?_
                refine fe_s 1 (pc' := 182) (lc' := [(2, .int (nI ke23)), (3, .int (nI (478 + (6 * k)))), (0, .ref 0), (1, .int (nI s))]) (stk' := []) (mem' := fm ge6 tp bt ae23 b) (fun _ _ _ => rfl) ?_
                refine fe_s 1 (pc' := fx_to 182 (-150)) (lc' := [(2, .int (nI ke23)), (3, .int (nI (478 + (6 * k)))), (0, .ref 0), (1, .int (nI s))]) (stk' := []) (mem' := fm ge6 tp bt ae23 b) (fun _ _ _ => rfl) ?_
                rw [show fx_to 182 (-150) = 32 from by decide]
                refine fe_w (lc' := [(2, .int (nI ke23)), (0, .ref 0), (1, .int (nI s))]) ⟨rfl, rfl, rfl, trivial⟩ (by show List.Nodup [2, 0, 1]; decide) (by show List.Nodup [2, 3, 0, 1]; decide) ?_
                exact ih (rs + 1) (ke23) (by omega) (by omega) _ _ _ _ (by omega) hDe23 hgfe6 hd36e6 (by omega) r37e6
              · refine fe_s 1 (pc' := cond (fx_cb .ne 1 0) 175 162) (lc' := [(3, .int (nI (478 + (6 * k)))), (2, .int (nI k)), (0, .ref 0), (1, .int (nI s))]) (stk' := [.ref 0]) (mem' := fm ge6 tp bt at16 b) (fun _ _ _ => rfl) ?_
                rw [show (fx_cb .ne 1 0) = true from by decide]
                dsimp only [cond]
                refine fe_s 3 (pc' := 178) (lc' := [(3, .int (nI (478 + (6 * k)))), (2, .int (nI k)), (0, .ref 0), (1, .int (nI s))]) (stk' := [.int ((nI k) + 1), .ref 0]) (mem' := fm ge6 tp bt at16 b) (fun _ _ _ => rfl) ?_
                rw [show ((nI k) + 1 : Int32) = nI (k + 1) from by simp only [show (1 : Int32) = nI 1 from rfl, nI_add, fm_mul]]
                obtain ⟨ve24, meme24, ⟨ke24, ae24, hke24, hDe24, hRe24⟩, hfre24⟩ := fr_behindEnds (k := k + 1) (N := N) (g := ge6) (tp := tp) (bt := bt) (a := at16) (b := b) hB hDt16 (by omega) hN hN6
                cases hRe24
                refine fe_ivV hfre24 (by omega) (by rfl) (by rfl) (by rfl) (by rfl) (by rfl) (by rfl) ?_
                refine fe_s 1 (pc' := 182) (lc' := [(2, .int (nI ke24)), (3, .int (nI (478 + (6 * k)))), (0, .ref 0), (1, .int (nI s))]) (stk' := []) (mem' := fm ge6 tp bt ae24 b) (fun _ _ _ => rfl) ?_
                refine fe_s 1 (pc' := fx_to 182 (-150)) (lc' := [(2, .int (nI ke24)), (3, .int (nI (478 + (6 * k)))), (0, .ref 0), (1, .int (nI s))]) (stk' := []) (mem' := fm ge6 tp bt ae24 b) (fun _ _ _ => rfl) ?_
                rw [show fx_to 182 (-150) = 32 from by decide]
                refine fe_w (lc' := [(2, .int (nI ke24)), (0, .ref 0), (1, .int (nI s))]) ⟨rfl, rfl, rfl, trivial⟩ (by show List.Nodup [2, 0, 1]; decide) (by show List.Nodup [2, 3, 0, 1]; decide) ?_
                exact ih (rs + 1) (ke24) (by omega) (by omega) _ _ _ _ (by omega) hDe24 hgfe6 hd36e6 (by omega) r37e6
theorem fr_lives {T s N : Nat} (hB : fm_B a0) (hD : fm_D a0 a T) (hT : T ≤ 9999) (hs : s ≤ 65535) (hN : a0 1 6 = nI N) (hN6 : N ≤ 60) : ∃ (v : Option Value) (mem' : fx_M), (fun R => ∃ (g' : Nat → Int32) (a' : Nat → Nat → Int32) (T' r' : Nat), T' ≤ 9999 ∧ r' ≤ 300 ∧ (∀ j, j ≠ 36 → j ≠ 37 → g' j = g j) ∧ g' 37 = nI r' ∧ fm_D a0 a' T' ∧ R = (none, fm g' tp bt a' b)) (v, mem') ∧ fr_T 12 365 [.ref 0, .int (nI s)] (fm g tp bt a b) v mem' := by
  refine fe_meth (F := fun R => ∃ (g' : Nat → Int32) (a' : Nat → Nat → Int32) (T' r' : Nat), T' ≤ 9999 ∧ r' ≤ 300 ∧ (∀ j, j ≠ 36 → j ≠ 37 → g' j = g j) ∧ g' 37 = nI r' ∧ fm_D a0 a' T' ∧ R = (none, fm g' tp bt a' b)) (M := gk_m365) (by rfl) (by rfl) ?_
  refine fe_s 10 (pc' := 14) (lc' := [(2, .int 0), (0, .ref 0), (1, .int (nI s))]) (stk' := [.int 5, .int 0]) (mem' := fm (upd (upd g 36 (nI s)) 37 0) tp bt a b) (fun _ _ _ => rfl) ?_
  refine fe_s 1 (pc' := cond (fx_cb .ge 0 5) 30 17) (lc' := [(2, .int 0), (0, .ref 0), (1, .int (nI s))]) (stk' := []) (mem' := fm (upd (upd g 36 (nI s)) 37 0) tp bt a b) (fun _ _ _ => rfl) ?_
  rw [show (fx_cb .ge 0 5) = false from by decide]
  dsimp only [cond]
  refine fe_s 4 (pc' := 23) (lc' := [(2, .int 0), (0, .ref 0), (1, .int (nI s))]) (stk' := [.int 0, .int 0, .ref 20]) (mem' := fm (upd (upd g 36 (nI s)) 37 0) tp bt a b) (fun _ _ _ => rfl) ?_
  refine fe_stI (mem' := fm (upd (upd g 36 (nI s)) 37 0) tp bt (fm_u a 20 (0 : Int32).toNatClampNeg 0) b) (by rfl) (by rfl) (fx_inN (i := 0) (by omega) (by omega)) fm_si20 ?_
  rw [show Int32.toNatClampNeg (0) = 0 from rfl]
  obtain ⟨at1, hat1⟩ : ∃ z, z = fm_u a 20 (0) 0 := ⟨_, rfl⟩
  rw [← hat1]
  have hDt1 : fm_D a0 at1 T := by rw [hat1]; exact fm_D_ot hD (by decide) (by decide) rfl
  refine fe_s 4 (pc' := 14) (lc' := [(2, .int (0 + 1)), (0, .ref 0), (1, .int (nI s))]) (stk' := [.int 5, .int (0 + 1)]) (mem' := fm (upd (upd g 36 (nI s)) 37 0) tp bt at1 b) (fun _ _ _ => rfl) ?_
  rw [show (0 + 1 : Int32) = 1 from rfl]
  refine fe_s 1 (pc' := cond (fx_cb .ge 1 5) 30 17) (lc' := [(2, .int 1), (0, .ref 0), (1, .int (nI s))]) (stk' := []) (mem' := fm (upd (upd g 36 (nI s)) 37 0) tp bt at1 b) (fun _ _ _ => rfl) ?_
  rw [show (fx_cb .ge 1 5) = false from by decide]
  dsimp only [cond]
  refine fe_s 4 (pc' := 23) (lc' := [(2, .int 1), (0, .ref 0), (1, .int (nI s))]) (stk' := [.int 0, .int 1, .ref 20]) (mem' := fm (upd (upd g 36 (nI s)) 37 0) tp bt at1 b) (fun _ _ _ => rfl) ?_
  refine fe_stI (mem' := fm (upd (upd g 36 (nI s)) 37 0) tp bt (fm_u at1 20 (1 : Int32).toNatClampNeg 0) b) (by rfl) (by rfl) (fx_inN (i := 1) (by omega) (by omega)) fm_si20 ?_
  rw [show Int32.toNatClampNeg (1) = 1 from rfl]
  obtain ⟨at2, hat2⟩ : ∃ z, z = fm_u at1 20 (1) 0 := ⟨_, rfl⟩
  rw [← hat2]
  have hDt2 : fm_D a0 at2 T := by rw [hat2]; exact fm_D_ot hDt1 (by decide) (by decide) rfl
  refine fe_s 4 (pc' := 14) (lc' := [(2, .int (1 + 1)), (0, .ref 0), (1, .int (nI s))]) (stk' := [.int 5, .int (1 + 1)]) (mem' := fm (upd (upd g 36 (nI s)) 37 0) tp bt at2 b) (fun _ _ _ => rfl) ?_
  rw [show (1 + 1 : Int32) = 2 from rfl]
  refine fe_s 1 (pc' := cond (fx_cb .ge 2 5) 30 17) (lc' := [(2, .int 2), (0, .ref 0), (1, .int (nI s))]) (stk' := []) (mem' := fm (upd (upd g 36 (nI s)) 37 0) tp bt at2 b) (fun _ _ _ => rfl) ?_
  rw [show (fx_cb .ge 2 5) = false from by decide]
  dsimp only [cond]
  refine fe_s 4 (pc' := 23) (lc' := [(2, .int 2), (0, .ref 0), (1, .int (nI s))]) (stk' := [.int 0, .int 2, .ref 20]) (mem' := fm (upd (upd g 36 (nI s)) 37 0) tp bt at2 b) (fun _ _ _ => rfl) ?_
  refine fe_stI (mem' := fm (upd (upd g 36 (nI s)) 37 0) tp bt (fm_u at2 20 (2 : Int32).toNatClampNeg 0) b) (by rfl) (by rfl) (fx_inN (i := 2) (by omega) (by omega)) fm_si20 ?_
  rw [show Int32.toNatClampNeg (2) = 2 from rfl]
  obtain ⟨at3, hat3⟩ : ∃ z, z = fm_u at2 20 (2) 0 := ⟨_, rfl⟩
  rw [← hat3]
  have hDt3 : fm_D a0 at3 T := by rw [hat3]; exact fm_D_ot hDt2 (by decide) (by decide) rfl
  refine fe_s 4 (pc' := 14) (lc' := [(2, .int (2 + 1)), (0, .ref 0), (1, .int (nI s))]) (stk' := [.int 5, .int (2 + 1)]) (mem' := fm (upd (upd g 36 (nI s)) 37 0) tp bt at3 b) (fun _ _ _ => rfl) ?_
  rw [show (2 + 1 : Int32) = 3 from rfl]
  refine fe_s 1 (pc' := cond (fx_cb .ge 3 5) 30 17) (lc' := [(2, .int 3), (0, .ref 0), (1, .int (nI s))]) (stk' := []) (mem' := fm (upd (upd g 36 (nI s)) 37 0) tp bt at3 b) (fun _ _ _ => rfl) ?_
  rw [show (fx_cb .ge 3 5) = false from by decide]
  dsimp only [cond]
  refine fe_s 4 (pc' := 23) (lc' := [(2, .int 3), (0, .ref 0), (1, .int (nI s))]) (stk' := [.int 0, .int 3, .ref 20]) (mem' := fm (upd (upd g 36 (nI s)) 37 0) tp bt at3 b) (fun _ _ _ => rfl) ?_
  refine fe_stI (mem' := fm (upd (upd g 36 (nI s)) 37 0) tp bt (fm_u at3 20 (3 : Int32).toNatClampNeg 0) b) (by rfl) (by rfl) (fx_inN (i := 3) (by omega) (by omega)) fm_si20 ?_
  rw [show Int32.toNatClampNeg (3) = 3 from rfl]
  obtain ⟨at4, hat4⟩ : ∃ z, z = fm_u at3 20 (3) 0 := ⟨_, rfl⟩
  rw [← hat4]
  have hDt4 : fm_D a0 at4 T := by rw [hat4]; exact fm_D_ot hDt3 (by decide) (by decide) rfl
  refine fe_s 4 (pc' := 14) (lc' := [(2, .int (3 + 1)), (0, .ref 0), (1, .int (nI s))]) (stk' := [.int 5, .int (3 + 1)]) (mem' := fm (upd (upd g 36 (nI s)) 37 0) tp bt at4 b) (fun _ _ _ => rfl) ?_
  rw [show (3 + 1 : Int32) = 4 from rfl]
  refine fe_s 1 (pc' := cond (fx_cb .ge 4 5) 30 17) (lc' := [(2, .int 4), (0, .ref 0), (1, .int (nI s))]) (stk' := []) (mem' := fm (upd (upd g 36 (nI s)) 37 0) tp bt at4 b) (fun _ _ _ => rfl) ?_
  rw [show (fx_cb .ge 4 5) = false from by decide]
  dsimp only [cond]
  refine fe_s 4 (pc' := 23) (lc' := [(2, .int 4), (0, .ref 0), (1, .int (nI s))]) (stk' := [.int 0, .int 4, .ref 20]) (mem' := fm (upd (upd g 36 (nI s)) 37 0) tp bt at4 b) (fun _ _ _ => rfl) ?_
  refine fe_stI (mem' := fm (upd (upd g 36 (nI s)) 37 0) tp bt (fm_u at4 20 (4 : Int32).toNatClampNeg 0) b) (by rfl) (by rfl) (fx_inN (i := 4) (by omega) (by omega)) fm_si20 ?_
  rw [show Int32.toNatClampNeg (4) = 4 from rfl]
  obtain ⟨at5, hat5⟩ : ∃ z, z = fm_u at4 20 (4) 0 := ⟨_, rfl⟩
  rw [← hat5]
  have hDt5 : fm_D a0 at5 T := by rw [hat5]; exact fm_D_ot hDt4 (by decide) (by decide) rfl
  refine fe_s 4 (pc' := 14) (lc' := [(2, .int (4 + 1)), (0, .ref 0), (1, .int (nI s))]) (stk' := [.int 5, .int (4 + 1)]) (mem' := fm (upd (upd g 36 (nI s)) 37 0) tp bt at5 b) (fun _ _ _ => rfl) ?_
  rw [show (4 + 1 : Int32) = 5 from rfl]
  refine fe_s 1 (pc' := cond (fx_cb .ge 5 5) 30 17) (lc' := [(2, .int 5), (0, .ref 0), (1, .int (nI s))]) (stk' := []) (mem' := fm (upd (upd g 36 (nI s)) 37 0) tp bt at5 b) (fun _ _ _ => rfl) ?_
  rw [show (fx_cb .ge 5 5) = true from by decide]
  dsimp only [cond]
  refine fe_s 2 (pc' := 32) (lc' := [(2, .int 0), (0, .ref 0), (1, .int (nI s))]) (stk' := []) (mem' := fm (upd (upd g 36 (nI s)) 37 0) tp bt at5 b) (fun _ _ _ => rfl) ?_
  refine fe_w (lc' := [(2, .int (nI 0)), (0, .ref 0), (1, .int (nI s))]) ⟨rfl, rfl, rfl, trivial⟩ (by show List.Nodup [2, 0, 1]; decide) (by show List.Nodup [2, 0, 1]; decide) ?_
  exact li_32 hB hN hN6 300 0 0 (by omega) (by omega) _ _ s _ hT hDt5 (fun j h6 h7 => (pk_un h7).trans (pk_un h6)) ((pk_un (by decide)).trans pk_us) hs pk_us
end FLW
