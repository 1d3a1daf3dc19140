section MH9_0
/-! ===== fx: suspects ===== -/
section FSU
variable {g : Nat → Int32} {tp bt : Int64} {a0 a : Nat → Nat → Int32} {b : Nat → Nat → Int64}
theorem nI_dec {p : Nat} : nI (p + 1) + (-1) = nI p := by
  rw [← nI_add, Int32.add_assoc, show (nI 1 + (-1) : Int32) = 0 by decide, Int32.add_zero]
set_option maxRecDepth 20000 in
set_option maxHeartbeats 16000000 in
theorem sus_L {T W NC : Nat} {set may : Int32} (hB : fm_B a0) (hW : W < 8) (eNC : a0 1 0 = nI NC) (hNC : NC ≤ 10) : ∀ (n p : Nat), p + n = 9 → ∀ (m d : Nat), 10 < d + m → d ≤ NC → ∀ (a : Nat → Nat → Int32) (sn : Int32), fm_D a0 a T → (∀ i, i < p → ∃ c, c < 10 ∧ a 16 i = nI c) → (d = 0 ∧ a 16 p = -1 ∨ ∃ e, d = e + 1 ∧ a 16 p = nI e) → (∀ (a2 : Nat → Nat → Int32) (s2 : Int32), fm_D a0 a2 T → (∀ i, i < p → a2 16 i = a 16 i) → fe_R 8 gk_m349 105 [(4, .int (nI p + (-1))), (5, .int s2), (0, .ref 0), (1, .int (nI W)), (2, .int set), (3, .int may)] [] (fm g tp bt a2 b) (fun R => ∃ v : Int32, (v = 0 ∨ v = 1) ∧ ∃ a' : Nat → Nat → Int32, fm_D a0 a' T ∧ R = (some (.int v), fm g tp bt a' b))) → fe_R 8 gk_m349 105 [(4, .int (nI p)), (5, .int sn), (0, .ref 0), (1, .int (nI W)), (2, .int set), (3, .int may)] [] (fm g tp bt a b) (fun R => ∃ v : Int32, (v = 0 ∨ v = 1) ∧ ∃ a' : Nat → Nat → Int32, fm_D a0 a' T ∧ R = (some (.int v), fm g tp bt a' b)) := by
  intro n
  induction n with
  | zero =>
    intro p hp m
    obtain rfl : p = 9 := by omega
    induction m with
    | zero => intro d hd hdN; exfalso; omega
    | succ m ihm =>
      intro d hd hdN a sn hD hpre hrow hK
      have hNW := fm_B_0 hB (i := 1) (n := 8) (by decide) rfl
      have at215 : ∀ (c : Nat) (old s5 : Int32), d ≤ c → c ≤ NC → fe_R 8 gk_m349 215 [(7, .int (nI c)), (6, .int old), (4, .int (nI 9)), (5, .int s5), (0, .ref 0), (1, .int (nI W)), (2, .int set), (3, .int may)] [] (fm g tp bt a b) (fun R => ∃ v : Int32, (v = 0 ∨ v = 1) ∧ ∃ a' : Nat → Nat → Int32, fm_D a0 a' T ∧ R = (some (.int v), fm g tp bt a' b)) := by
        intro c old s5 hdc hcN
        refine fe_s 4 (pc' := 223) (lc' := [(7, .int (nI c)), (6, .int old), (4, .int (nI 9)), (5, .int s5), (0, .ref 0), (1, .int (nI W)), (2, .int set), (3, .int may)]) (stk' := [.int (nI c), .int (nI 9), .ref 16]) (mem' := fm g tp bt a b) (by intro _ _ _; eq_refl) ?_
        refine fe_stI (mem' := fm g tp bt (fm_u a 16 (nI 9 : Int32).toNatClampNeg (nI c)) b) (by rfl) (by rfl) (fx_inN (i := 9) (by omega) (by omega)) fm_si16 ?_
        rw [show Int32.toNatClampNeg (nI 9) = 9 from rfl]
        obtain ⟨t101, ht101⟩ : ∃ z, z = fm_u a 16 (9) (nI c) := ⟨_, rfl⟩
        rw [← ht101]
        have hDt101 : fm_D a0 t101 T := by rw [ht101]; exact fm_D_ot hD (by decide) (by decide) rfl
        refine fe_s 4 (pc' := 231) (lc' := [(7, .int (nI c)), (6, .int old), (4, .int (nI 9)), (5, .int s5), (0, .ref 0), (1, .int (nI W)), (2, .int set), (3, .int may)]) (stk' := [.int 0, .ref 1, .int (nI c)]) (mem' := fm g tp bt t101 b) (by intro _ _ _; eq_refl) ?_
        refine fe_ldI (by rfl) (by rfl) (fx_inN (i := 0) (by omega) (by omega)) ?_
        rw [show Int32.toNatClampNeg (0) = 0 from rfl]
        rw [show t101 1 0 = nI NC from (fm_D_h hDt101 (by decide) rfl).trans eNC]
        refine fe_s 1 (pc' := cond (fx_cb .ne (nI c) (nI NC)) 241 235) (lc' := [(7, .int (nI c)), (6, .int old), (4, .int (nI 9)), (5, .int s5), (0, .ref 0), (1, .int (nI W)), (2, .int set), (3, .int may)]) (stk' := []) (mem' := fm g tp bt t101 b) (by intro _ _ _; eq_refl) ?_
        by_cases h102 : c = NC
        · rw [show (fx_cb .ne (nI c) (nI NC)) = false from cb_neF (a := c) (b := NC) (by omega) (by omega) (by omega)]
          dsimp only [cond]
          refine fe_s 1 (pc' := 238) (lc' := [(4, .int ((nI 9) + (-1))), (7, .int (nI c)), (6, .int old), (5, .int s5), (0, .ref 0), (1, .int (nI W)), (2, .int set), (3, .int may)]) (stk' := []) (mem' := fm g tp bt t101 b) (by intro _ _ _; eq_refl) ?_
          refine fe_s 1 (pc' := fx_to 238 (-133)) (lc' := [(4, .int ((nI 9) + (-1))), (7, .int (nI c)), (6, .int old), (5, .int s5), (0, .ref 0), (1, .int (nI W)), (2, .int set), (3, .int may)]) (stk' := []) (mem' := fm g tp bt t101 b) (by intro _ _ _; eq_refl) ?_
          rw [show fx_to 238 (-133) = 105 from by decide]
          refine fe_w (lc' := [(4, .int ((nI 9) + (-1))), (5, .int s5), (0, .ref 0), (1, .int (nI W)), (2, .int set), (3, .int may)]) ⟨rfl, rfl, rfl, rfl, rfl, rfl, trivial⟩ (by show List.Nodup [4, 5, 0, 1, 2, 3]; decide) (by show List.Nodup [4, 7, 6, 5, 0, 1, 2, 3]; decide) ?_
          exact hK _ _ hDt101 (fun i hi => by rw [ht101, fm_us, if_neg (by omega)])
        · rw [show (fx_cb .ne (nI c) (nI NC)) = true from cb_neT (a := c) (b := NC) (by omega) (by omega) (by omega)]
          dsimp only [cond]
          refine fe_s 7 (pc' := 252) (lc' := [(5, .int (s5 ||| ((1 : Int32) <<< ((nI c) &&& 31)))), (7, .int (nI c)), (6, .int old), (4, .int (nI 9)), (0, .ref 0), (1, .int (nI W)), (2, .int set), (3, .int may)]) (stk' := [.int (nI 9)]) (mem' := fm g tp bt t101 b) (by intro _ _ _; eq_refl) ?_
          refine fe_s 1 (pc' := cond (fx_cb .le (nI 9) 0) 275 255) (lc' := [(5, .int (s5 ||| ((1 : Int32) <<< ((nI c) &&& 31)))), (7, .int (nI c)), (6, .int old), (4, .int (nI 9)), (0, .ref 0), (1, .int (nI W)), (2, .int set), (3, .int may)]) (stk' := []) (mem' := fm g tp bt t101 b) (by intro _ _ _; eq_refl) ?_
          rw [show (fx_cb .le (nI 9) 0) = false from cb_leF (a := 9) (b := 0) (by omega) (by omega) (by omega)]
          dsimp only [cond]
          refine fe_s 2 (pc' := 258) (lc' := [(5, .int (s5 ||| ((1 : Int32) <<< ((nI c) &&& 31)))), (7, .int (nI c)), (6, .int old), (4, .int (nI 9)), (0, .ref 0), (1, .int (nI W)), (2, .int set), (3, .int may)]) (stk' := [.int (nI c), .ref 0]) (mem' := fm g tp bt t101 b) (by intro _ _ _; eq_refl) ?_
          obtain ⟨v103, z104, hv103⟩ := fq_isShore (C := c) (g := g) (tp := tp) (bt := bt) (a := t101) (b := b) (by omega)
          refine fe_ivV hv103 (by omega) (by rfl) (by rfl) (by rfl) (by rfl) (by rfl) (by rfl) ?_
          rcases z104 with rfl | rfl
          · refine fe_s 1 (pc' := cond (fx_cb .eq 0 0) 275 264) (lc' := [(5, .int (s5 ||| ((1 : Int32) <<< ((nI c) &&& 31)))), (7, .int (nI c)), (6, .int old), (4, .int (nI 9)), (0, .ref 0), (1, .int (nI W)), (2, .int set), (3, .int may)]) (stk' := []) (mem' := fm g tp bt t101 b) (by intro _ _ _; eq_refl) ?_
            rw [show (fx_cb .eq 0 0) = true from by decide]
            dsimp only [cond]
            refine fe_s 2 (pc' := 279) (lc' := [(5, .int (s5 ||| ((1 : Int32) <<< ((nI c) &&& 31)))), (7, .int (nI c)), (6, .int old), (4, .int (nI 9)), (0, .ref 0), (1, .int (nI W)), (2, .int set), (3, .int may)]) (stk' := [.int 9, .int (nI 9)]) (mem' := fm g tp bt t101 b) (by intro _ _ _; eq_refl) ?_
            refine fe_s 1 (pc' := cond (fx_cb .ne (nI 9) 9) 285 282) (lc' := [(5, .int (s5 ||| ((1 : Int32) <<< ((nI c) &&& 31)))), (7, .int (nI c)), (6, .int old), (4, .int (nI 9)), (0, .ref 0), (1, .int (nI W)), (2, .int set), (3, .int may)]) (stk' := []) (mem' := fm g tp bt t101 b) (by intro _ _ _; eq_refl) ?_
            rw [show (fx_cb .ne (nI 9) 9) = false from cb_neF (a := 9) (b := 9) (by omega) (by omega) (by omega)]
            dsimp only [cond]
            refine fe_s 1 (pc' := fx_to 282 (-177)) (lc' := [(5, .int (s5 ||| ((1 : Int32) <<< ((nI c) &&& 31)))), (7, .int (nI c)), (6, .int old), (4, .int (nI 9)), (0, .ref 0), (1, .int (nI W)), (2, .int set), (3, .int may)]) (stk' := []) (mem' := fm g tp bt t101 b) (by intro _ _ _; eq_refl) ?_
            rw [show fx_to 282 (-177) = 105 from by decide]
            refine fe_w (lc' := [(4, .int (nI 9)), (5, .int (s5 ||| ((1 : Int32) <<< ((nI c) &&& 31)))), (0, .ref 0), (1, .int (nI W)), (2, .int set), (3, .int may)]) ⟨rfl, rfl, rfl, rfl, rfl, rfl, trivial⟩ (by show List.Nodup [4, 5, 0, 1, 2, 3]; decide) (by show List.Nodup [5, 7, 6, 4, 0, 1, 2, 3]; decide) ?_
            exact ihm (c + 1) (by omega) (by omega) _ _ hDt101 (fun i hi => by rw [ht101, fm_us, if_neg (by omega)]; exact hpre i hi) (Or.inr ⟨c, rfl, by rw [ht101, fm_us, if_pos rfl]⟩) (fun a2 s2 h2 h3 => hK a2 s2 h2 (fun i hi => by rw [h3 i hi, ht101, fm_us, if_neg (by omega)]))
          · refine fe_s 1 (pc' := cond (fx_cb .eq 1 0) 275 264) (lc' := [(5, .int (s5 ||| ((1 : Int32) <<< ((nI c) &&& 31)))), (7, .int (nI c)), (6, .int old), (4, .int (nI 9)), (0, .ref 0), (1, .int (nI W)), (2, .int set), (3, .int may)]) (stk' := []) (mem' := fm g tp bt t101 b) (by intro _ _ _; eq_refl) ?_
            rw [show (fx_cb .eq 1 0) = false from by decide]
            dsimp only [cond]
            refine fe_s 5 (pc' := 270) (lc' := [(5, .int (s5 ||| ((1 : Int32) <<< ((nI c) &&& 31)))), (7, .int (nI c)), (6, .int old), (4, .int (nI 9)), (0, .ref 0), (1, .int (nI W)), (2, .int set), (3, .int may)]) (stk' := [.int (set &&& ((s5 ||| ((1 : Int32) <<< ((nI c) &&& 31))) ^^^ (-1)))]) (mem' := fm g tp bt t101 b) (by intro _ _ _; eq_refl) ?_
            refine fe_s 1 (pc' := cond (fx_cb .ne (set &&& ((s5 ||| ((1 : Int32) <<< ((nI c) &&& 31))) ^^^ (-1))) 0) 275 273) (lc' := [(5, .int (s5 ||| ((1 : Int32) <<< ((nI c) &&& 31)))), (7, .int (nI c)), (6, .int old), (4, .int (nI 9)), (0, .ref 0), (1, .int (nI W)), (2, .int set), (3, .int may)]) (stk' := []) (mem' := fm g tp bt t101 b) (by intro _ _ _; eq_refl) ?_
            cases h105 : fx_cb .ne (set &&& ((s5 ||| ((1 : Int32) <<< ((nI c) &&& 31))) ^^^ (-1))) 0
            · refine fe_s 1 (pc' := 274) (lc' := [(5, .int (s5 ||| ((1 : Int32) <<< ((nI c) &&& 31)))), (7, .int (nI c)), (6, .int old), (4, .int (nI 9)), (0, .ref 0), (1, .int (nI W)), (2, .int set), (3, .int may)]) (stk' := [.int 1]) (mem' := fm g tp bt t101 b) (by intro _ _ _; eq_refl) ?_
              exact fe_ret ⟨_, Or.inr rfl, _, hDt101, rfl⟩ (by rfl) (by rfl) (by rfl)
            · refine fe_s 2 (pc' := 279) (lc' := [(5, .int (s5 ||| ((1 : Int32) <<< ((nI c) &&& 31)))), (7, .int (nI c)), (6, .int old), (4, .int (nI 9)), (0, .ref 0), (1, .int (nI W)), (2, .int set), (3, .int may)]) (stk' := [.int 9, .int (nI 9)]) (mem' := fm g tp bt t101 b) (by intro _ _ _; eq_refl) ?_
              refine fe_s 1 (pc' := cond (fx_cb .ne (nI 9) 9) 285 282) (lc' := [(5, .int (s5 ||| ((1 : Int32) <<< ((nI c) &&& 31)))), (7, .int (nI c)), (6, .int old), (4, .int (nI 9)), (0, .ref 0), (1, .int (nI W)), (2, .int set), (3, .int may)]) (stk' := []) (mem' := fm g tp bt t101 b) (by intro _ _ _; eq_refl) ?_
              rw [show (fx_cb .ne (nI 9) 9) = false from cb_neF (a := 9) (b := 9) (by omega) (by omega) (by omega)]
              dsimp only [cond]
              refine fe_s 1 (pc' := fx_to 282 (-177)) (lc' := [(5, .int (s5 ||| ((1 : Int32) <<< ((nI c) &&& 31)))), (7, .int (nI c)), (6, .int old), (4, .int (nI 9)), (0, .ref 0), (1, .int (nI W)), (2, .int set), (3, .int may)]) (stk' := []) (mem' := fm g tp bt t101 b) (by intro _ _ _; eq_refl) ?_
              rw [show fx_to 282 (-177) = 105 from by decide]
              refine fe_w (lc' := [(4, .int (nI 9)), (5, .int (s5 ||| ((1 : Int32) <<< ((nI c) &&& 31)))), (0, .ref 0), (1, .int (nI W)), (2, .int set), (3, .int may)]) ⟨rfl, rfl, rfl, rfl, rfl, rfl, trivial⟩ (by show List.Nodup [4, 5, 0, 1, 2, 3]; decide) (by show List.Nodup [5, 7, 6, 4, 0, 1, 2, 3]; decide) ?_
              exact ihm (c + 1) (by omega) (by omega) _ _ hDt101 (fun i hi => by rw [ht101, fm_us, if_neg (by omega)]; exact hpre i hi) (Or.inr ⟨c, rfl, by rw [ht101, fm_us, if_pos rfl]⟩) (fun a2 s2 h2 h3 => hK a2 s2 h2 (fun i hi => by rw [h3 i hi, ht101, fm_us, if_neg (by omega)]))
      have l142 : ∀ (r c : Nat), c + r = NC → d ≤ c → ∀ (old s5 : Int32), fe_R 8 gk_m349 142 [(7, .int (nI c)), (6, .int old), (4, .int (nI 9)), (5, .int s5), (0, .ref 0), (1, .int (nI W)), (2, .int set), (3, .int may)] [] (fm g tp bt a b) (fun R => ∃ v : Int32, (v = 0 ∨ v = 1) ∧ ∃ a' : Nat → Nat → Int32, fm_D a0 a' T ∧ R = (some (.int v), fm g tp bt a' b)) := by
        intro r
        induction r with
        | zero =>
          intro c hc hdc old s5
          obtain rfl : NC = c := by omega
          refine fe_s 4 (pc' := 149) (lc' := [(7, .int (nI NC)), (6, .int old), (4, .int (nI 9)), (5, .int s5), (0, .ref 0), (1, .int (nI W)), (2, .int set), (3, .int may)]) (stk' := [.int 0, .ref 1, .int (nI NC)]) (mem' := fm g tp bt a b) (by intro _ _ _; eq_refl) ?_
          refine fe_ldI (by rfl) (by rfl) (fx_inN (i := 0) (by omega) (by omega)) ?_
          rw [show Int32.toNatClampNeg (0) = 0 from rfl]
          rw [show a 1 0 = nI NC from (fm_D_h hD (by decide) rfl).trans eNC]
          refine fe_s 1 (pc' := cond (fx_cb .ge (nI NC) (nI NC)) 215 153) (lc' := [(7, .int (nI NC)), (6, .int old), (4, .int (nI 9)), (5, .int s5), (0, .ref 0), (1, .int (nI W)), (2, .int set), (3, .int may)]) (stk' := []) (mem' := fm g tp bt a b) (by intro _ _ _; eq_refl) ?_
          rw [show (fx_cb .ge (nI NC) (nI NC)) = true from cb_geT (a := NC) (b := NC) (by omega) (by omega) (by omega)]
          dsimp only [cond]
          refine fe_w (lc' := [(7, .int (nI NC)), (6, .int old), (4, .int (nI 9)), (5, .int s5), (0, .ref 0), (1, .int (nI W)), (2, .int set), (3, .int may)]) ⟨rfl, rfl, rfl, rfl, rfl, rfl, rfl, rfl, trivial⟩ (by show List.Nodup [7, 6, 4, 5, 0, 1, 2, 3]; decide) (by show List.Nodup [7, 6, 4, 5, 0, 1, 2, 3]; decide) ?_
          exact at215 NC _ _ (by omega) (by omega)
        | succ r ihr =>
          intro c hc hdc old s5
          have hcl : c < NC := by omega
          refine fe_s 4 (pc' := 149) (lc' := [(7, .int (nI c)), (6, .int old), (4, .int (nI 9)), (5, .int s5), (0, .ref 0), (1, .int (nI W)), (2, .int set), (3, .int may)]) (stk' := [.int 0, .ref 1, .int (nI c)]) (mem' := fm g tp bt a b) (by intro _ _ _; eq_refl) ?_
          refine fe_ldI (by rfl) (by rfl) (fx_inN (i := 0) (by omega) (by omega)) ?_
          rw [show Int32.toNatClampNeg (0) = 0 from rfl]
          rw [show a 1 0 = nI NC from (fm_D_h hD (by decide) rfl).trans eNC]
          refine fe_s 1 (pc' := cond (fx_cb .ge (nI c) (nI NC)) 215 153) (lc' := [(7, .int (nI c)), (6, .int old), (4, .int (nI 9)), (5, .int s5), (0, .ref 0), (1, .int (nI W)), (2, .int set), (3, .int may)]) (stk' := []) (mem' := fm g tp bt a b) (by intro _ _ _; eq_refl) ?_
          rw [show (fx_cb .ge (nI c) (nI NC)) = false from cb_geF (a := c) (b := NC) (by omega) (by omega) (by omega)]
          dsimp only [cond]
          refine fe_s 3 (pc' := 157) (lc' := [(7, .int (nI c)), (6, .int old), (4, .int (nI 9)), (5, .int s5), (0, .ref 0), (1, .int (nI W)), (2, .int set), (3, .int may)]) (stk' := [.int (nI c), .int may, .ref 0]) (mem' := fm g tp bt a b) (by intro _ _ _; eq_refl) ?_
          refine fe_ivV fr_isIn (by omega) (by rfl) (by rfl) (by rfl) (by rfl) (by rfl) (by rfl) ?_
          rcases fm_b_01 may (nI c) with q106 | q106
          · rw [q106]
            refine fe_s 1 (pc' := cond (fx_cb .eq 0 0) 209 163) (lc' := [(7, .int (nI c)), (6, .int old), (4, .int (nI 9)), (5, .int s5), (0, .ref 0), (1, .int (nI W)), (2, .int set), (3, .int may)]) (stk' := []) (mem' := fm g tp bt a b) (by intro _ _ _; eq_refl) ?_
            rw [show (fx_cb .eq 0 0) = true from by decide]
            dsimp only [cond]
            refine fe_s 1 (pc' := 212) (lc' := [(7, .int ((nI c) + 1)), (6, .int old), (4, .int (nI 9)), (5, .int s5), (0, .ref 0), (1, .int (nI W)), (2, .int set), (3, .int may)]) (stk' := []) (mem' := fm g tp bt a b) (by intro _ _ _; eq_refl) ?_
            rw [show ((nI c) + 1 : Int32) = nI (c + 1) from by simp only [show (1 : Int32) = nI 1 from rfl, nI_add, fm_mul]]
            refine fe_s 1 (pc' := fx_to 212 (-70)) (lc' := [(7, .int (nI (c + 1))), (6, .int old), (4, .int (nI 9)), (5, .int s5), (0, .ref 0), (1, .int (nI W)), (2, .int set), (3, .int may)]) (stk' := []) (mem' := fm g tp bt a b) (by intro _ _ _; eq_refl) ?_
            rw [show fx_to 212 (-70) = 142 from by decide]
            refine fe_w (lc' := [(7, .int (nI (c + 1))), (6, .int old), (4, .int (nI 9)), (5, .int s5), (0, .ref 0), (1, .int (nI W)), (2, .int set), (3, .int may)]) ⟨rfl, rfl, rfl, rfl, rfl, rfl, rfl, rfl, trivial⟩ (by show List.Nodup [7, 6, 4, 5, 0, 1, 2, 3]; decide) (by show List.Nodup [7, 6, 4, 5, 0, 1, 2, 3]; decide) ?_
            exact ihr (c + 1) (by omega) (by omega) _ _
          · rw [q106]
            refine fe_s 1 (pc' := cond (fx_cb .eq 1 0) 209 163) (lc' := [(7, .int (nI c)), (6, .int old), (4, .int (nI 9)), (5, .int s5), (0, .ref 0), (1, .int (nI W)), (2, .int set), (3, .int may)]) (stk' := []) (mem' := fm g tp bt a b) (by intro _ _ _; eq_refl) ?_
            rw [show (fx_cb .eq 1 0) = false from by decide]
            dsimp only [cond]
            refine fe_s 3 (pc' := 168) (lc' := [(7, .int (nI c)), (6, .int old), (4, .int (nI 9)), (5, .int s5), (0, .ref 0), (1, .int (nI W)), (2, .int set), (3, .int may)]) (stk' := [.int (nI c), .int s5, .ref 0]) (mem' := fm g tp bt a b) (by intro _ _ _; eq_refl) ?_
            refine fe_ivV fr_isIn (by omega) (by rfl) (by rfl) (by rfl) (by rfl) (by rfl) (by rfl) ?_
            rcases fm_b_01 s5 (nI c) with q107 | q107
            · rw [q107]
              refine fe_s 1 (pc' := cond (fx_cb .ne 0 0) 209 174) (lc' := [(7, .int (nI c)), (6, .int old), (4, .int (nI 9)), (5, .int s5), (0, .ref 0), (1, .int (nI W)), (2, .int set), (3, .int may)]) (stk' := []) (mem' := fm g tp bt a b) (by intro _ _ _; eq_refl) ?_
              rw [show (fx_cb .ne 0 0) = false from by decide]
              dsimp only [cond]
              refine fe_s 1 (pc' := 176) (lc' := [(7, .int (nI c)), (6, .int old), (4, .int (nI 9)), (5, .int s5), (0, .ref 0), (1, .int (nI W)), (2, .int set), (3, .int may)]) (stk' := [.int (nI 9)]) (mem' := fm g tp bt a b) (by intro _ _ _; eq_refl) ?_
              refine fe_s 1 (pc' := cond (fx_cb .ne (nI 9) 0) 191 179) (lc' := [(7, .int (nI c)), (6, .int old), (4, .int (nI 9)), (5, .int s5), (0, .ref 0), (1, .int (nI W)), (2, .int set), (3, .int may)]) (stk' := []) (mem' := fm g tp bt a b) (by intro _ _ _; eq_refl) ?_
              rw [show (fx_cb .ne (nI 9) 0) = true from cb_neT (a := 9) (b := 0) (by omega) (by omega) (by omega)]
              dsimp only [cond]
              refine fe_s 6 (pc' := 200) (lc' := [(7, .int (nI c)), (6, .int old), (4, .int (nI 9)), (5, .int s5), (0, .ref 0), (1, .int (nI W)), (2, .int set), (3, .int may)]) (stk' := [.int ((nI 9) - 1), .ref 16, .ref 0]) (mem' := fm g tp bt a b) (by intro _ _ _; eq_refl) ?_
              rw [show ((nI 9) - 1 : Int32) = nI (9 - 1) from by simp only [show (1 : Int32) = nI 1 from rfl, tg_sub2 (x := 9) (y := 1) (by omega), nI_add, fm_mul]]
              refine fe_ldI (by rfl) (by rfl) (fx_inN (i := 9 - 1) (by omega) (by omega)) ?_
              rw [show Int32.toNatClampNeg (nI (9 - 1)) = 9 - 1 from nI_clamp (by omega)]
              obtain ⟨c108, hc108, ec108⟩ := hpre (9 - 1) (by omega)
              rw [ec108]
              refine fe_s 1 (pc' := 203) (lc' := [(7, .int (nI c)), (6, .int old), (4, .int (nI 9)), (5, .int s5), (0, .ref 0), (1, .int (nI W)), (2, .int set), (3, .int may)]) (stk' := [.int (nI c), .int (nI c108), .ref 0]) (mem' := fm g tp bt a b) (by intro _ _ _; eq_refl) ?_
              refine fe_ivV (fr_isWay (A := c108) (B := nI c) (g := g) (tp := tp) (bt := bt) (a := a) (b := b) (by omega)) (by omega) (by rfl) (by rfl) (by rfl) (by rfl) (by rfl) (by rfl) ?_
              rcases fm_b_01 (a 1 (10 + 6 * c108)) (nI c) with q109 | q109
              · rw [q109]
                refine fe_s 1 (pc' := cond (fx_cb .ne 0 0) 215 209) (lc' := [(7, .int (nI c)), (6, .int old), (4, .int (nI 9)), (5, .int s5), (0, .ref 0), (1, .int (nI W)), (2, .int set), (3, .int may)]) (stk' := []) (mem' := fm g tp bt a b) (by intro _ _ _; eq_refl) ?_
                rw [show (fx_cb .ne 0 0) = false from by decide]
                dsimp only [cond]
                refine fe_s 1 (pc' := 212) (lc' := [(7, .int ((nI c) + 1)), (6, .int old), (4, .int (nI 9)), (5, .int s5), (0, .ref 0), (1, .int (nI W)), (2, .int set), (3, .int may)]) (stk' := []) (mem' := fm g tp bt a b) (by intro _ _ _; eq_refl) ?_
                rw [show ((nI c) + 1 : Int32) = nI (c + 1) from by simp only [show (1 : Int32) = nI 1 from rfl, nI_add, fm_mul]]
                refine fe_s 1 (pc' := fx_to 212 (-70)) (lc' := [(7, .int (nI (c + 1))), (6, .int old), (4, .int (nI 9)), (5, .int s5), (0, .ref 0), (1, .int (nI W)), (2, .int set), (3, .int may)]) (stk' := []) (mem' := fm g tp bt a b) (by intro _ _ _; eq_refl) ?_
                rw [show fx_to 212 (-70) = 142 from by decide]
                refine fe_w (lc' := [(7, .int (nI (c + 1))), (6, .int old), (4, .int (nI 9)), (5, .int s5), (0, .ref 0), (1, .int (nI W)), (2, .int set), (3, .int may)]) ⟨rfl, rfl, rfl, rfl, rfl, rfl, rfl, rfl, trivial⟩ (by show List.Nodup [7, 6, 4, 5, 0, 1, 2, 3]; decide) (by show List.Nodup [7, 6, 4, 5, 0, 1, 2, 3]; decide) ?_
                exact ihr (c + 1) (by omega) (by omega) _ _
              · rw [q109]
                refine fe_s 1 (pc' := cond (fx_cb .ne 1 0) 215 209) (lc' := [(7, .int (nI c)), (6, .int old), (4, .int (nI 9)), (5, .int s5), (0, .ref 0), (1, .int (nI W)), (2, .int set), (3, .int may)]) (stk' := []) (mem' := fm g tp bt a b) (by intro _ _ _; eq_refl) ?_
                rw [show (fx_cb .ne 1 0) = true from by decide]
                dsimp only [cond]
                refine fe_w (lc' := [(7, .int (nI c)), (6, .int old), (4, .int (nI 9)), (5, .int s5), (0, .ref 0), (1, .int (nI W)), (2, .int set), (3, .int may)]) ⟨rfl, rfl, rfl, rfl, rfl, rfl, rfl, rfl, trivial⟩ (by show List.Nodup [7, 6, 4, 5, 0, 1, 2, 3]; decide) (by show List.Nodup [7, 6, 4, 5, 0, 1, 2, 3]; decide) ?_
                exact at215 c _ _ (by omega) (by omega)
            · rw [q107]
              refine fe_s 1 (pc' := cond (fx_cb .ne 1 0) 209 174) (lc' := [(7, .int (nI c)), (6, .int old), (4, .int (nI 9)), (5, .int s5), (0, .ref 0), (1, .int (nI W)), (2, .int set), (3, .int may)]) (stk' := []) (mem' := fm g tp bt a b) (by intro _ _ _; eq_refl) ?_
              rw [show (fx_cb .ne 1 0) = true from by decide]
              dsimp only [cond]
              refine fe_s 1 (pc' := 212) (lc' := [(7, .int ((nI c) + 1)), (6, .int old), (4, .int (nI 9)), (5, .int s5), (0, .ref 0), (1, .int (nI W)), (2, .int set), (3, .int may)]) (stk' := []) (mem' := fm g tp bt a b) (by intro _ _ _; eq_refl) ?_
              rw [show ((nI c) + 1 : Int32) = nI (c + 1) from by simp only [show (1 : Int32) = nI 1 from rfl, nI_add, fm_mul]]
              refine fe_s 1 (pc' := fx_to 212 (-70)) (lc' := [(7, .int (nI (c + 1))), (6, .int old), (4, .int (nI 9)), (5, .int s5), (0, .ref 0), (1, .int (nI W)), (2, .int set), (3, .int may)]) (stk' := []) (mem' := fm g tp bt a b) (by intro _ _ _; eq_refl) ?_
              rw [show fx_to 212 (-70) = 142 from by decide]
              refine fe_w (lc' := [(7, .int (nI (c + 1))), (6, .int old), (4, .int (nI 9)), (5, .int s5), (0, .ref 0), (1, .int (nI W)), (2, .int set), (3, .int may)]) ⟨rfl, rfl, rfl, rfl, rfl, rfl, rfl, rfl, trivial⟩ (by show List.Nodup [7, 6, 4, 5, 0, 1, 2, 3]; decide) (by show List.Nodup [7, 6, 4, 5, 0, 1, 2, 3]; decide) ?_
              exact ihr (c + 1) (by omega) (by omega) _ _
      refine fe_s 1 (pc' := 107) (lc' := [(4, .int (nI 9)), (5, .int sn), (0, .ref 0), (1, .int (nI W)), (2, .int set), (3, .int may)]) (stk' := [.int (nI 9)]) (mem' := fm g tp bt a b) (by intro _ _ _; eq_refl) ?_
      refine fe_s 1 (pc' := cond (fx_cb .lt (nI 9) 0) 299 110) (lc' := [(4, .int (nI 9)), (5, .int sn), (0, .ref 0), (1, .int (nI W)), (2, .int set), (3, .int may)]) (stk' := []) (mem' := fm g tp bt a b) (by intro _ _ _; eq_refl) ?_
      rw [show (fx_cb .lt (nI 9) 0) = false from cb_ltF (a := 9) (b := 0) (by omega) (by omega) (by omega)]
      dsimp only [cond]
      refine fe_s 3 (pc' := 116) (lc' := [(4, .int (nI 9)), (5, .int sn), (0, .ref 0), (1, .int (nI W)), (2, .int set), (3, .int may)]) (stk' := [.int (nI 9), .ref 16]) (mem' := fm g tp bt a b) (by intro _ _ _; eq_refl) ?_
      refine fe_ldI (by rfl) (by rfl) (fx_inN (i := 9) (by omega) (by omega)) ?_
      rw [show Int32.toNatClampNeg (nI 9) = 9 from rfl]
      rcases hrow with ⟨hd0, er⟩ | ⟨e, hde, er⟩
      · rw [er]
        refine fe_s 3 (pc' := 122) (lc' := [(6, .int (-1)), (4, .int (nI 9)), (5, .int sn), (0, .ref 0), (1, .int (nI W)), (2, .int set), (3, .int may)]) (stk' := [.int (-1), .int (-1)]) (mem' := fm g tp bt a b) (by intro _ _ _; eq_refl) ?_
        refine fe_s 1 (pc' := cond (fx_cb .eq (-1) (-1)) 136 125) (lc' := [(6, .int (-1)), (4, .int (nI 9)), (5, .int sn), (0, .ref 0), (1, .int (nI W)), (2, .int set), (3, .int may)]) (stk' := []) (mem' := fm g tp bt a b) (by intro _ _ _; eq_refl) ?_
        rw [show (fx_cb .eq (-1) (-1)) = true from by decide]
        dsimp only [cond]
        refine fe_s 4 (pc' := 142) (lc' := [(7, .int ((-1) + 1)), (6, .int (-1)), (4, .int (nI 9)), (5, .int sn), (0, .ref 0), (1, .int (nI W)), (2, .int set), (3, .int may)]) (stk' := []) (mem' := fm g tp bt a b) (by intro _ _ _; eq_refl) ?_
        rw [show ((-1) + 1 : Int32) = 0 from rfl]
        refine fe_w (lc' := [(7, .int 0), (6, .int (-1)), (4, .int (nI 9)), (5, .int sn), (0, .ref 0), (1, .int (nI W)), (2, .int set), (3, .int may)]) ⟨rfl, rfl, rfl, rfl, rfl, rfl, rfl, rfl, trivial⟩ (by show List.Nodup [7, 6, 4, 5, 0, 1, 2, 3]; decide) (by show List.Nodup [7, 6, 4, 5, 0, 1, 2, 3]; decide) ?_
        exact l142 (NC - (0)) (0) (by omega) (by omega) _ _
      · rw [er]
        refine fe_s 3 (pc' := 122) (lc' := [(6, .int (nI e)), (4, .int (nI 9)), (5, .int sn), (0, .ref 0), (1, .int (nI W)), (2, .int set), (3, .int may)]) (stk' := [.int (-1), .int (nI e)]) (mem' := fm g tp bt a b) (by intro _ _ _; eq_refl) ?_
        refine fe_s 1 (pc' := cond (fx_cb .eq (nI e) (-1)) 136 125) (lc' := [(6, .int (nI e)), (4, .int (nI 9)), (5, .int sn), (0, .ref 0), (1, .int (nI W)), (2, .int set), (3, .int may)]) (stk' := []) (mem' := fm g tp bt a b) (by intro _ _ _; eq_refl) ?_
        rw [show (fx_cb .eq (nI e) (-1)) = false from cb_n_eq (by omega) (by decide)]
        dsimp only [cond]
        refine fe_s 12 (pc' := 142) (lc' := [(7, .int ((nI e) + 1)), (5, .int (sn &&& (((1 : Int32) <<< ((nI e) &&& 31)) ^^^ (-1)))), (6, .int (nI e)), (4, .int (nI 9)), (0, .ref 0), (1, .int (nI W)), (2, .int set), (3, .int may)]) (stk' := []) (mem' := fm g tp bt a b) (by intro _ _ _; eq_refl) ?_
        rw [show ((nI e) + 1 : Int32) = nI (e + 1) from by simp only [show (1 : Int32) = nI 1 from rfl, nI_add, fm_mul]]
        refine fe_w (lc' := [(7, .int (nI (e + 1))), (6, .int (nI e)), (4, .int (nI 9)), (5, .int (sn &&& (((1 : Int32) <<< ((nI e) &&& 31)) ^^^ (-1)))), (0, .ref 0), (1, .int (nI W)), (2, .int set), (3, .int may)]) ⟨rfl, rfl, rfl, rfl, rfl, rfl, rfl, rfl, trivial⟩ (by show List.Nodup [7, 6, 4, 5, 0, 1, 2, 3]; decide) (by show List.Nodup [7, 5, 6, 4, 0, 1, 2, 3]; decide) ?_
        exact l142 (NC - (e + 1)) (e + 1) (by omega) (by omega) _ _
  | succ n ihn =>
    intro p hp m
    induction m with
    | zero => intro d hd hdN; exfalso; omega
    | succ m ihm =>
      intro d hd hdN a sn hD hpre hrow hK
      have hNW := fm_B_0 hB (i := 1) (n := 8) (by decide) rfl
      have at215 : ∀ (c : Nat) (old s5 : Int32), d ≤ c → c ≤ NC → fe_R 8 gk_m349 215 [(7, .int (nI c)), (6, .int old), (4, .int (nI p)), (5, .int s5), (0, .ref 0), (1, .int (nI W)), (2, .int set), (3, .int may)] [] (fm g tp bt a b) (fun R => ∃ v : Int32, (v = 0 ∨ v = 1) ∧ ∃ a' : Nat → Nat → Int32, fm_D a0 a' T ∧ R = (some (.int v), fm g tp bt a' b)) := by
        intro c old s5 hdc hcN
        refine fe_s 4 (pc' := 223) (lc' := [(7, .int (nI c)), (6, .int old), (4, .int (nI p)), (5, .int s5), (0, .ref 0), (1, .int (nI W)), (2, .int set), (3, .int may)]) (stk' := [.int (nI c), .int (nI p), .ref 16]) (mem' := fm g tp bt a b) (by intro _ _ _; eq_refl) ?_
        refine fe_stI (mem' := fm g tp bt (fm_u a 16 (nI p : Int32).toNatClampNeg (nI c)) b) (by rfl) (by rfl) (fx_inN (i := p) (by omega) (by omega)) fm_si16 ?_
        rw [show Int32.toNatClampNeg (nI p) = p from nI_clamp (by omega)]
        obtain ⟨t110, ht110⟩ : ∃ z, z = fm_u a 16 (p) (nI c) := ⟨_, rfl⟩
        rw [← ht110]
        have hDt110 : fm_D a0 t110 T := by rw [ht110]; exact fm_D_ot hD (by decide) (by decide) rfl
        refine fe_s 4 (pc' := 231) (lc' := [(7, .int (nI c)), (6, .int old), (4, .int (nI p)), (5, .int s5), (0, .ref 0), (1, .int (nI W)), (2, .int set), (3, .int may)]) (stk' := [.int 0, .ref 1, .int (nI c)]) (mem' := fm g tp bt t110 b) (by intro _ _ _; eq_refl) ?_
        refine fe_ldI (by rfl) (by rfl) (fx_inN (i := 0) (by omega) (by omega)) ?_
        rw [show Int32.toNatClampNeg (0) = 0 from rfl]
        rw [show t110 1 0 = nI NC from (fm_D_h hDt110 (by decide) rfl).trans eNC]
        refine fe_s 1 (pc' := cond (fx_cb .ne (nI c) (nI NC)) 241 235) (lc' := [(7, .int (nI c)), (6, .int old), (4, .int (nI p)), (5, .int s5), (0, .ref 0), (1, .int (nI W)), (2, .int set), (3, .int may)]) (stk' := []) (mem' := fm g tp bt t110 b) (by intro _ _ _; eq_refl) ?_
        by_cases h111 : c = NC
        · rw [show (fx_cb .ne (nI c) (nI NC)) = false from cb_neF (a := c) (b := NC) (by omega) (by omega) (by omega)]
          dsimp only [cond]
          refine fe_s 1 (pc' := 238) (lc' := [(4, .int ((nI p) + (-1))), (7, .int (nI c)), (6, .int old), (5, .int s5), (0, .ref 0), (1, .int (nI W)), (2, .int set), (3, .int may)]) (stk' := []) (mem' := fm g tp bt t110 b) (by intro _ _ _; eq_refl) ?_
          refine fe_s 1 (pc' := fx_to 238 (-133)) (lc' := [(4, .int ((nI p) + (-1))), (7, .int (nI c)), (6, .int old), (5, .int s5), (0, .ref 0), (1, .int (nI W)), (2, .int set), (3, .int may)]) (stk' := []) (mem' := fm g tp bt t110 b) (by intro _ _ _; eq_refl) ?_
          rw [show fx_to 238 (-133) = 105 from by decide]
          refine fe_w (lc' := [(4, .int ((nI p) + (-1))), (5, .int s5), (0, .ref 0), (1, .int (nI W)), (2, .int set), (3, .int may)]) ⟨rfl, rfl, rfl, rfl, rfl, rfl, trivial⟩ (by show List.Nodup [4, 5, 0, 1, 2, 3]; decide) (by show List.Nodup [4, 7, 6, 5, 0, 1, 2, 3]; decide) ?_
          exact hK _ _ hDt110 (fun i hi => by rw [ht110, fm_us, if_neg (by omega)])
        · rw [show (fx_cb .ne (nI c) (nI NC)) = true from cb_neT (a := c) (b := NC) (by omega) (by omega) (by omega)]
          dsimp only [cond]
          refine fe_s 7 (pc' := 252) (lc' := [(5, .int (s5 ||| ((1 : Int32) <<< ((nI c) &&& 31)))), (7, .int (nI c)), (6, .int old), (4, .int (nI p)), (0, .ref 0), (1, .int (nI W)), (2, .int set), (3, .int may)]) (stk' := [.int (nI p)]) (mem' := fm g tp bt t110 b) (by intro _ _ _; eq_refl) ?_
          refine fe_s 1 (pc' := cond (fx_cb .le (nI p) 0) 275 255) (lc' := [(5, .int (s5 ||| ((1 : Int32) <<< ((nI c) &&& 31)))), (7, .int (nI c)), (6, .int old), (4, .int (nI p)), (0, .ref 0), (1, .int (nI W)), (2, .int set), (3, .int may)]) (stk' := []) (mem' := fm g tp bt t110 b) (by intro _ _ _; eq_refl) ?_
          by_cases h112 : p ≤ 0
          · rw [show (fx_cb .le (nI p) 0) = true from cb_leT (a := p) (b := 0) (by omega) (by omega) (by omega)]
            dsimp only [cond]
            refine fe_s 2 (pc' := 279) (lc' := [(5, .int (s5 ||| ((1 : Int32) <<< ((nI c) &&& 31)))), (7, .int (nI c)), (6, .int old), (4, .int (nI p)), (0, .ref 0), (1, .int (nI W)), (2, .int set), (3, .int may)]) (stk' := [.int 9, .int (nI p)]) (mem' := fm g tp bt t110 b) (by intro _ _ _; eq_refl) ?_
            refine fe_s 1 (pc' := cond (fx_cb .ne (nI p) 9) 285 282) (lc' := [(5, .int (s5 ||| ((1 : Int32) <<< ((nI c) &&& 31)))), (7, .int (nI c)), (6, .int old), (4, .int (nI p)), (0, .ref 0), (1, .int (nI W)), (2, .int set), (3, .int may)]) (stk' := []) (mem' := fm g tp bt t110 b) (by intro _ _ _; eq_refl) ?_
            rw [show (fx_cb .ne (nI p) 9) = true from cb_neT (a := p) (b := 9) (by omega) (by omega) (by omega)]
            dsimp only [cond]
            refine fe_s 5 (pc' := 295) (lc' := [(4, .int ((nI p) + 1)), (5, .int (s5 ||| ((1 : Int32) <<< ((nI c) &&& 31)))), (7, .int (nI c)), (6, .int old), (0, .ref 0), (1, .int (nI W)), (2, .int set), (3, .int may)]) (stk' := [.int (-1), .int ((nI p) + 1), .ref 16]) (mem' := fm g tp bt t110 b) (by intro _ _ _; eq_refl) ?_
            rw [show ((nI p) + 1 : Int32) = nI (p + 1) from by simp only [show (1 : Int32) = nI 1 from rfl, nI_add, fm_mul]]
            refine fe_stI (mem' := fm g tp bt (fm_u t110 16 (nI (p + 1) : Int32).toNatClampNeg (-1)) b) (by rfl) (by rfl) (fx_inN (i := p + 1) (by omega) (by omega)) fm_si16 ?_
            rw [show Int32.toNatClampNeg (nI (p + 1)) = p + 1 from nI_clamp (by omega)]
            obtain ⟨t113, ht113⟩ : ∃ z, z = fm_u t110 16 (p + 1) (-1) := ⟨_, rfl⟩
            rw [← ht113]
            have hDt113 : fm_D a0 t113 T := by rw [ht113]; exact fm_D_ot hDt110 (by decide) (by decide) rfl
            refine fe_s 1 (pc' := fx_to 296 (-191)) (lc' := [(4, .int (nI (p + 1))), (5, .int (s5 ||| ((1 : Int32) <<< ((nI c) &&& 31)))), (7, .int (nI c)), (6, .int old), (0, .ref 0), (1, .int (nI W)), (2, .int set), (3, .int may)]) (stk' := []) (mem' := fm g tp bt t113 b) (by intro _ _ _; eq_refl) ?_
            rw [show fx_to 296 (-191) = 105 from by decide]
            refine fe_w (lc' := [(4, .int (nI (p + 1))), (5, .int (s5 ||| ((1 : Int32) <<< ((nI c) &&& 31)))), (0, .ref 0), (1, .int (nI W)), (2, .int set), (3, .int may)]) ⟨rfl, rfl, rfl, rfl, rfl, rfl, trivial⟩ (by show List.Nodup [4, 5, 0, 1, 2, 3]; decide) (by show List.Nodup [4, 5, 7, 6, 0, 1, 2, 3]; decide) ?_
            refine ihn (p + 1) (by omega) 11 0 (by omega) (by omega) _ _ hDt113 (fun i hi => ?_) (Or.inl ⟨rfl, by rw [ht113, fm_us, if_pos rfl]⟩) (fun a2 s2 h2 h3 => ?_)
            · rw [ht113, fm_us, if_neg (by omega), ht110, fm_us]
              by_cases e : i = p
              · rw [if_pos e]; exact ⟨c, by omega, rfl⟩
              · rw [if_neg e]; exact hpre i (by omega)
            · rw [nI_dec]
              have hv : ∀ i, i < p → a2 16 i = a 16 i := fun i hi => by rw [h3 i (by omega), ht113, fm_us, if_neg (by omega), ht110, fm_us, if_neg (by omega)]
              exact ihm (c + 1) (by omega) (by omega) a2 s2 h2 (fun i hi => by rw [hv i hi]; exact hpre i hi) (Or.inr ⟨c, rfl, by rw [h3 p (by omega), ht113, fm_us, if_neg (by omega), ht110, fm_us, if_pos rfl]⟩) (fun a4 s4 h4 h5 => hK a4 s4 h4 (fun i hi => by rw [h5 i hi, hv i hi]))
          · rw [show (fx_cb .le (nI p) 0) = false from cb_leF (a := p) (b := 0) (by omega) (by omega) (by omega)]
            dsimp only [cond]
            refine fe_s 2 (pc' := 258) (lc' := [(5, .int (s5 ||| ((1 : Int32) <<< ((nI c) &&& 31)))), (7, .int (nI c)), (6, .int old), (4, .int (nI p)), (0, .ref 0), (1, .int (nI W)), (2, .int set), (3, .int may)]) (stk' := [.int (nI c), .ref 0]) (mem' := fm g tp bt t110 b) (by intro _ _ _; eq_refl) ?_
            obtain ⟨v114, z115, hv114⟩ := fq_isShore (C := c) (g := g) (tp := tp) (bt := bt) (a := t110) (b := b) (by omega)
            refine fe_ivV hv114 (by omega) (by rfl) (by rfl) (by rfl) (by rfl) (by rfl) (by rfl) ?_
            rcases z115 with rfl | rfl
            · refine fe_s 1 (pc' := cond (fx_cb .eq 0 0) 275 264) (lc' := [(5, .int (s5 ||| ((1 : Int32) <<< ((nI c) &&& 31)))), (7, .int (nI c)), (6, .int old), (4, .int (nI p)), (0, .ref 0), (1, .int (nI W)), (2, .int set), (3, .int may)]) (stk' := []) (mem' := fm g tp bt t110 b) (by intro _ _ _; eq_refl) ?_
              rw [show (fx_cb .eq 0 0) = true from by decide]
              dsimp only [cond]
              refine fe_s 2 (pc' := 279) (lc' := [(5, .int (s5 ||| ((1 : Int32) <<< ((nI c) &&& 31)))), (7, .int (nI c)), (6, .int old), (4, .int (nI p)), (0, .ref 0), (1, .int (nI W)), (2, .int set), (3, .int may)]) (stk' := [.int 9, .int (nI p)]) (mem' := fm g tp bt t110 b) (by intro _ _ _; eq_refl) ?_
              refine fe_s 1 (pc' := cond (fx_cb .ne (nI p) 9) 285 282) (lc' := [(5, .int (s5 ||| ((1 : Int32) <<< ((nI c) &&& 31)))), (7, .int (nI c)), (6, .int old), (4, .int (nI p)), (0, .ref 0), (1, .int (nI W)), (2, .int set), (3, .int may)]) (stk' := []) (mem' := fm g tp bt t110 b) (by intro _ _ _; eq_refl) ?_
              rw [show (fx_cb .ne (nI p) 9) = true from cb_neT (a := p) (b := 9) (by omega) (by omega) (by omega)]
              dsimp only [cond]
              refine fe_s 5 (pc' := 295) (lc' := [(4, .int ((nI p) + 1)), (5, .int (s5 ||| ((1 : Int32) <<< ((nI c) &&& 31)))), (7, .int (nI c)), (6, .int old), (0, .ref 0), (1, .int (nI W)), (2, .int set), (3, .int may)]) (stk' := [.int (-1), .int ((nI p) + 1), .ref 16]) (mem' := fm g tp bt t110 b) (by intro _ _ _; eq_refl) ?_
              rw [show ((nI p) + 1 : Int32) = nI (p + 1) from by simp only [show (1 : Int32) = nI 1 from rfl, nI_add, fm_mul]]
              refine fe_stI (mem' := fm g tp bt (fm_u t110 16 (nI (p + 1) : Int32).toNatClampNeg (-1)) b) (by rfl) (by rfl) (fx_inN (i := p + 1) (by omega) (by omega)) fm_si16 ?_
              rw [show Int32.toNatClampNeg (nI (p + 1)) = p + 1 from nI_clamp (by omega)]
              obtain ⟨t116, ht116⟩ : ∃ z, z = fm_u t110 16 (p + 1) (-1) := ⟨_, rfl⟩
              rw [← ht116]
              have hDt116 : fm_D a0 t116 T := by rw [ht116]; exact fm_D_ot hDt110 (by decide) (by decide) rfl
              refine fe_s 1 (pc' := fx_to 296 (-191)) (lc' := [(4, .int (nI (p + 1))), (5, .int (s5 ||| ((1 : Int32) <<< ((nI c) &&& 31)))), (7, .int (nI c)), (6, .int old), (0, .ref 0), (1, .int (nI W)), (2, .int set), (3, .int may)]) (stk' := []) (mem' := fm g tp bt t116 b) (by intro _ _ _; eq_refl) ?_
              rw [show fx_to 296 (-191) = 105 from by decide]
              refine fe_w (lc' := [(4, .int (nI (p + 1))), (5, .int (s5 ||| ((1 : Int32) <<< ((nI c) &&& 31)))), (0, .ref 0), (1, .int (nI W)), (2, .int set), (3, .int may)]) ⟨rfl, rfl, rfl, rfl, rfl, rfl, trivial⟩ (by show List.Nodup [4, 5, 0, 1, 2, 3]; decide) (by show List.Nodup [4, 5, 7, 6, 0, 1, 2, 3]; decide) ?_
              refine ihn (p + 1) (by omega) 11 0 (by omega) (by omega) _ _ hDt116 (fun i hi => ?_) (Or.inl ⟨rfl, by rw [ht116, fm_us, if_pos rfl]⟩) (fun a2 s2 h2 h3 => ?_)
              · rw [ht116, fm_us, if_neg (by omega), ht110, fm_us]
                by_cases e : i = p
                · rw [if_pos e]; exact ⟨c, by omega, rfl⟩
                · rw [if_neg e]; exact hpre i (by omega)
              · rw [nI_dec]
                have hv : ∀ i, i < p → a2 16 i = a 16 i := fun i hi => by rw [h3 i (by omega), ht116, fm_us, if_neg (by omega), ht110, fm_us, if_neg (by omega)]
                exact ihm (c + 1) (by omega) (by omega) a2 s2 h2 (fun i hi => by rw [hv i hi]; exact hpre i hi) (Or.inr ⟨c, rfl, by rw [h3 p (by omega), ht116, fm_us, if_neg (by omega), ht110, fm_us, if_pos rfl]⟩) (fun a4 s4 h4 h5 => hK a4 s4 h4 (fun i hi => by rw [h5 i hi, hv i hi]))
            · refine fe_s 1 (pc' := cond (fx_cb .eq 1 0) 275 264) (lc' := [(5, .int (s5 ||| ((1 : Int32) <<< ((nI c) &&& 31)))), (7, .int (nI c)), (6, .int old), (4, .int (nI p)), (0, .ref 0), (1, .int (nI W)), (2, .int set), (3, .int may)]) (stk' := []) (mem' := fm g tp bt t110 b) (by intro _ _ _; eq_refl) ?_
              rw [show (fx_cb .eq 1 0) = false from by decide]
              dsimp only [cond]
              refine fe_s 5 (pc' := 270) (lc' := [(5, .int (s5 ||| ((1 : Int32) <<< ((nI c) &&& 31)))), (7, .int (nI c)), (6, .int old), (4, .int (nI p)), (0, .ref 0), (1, .int (nI W)), (2, .int set), (3, .int may)]) (stk' := [.int (set &&& ((s5 ||| ((1 : Int32) <<< ((nI c) &&& 31))) ^^^ (-1)))]) (mem' := fm g tp bt t110 b) (by intro _ _ _; eq_refl) ?_
              refine fe_s 1 (pc' := cond (fx_cb .ne (set &&& ((s5 ||| ((1 : Int32) <<< ((nI c) &&& 31))) ^^^ (-1))) 0) 275 273) (lc' := [(5, .int (s5 ||| ((1 : Int32) <<< ((nI c) &&& 31)))), (7, .int (nI c)), (6, .int old), (4, .int (nI p)), (0, .ref 0), (1, .int (nI W)), (2, .int set), (3, .int may)]) (stk' := []) (mem' := fm g tp bt t110 b) (by intro _ _ _; eq_refl) ?_
              cases h117 : fx_cb .ne (set &&& ((s5 ||| ((1 : Int32) <<< ((nI c) &&& 31))) ^^^ (-1))) 0
              · refine fe_s 1 (pc' := 274) (lc' := [(5, .int (s5 ||| ((1 : Int32) <<< ((nI c) &&& 31)))), (7, .int (nI c)), (6, .int old), (4, .int (nI p)), (0, .ref 0), (1, .int (nI W)), (2, .int set), (3, .int may)]) (stk' := [.int 1]) (mem' := fm g tp bt t110 b) (by intro _ _ _; eq_refl) ?_
                exact fe_ret ⟨_, Or.inr rfl, _, hDt110, rfl⟩ (by rfl) (by rfl) (by rfl)
              · refine fe_s 2 (pc' := 279) (lc' := [(5, .int (s5 ||| ((1 : Int32) <<< ((nI c) &&& 31)))), (7, .int (nI c)), (6, .int old), (4, .int (nI p)), (0, .ref 0), (1, .int (nI W)), (2, .int set), (3, .int may)]) (stk' := [.int 9, .int (nI p)]) (mem' := fm g tp bt t110 b) (by intro _ _ _; eq_refl) ?_
                refine fe_s 1 (pc' := cond (fx_cb .ne (nI p) 9) 285 282) (lc' := [(5, .int (s5 ||| ((1 : Int32) <<< ((nI c) &&& 31)))), (7, .int (nI c)), (6, .int old), (4, .int (nI p)), (0, .ref 0), (1, .int (nI W)), (2, .int set), (3, .int may)]) (stk' := []) (mem' := fm g tp bt t110 b) (by intro _ _ _; eq_refl) ?_
                rw [show (fx_cb .ne (nI p) 9) = true from cb_neT (a := p) (b := 9) (by omega) (by omega) (by omega)]
                dsimp only [cond]
                refine fe_s 5 (pc' := 295) (lc' := [(4, .int ((nI p) + 1)), (5, .int (s5 ||| ((1 : Int32) <<< ((nI c) &&& 31)))), (7, .int (nI c)), (6, .int old), (0, .ref 0), (1, .int (nI W)), (2, .int set), (3, .int may)]) (stk' := [.int (-1), .int ((nI p) + 1), .ref 16]) (mem' := fm g tp bt t110 b) (by intro _ _ _; eq_refl) ?_
                rw [show ((nI p) + 1 : Int32) = nI (p + 1) from by simp only [show (1 : Int32) = nI 1 from rfl, nI_add, fm_mul]]
                refine fe_stI (mem' := fm g tp bt (fm_u t110 16 (nI (p + 1) : Int32).toNatClampNeg (-1)) b) (by rfl) (by rfl) (fx_inN (i := p + 1) (by omega) (by omega)) fm_si16 ?_
                rw [show Int32.toNatClampNeg (nI (p + 1)) = p + 1 from nI_clamp (by omega)]
                obtain ⟨t118, ht118⟩ : ∃ z, z = fm_u t110 16 (p + 1) (-1) := ⟨_, rfl⟩
                rw [← ht118]
                have hDt118 : fm_D a0 t118 T := by rw [ht118]; exact fm_D_ot hDt110 (by decide) (by decide) rfl
                refine fe_s 1 (pc' := fx_to 296 (-191)) (lc' := [(4, .int (nI (p + 1))), (5, .int (s5 ||| ((1 : Int32) <<< ((nI c) &&& 31)))), (7, .int (nI c)), (6, .int old), (0, .ref 0), (1, .int (nI W)), (2, .int set), (3, .int may)]) (stk' := []) (mem' := fm g tp bt t118 b) (by intro _ _ _; eq_refl) ?_
                rw [show fx_to 296 (-191) = 105 from by decide]
                refine fe_w (lc' := [(4, .int (nI (p + 1))), (5, .int (s5 ||| ((1 : Int32) <<< ((nI c) &&& 31)))), (0, .ref 0), (1, .int (nI W)), (2, .int set), (3, .int may)]) ⟨rfl, rfl, rfl, rfl, rfl, rfl, trivial⟩ (by show List.Nodup [4, 5, 0, 1, 2, 3]; decide) (by show List.Nodup [4, 5, 7, 6, 0, 1, 2, 3]; decide) ?_
                refine ihn (p + 1) (by omega) 11 0 (by omega) (by omega) _ _ hDt118 (fun i hi => ?_) (Or.inl ⟨rfl, by rw [ht118, fm_us, if_pos rfl]⟩) (fun a2 s2 h2 h3 => ?_)
                · rw [ht118, fm_us, if_neg (by omega), ht110, fm_us]
                  by_cases e : i = p
                  · rw [if_pos e]; exact ⟨c, by omega, rfl⟩
                  · rw [if_neg e]; exact hpre i (by omega)
                · rw [nI_dec]
                  have hv : ∀ i, i < p → a2 16 i = a 16 i := fun i hi => by rw [h3 i (by omega), ht118, fm_us, if_neg (by omega), ht110, fm_us, if_neg (by omega)]
                  exact ihm (c + 1) (by omega) (by omega) a2 s2 h2 (fun i hi => by rw [hv i hi]; exact hpre i hi) (Or.inr ⟨c, rfl, by rw [h3 p (by omega), ht118, fm_us, if_neg (by omega), ht110, fm_us, if_pos rfl]⟩) (fun a4 s4 h4 h5 => hK a4 s4 h4 (fun i hi => by rw [h5 i hi, hv i hi]))
      have l142 : ∀ (r c : Nat), c + r = NC → d ≤ c → ∀ (old s5 : Int32), fe_R 8 gk_m349 142 [(7, .int (nI c)), (6, .int old), (4, .int (nI p)), (5, .int s5), (0, .ref 0), (1, .int (nI W)), (2, .int set), (3, .int may)] [] (fm g tp bt a b) (fun R => ∃ v : Int32, (v = 0 ∨ v = 1) ∧ ∃ a' : Nat → Nat → Int32, fm_D a0 a' T ∧ R = (some (.int v), fm g tp bt a' b)) := by
        intro r
        induction r with
        | zero =>
          intro c hc hdc old s5
          obtain rfl : NC = c := by omega
          refine fe_s 4 (pc' := 149) (lc' := [(7, .int (nI NC)), (6, .int old), (4, .int (nI p)), (5, .int s5), (0, .ref 0), (1, .int (nI W)), (2, .int set), (3, .int may)]) (stk' := [.int 0, .ref 1, .int (nI NC)]) (mem' := fm g tp bt a b) (by intro _ _ _; eq_refl) ?_
          refine fe_ldI (by rfl) (by rfl) (fx_inN (i := 0) (by omega) (by omega)) ?_
          rw [show Int32.toNatClampNeg (0) = 0 from rfl]
          rw [show a 1 0 = nI NC from (fm_D_h hD (by decide) rfl).trans eNC]
          refine fe_s 1 (pc' := cond (fx_cb .ge (nI NC) (nI NC)) 215 153) (lc' := [(7, .int (nI NC)), (6, .int old), (4, .int (nI p)), (5, .int s5), (0, .ref 0), (1, .int (nI W)), (2, .int set), (3, .int may)]) (stk' := []) (mem' := fm g tp bt a b) (by intro _ _ _; eq_refl) ?_
          rw [show (fx_cb .ge (nI NC) (nI NC)) = true from cb_geT (a := NC) (b := NC) (by omega) (by omega) (by omega)]
          dsimp only [cond]
          refine fe_w (lc' := [(7, .int (nI NC)), (6, .int old), (4, .int (nI p)), (5, .int s5), (0, .ref 0), (1, .int (nI W)), (2, .int set), (3, .int may)]) ⟨rfl, rfl, rfl, rfl, rfl, rfl, rfl, rfl, trivial⟩ (by show List.Nodup [7, 6, 4, 5, 0, 1, 2, 3]; decide) (by show List.Nodup [7, 6, 4, 5, 0, 1, 2, 3]; decide) ?_
          exact at215 NC _ _ (by omega) (by omega)
        | succ r ihr =>
          intro c hc hdc old s5
          have hcl : c < NC := by omega
          refine fe_s 4 (pc' := 149) (lc' := [(7, .int (nI c)), (6, .int old), (4, .int (nI p)), (5, .int s5), (0, .ref 0), (1, .int (nI W)), (2, .int set), (3, .int may)]) (stk' := [.int 0, .ref 1, .int (nI c)]) (mem' := fm g tp bt a b) (by intro _ _ _; eq_refl) ?_
          refine fe_ldI (by rfl) (by rfl) (fx_inN (i := 0) (by omega) (by omega)) ?_
          rw [show Int32.toNatClampNeg (0) = 0 from rfl]
          rw [show a 1 0 = nI NC from (fm_D_h hD (by decide) rfl).trans eNC]
          refine fe_s 1 (pc' := cond (fx_cb .ge (nI c) (nI NC)) 215 153) (lc' := [(7, .int (nI c)), (6, .int old), (4, .int (nI p)), (5, .int s5), (0, .ref 0), (1, .int (nI W)), (2, .int set), (3, .int may)]) (stk' := []) (mem' := fm g tp bt a b) (by intro _ _ _; eq_refl) ?_
          rw [show (fx_cb .ge (nI c) (nI NC)) = false from cb_geF (a := c) (b := NC) (by omega) (by omega) (by omega)]
          dsimp only [cond]
          refine fe_s 3 (pc' := 157) (lc' := [(7, .int (nI c)), (6, .int old), (4, .int (nI p)), (5, .int s5), (0, .ref 0), (1, .int (nI W)), (2, .int set), (3, .int may)]) (stk' := [.int (nI c), .int may, .ref 0]) (mem' := fm g tp bt a b) (by intro _ _ _; eq_refl) ?_
          refine fe_ivV fr_isIn (by omega) (by rfl) (by rfl) (by rfl) (by rfl) (by rfl) (by rfl) ?_
          rcases fm_b_01 may (nI c) with q119 | q119
          · rw [q119]
            refine fe_s 1 (pc' := cond (fx_cb .eq 0 0) 209 163) (lc' := [(7, .int (nI c)), (6, .int old), (4, .int (nI p)), (5, .int s5), (0, .ref 0), (1, .int (nI W)), (2, .int set), (3, .int may)]) (stk' := []) (mem' := fm g tp bt a b) (by intro _ _ _; eq_refl) ?_
            rw [show (fx_cb .eq 0 0) = true from by decide]
            dsimp only [cond]
            refine fe_s 1 (pc' := 212) (lc' := [(7, .int ((nI c) + 1)), (6, .int old), (4, .int (nI p)), (5, .int s5), (0, .ref 0), (1, .int (nI W)), (2, .int set), (3, .int may)]) (stk' := []) (mem' := fm g tp bt a b) (by intro _ _ _; eq_refl) ?_
            rw [show ((nI c) + 1 : Int32) = nI (c + 1) from by simp only [show (1 : Int32) = nI 1 from rfl, nI_add, fm_mul]]
            refine fe_s 1 (pc' := fx_to 212 (-70)) (lc' := [(7, .int (nI (c + 1))), (6, .int old), (4, .int (nI p)), (5, .int s5), (0, .ref 0), (1, .int (nI W)), (2, .int set), (3, .int may)]) (stk' := []) (mem' := fm g tp bt a b) (by intro _ _ _; eq_refl) ?_
            rw [show fx_to 212 (-70) = 142 from by decide]
            refine fe_w (lc' := [(7, .int (nI (c + 1))), (6, .int old), (4, .int (nI p)), (5, .int s5), (0, .ref 0), (1, .int (nI W)), (2, .int set), (3, .int may)]) ⟨rfl, rfl, rfl, rfl, rfl, rfl, rfl, rfl, trivial⟩ (by show List.Nodup [7, 6, 4, 5, 0, 1, 2, 3]; decide) (by show List.Nodup [7, 6, 4, 5, 0, 1, 2, 3]; decide) ?_
            exact ihr (c + 1) (by omega) (by omega) _ _
          · rw [q119]
            refine fe_s 1 (pc' := cond (fx_cb .eq 1 0) 209 163) (lc' := [(7, .int (nI c)), (6, .int old), (4, .int (nI p)), (5, .int s5), (0, .ref 0), (1, .int (nI W)), (2, .int set), (3, .int may)]) (stk' := []) (mem' := fm g tp bt a b) (by intro _ _ _; eq_refl) ?_
            rw [show (fx_cb .eq 1 0) = false from by decide]
            dsimp only [cond]
            refine fe_s 3 (pc' := 168) (lc' := [(7, .int (nI c)), (6, .int old), (4, .int (nI p)), (5, .int s5), (0, .ref 0), (1, .int (nI W)), (2, .int set), (3, .int may)]) (stk' := [.int (nI c), .int s5, .ref 0]) (mem' := fm g tp bt a b) (by intro _ _ _; eq_refl) ?_
            refine fe_ivV fr_isIn (by omega) (by rfl) (by rfl) (by rfl) (by rfl) (by rfl) (by rfl) ?_
            rcases fm_b_01 s5 (nI c) with q120 | q120
            · rw [q120]
              refine fe_s 1 (pc' := cond (fx_cb .ne 0 0) 209 174) (lc' := [(7, .int (nI c)), (6, .int old), (4, .int (nI p)), (5, .int s5), (0, .ref 0), (1, .int (nI W)), (2, .int set), (3, .int may)]) (stk' := []) (mem' := fm g tp bt a b) (by intro _ _ _; eq_refl) ?_
              rw [show (fx_cb .ne 0 0) = false from by decide]
              dsimp only [cond]
              refine fe_s 1 (pc' := 176) (lc' := [(7, .int (nI c)), (6, .int old), (4, .int (nI p)), (5, .int s5), (0, .ref 0), (1, .int (nI W)), (2, .int set), (3, .int may)]) (stk' := [.int (nI p)]) (mem' := fm g tp bt a b) (by intro _ _ _; eq_refl) ?_
              refine fe_s 1 (pc' := cond (fx_cb .ne (nI p) 0) 191 179) (lc' := [(7, .int (nI c)), (6, .int old), (4, .int (nI p)), (5, .int s5), (0, .ref 0), (1, .int (nI W)), (2, .int set), (3, .int may)]) (stk' := []) (mem' := fm g tp bt a b) (by intro _ _ _; eq_refl) ?_
              by_cases h121 : p = 0
              · rw [show (fx_cb .ne (nI p) 0) = false from cb_neF (a := p) (b := 0) (by omega) (by omega) (by omega)]
                dsimp only [cond]
                refine fe_s 2 (pc' := 182) (lc' := [(7, .int (nI c)), (6, .int old), (4, .int (nI p)), (5, .int s5), (0, .ref 0), (1, .int (nI W)), (2, .int set), (3, .int may)]) (stk' := [.int (nI c), .ref 0]) (mem' := fm g tp bt a b) (by intro _ _ _; eq_refl) ?_
                obtain ⟨v122, z123, hv122⟩ := fq_isShore (C := c) (g := g) (tp := tp) (bt := bt) (a := a) (b := b) (by omega)
                refine fe_ivV hv122 (by omega) (by rfl) (by rfl) (by rfl) (by rfl) (by rfl) (by rfl) ?_
                rcases z123 with rfl | rfl
                · refine fe_s 1 (pc' := cond (fx_cb .ne 0 0) 215 188) (lc' := [(7, .int (nI c)), (6, .int old), (4, .int (nI p)), (5, .int s5), (0, .ref 0), (1, .int (nI W)), (2, .int set), (3, .int may)]) (stk' := []) (mem' := fm g tp bt a b) (by intro _ _ _; eq_refl) ?_
                  rw [show (fx_cb .ne 0 0) = false from by decide]
                  dsimp only [cond]
                  refine fe_s 2 (pc' := 212) (lc' := [(7, .int ((nI c) + 1)), (6, .int old), (4, .int (nI p)), (5, .int s5), (0, .ref 0), (1, .int (nI W)), (2, .int set), (3, .int may)]) (stk' := []) (mem' := fm g tp bt a b) (by intro _ _ _; eq_refl) ?_
                  rw [show ((nI c) + 1 : Int32) = nI (c + 1) from by simp only [show (1 : Int32) = nI 1 from rfl, nI_add, fm_mul]]
                  refine fe_s 1 (pc' := fx_to 212 (-70)) (lc' := [(7, .int (nI (c + 1))), (6, .int old), (4, .int (nI p)), (5, .int s5), (0, .ref 0), (1, .int (nI W)), (2, .int set), (3, .int may)]) (stk' := []) (mem' := fm g tp bt a b) (by intro _ _ _; eq_refl) ?_
                  rw [show fx_to 212 (-70) = 142 from by decide]
                  refine fe_w (lc' := [(7, .int (nI (c + 1))), (6, .int old), (4, .int (nI p)), (5, .int s5), (0, .ref 0), (1, .int (nI W)), (2, .int set), (3, .int may)]) ⟨rfl, rfl, rfl, rfl, rfl, rfl, rfl, rfl, trivial⟩ (by show List.Nodup [7, 6, 4, 5, 0, 1, 2, 3]; decide) (by show List.Nodup [7, 6, 4, 5, 0, 1, 2, 3]; decide) ?_
                  exact ihr (c + 1) (by omega) (by omega) _ _
                · refine fe_s 1 (pc' := cond (fx_cb .ne 1 0) 215 188) (lc' := [(7, .int (nI c)), (6, .int old), (4, .int (nI p)), (5, .int s5), (0, .ref 0), (1, .int (nI W)), (2, .int set), (3, .int may)]) (stk' := []) (mem' := fm g tp bt a b) (by intro _ _ _; eq_refl) ?_
                  rw [show (fx_cb .ne 1 0) = true from by decide]
                  dsimp only [cond]
                  refine fe_w (lc' := [(7, .int (nI c)), (6, .int old), (4, .int (nI p)), (5, .int s5), (0, .ref 0), (1, .int (nI W)), (2, .int set), (3, .int may)]) ⟨rfl, rfl, rfl, rfl, rfl, rfl, rfl, rfl, trivial⟩ (by show List.Nodup [7, 6, 4, 5, 0, 1, 2, 3]; decide) (by show List.Nodup [7, 6, 4, 5, 0, 1, 2, 3]; decide) ?_
                  exact at215 c _ _ (by omega) (by omega)
              · rw [show (fx_cb .ne (nI p) 0) = true from cb_neT (a := p) (b := 0) (by omega) (by omega) (by omega)]
                dsimp only [cond]
                refine fe_s 6 (pc' := 200) (lc' := [(7, .int (nI c)), (6, .int old), (4, .int (nI p)), (5, .int s5), (0, .ref 0), (1, .int (nI W)), (2, .int set), (3, .int may)]) (stk' := [.int ((nI p) - 1), .ref 16, .ref 0]) (mem' := fm g tp bt a b) (by intro _ _ _; eq_refl) ?_
                rw [show ((nI p) - 1 : Int32) = nI (p - 1) from by simp only [show (1 : Int32) = nI 1 from rfl, tg_sub2 (x := p) (y := 1) (by omega), nI_add, fm_mul]]
                refine fe_ldI (by rfl) (by rfl) (fx_inN (i := p - 1) (by omega) (by omega)) ?_
                rw [show Int32.toNatClampNeg (nI (p - 1)) = p - 1 from nI_clamp (by omega)]
                obtain ⟨c124, hc124, ec124⟩ := hpre (p - 1) (by omega)
                rw [ec124]
                refine fe_s 1 (pc' := 203) (lc' := [(7, .int (nI c)), (6, .int old), (4, .int (nI p)), (5, .int s5), (0, .ref 0), (1, .int (nI W)), (2, .int set), (3, .int may)]) (stk' := [.int (nI c), .int (nI c124), .ref 0]) (mem' := fm g tp bt a b) (by intro _ _ _; eq_refl) ?_
                refine fe_ivV (fr_isWay (A := c124) (B := nI c) (g := g) (tp := tp) (bt := bt) (a := a) (b := b) (by omega)) (by omega) (by rfl) (by rfl) (by rfl) (by rfl) (by rfl) (by rfl) ?_
                rcases fm_b_01 (a 1 (10 + 6 * c124)) (nI c) with q125 | q125
                · rw [q125]
                  refine fe_s 1 (pc' := cond (fx_cb .ne 0 0) 215 209) (lc' := [(7, .int (nI c)), (6, .int old), (4, .int (nI p)), (5, .int s5), (0, .ref 0), (1, .int (nI W)), (2, .int set), (3, .int may)]) (stk' := []) (mem' := fm g tp bt a b) (by intro _ _ _; eq_refl) ?_
                  rw [show (fx_cb .ne 0 0) = false from by decide]
                  dsimp only [cond]
                  refine fe_s 1 (pc' := 212) (lc' := [(7, .int ((nI c) + 1)), (6, .int old), (4, .int (nI p)), (5, .int s5), (0, .ref 0), (1, .int (nI W)), (2, .int set), (3, .int may)]) (stk' := []) (mem' := fm g tp bt a b) (by intro _ _ _; eq_refl) ?_
                  rw [show ((nI c) + 1 : Int32) = nI (c + 1) from by simp only [show (1 : Int32) = nI 1 from rfl, nI_add, fm_mul]]
                  refine fe_s 1 (pc' := fx_to 212 (-70)) (lc' := [(7, .int (nI (c + 1))), (6, .int old), (4, .int (nI p)), (5, .int s5), (0, .ref 0), (1, .int (nI W)), (2, .int set), (3, .int may)]) (stk' := []) (mem' := fm g tp bt a b) (by intro _ _ _; eq_refl) ?_
                  rw [show fx_to 212 (-70) = 142 from by decide]
                  refine fe_w (lc' := [(7, .int (nI (c + 1))), (6, .int old), (4, .int (nI p)), (5, .int s5), (0, .ref 0), (1, .int (nI W)), (2, .int set), (3, .int may)]) ⟨rfl, rfl, rfl, rfl, rfl, rfl, rfl, rfl, trivial⟩ (by show List.Nodup [7, 6, 4, 5, 0, 1, 2, 3]; decide) (by show List.Nodup [7, 6, 4, 5, 0, 1, 2, 3]; decide) ?_
                  exact ihr (c + 1) (by omega) (by omega) _ _
                · rw [q125]
                  refine fe_s 1 (pc' := cond (fx_cb .ne 1 0) 215 209) (lc' := [(7, .int (nI c)), (6, .int old), (4, .int (nI p)), (5, .int s5), (0, .ref 0), (1, .int (nI W)), (2, .int set), (3, .int may)]) (stk' := []) (mem' := fm g tp bt a b) (by intro _ _ _; eq_refl) ?_
                  rw [show (fx_cb .ne 1 0) = true from by decide]
                  dsimp only [cond]
                  refine fe_w (lc' := [(7, .int (nI c)), (6, .int old), (4, .int (nI p)), (5, .int s5), (0, .ref 0), (1, .int (nI W)), (2, .int set), (3, .int may)]) ⟨rfl, rfl, rfl, rfl, rfl, rfl, rfl, rfl, trivial⟩ (by show List.Nodup [7, 6, 4, 5, 0, 1, 2, 3]; decide) (by show List.Nodup [7, 6, 4, 5, 0, 1, 2, 3]; decide) ?_
                  exact at215 c _ _ (by omega) (by omega)
            · rw [q120]
              refine fe_s 1 (pc' := cond (fx_cb .ne 1 0) 209 174) (lc' := [(7, .int (nI c)), (6, .int old), (4, .int (nI p)), (5, .int s5), (0, .ref 0), (1, .int (nI W)), (2, .int set), (3, .int may)]) (stk' := []) (mem' := fm g tp bt a b) (by intro _ _ _; eq_refl) ?_
              rw [show (fx_cb .ne 1 0) = true from by decide]
              dsimp only [cond]
              refine fe_s 1 (pc' := 212) (lc' := [(7, .int ((nI c) + 1)), (6, .int old), (4, .int (nI p)), (5, .int s5), (0, .ref 0), (1, .int (nI W)), (2, .int set), (3, .int may)]) (stk' := []) (mem' := fm g tp bt a b) (by intro _ _ _; eq_refl) ?_
              rw [show ((nI c) + 1 : Int32) = nI (c + 1) from by simp only [show (1 : Int32) = nI 1 from rfl, nI_add, fm_mul]]
              refine fe_s 1 (pc' := fx_to 212 (-70)) (lc' := [(7, .int (nI (c + 1))), (6, .int old), (4, .int (nI p)), (5, .int s5), (0, .ref 0), (1, .int (nI W)), (2, .int set), (3, .int may)]) (stk' := []) (mem' := fm g tp bt a b) (by intro _ _ _; eq_refl) ?_
              rw [show fx_to 212 (-70) = 142 from by decide]
              refine fe_w (lc' := [(7, .int (nI (c + 1))), (6, .int old), (4, .int (nI p)), (5, .int s5), (0, .ref 0), (1, .int (nI W)), (2, .int set), (3, .int may)]) ⟨rfl, rfl, rfl, rfl, rfl, rfl, rfl, rfl, trivial⟩ (by show List.Nodup [7, 6, 4, 5, 0, 1, 2, 3]; decide) (by show List.Nodup [7, 6, 4, 5, 0, 1, 2, 3]; decide) ?_
              exact ihr (c + 1) (by omega) (by omega) _ _
      refine fe_s 1 (pc' := 107) (lc' := [(4, .int (nI p)), (5, .int sn), (0, .ref 0), (1, .int (nI W)), (2, .int set), (3, .int may)]) (stk' := [.int (nI p)]) (mem' := fm g tp bt a b) (by intro _ _ _; eq_refl) ?_
      refine fe_s 1 (pc' := cond (fx_cb .lt (nI p) 0) 299 110) (lc' := [(4, .int (nI p)), (5, .int sn), (0, .ref 0), (1, .int (nI W)), (2, .int set), (3, .int may)]) (stk' := []) (mem' := fm g tp bt a b) (by intro _ _ _; eq_refl) ?_
      rw [show (fx_cb .lt (nI p) 0) = false from cb_ltF (a := p) (b := 0) (by omega) (by omega) (by omega)]
      dsimp only [cond]
      refine fe_s 3 (pc' := 116) (lc' := [(4, .int (nI p)), (5, .int sn), (0, .ref 0), (1, .int (nI W)), (2, .int set), (3, .int may)]) (stk' := [.int (nI p), .ref 16]) (mem' := fm g tp bt a b) (by intro _ _ _; eq_refl) ?_
      refine fe_ldI (by rfl) (by rfl) (fx_inN (i := p) (by omega) (by omega)) ?_
      rw [show Int32.toNatClampNeg (nI p) = p from nI_clamp (by omega)]
      rcases hrow with ⟨hd0, er⟩ | ⟨e, hde, er⟩
      · rw [er]
        refine fe_s 3 (pc' := 122) (lc' := [(6, .int (-1)), (4, .int (nI p)), (5, .int sn), (0, .ref 0), (1, .int (nI W)), (2, .int set), (3, .int may)]) (stk' := [.int (-1), .int (-1)]) (mem' := fm g tp bt a b) (by intro _ _ _; eq_refl) ?_
        refine fe_s 1 (pc' := cond (fx_cb .eq (-1) (-1)) 136 125) (lc' := [(6, .int (-1)), (4, .int (nI p)), (5, .int sn), (0, .ref 0), (1, .int (nI W)), (2, .int set), (3, .int may)]) (stk' := []) (mem' := fm g tp bt a b) (by intro _ _ _; eq_refl) ?_
        rw [show (fx_cb .eq (-1) (-1)) = true from by decide]
        dsimp only [cond]
        refine fe_s 4 (pc' := 142) (lc' := [(7, .int ((-1) + 1)), (6, .int (-1)), (4, .int (nI p)), (5, .int sn), (0, .ref 0), (1, .int (nI W)), (2, .int set), (3, .int may)]) (stk' := []) (mem' := fm g tp bt a b) (by intro _ _ _; eq_refl) ?_
        rw [show ((-1) + 1 : Int32) = 0 from rfl]
        refine fe_w (lc' := [(7, .int 0), (6, .int (-1)), (4, .int (nI p)), (5, .int sn), (0, .ref 0), (1, .int (nI W)), (2, .int set), (3, .int may)]) ⟨rfl, rfl, rfl, rfl, rfl, rfl, rfl, rfl, trivial⟩ (by show List.Nodup [7, 6, 4, 5, 0, 1, 2, 3]; decide) (by show List.Nodup [7, 6, 4, 5, 0, 1, 2, 3]; decide) ?_
        exact l142 (NC - (0)) (0) (by omega) (by omega) _ _
      · rw [er]
        refine fe_s 3 (pc' := 122) (lc' := [(6, .int (nI e)), (4, .int (nI p)), (5, .int sn), (0, .ref 0), (1, .int (nI W)), (2, .int set), (3, .int may)]) (stk' := [.int (-1), .int (nI e)]) (mem' := fm g tp bt a b) (by intro _ _ _; eq_refl) ?_
        refine fe_s 1 (pc' := cond (fx_cb .eq (nI e) (-1)) 136 125) (lc' := [(6, .int (nI e)), (4, .int (nI p)), (5, .int sn), (0, .ref 0), (1, .int (nI W)), (2, .int set), (3, .int may)]) (stk' := []) (mem' := fm g tp bt a b) (by intro _ _ _; eq_refl) ?_
        rw [show (fx_cb .eq (nI e) (-1)) = false from cb_n_eq (by omega) (by decide)]
        dsimp only [cond]
        refine fe_s 12 (pc' := 142) (lc' := [(7, .int ((nI e) + 1)), (5, .int (sn &&& (((1 : Int32) <<< ((nI e) &&& 31)) ^^^ (-1)))), (6, .int (nI e)), (4, .int (nI p)), (0, .ref 0), (1, .int (nI W)), (2, .int set), (3, .int may)]) (stk' := []) (mem' := fm g tp bt a b) (by intro _ _ _; eq_refl) ?_
        rw [show ((nI e) + 1 : Int32) = nI (e + 1) from by simp only [show (1 : Int32) = nI 1 from rfl, nI_add, fm_mul]]
        refine fe_w (lc' := [(7, .int (nI (e + 1))), (6, .int (nI e)), (4, .int (nI p)), (5, .int (sn &&& (((1 : Int32) <<< ((nI e) &&& 31)) ^^^ (-1)))), (0, .ref 0), (1, .int (nI W)), (2, .int set), (3, .int may)]) ⟨rfl, rfl, rfl, rfl, rfl, rfl, rfl, rfl, trivial⟩ (by show List.Nodup [7, 6, 4, 5, 0, 1, 2, 3]; decide) (by show List.Nodup [7, 5, 6, 4, 0, 1, 2, 3]; decide) ?_
        exact l142 (NC - (e + 1)) (e + 1) (by omega) (by omega) _ _
set_option maxHeartbeats 8000000 in
set_option maxRecDepth 20000 in
theorem fr_isSuspect {T : Nat} {W : Nat} {set : Int32} (hB : fm_B a0) (hD : fm_D a0 a T) (hW : W < 8) : ∃ (v : Option Value) (mem' : fx_M), (fun R => ∃ v : Int32, (v = 0 ∨ v = 1) ∧ ∃ a' : Nat → Nat → Int32, fm_D a0 a' T ∧ R = (some (.int v), fm g tp bt a' b)) (v, mem') ∧ fr_T 9 349 [.ref 0, .int (nI W), .int set] (fm g tp bt a b) v mem' := by
  obtain ⟨NC, hNC, eNC⟩ := fm_B_0 hB (i := 0) (n := 10) (by decide) rfl
  obtain ⟨NW, hNW, eNW⟩ := fm_B_0 hB (i := 1) (n := 8) (by decide) rfl
  have hT9 := hD.2.2.2.2.1
  refine fe_meth (F := fun R => ∃ v : Int32, (v = 0 ∨ v = 1) ∧ ∃ a' : Nat → Nat → Int32, fm_D a0 a' T ∧ R = (some (.int v), fm g tp bt a' b)) (M := gk_m349) (by rfl) (by rfl) ?_
  refine fe_s 2 (pc' := 2) (lc' := [(0, .ref 0), (1, .int (nI W)), (2, .int set)]) (stk' := [.int 0, .ref 0]) (mem' := fm g tp bt a b) (by intro _ _ _; eq_refl) ?_
  obtain ⟨vd1, memd1, ⟨xd1, ad1, hDd1, hRd1⟩, hfrd1⟩ := fr_setOf0 (g := g) (tp := tp) (bt := bt) (a := a) (b := b) hB hD
  cases hRd1
  refine fe_ivV hfrd1 (by omega) (by rfl) (by rfl) (by rfl) (by rfl) (by rfl) (by rfl) ?_
  refine fe_s 3 (pc' := 9) (lc' := [(4, .int 0), (3, .int xd1), (0, .ref 0), (1, .int (nI W)), (2, .int set)]) (stk' := []) (mem' := fm g tp bt ad1 b) (by intro _ _ _; eq_refl) ?_
  have loop2 : ∀ (r i2 : Nat), i2 + r = NC → ∀ (x3_2 : Int32), ∀ a_2 : Nat → Nat → Int32, fm_D a0 a_2 T → fe_R 8 gk_m349 9 [(4, .int (nI i2)), (3, .int x3_2), (0, .ref 0), (1, .int (nI W)), (2, .int set)] [] (fm g tp bt a_2 b) (fun R => ∃ v : Int32, (v = 0 ∨ v = 1) ∧ ∃ a' : Nat → Nat → Int32, fm_D a0 a' T ∧ R = (some (.int v), fm g tp bt a' b)) := by
    intro r
    induction r with
    | zero =>
      intro i2 hi2 x3_2 a_2 hD_2
      obtain rfl : NC = i2 := by omega
      refine fe_s 4 (pc' := 16) (lc' := [(4, .int (nI NC)), (3, .int x3_2), (0, .ref 0), (1, .int (nI W)), (2, .int set)]) (stk' := [.int 0, .ref 1, .int (nI NC)]) (mem' := fm g tp bt a_2 b) (by intro _ _ _; eq_refl) ?_
      refine fe_ldI (by rfl) (by rfl) (fx_inN (i := 0) (by omega) (by omega)) ?_
      rw [show Int32.toNatClampNeg (0) = 0 from rfl]
      rw [show a_2 1 0 = nI NC from (fm_D_h hD_2 (by decide) rfl).trans eNC]
      refine fe_s 1 (pc' := cond (fx_cb .ge (nI NC) (nI NC)) 92 20) (lc' := [(4, .int (nI NC)), (3, .int x3_2), (0, .ref 0), (1, .int (nI W)), (2, .int set)]) (stk' := []) (mem' := fm g tp bt a_2 b) (by intro _ _ _; eq_refl) ?_
      rw [show (fx_cb .ge (nI NC) (nI NC)) = true from cb_geT (a := NC) (b := NC) (by omega) (by omega) (by omega)]
      dsimp only [cond]
      refine fe_s 8 (pc' := 104) (lc' := [(5, .int 0), (4, .int 0), (3, .int x3_2), (0, .ref 0), (1, .int (nI W)), (2, .int set)]) (stk' := [.int (-1), .int 0, .ref 16]) (mem' := fm g tp bt a_2 b) (by intro _ _ _; eq_refl) ?_
      refine fe_stI (mem' := fm g tp bt (fm_u a_2 16 (0 : Int32).toNatClampNeg (-1)) b) (by rfl) (by rfl) (fx_inN (i := 0) (by omega) (by omega)) fm_si16 ?_
      rw [show Int32.toNatClampNeg (0) = 0 from rfl]
      obtain ⟨aR, haR⟩ : ∃ z, z = fm_u a_2 16 0 (-1) := ⟨_, rfl⟩
      rw [← haR]
      have hDR : fm_D a0 aR T := by rw [haR]; exact fm_D_ot hD_2 (by decide) (by decide) rfl
      refine fe_w (lc' := [(4, .int (nI 0)), (5, .int 0), (0, .ref 0), (1, .int (nI W)), (2, .int set), (3, .int x3_2)]) ⟨rfl, rfl, rfl, rfl, rfl, rfl, trivial⟩ (by show List.Nodup [4, 5, 0, 1, 2, 3]; decide) (by show List.Nodup [5, 4, 3, 0, 1, 2]; decide) ?_
      refine sus_L hB hW eNC hNC 9 0 (by omega) 11 0 (by omega) (by omega) _ _ hDR (fun i hi => absurd hi (Nat.not_lt_zero i)) (Or.inl ⟨rfl, by rw [haR, fm_us, if_pos rfl]⟩) (fun a2 s2 h2 h3 => ?_)
      rw [show (nI 0 + (-1) : Int32) = -1 from rfl]
      refine fe_s 1 (pc' := 107) (lc' := [(4, .int (-1)), (5, .int s2), (0, .ref 0), (1, .int (nI W)), (2, .int set), (3, .int x3_2)]) (stk' := [.int (-1)]) (mem' := fm g tp bt a2 b) (by intro _ _ _; eq_refl) ?_
      refine fe_s 1 (pc' := cond (fx_cb .lt (-1) 0) 299 110) (lc' := [(4, .int (-1)), (5, .int s2), (0, .ref 0), (1, .int (nI W)), (2, .int set), (3, .int x3_2)]) (stk' := []) (mem' := fm g tp bt a2 b) (by intro _ _ _; eq_refl) ?_
      rw [show (fx_cb .lt (-1) 0) = true from by decide]
      dsimp only [cond]
      refine fe_s 1 (pc' := 300) (lc' := [(4, .int (-1)), (5, .int s2), (0, .ref 0), (1, .int (nI W)), (2, .int set), (3, .int x3_2)]) (stk' := [.int 0]) (mem' := fm g tp bt a2 b) (by intro _ _ _; eq_refl) ?_
      exact fe_ret ⟨_, Or.inl rfl, _, h2, rfl⟩ (by rfl) (by rfl) (by rfl)
    | succ r ih2 =>
      intro i2 hi2 x3_2 a_2 hD_2
      have hl2 : i2 < NC := by omega
      refine fe_s 4 (pc' := 16) (lc' := [(4, .int (nI i2)), (3, .int x3_2), (0, .ref 0), (1, .int (nI W)), (2, .int set)]) (stk' := [.int 0, .ref 1, .int (nI i2)]) (mem' := fm g tp bt a_2 b) (by intro _ _ _; eq_refl) ?_
      refine fe_ldI (by rfl) (by rfl) (fx_inN (i := 0) (by omega) (by omega)) ?_
      rw [show Int32.toNatClampNeg (0) = 0 from rfl]
      rw [show a_2 1 0 = nI NC from (fm_D_h hD_2 (by decide) rfl).trans eNC]
      refine fe_s 1 (pc' := cond (fx_cb .ge (nI i2) (nI NC)) 92 20) (lc' := [(4, .int (nI i2)), (3, .int x3_2), (0, .ref 0), (1, .int (nI W)), (2, .int set)]) (stk' := []) (mem' := fm g tp bt a_2 b) (by intro _ _ _; eq_refl) ?_
      rw [show (fx_cb .ge (nI i2) (nI NC)) = false from cb_geF (a := i2) (b := NC) (by omega) (by omega) (by omega)]
      dsimp only [cond]
      refine fe_s 3 (pc' := 24) (lc' := [(4, .int (nI i2)), (3, .int x3_2), (0, .ref 0), (1, .int (nI W)), (2, .int set)]) (stk' := [.int (nI i2), .int set, .ref 0]) (mem' := fm g tp bt a_2 b) (by intro _ _ _; eq_refl) ?_
      refine fe_ivV fr_isIn (by omega) (by rfl) (by rfl) (by rfl) (by rfl) (by rfl) (by rfl) ?_
      rcases fm_b_01 set (nI i2) with q3 | q3
      · rw [q3]
        refine fe_s 1 (pc' := cond (fx_cb .eq 0 0) 46 30) (lc' := [(4, .int (nI i2)), (3, .int x3_2), (0, .ref 0), (1, .int (nI W)), (2, .int set)]) (stk' := []) (mem' := fm g tp bt a_2 b) (by intro _ _ _; eq_refl) ?_
        rw [show (fx_cb .eq 0 0) = true from by decide]
        dsimp only [cond]
        refine fe_s 3 (pc' := 50) (lc' := [(4, .int (nI i2)), (3, .int x3_2), (0, .ref 0), (1, .int (nI W)), (2, .int set)]) (stk' := [.int (nI i2), .int set, .ref 0]) (mem' := fm g tp bt a_2 b) (by intro _ _ _; eq_refl) ?_
        refine fe_ivV fr_isIn (by omega) (by rfl) (by rfl) (by rfl) (by rfl) (by rfl) (by rfl) ?_
        rcases fm_b_01 set (nI i2) with q4 | q4
        · rw [q4]
          refine fe_s 1 (pc' := cond (fx_cb .ne 0 0) 79 56) (lc' := [(4, .int (nI i2)), (3, .int x3_2), (0, .ref 0), (1, .int (nI W)), (2, .int set)]) (stk' := []) (mem' := fm g tp bt a_2 b) (by intro _ _ _; eq_refl) ?_
          rw [show (fx_cb .ne 0 0) = false from by decide]
          dsimp only [cond]
          refine fe_s 2 (pc' := 59) (lc' := [(4, .int (nI i2)), (3, .int x3_2), (0, .ref 0), (1, .int (nI W)), (2, .int set)]) (stk' := [.int (nI i2), .ref 0]) (mem' := fm g tp bt a_2 b) (by intro _ _ _; eq_refl) ?_
          obtain ⟨v5, z6, hv5⟩ := fq_isIce (C := i2) (g := g) (tp := tp) (bt := bt) (a := a_2) (b := b) (fm_D_t hB hD_2) (by omega)
          refine fe_ivV hv5 (by omega) (by rfl) (by rfl) (by rfl) (by rfl) (by rfl) (by rfl) ?_
          rcases z6 with rfl | rfl
          · refine fe_s 1 (pc' := cond (fx_cb .eq 0 0) 86 65) (lc' := [(4, .int (nI i2)), (3, .int x3_2), (0, .ref 0), (1, .int (nI W)), (2, .int set)]) (stk' := []) (mem' := fm g tp bt a_2 b) (by intro _ _ _; eq_refl) ?_
            rw [show (fx_cb .eq 0 0) = true from by decide]
            dsimp only [cond]
            refine fe_s 1 (pc' := 89) (lc' := [(4, .int ((nI i2) + 1)), (3, .int x3_2), (0, .ref 0), (1, .int (nI W)), (2, .int set)]) (stk' := []) (mem' := fm g tp bt a_2 b) (by intro _ _ _; eq_refl) ?_
            rw [show ((nI i2) + 1 : Int32) = nI (i2 + 1) from by simp only [show (1 : Int32) = nI 1 from rfl, nI_add, fm_mul]]
            refine fe_s 1 (pc' := fx_to 89 (-80)) (lc' := [(4, .int (nI (i2 + 1))), (3, .int x3_2), (0, .ref 0), (1, .int (nI W)), (2, .int set)]) (stk' := []) (mem' := fm g tp bt a_2 b) (by intro _ _ _; eq_refl) ?_
            rw [show fx_to 89 (-80) = 9 from by decide]
            exact ih2 (i2 + 1) (by omega) _ a_2 hD_2
          · refine fe_s 1 (pc' := cond (fx_cb .eq 1 0) 86 65) (lc' := [(4, .int (nI i2)), (3, .int x3_2), (0, .ref 0), (1, .int (nI W)), (2, .int set)]) (stk' := []) (mem' := fm g tp bt a_2 b) (by intro _ _ _; eq_refl) ?_
            rw [show (fx_cb .eq 1 0) = false from by decide]
            dsimp only [cond]
            refine fe_s 2 (pc' := 68) (lc' := [(4, .int (nI i2)), (3, .int x3_2), (0, .ref 0), (1, .int (nI W)), (2, .int set)]) (stk' := [.int (nI i2), .ref 0]) (mem' := fm g tp bt a_2 b) (by intro _ _ _; eq_refl) ?_
            obtain ⟨v7, hv7⟩ := fq_strengthOf (C := i2) (g := g) (tp := tp) (bt := bt) (a := a_2) (b := b) (fm_D_t hB hD_2) (by omega)
            refine fe_ivV hv7 (by omega) (by rfl) (by rfl) (by rfl) (by rfl) (by rfl) (by rfl) ?_
            refine fe_s 2 (pc' := 73) (lc' := [(4, .int (nI i2)), (3, .int x3_2), (0, .ref 0), (1, .int (nI W)), (2, .int set)]) (stk' := [.int (nI W), .ref 0, .int v7]) (mem' := fm g tp bt a_2 b) (by intro _ _ _; eq_refl) ?_
            obtain ⟨v8, hv8⟩ := fq_weightOf (V := W) (g := g) (tp := tp) (bt := bt) (a := a_2) (b := b) (by omega)
            refine fe_ivV hv8 (by omega) (by rfl) (by rfl) (by rfl) (by rfl) (by rfl) (by rfl) ?_
            refine fe_s 1 (pc' := cond (fx_cb .lt v7 v8) 86 79) (lc' := [(4, .int (nI i2)), (3, .int x3_2), (0, .ref 0), (1, .int (nI W)), (2, .int set)]) (stk' := []) (mem' := fm g tp bt a_2 b) (by intro _ _ _; eq_refl) ?_
            cases h9 : fx_cb .lt v7 v8
            · refine fe_s 7 (pc' := 89) (lc' := [(4, .int ((nI i2) + 1)), (3, .int (x3_2 ||| ((1 : Int32) <<< ((nI i2) &&& 31)))), (0, .ref 0), (1, .int (nI W)), (2, .int set)]) (stk' := []) (mem' := fm g tp bt a_2 b) (by intro _ _ _; eq_refl) ?_
              rw [show ((nI i2) + 1 : Int32) = nI (i2 + 1) from by simp only [show (1 : Int32) = nI 1 from rfl, nI_add, fm_mul]]
              refine fe_s 1 (pc' := fx_to 89 (-80)) (lc' := [(4, .int (nI (i2 + 1))), (3, .int (x3_2 ||| ((1 : Int32) <<< ((nI i2) &&& 31)))), (0, .ref 0), (1, .int (nI W)), (2, .int set)]) (stk' := []) (mem' := fm g tp bt a_2 b) (by intro _ _ _; eq_refl) ?_
              rw [show fx_to 89 (-80) = 9 from by decide]
              exact ih2 (i2 + 1) (by omega) _ a_2 hD_2
            · refine fe_s 1 (pc' := 89) (lc' := [(4, .int ((nI i2) + 1)), (3, .int x3_2), (0, .ref 0), (1, .int (nI W)), (2, .int set)]) (stk' := []) (mem' := fm g tp bt a_2 b) (by intro _ _ _; eq_refl) ?_
              rw [show ((nI i2) + 1 : Int32) = nI (i2 + 1) from by simp only [show (1 : Int32) = nI 1 from rfl, nI_add, fm_mul]]
              refine fe_s 1 (pc' := fx_to 89 (-80)) (lc' := [(4, .int (nI (i2 + 1))), (3, .int x3_2), (0, .ref 0), (1, .int (nI W)), (2, .int set)]) (stk' := []) (mem' := fm g tp bt a_2 b) (by intro _ _ _; eq_refl) ?_
              rw [show fx_to 89 (-80) = 9 from by decide]
              exact ih2 (i2 + 1) (by omega) _ a_2 hD_2
        · rw [q4]
          refine fe_s 1 (pc' := cond (fx_cb .ne 1 0) 79 56) (lc' := [(4, .int (nI i2)), (3, .int x3_2), (0, .ref 0), (1, .int (nI W)), (2, .int set)]) (stk' := []) (mem' := fm g tp bt a_2 b) (by intro _ _ _; eq_refl) ?_
          rw [show (fx_cb .ne 1 0) = true from by decide]
          dsimp only [cond]
          refine fe_s 7 (pc' := 89) (lc' := [(4, .int ((nI i2) + 1)), (3, .int (x3_2 ||| ((1 : Int32) <<< ((nI i2) &&& 31)))), (0, .ref 0), (1, .int (nI W)), (2, .int set)]) (stk' := []) (mem' := fm g tp bt a_2 b) (by intro _ _ _; eq_refl) ?_
          rw [show ((nI i2) + 1 : Int32) = nI (i2 + 1) from by simp only [show (1 : Int32) = nI 1 from rfl, nI_add, fm_mul]]
          refine fe_s 1 (pc' := fx_to 89 (-80)) (lc' := [(4, .int (nI (i2 + 1))), (3, .int (x3_2 ||| ((1 : Int32) <<< ((nI i2) &&& 31)))), (0, .ref 0), (1, .int (nI W)), (2, .int set)]) (stk' := []) (mem' := fm g tp bt a_2 b) (by intro _ _ _; eq_refl) ?_
          rw [show fx_to 89 (-80) = 9 from by decide]
          exact ih2 (i2 + 1) (by omega) _ a_2 hD_2
      · rw [q3]
        refine fe_s 1 (pc' := cond (fx_cb .eq 1 0) 46 30) (lc' := [(4, .int (nI i2)), (3, .int x3_2), (0, .ref 0), (1, .int (nI W)), (2, .int set)]) (stk' := []) (mem' := fm g tp bt a_2 b) (by intro _ _ _; eq_refl) ?_
        rw [show (fx_cb .eq 1 0) = false from by decide]
        dsimp only [cond]
        refine fe_s 2 (pc' := 33) (lc' := [(4, .int (nI i2)), (3, .int x3_2), (0, .ref 0), (1, .int (nI W)), (2, .int set)]) (stk' := [.int (nI i2), .ref 0]) (mem' := fm g tp bt a_2 b) (by intro _ _ _; eq_refl) ?_
        obtain ⟨v10, hv10⟩ := fq_strengthOf (C := i2) (g := g) (tp := tp) (bt := bt) (a := a_2) (b := b) (fm_D_t hB hD_2) (by omega)
        refine fe_ivV hv10 (by omega) (by rfl) (by rfl) (by rfl) (by rfl) (by rfl) (by rfl) ?_
        refine fe_s 2 (pc' := 38) (lc' := [(4, .int (nI i2)), (3, .int x3_2), (0, .ref 0), (1, .int (nI W)), (2, .int set)]) (stk' := [.int (nI W), .ref 0, .int v10]) (mem' := fm g tp bt a_2 b) (by intro _ _ _; eq_refl) ?_
        obtain ⟨v11, hv11⟩ := fq_weightOf (V := W) (g := g) (tp := tp) (bt := bt) (a := a_2) (b := b) (by omega)
        refine fe_ivV hv11 (by omega) (by rfl) (by rfl) (by rfl) (by rfl) (by rfl) (by rfl) ?_
        refine fe_s 1 (pc' := cond (fx_cb .lt v10 v11) 46 44) (lc' := [(4, .int (nI i2)), (3, .int x3_2), (0, .ref 0), (1, .int (nI W)), (2, .int set)]) (stk' := []) (mem' := fm g tp bt a_2 b) (by intro _ _ _; eq_refl) ?_
        cases h12 : fx_cb .lt v10 v11
        · refine fe_s 1 (pc' := 45) (lc' := [(4, .int (nI i2)), (3, .int x3_2), (0, .ref 0), (1, .int (nI W)), (2, .int set)]) (stk' := [.int 0]) (mem' := fm g tp bt a_2 b) (by intro _ _ _; eq_refl) ?_
          exact fe_ret ⟨_, Or.inl rfl, _, hD_2, rfl⟩ (by rfl) (by rfl) (by rfl)
        · refine fe_s 3 (pc' := 50) (lc' := [(4, .int (nI i2)), (3, .int x3_2), (0, .ref 0), (1, .int (nI W)), (2, .int set)]) (stk' := [.int (nI i2), .int set, .ref 0]) (mem' := fm g tp bt a_2 b) (by intro _ _ _; eq_refl) ?_
          refine fe_ivV fr_isIn (by omega) (by rfl) (by rfl) (by rfl) (by rfl) (by rfl) (by rfl) ?_
          rcases fm_b_01 set (nI i2) with q13 | q13
          · rw [q13]
            refine fe_s 1 (pc' := cond (fx_cb .ne 0 0) 79 56) (lc' := [(4, .int (nI i2)), (3, .int x3_2), (0, .ref 0), (1, .int (nI W)), (2, .int set)]) (stk' := []) (mem' := fm g tp bt a_2 b) (by intro _ _ _; eq_refl) ?_
            rw [show (fx_cb .ne 0 0) = false from by decide]
            dsimp only [cond]
            refine fe_s 2 (pc' := 59) (lc' := [(4, .int (nI i2)), (3, .int x3_2), (0, .ref 0), (1, .int (nI W)), (2, .int set)]) (stk' := [.int (nI i2), .ref 0]) (mem' := fm g tp bt a_2 b) (by intro _ _ _; eq_refl) ?_
            obtain ⟨v14, z15, hv14⟩ := fq_isIce (C := i2) (g := g) (tp := tp) (bt := bt) (a := a_2) (b := b) (fm_D_t hB hD_2) (by omega)
            refine fe_ivV hv14 (by omega) (by rfl) (by rfl) (by rfl) (by rfl) (by rfl) (by rfl) ?_
            rcases z15 with rfl | rfl
            · refine fe_s 1 (pc' := cond (fx_cb .eq 0 0) 86 65) (lc' := [(4, .int (nI i2)), (3, .int x3_2), (0, .ref 0), (1, .int (nI W)), (2, .int set)]) (stk' := []) (mem' := fm g tp bt a_2 b) (by intro _ _ _; eq_refl) ?_
              rw [show (fx_cb .eq 0 0) = true from by decide]
              dsimp only [cond]
              refine fe_s 1 (pc' := 89) (lc' := [(4, .int ((nI i2) + 1)), (3, .int x3_2), (0, .ref 0), (1, .int (nI W)), (2, .int set)]) (stk' := []) (mem' := fm g tp bt a_2 b) (by intro _ _ _; eq_refl) ?_
              rw [show ((nI i2) + 1 : Int32) = nI (i2 + 1) from by simp only [show (1 : Int32) = nI 1 from rfl, nI_add, fm_mul]]
              refine fe_s 1 (pc' := fx_to 89 (-80)) (lc' := [(4, .int (nI (i2 + 1))), (3, .int x3_2), (0, .ref 0), (1, .int (nI W)), (2, .int set)]) (stk' := []) (mem' := fm g tp bt a_2 b) (by intro _ _ _; eq_refl) ?_
              rw [show fx_to 89 (-80) = 9 from by decide]
              exact ih2 (i2 + 1) (by omega) _ a_2 hD_2
            · refine fe_s 1 (pc' := cond (fx_cb .eq 1 0) 86 65) (lc' := [(4, .int (nI i2)), (3, .int x3_2), (0, .ref 0), (1, .int (nI W)), (2, .int set)]) (stk' := []) (mem' := fm g tp bt a_2 b) (by intro _ _ _; eq_refl) ?_
              rw [show (fx_cb .eq 1 0) = false from by decide]
              dsimp only [cond]
              refine fe_s 2 (pc' := 68) (lc' := [(4, .int (nI i2)), (3, .int x3_2), (0, .ref 0), (1, .int (nI W)), (2, .int set)]) (stk' := [.int (nI i2), .ref 0]) (mem' := fm g tp bt a_2 b) (by intro _ _ _; eq_refl) ?_
              obtain ⟨v16, hv16⟩ := fq_strengthOf (C := i2) (g := g) (tp := tp) (bt := bt) (a := a_2) (b := b) (fm_D_t hB hD_2) (by omega)
              refine fe_ivV hv16 (by omega) (by rfl) (by rfl) (by rfl) (by rfl) (by rfl) (by rfl) ?_
              refine fe_s 2 (pc' := 73) (lc' := [(4, .int (nI i2)), (3, .int x3_2), (0, .ref 0), (1, .int (nI W)), (2, .int set)]) (stk' := [.int (nI W), .ref 0, .int v16]) (mem' := fm g tp bt a_2 b) (by intro _ _ _; eq_refl) ?_
              obtain ⟨v17, hv17⟩ := fq_weightOf (V := W) (g := g) (tp := tp) (bt := bt) (a := a_2) (b := b) (by omega)
              refine fe_ivV hv17 (by omega) (by rfl) (by rfl) (by rfl) (by rfl) (by rfl) (by rfl) ?_
              refine fe_s 1 (pc' := cond (fx_cb .lt v16 v17) 86 79) (lc' := [(4, .int (nI i2)), (3, .int x3_2), (0, .ref 0), (1, .int (nI W)), (2, .int set)]) (stk' := []) (mem' := fm g tp bt a_2 b) (by intro _ _ _; eq_refl) ?_
              cases h18 : fx_cb .lt v16 v17
              · refine fe_s 7 (pc' := 89) (lc' := [(4, .int ((nI i2) + 1)), (3, .int (x3_2 ||| ((1 : Int32) <<< ((nI i2) &&& 31)))), (0, .ref 0), (1, .int (nI W)), (2, .int set)]) (stk' := []) (mem' := fm g tp bt a_2 b) (by intro _ _ _; eq_refl) ?_
                rw [show ((nI i2) + 1 : Int32) = nI (i2 + 1) from by simp only [show (1 : Int32) = nI 1 from rfl, nI_add, fm_mul]]
                refine fe_s 1 (pc' := fx_to 89 (-80)) (lc' := [(4, .int (nI (i2 + 1))), (3, .int (x3_2 ||| ((1 : Int32) <<< ((nI i2) &&& 31)))), (0, .ref 0), (1, .int (nI W)), (2, .int set)]) (stk' := []) (mem' := fm g tp bt a_2 b) (by intro _ _ _; eq_refl) ?_
                rw [show fx_to 89 (-80) = 9 from by decide]
                exact ih2 (i2 + 1) (by omega) _ a_2 hD_2
              · refine fe_s 1 (pc' := 89) (lc' := [(4, .int ((nI i2) + 1)), (3, .int x3_2), (0, .ref 0), (1, .int (nI W)), (2, .int set)]) (stk' := []) (mem' := fm g tp bt a_2 b) (by intro _ _ _; eq_refl) ?_
                rw [show ((nI i2) + 1 : Int32) = nI (i2 + 1) from by simp only [show (1 : Int32) = nI 1 from rfl, nI_add, fm_mul]]
                refine fe_s 1 (pc' := fx_to 89 (-80)) (lc' := [(4, .int (nI (i2 + 1))), (3, .int x3_2), (0, .ref 0), (1, .int (nI W)), (2, .int set)]) (stk' := []) (mem' := fm g tp bt a_2 b) (by intro _ _ _; eq_refl) ?_
                rw [show fx_to 89 (-80) = 9 from by decide]
                exact ih2 (i2 + 1) (by omega) _ a_2 hD_2
          · rw [q13]
            refine fe_s 1 (pc' := cond (fx_cb .ne 1 0) 79 56) (lc' := [(4, .int (nI i2)), (3, .int x3_2), (0, .ref 0), (1, .int (nI W)), (2, .int set)]) (stk' := []) (mem' := fm g tp bt a_2 b) (by intro _ _ _; eq_refl) ?_
            rw [show (fx_cb .ne 1 0) = true from by decide]
            dsimp only [cond]
            refine fe_s 7 (pc' := 89) (lc' := [(4, .int ((nI i2) + 1)), (3, .int (x3_2 ||| ((1 : Int32) <<< ((nI i2) &&& 31)))), (0, .ref 0), (1, .int (nI W)), (2, .int set)]) (stk' := []) (mem' := fm g tp bt a_2 b) (by intro _ _ _; eq_refl) ?_
            rw [show ((nI i2) + 1 : Int32) = nI (i2 + 1) from by simp only [show (1 : Int32) = nI 1 from rfl, nI_add, fm_mul]]
            refine fe_s 1 (pc' := fx_to 89 (-80)) (lc' := [(4, .int (nI (i2 + 1))), (3, .int (x3_2 ||| ((1 : Int32) <<< ((nI i2) &&& 31)))), (0, .ref 0), (1, .int (nI W)), (2, .int set)]) (stk' := []) (mem' := fm g tp bt a_2 b) (by intro _ _ _; eq_refl) ?_
            rw [show fx_to 89 (-80) = 9 from by decide]
            exact ih2 (i2 + 1) (by omega) _ a_2 hD_2
  exact loop2 (NC) 0 (by omega) _ ad1 hDd1
theorem fr_suspects {st : Int32} (hBa : fm_B a) (hgb : fm_gb g) : ∃ (v : Option Value) (mem' : fx_M), (fm_PO g tp bt a b) (v, mem') ∧ fr_T 10 350 [.ref 0, .int st] (fm g tp bt a b) v mem' := by
  have hG := fm_G_rf hgb
  have hB := hBa
  obtain ⟨NC, hNC, eNC⟩ := fm_B_0 hB (i := 0) (n := 10) (by decide) rfl
  obtain ⟨NW, hNW, eNW⟩ := fm_B_0 hB (i := 1) (n := 8) (by decide) rfl
  obtain ⟨NG, hNG, eNG⟩ := fm_B_0 hB (i := 3) (n := 20) (by decide) rfl
  obtain ⟨T, hT9, eT⟩ := fm_T5 hB
  have hD : fm_D a a T := fm_D_rf hB eT (by omega)
  refine fe_meth (F := fm_PO g tp bt a b) (M := gk_m350) (by rfl) (by rfl) ?_
  refine fe_s 7 (pc' := 9) (lc' := [(0, .ref 0), (1, .int st)]) (stk' := [.int 0, .ref 1, .long (1 : Int64), .long (0 : Int64), .long (st.toInt64)]) (mem' := fm g tp bt a b) (by intro _ _ _; eq_refl) ?_
  refine fe_ldI (by rfl) (by rfl) (fx_inN (i := 0) (by omega) (by omega)) ?_
  rw [show Int32.toNatClampNeg (0) = 0 from rfl]
  rw [show a 1 0 = nI NC from (fm_D_h hD (by decide) rfl).trans eNC]
  refine fe_s 3 (pc' := 13) (lc' := [(0, .ref 0), (1, .int st)]) (stk' := [.long (((1 : Int64) <<< ((nI NC).toInt64 &&& 63)) - (1 : Int64)), .long (0 : Int64), .long (st.toInt64)]) (mem' := fm g tp bt a b) (by intro _ _ _; eq_refl) ?_
  obtain ⟨vf1, memf1, ⟨xf1, hxf1, hRf1⟩, hfrf1⟩ := fr_isFrom (v := st.toInt64) (l := (0 : Int64)) (m := ((1 : Int64) <<< ((nI NC).toInt64 &&& 63)) - (1 : Int64)) (mem := fm g tp bt a b)
  cases hRf1
  refine fe_ivS hfrf1 (by omega) (by rfl) (by rfl) (by rfl) (by rfl) (by rfl) ?_
  rcases hxf1 with ⟨rfl, -⟩ | ⟨rfl, hlf1, hmf1⟩
  · refine fe_s 1 (pc' := cond (fx_cb .eq 0 0) 29 19) (lc' := [(0, .ref 0), (1, .int st)]) (stk' := []) (mem' := fm g tp bt a b) (by intro _ _ _; eq_refl) ?_
    rw [show (fx_cb .eq 0 0) = true from by decide]
    dsimp only [cond]
    refine fe_s 2 (pc' := 31) (lc' := [(0, .ref 0), (1, .int st)]) (stk' := [.int 1, .ref 0]) (mem' := fm g tp bt a b) (by intro _ _ _; eq_refl) ?_
    refine fe_ivV (fr_refuse (x := 1)) (by omega) (by rfl) (by rfl) (by rfl) (by rfl) (by rfl) (by rfl) ?_
    exact fe_ret ⟨_, _, _, _, _, _, (fm_E_rf hBa), (fm_G_2 hG (by decide) (by decide)), (fun _ _ _ => rfl), rfl⟩ (by rfl) (by rfl) (by rfl)
  · refine fe_s 1 (pc' := cond (fx_cb .eq 1 0) 29 19) (lc' := [(0, .ref 0), (1, .int st)]) (stk' := []) (mem' := fm g tp bt a b) (by intro _ _ _; eq_refl) ?_
    rw [show (fx_cb .eq 1 0) = false from by decide]
    dsimp only [cond]
    refine fe_s 3 (pc' := 22) (lc' := [(0, .ref 0), (1, .int st)]) (stk' := [.int 0, .ref 0, .int st]) (mem' := fm g tp bt a b) (by intro _ _ _; eq_refl) ?_
    obtain ⟨vd2, memd2, ⟨xd2, ad2, hDd2, hRd2⟩, hfrd2⟩ := fr_setOf0 (g := g) (tp := tp) (bt := bt) (a := a) (b := b) hB hD
    cases hRd2
    refine fe_ivV hfrd2 (by omega) (by rfl) (by rfl) (by rfl) (by rfl) (by rfl) (by rfl) ?_
    refine fe_s 1 (pc' := 26) (lc' := [(0, .ref 0), (1, .int st)]) (stk' := [.int (st &&& xd2)]) (mem' := fm g tp bt ad2 b) (by intro _ _ _; eq_refl) ?_
    refine fe_s 1 (pc' := cond (fx_cb .eq (st &&& xd2) 0) 35 29) (lc' := [(0, .ref 0), (1, .int st)]) (stk' := []) (mem' := fm g tp bt ad2 b) (by intro _ _ _; eq_refl) ?_
    cases h3 : fx_cb .eq (st &&& xd2) 0
    · refine fe_s 2 (pc' := 31) (lc' := [(0, .ref 0), (1, .int st)]) (stk' := [.int 1, .ref 0]) (mem' := fm g tp bt ad2 b) (by intro _ _ _; eq_refl) ?_
      refine fe_ivV (fr_refuse (x := 1)) (by omega) (by rfl) (by rfl) (by rfl) (by rfl) (by rfl) (by rfl) ?_
      exact fe_ret ⟨_, _, _, _, _, _, fm_E_D hB hDd2 (by omega), (fm_G_2 hG (by decide) (by decide)), (fun _ _ _ => rfl), rfl⟩ (by rfl) (by rfl) (by rfl)
    · refine fe_s 4 (pc' := 39) (lc' := [(3, .int 0), (2, .int 0), (0, .ref 0), (1, .int st)]) (stk' := []) (mem' := fm g tp bt ad2 b) (by intro _ _ _; eq_refl) ?_
      have loop4 : ∀ (r i4 : Nat), i4 + r = NW → ∀ (x2_4 : Int32), ∀ a_4 : Nat → Nat → Int32, fm_D a a_4 T → fe_R 9 gk_m350 39 [(3, .int (nI i4)), (2, .int x2_4), (0, .ref 0), (1, .int st)] [] (fm g tp bt a_4 b) (fm_PO g tp bt a b) := by
        intro r
        induction r with
        | zero =>
          intro i4 hi4 x2_4 a_4 hD_4
          obtain rfl : NW = i4 := by omega
          refine fe_s 4 (pc' := 45) (lc' := [(3, .int (nI NW)), (2, .int x2_4), (0, .ref 0), (1, .int st)]) (stk' := [.int 1, .ref 1, .int (nI NW)]) (mem' := fm g tp bt a_4 b) (by intro _ _ _; eq_refl) ?_
          refine fe_ldI (by rfl) (by rfl) (fx_inN (i := 1) (by omega) (by omega)) ?_
          rw [show Int32.toNatClampNeg (1) = 1 from rfl]
          rw [show a_4 1 1 = nI NW from (fm_D_h hD_4 (by decide) rfl).trans eNW]
          refine fe_s 1 (pc' := cond (fx_cb .ge (nI NW) (nI NW)) 74 49) (lc' := [(3, .int (nI NW)), (2, .int x2_4), (0, .ref 0), (1, .int st)]) (stk' := []) (mem' := fm g tp bt a_4 b) (by intro _ _ _; eq_refl) ?_
          rw [show (fx_cb .ge (nI NW) (nI NW)) = true from cb_geT (a := NW) (b := NW) (by omega) (by omega) (by omega)]
          dsimp only [cond]
          refine fe_s 2 (pc' := 76) (lc' := [(3, .int (nI NW)), (2, .int x2_4), (0, .ref 0), (1, .int st)]) (stk' := [.int x2_4, .ref 0]) (mem' := fm g tp bt a_4 b) (by intro _ _ _; eq_refl) ?_
          refine fe_ivV (fr_gives (x := x2_4)) (by omega) (by rfl) (by rfl) (by rfl) (by rfl) (by rfl) (by rfl) ?_
          exact fe_ret ⟨_, _, _, _, _, _, fm_E_D hB hD_4 (by omega), (fm_G_2 hG (by decide) (by decide)), (fun _ _ _ => rfl), rfl⟩ (by rfl) (by rfl) (by rfl)
        | succ r ih4 =>
          intro i4 hi4 x2_4 a_4 hD_4
          have hl4 : i4 < NW := by omega
          refine fe_s 4 (pc' := 45) (lc' := [(3, .int (nI i4)), (2, .int x2_4), (0, .ref 0), (1, .int st)]) (stk' := [.int 1, .ref 1, .int (nI i4)]) (mem' := fm g tp bt a_4 b) (by intro _ _ _; eq_refl) ?_
          refine fe_ldI (by rfl) (by rfl) (fx_inN (i := 1) (by omega) (by omega)) ?_
          rw [show Int32.toNatClampNeg (1) = 1 from rfl]
          rw [show a_4 1 1 = nI NW from (fm_D_h hD_4 (by decide) rfl).trans eNW]
          refine fe_s 1 (pc' := cond (fx_cb .ge (nI i4) (nI NW)) 74 49) (lc' := [(3, .int (nI i4)), (2, .int x2_4), (0, .ref 0), (1, .int st)]) (stk' := []) (mem' := fm g tp bt a_4 b) (by intro _ _ _; eq_refl) ?_
          rw [show (fx_cb .ge (nI i4) (nI NW)) = false from cb_geF (a := i4) (b := NW) (by omega) (by omega) (by omega)]
          dsimp only [cond]
          refine fe_s 4 (pc' := 53) (lc' := [(3, .int (nI i4)), (2, .int x2_4), (0, .ref 0), (1, .int st)]) (stk' := [.int st, .int (nI i4), .ref 0, .int x2_4]) (mem' := fm g tp bt a_4 b) (by intro _ _ _; eq_refl) ?_
          obtain ⟨ve5, meme5, ⟨xe5, hxe5, ae5, hDe5, hRe5⟩, hfre5⟩ := fr_isSuspect (W := i4) (set := st) (g := g) (tp := tp) (bt := bt) (a := a_4) (b := b) hB hD_4 (by omega)
          cases hRe5
          refine fe_ivV hfre5 (by omega) (by rfl) (by rfl) (by rfl) (by rfl) (by rfl) (by rfl) ?_
          rcases hxe5 with rfl | rfl
          · refine fe_s 1 (pc' := cond (fx_cb .eq 0 0) 65 59) (lc' := [(3, .int (nI i4)), (2, .int x2_4), (0, .ref 0), (1, .int st)]) (stk' := [.int x2_4]) (mem' := fm g tp bt ae5 b) (by intro _ _ _; eq_refl) ?_
            rw [show (fx_cb .eq 0 0) = true from by decide]
            dsimp only [cond]
            refine fe_s 5 (pc' := 39) (lc' := [(3, .int ((nI i4) + 1)), (2, .int (x2_4 ||| 0)), (0, .ref 0), (1, .int st)]) (stk' := []) (mem' := fm g tp bt ae5 b) (by intro _ _ _; eq_refl) ?_
            rw [show ((nI i4) + 1 : Int32) = nI (i4 + 1) from by simp only [show (1 : Int32) = nI 1 from rfl, nI_add, fm_mul]]
            exact ih4 (i4 + 1) (by omega) _ ae5 hDe5
          · refine fe_s 1 (pc' := cond (fx_cb .eq 1 0) 65 59) (lc' := [(3, .int (nI i4)), (2, .int x2_4), (0, .ref 0), (1, .int st)]) (stk' := [.int x2_4]) (mem' := fm g tp bt ae5 b) (by intro _ _ _; eq_refl) ?_
            rw [show (fx_cb .eq 1 0) = false from by decide]
            dsimp only [cond]
            refine fe_s 8 (pc' := 39) (lc' := [(3, .int ((nI i4) + 1)), (2, .int (x2_4 ||| ((1 : Int32) <<< ((nI i4) &&& 31)))), (0, .ref 0), (1, .int st)]) (stk' := []) (mem' := fm g tp bt ae5 b) (by intro _ _ _; eq_refl) ?_
            rw [show ((nI i4) + 1 : Int32) = nI (i4 + 1) from by simp only [show (1 : Int32) = nI 1 from rfl, nI_add, fm_mul]]
            exact ih4 (i4 + 1) (by omega) _ ae5 hDe5
      exact loop4 (NW) 0 (by omega) _ ad2 hDd2
end FSU
end MH9_0
section MH9_1
/-! ===== fx: trials ===== -/
section FTT
variable {g : Nat → Int32} {tp bt : Int64} {a0 a : Nat → Nat → Int32} {b : Nat → Nat → Int64}
theorem fm_maxI {a b : Nat} (ha : a < 2147483648) (hb : b < 2147483648) : (if nI a < nI b then nI b else nI a) = nI (max a b) := by
  by_cases h : a < b
  · rw [if_pos ((nI_ltI (by omega) (by omega)).mpr h), Nat.max_eq_right (by omega)]
  · rw [if_neg (fun z => h ((nI_ltI (by omega) (by omega)).mp z)), Nat.max_eq_left (by omega)]
/-- the fewest trials, by weights and breaks -/
def fm_ra (p r : Nat → Nat) (m : Nat) : Nat → Nat
  | 0 => 1000000
  | x + 1 => min (fm_ra p r m x) (1 + max (p x) (r (m - (x + 1))))
def fm_rf (p : Nat → Nat) : Nat → Nat → Nat
  | 0 => fun _ => 0
  | n + 1 => fun j => if j = n + 1 then fm_ra p (fm_rf p n) (n + 1) (n + 1) else fm_rf p n j
def fm_trow (p : Nat → Nat) (m : Nat) : Nat := fm_rf p m m
def fm_tr : Nat → Nat → Nat
  | 0 => fun m => if m = 0 then 0 else 1000000
  | k + 1 => fm_trow (fm_tr k)
theorem fm_rf_le (p : Nat → Nat) : ∀ n j, j ≤ n → fm_rf p n j = fm_trow p j := by
  intro n
  induction n with
  | zero =>
    intro j hj
    obtain rfl : j = 0 := by omega
    rfl
  | succ n ih =>
    intro j hj
    by_cases e : j = n + 1
    · subst e; rfl
    · show (if j = n + 1 then _ else fm_rf p n j) = _
      rw [if_neg e]
      exact ih j (by omega)
theorem fm_ra_eq (p : Nat → Nat) {r s : Nat → Nat} {m : Nat} (h : ∀ j, j < m → r j = s j) : ∀ x, x ≤ m → fm_ra p r m x = fm_ra p s m x := by
  intro x
  induction x with
  | zero => intro _; rfl
  | succ x ih =>
    intro hx
    show min _ _ = min _ _
    rw [ih (by omega), h (m - (x + 1)) (by omega)]
theorem fm_tr_s (k m : Nat) : fm_tr (k + 1) (m + 1) = fm_ra (fm_tr k) (fm_tr (k + 1)) (m + 1) (m + 1) := by
  show fm_rf (fm_tr k) (m + 1) (m + 1) = _
  show (if m + 1 = m + 1 then fm_ra (fm_tr k) (fm_rf (fm_tr k) m) (m + 1) (m + 1) else _) = _
  rw [if_pos rfl]
  exact fm_ra_eq _ (fun j hj => fm_rf_le _ m j (by omega)) _ (Nat.le_refl _)
theorem fm_tr_0 (k : Nat) : fm_tr k 0 = 0 := by cases k <;> rfl
theorem fm_ra_le (p r : Nat → Nat) (m : Nat) : ∀ x, fm_ra p r m x ≤ 1000000 := by
  intro x
  induction x with
  | zero => exact Nat.le_refl _
  | succ x ih => exact Nat.le_trans (Nat.min_le_left _ _) ih
theorem fm_tr_le (k m : Nat) : fm_tr k m ≤ 1000000 := by
  cases k with
  | zero =>
    show (if m = 0 then 0 else 1000000) ≤ _
    split <;> omega
  | succ k =>
    cases m with
    | zero => rw [fm_tr_0]; omega
    | succ m => rw [fm_tr_s]; exact fm_ra_le _ _ _ _
theorem fm_ra_1 (p r : Nat → Nat) (m : Nat) : ∀ x, 0 < x → fm_ra p r m x ≤ 1 + max (p 0) (r (m - 1)) := by
  intro x
  induction x with
  | zero => intro h; omega
  | succ x ih =>
    intro _
    rcases Nat.eq_zero_or_pos x with rfl | h
    · exact Nat.min_le_right _ _
    · exact Nat.le_trans (Nat.min_le_left _ _) (ih h)
theorem fm_tr_m (k : Nat) : ∀ m, fm_tr (k + 1) m ≤ m := by
  intro m
  induction m with
  | zero => rw [fm_tr_0]; omega
  | succ m ih =>
    rw [fm_tr_s]
    have := fm_ra_1 (fm_tr k) (fm_tr (k + 1)) (m + 1) (m + 1) (by omega)
    rw [fm_tr_0, show m + 1 - 1 = m by omega] at this
    omega
theorem fm_ra_at (p r : Nat → Nat) (m : Nat) : ∀ x, fm_ra p r m x = 1000000 ∨ ∃ y, y < x ∧ fm_ra p r m x = 1 + max (p y) (r (m - (y + 1))) := by
  intro x
  induction x with
  | zero => exact Or.inl rfl
  | succ x ih =>
    show min _ _ = _ ∨ ∃ y, _ ∧ min _ _ = _
    by_cases h : fm_ra p r m x ≤ 1 + max (p x) (r (m - (x + 1)))
    · rw [Nat.min_eq_left h]
      rcases ih with e | ⟨y, hy, e⟩
      · exact Or.inl e
      · exact Or.inr ⟨y, by omega, e⟩
    · rw [Nat.min_eq_right (by omega)]
      exact Or.inr ⟨x, by omega, rfl⟩
theorem fm_tr_at (k : Nat) {m : Nat} (hm : 0 < m) (h60 : m ≤ 60) : ∃ x, 1 ≤ x ∧ x ≤ m ∧ fm_tr (k + 1) m = 1 + max (fm_tr k (x - 1)) (fm_tr (k + 1) (m - x)) := by
  obtain ⟨m, rfl⟩ : ∃ j, m = j + 1 := ⟨m - 1, by omega⟩
  have h1 := fm_tr_m k (m + 1)
  rcases fm_ra_at (fm_tr k) (fm_tr (k + 1)) (m + 1) (m + 1) with e | ⟨y, hy, e⟩
  · rw [fm_tr_s] at h1; omega
  · exact ⟨y + 1, by omega, by omega, by rw [fm_tr_s, e]; rfl⟩
/-- the table as far as it is -/
def fm_TB (n : Nat) (a : Nat → Nat → Int32) (k m : Nat) : Prop := (∀ k' m', m' ≤ n → (k' < k ∨ k' = k ∧ m' < m) → a 15 (61 * k' + m') = nI (fm_tr k' m')) ∧ ∀ i, i < 427 → 0 ≤ (a 15 i).toInt ∧ (a 15 i).toInt ≤ 1000000
theorem fm_TB_u {n : Nat} {a : Nat → Nat → Int32} {k m v : Nat} (h : fm_TB n a k m) (hn : n ≤ 60) (hm : m ≤ n) (hv : v ≤ 1000000) : fm_TB n (fm_u a 15 (61 * k + m) (nI v)) k m := by
  refine ⟨fun k' m' h1 h2 => ?_, fun i hi => ?_⟩
  · rw [fm_us, if_neg (by omega)]; exact h.1 k' m' h1 h2
  · rw [fm_us]
    split
    · rw [nI_i32 (by omega)]; omega
    · exact h.2 i hi
theorem fm_TB_n {n : Nat} {a : Nat → Nat → Int32} {k m : Nat} (h : fm_TB n a k m) (e : a 15 (61 * k + m) = nI (fm_tr k m)) : fm_TB n a k (m + 1) := ⟨fun k' m' h1 h2 => by
  by_cases e2 : k' = k ∧ m' = m
  · obtain ⟨rfl, rfl⟩ := e2; exact e
  · exact h.1 k' m' h1 (by omega), h.2⟩
theorem fm_TB_k {n : Nat} {a : Nat → Nat → Int32} {k : Nat} (h : fm_TB n a k (n + 1)) : fm_TB n a (k + 1) 0 := ⟨fun k' m' h1 h2 => h.1 k' m' h1 (by omega), h.2⟩
theorem fr_triedAt {n k m x : Nat} {a : Nat → Nat → Int32} (h1 : a 15 (61 * k + (x - 1)) = nI (fm_tr k (x - 1))) (h2 : a 15 (61 * (k + 1) + (m - x)) = nI (fm_tr (k + 1) (m - x))) (hk : k < 6) (hm : m ≤ 60) (hx : 1 ≤ x) (hxm : x ≤ m) : fr_T 1 345 [.ref 0, .int (nI m), .int (nI (k + 1)), .int (nI x)] (fm g tp bt a b) (some (.int (nI (1 + max (fm_tr k (x - 1)) (fm_tr (k + 1) (m - x)))))) (fm g tp bt a b) := by
  refine fr_meth (by rfl) (by rfl) ?_
  have t1 := fm_tr_le k (x - 1)
  have t2 := fm_tr_le (k + 1) (m - x)
  refine fr_s 12 (pc' := 15) (lc' := [(0, .ref 0), (1, .int (nI m)), (2, .int (nI (k + 1))), (3, .int (nI x))]) (stk' := [.int (((61 * ((nI (k + 1)) - 1)) + (nI x)) - 1), .ref 15, .int 1]) (mem' := fm g tp bt a b) (by intro _ _ _; eq_refl) ?_
  rw [show (((61 * ((nI (k + 1)) - 1)) + (nI x)) - 1 : Int32) = nI (((61 * k) + x) - 1) from by simp only [show (61 : Int32) = nI 61 from rfl, show (1 : Int32) = nI 1 from rfl, tg_sub2 (x := k + 1) (y := 1) (by omega), Nat.add_sub_cancel, tg_sub2 (x := (61 * k) + x) (y := 1) (by omega), nI_add, fm_mul]]
  refine fr_ldI (by rfl) (by rfl) (fx_inN (i := ((61 * k) + x) - 1) (by omega) (by omega)) ?_
  rw [show Int32.toNatClampNeg (nI (((61 * k) + x) - 1)) = ((61 * k) + x) - 1 from nI_clamp (by omega)]
  rw [show a 15 (((61 * k) + x) - 1) = nI (fm_tr k (x - 1)) from by rw [show ((61 * k) + x) - 1 = 61 * k + (x - 1) by omega]; exact h1]
  refine fr_s 9 (pc' := 28) (lc' := [(0, .ref 0), (1, .int (nI m)), (2, .int (nI (k + 1))), (3, .int (nI x))]) (stk' := [.int (((61 * (nI (k + 1))) + (nI m)) - (nI x)), .ref 15, .int (nI (fm_tr k (x - 1))), .int 1]) (mem' := fm g tp bt a b) (by intro _ _ _; eq_refl) ?_
  rw [show (((61 * (nI (k + 1))) + (nI m)) - (nI x) : Int32) = nI (((61 * (k + 1)) + m) - x) from by simp only [show (61 : Int32) = nI 61 from rfl, tg_sub2 (x := (61 * (k + 1)) + m) (y := x) (by omega), nI_add, fm_mul]]
  refine fr_ldI (by rfl) (by rfl) (fx_inN (i := ((61 * (k + 1)) + m) - x) (by omega) (by omega)) ?_
  rw [show Int32.toNatClampNeg (nI (((61 * (k + 1)) + m) - x)) = ((61 * (k + 1)) + m) - x from nI_clamp (by omega)]
  rw [show a 15 (((61 * (k + 1)) + m) - x) = nI (fm_tr (k + 1) (m - x)) from by rw [show ((61 * (k + 1)) + m) - x = 61 * (k + 1) + (m - x) by omega]; exact h2]
  refine fr_s 1 (pc' := 32) (lc' := [(0, .ref 0), (1, .int (nI m)), (2, .int (nI (k + 1))), (3, .int (nI x))]) (stk' := [.int (if (nI (fm_tr k (x - 1))) < (nI (fm_tr (k + 1) (m - x))) then (nI (fm_tr (k + 1) (m - x))) else (nI (fm_tr k (x - 1)))), .int 1]) (mem' := fm g tp bt a b) (by intro _ _ _; eq_refl) ?_
  rw [show (if (nI (fm_tr k (x - 1))) < (nI (fm_tr (k + 1) (m - x))) then (nI (fm_tr (k + 1) (m - x))) else (nI (fm_tr k (x - 1))) : Int32) = nI (max (fm_tr k (x - 1)) (fm_tr (k + 1) (m - x))) from fm_maxI (a := (fm_tr k (x - 1))) (b := (fm_tr (k + 1) (m - x))) (by omega) (by omega)]
  refine fr_s 1 (pc' := 33) (lc' := [(0, .ref 0), (1, .int (nI m)), (2, .int (nI (k + 1))), (3, .int (nI x))]) (stk' := [.int (1 + (nI (max (fm_tr k (x - 1)) (fm_tr (k + 1) (m - x)))))]) (mem' := fm g tp bt a b) (by intro _ _ _; eq_refl) ?_
  rw [show (1 + (nI (max (fm_tr k (x - 1)) (fm_tr (k + 1) (m - x)))) : Int32) = nI (1 + (max (fm_tr k (x - 1)) (fm_tr (k + 1) (m - x)))) from by simp only [show (1 : Int32) = nI 1 from rfl, nI_add, fm_mul]]
  exact fr_ret (by rfl) (by rfl) (by rfl)
end FTT
end MH9_1
section MH9_2
/-! ===== fx: trials, on ===== -/
section FTO
variable {g : Nat → Int32} {tp bt : Int64} {a0 a : Nat → Nat → Int32} {b : Nat → Nat → Int64}
def fm_S15 (a0 a : Nat → Nat → Int32) : Prop := ∀ t, t ≠ 15 → a t = a0 t
theorem fm_S15_u {a0 a : Nat → Nat → Int32} {i : Nat} {v : Int32} (h : fm_S15 a0 a) : fm_S15 a0 (fm_u a 15 i v) := fun t ht => by rw [fm_utt ht]; exact h t ht
set_option maxHeartbeats 4000000 in
theorem tro_x {n k m B : Nat} (hn : n ≤ 60) (hk : k < 6) (hm : m < n) (hK : (∀ (a' : Nat → Nat → Int32) (x5 : Int32), fm_S15 a0 a' → fm_TB n a' (k + 1) (m + 1) → a' 15 (61 * (k + 1) + (m + 1)) = nI (fm_tr (k + 1) (m + 1)) → fe_R 1 gk_m344 96 [(5, .int x5), (4, .int (nI (m + 1))), (3, .int (nI (k + 1))), (0, .ref 0), (1, .int (nI n)), (2, .int (nI B))] [] (fm g tp bt a' b) (fun R => ∃ a', fm_S15 a0 a' ∧ fm_TB n a' (B + 1) 0 ∧ R = (some (.int (nI (fm_tr B n))), fm g tp bt a' b)))) : ∀ (r x u : Nat), x + r = m + 2 → 1 ≤ x → u ≤ 1000000 → u = fm_ra (fm_tr k) (fm_tr (k + 1)) (m + 1) (x - 1) → ∀ a, fm_S15 a0 a → fm_TB n a (k + 1) (m + 1) → a 15 (61 * (k + 1) + (m + 1)) = nI u → fe_R 1 gk_m344 43 [(5, .int (nI x)), (4, .int (nI (m + 1))), (3, .int (nI (k + 1))), (0, .ref 0), (1, .int (nI n)), (2, .int (nI B))] [] (fm g tp bt a b) (fun R => ∃ a', fm_S15 a0 a' ∧ fm_TB n a' (B + 1) 0 ∧ R = (some (.int (nI (fm_tr B n))), fm g tp bt a' b)) := by
  intro r
  induction r with
  | zero =>
    intro x u hx h1x hu eu a hS hT hc
    obtain rfl : x = m + 2 := by omega
    refine fe_s 2 (pc' := 47) (lc' := [(5, .int (nI (m + 2))), (4, .int (nI (m + 1))), (3, .int (nI (k + 1))), (0, .ref 0), (1, .int (nI n)), (2, .int (nI B))]) (stk' := [.int (nI (m + 1)), .int (nI (m + 2))]) (mem' := fm g tp bt a b) (by intro _ _ _; eq_refl) ?_
    refine fe_s 1 (pc' := cond (fx_cb .gt (nI (m + 2)) (nI (m + 1))) 96 50) (lc' := [(5, .int (nI (m + 2))), (4, .int (nI (m + 1))), (3, .int (nI (k + 1))), (0, .ref 0), (1, .int (nI n)), (2, .int (nI B))]) (stk' := []) (mem' := fm g tp bt a b) (by intro _ _ _; eq_refl) ?_
    rw [show (fx_cb .gt (nI (m + 2)) (nI (m + 1))) = true from cb_gtT (a := m + 2) (b := m + 1) (by omega) (by omega) (by omega)]
    dsimp only [cond]
    refine fe_w (lc' := [(5, .int (nI (m + 2))), (4, .int (nI (m + 1))), (3, .int (nI (k + 1))), (0, .ref 0), (1, .int (nI n)), (2, .int (nI B))]) ⟨rfl, rfl, rfl, rfl, rfl, rfl, trivial⟩ (by show List.Nodup [5, 4, 3, 0, 1, 2]; decide) (by show List.Nodup [5, 4, 3, 0, 1, 2]; decide) ?_
    exact hK a _ hS hT (by rw [hc, eu, fm_tr_s, show m + 2 - 1 = m + 1 by omega])
  | succ r ih =>
    intro x u hx h1x hu eu a hS hT hc
    refine fe_s 2 (pc' := 47) (lc' := [(5, .int (nI x)), (4, .int (nI (m + 1))), (3, .int (nI (k + 1))), (0, .ref 0), (1, .int (nI n)), (2, .int (nI B))]) (stk' := [.int (nI (m + 1)), .int (nI x)]) (mem' := fm g tp bt a b) (by intro _ _ _; eq_refl) ?_
    refine fe_s 1 (pc' := cond (fx_cb .gt (nI x) (nI (m + 1))) 96 50) (lc' := [(5, .int (nI x)), (4, .int (nI (m + 1))), (3, .int (nI (k + 1))), (0, .ref 0), (1, .int (nI n)), (2, .int (nI B))]) (stk' := []) (mem' := fm g tp bt a b) (by intro _ _ _; eq_refl) ?_
    rw [show (fx_cb .gt (nI x) (nI (m + 1))) = false from cb_gtF (a := x) (b := m + 1) (by omega) (by omega) (by omega)]
    dsimp only [cond]
    refine fe_s 1 (pc' := 51) (lc' := [(5, .int (nI x)), (4, .int (nI (m + 1))), (3, .int (nI (k + 1))), (0, .ref 0), (1, .int (nI n)), (2, .int (nI B))]) (stk' := [.int (nI (k + 1))]) (mem' := fm g tp bt a b) (by intro _ _ _; eq_refl) ?_
    refine fe_s 1 (pc' := cond (fx_cb .le (nI (k + 1)) 0) 96 54) (lc' := [(5, .int (nI x)), (4, .int (nI (m + 1))), (3, .int (nI (k + 1))), (0, .ref 0), (1, .int (nI n)), (2, .int (nI B))]) (stk' := []) (mem' := fm g tp bt a b) (by intro _ _ _; eq_refl) ?_
    rw [show (fx_cb .le (nI (k + 1)) 0) = false from cb_leF (a := k + 1) (b := 0) (by omega) (by omega) (by omega)]
    dsimp only [cond]
    refine fe_s 14 (pc' := 76) (lc' := [(5, .int (nI x)), (4, .int (nI (m + 1))), (3, .int (nI (k + 1))), (0, .ref 0), (1, .int (nI n)), (2, .int (nI B))]) (stk' := [.int ((61 * (nI (k + 1))) + (nI (m + 1))), .ref 15, .int ((61 * (nI (k + 1))) + (nI (m + 1))), .ref 15]) (mem' := fm g tp bt a b) (by intro _ _ _; eq_refl) ?_
    rw [show ((61 * (nI (k + 1))) + (nI (m + 1)) : Int32) = nI ((61 * (k + 1)) + (m + 1)) from by simp only [show (61 : Int32) = nI 61 from rfl, nI_add, fm_mul]]
    refine fe_ldI (by rfl) (by rfl) (fx_inN (i := (61 * (k + 1)) + (m + 1)) (by omega) (by omega)) ?_
    rw [show Int32.toNatClampNeg (nI ((61 * (k + 1)) + (m + 1))) = (61 * (k + 1)) + (m + 1) from nI_clamp (by omega)]
    rw [show a 15 ((61 * (k + 1)) + (m + 1)) = nI u from by rw [show (61 * (k + 1)) + (m + 1) = 61 * (k + 1) + (m + 1) by omega]; exact hc]
    refine fe_s 4 (pc' := 83) (lc' := [(5, .int (nI x)), (4, .int (nI (m + 1))), (3, .int (nI (k + 1))), (0, .ref 0), (1, .int (nI n)), (2, .int (nI B))]) (stk' := [.int (nI x), .int (nI (k + 1)), .int (nI (m + 1)), .ref 0, .int (nI u), .int (nI ((61 * (k + 1)) + (m + 1))), .ref 15]) (mem' := fm g tp bt a b) (by intro _ _ _; eq_refl) ?_
    obtain ⟨w7, hw7⟩ : ∃ w, w = 1 + max (fm_tr k (x - 1)) (fm_tr (k + 1) (m + 1 - x)) := ⟨_, rfl⟩
    have hw1 := fm_tr_le k (x - 1)
    have hw2 := fm_tr_le (k + 1) (m + 1 - x)
    have cw7 := fr_triedAt (g := g) (tp := tp) (bt := bt) (b := b) (n := n) (k := k) (m := m + 1) (x := x) (a := a) (hT.1 k (x - 1) (by omega) (Or.inl (by omega))) (hT.1 (k + 1) (m + 1 - x) (by omega) (Or.inr ⟨rfl, by omega⟩)) (by omega) (by omega) (by omega) (by omega)
    rw [← hw7] at cw7
    have bw7 : w7 ≤ 1000001 := by omega
    refine fe_ivV cw7 (by omega) (by rfl) (by rfl) (by rfl) (by rfl) (by rfl) (by rfl) ?_
    refine fe_s 1 (pc' := 89) (lc' := [(5, .int (nI x)), (4, .int (nI (m + 1))), (3, .int (nI (k + 1))), (0, .ref 0), (1, .int (nI n)), (2, .int (nI B))]) (stk' := [.int (if (nI w7) < (nI u) then (nI w7) else (nI u)), .int (nI ((61 * (k + 1)) + (m + 1))), .ref 15]) (mem' := fm g tp bt a b) (by intro _ _ _; eq_refl) ?_
    rw [show (if (nI w7) < (nI u) then (nI w7) else (nI u) : Int32) = nI (min w7 u) from fm_minI (a := w7) (b := u) (by omega) (by omega)]
    refine fe_stI (mem' := fm g tp bt (fm_u a 15 (nI ((61 * (k + 1)) + (m + 1)) : Int32).toNatClampNeg (nI (min w7 u))) b) (by rfl) (by rfl) (fx_inN (i := (61 * (k + 1)) + (m + 1)) (by omega) (by omega)) fm_si15 ?_
    rw [show Int32.toNatClampNeg (nI ((61 * (k + 1)) + (m + 1))) = (61 * (k + 1)) + (m + 1) from nI_clamp (by omega)]
    obtain ⟨t8, ht8⟩ : ∃ z, z = fm_u a 15 ((61 * (k + 1)) + (m + 1)) (nI (min w7 u)) := ⟨_, rfl⟩
    rw [← ht8]
    refine fe_s 2 (pc' := 43) (lc' := [(5, .int ((nI x) + 1)), (4, .int (nI (m + 1))), (3, .int (nI (k + 1))), (0, .ref 0), (1, .int (nI n)), (2, .int (nI B))]) (stk' := []) (mem' := fm g tp bt t8 b) (by intro _ _ _; eq_refl) ?_
    rw [show ((nI x) + 1 : Int32) = nI (x + 1) from by simp only [show (1 : Int32) = nI 1 from rfl, nI_add, fm_mul]]
    refine fe_w (lc' := [(5, .int (nI (x + 1))), (4, .int (nI (m + 1))), (3, .int (nI (k + 1))), (0, .ref 0), (1, .int (nI n)), (2, .int (nI B))]) ⟨rfl, rfl, rfl, rfl, rfl, rfl, trivial⟩ (by show List.Nodup [5, 4, 3, 0, 1, 2]; decide) (by show List.Nodup [5, 4, 3, 0, 1, 2]; decide) ?_
    refine ih (x + 1) (min w7 u) (by omega) (by omega) (by omega) ?_ t8 ?_ ?_ ?_
    · obtain ⟨y, rfl⟩ : ∃ y, x = y + 1 := ⟨x - 1, by omega⟩
      rw [eu, hw7, show y + 1 + 1 - 1 = y + 1 by omega, show y + 1 - 1 = y by omega, Nat.min_comm]; rfl
    · rw [ht8]; exact fm_S15_u hS
    · rw [ht8, show (61 * (k + 1)) + (m + 1) = 61 * (k + 1) + (m + 1) by omega]; exact fm_TB_u hT hn (by omega) (by omega)
    · rw [ht8, fm_us, if_pos (by omega)]
set_option maxHeartbeats 4000000 in
theorem tro_m {n K B : Nat} (hn : n ≤ 60) (hK6 : K ≤ 6) (hK : (∀ a', fm_S15 a0 a' → fm_TB n a' K (n + 1) → ∀ x5 : Int32, fe_R 1 gk_m344 2 [(3, .int (nI (K + 1))), (0, .ref 0), (1, .int (nI n)), (2, .int (nI B))] [] (fm g tp bt a' b) (fun R => ∃ a', fm_S15 a0 a' ∧ fm_TB n a' (B + 1) 0 ∧ R = (some (.int (nI (fm_tr B n))), fm g tp bt a' b)))) : ∀ (r m : Nat), m + r = n + 1 → ∀ a, fm_S15 a0 a → fm_TB n a K m → fe_R 1 gk_m344 10 [(4, .int (nI m)), (3, .int (nI K)), (0, .ref 0), (1, .int (nI n)), (2, .int (nI B))] [] (fm g tp bt a b) (fun R => ∃ a', fm_S15 a0 a' ∧ fm_TB n a' (B + 1) 0 ∧ R = (some (.int (nI (fm_tr B n))), fm g tp bt a' b)) := by
  intro r
  induction r with
  | zero =>
    intro m hm a hS hT
    obtain rfl : m = n + 1 := by omega
    refine fe_s 2 (pc' := 13) (lc' := [(4, .int (nI (n + 1))), (3, .int (nI K)), (0, .ref 0), (1, .int (nI n)), (2, .int (nI B))]) (stk' := [.int (nI n), .int (nI (n + 1))]) (mem' := fm g tp bt a b) (by intro _ _ _; eq_refl) ?_
    refine fe_s 1 (pc' := cond (fx_cb .gt (nI (n + 1)) (nI n)) 102 16) (lc' := [(4, .int (nI (n + 1))), (3, .int (nI K)), (0, .ref 0), (1, .int (nI n)), (2, .int (nI B))]) (stk' := []) (mem' := fm g tp bt a b) (by intro _ _ _; eq_refl) ?_
    rw [show (fx_cb .gt (nI (n + 1)) (nI n)) = true from cb_gtT (a := n + 1) (b := n) (by omega) (by omega) (by omega)]
    dsimp only [cond]
    refine fe_s 1 (pc' := 105) (lc' := [(3, .int ((nI K) + 1)), (4, .int (nI (n + 1))), (0, .ref 0), (1, .int (nI n)), (2, .int (nI B))]) (stk' := []) (mem' := fm g tp bt a b) (by intro _ _ _; eq_refl) ?_
    rw [show ((nI K) + 1 : Int32) = nI (K + 1) from by simp only [show (1 : Int32) = nI 1 from rfl, nI_add, fm_mul]]
    refine fe_s 1 (pc' := fx_to 105 (-103)) (lc' := [(3, .int (nI (K + 1))), (4, .int (nI (n + 1))), (0, .ref 0), (1, .int (nI n)), (2, .int (nI B))]) (stk' := []) (mem' := fm g tp bt a b) (by intro _ _ _; eq_refl) ?_
    rw [show fx_to 105 (-103) = 2 from by decide]
    refine fe_w (lc' := [(3, .int (nI (K + 1))), (0, .ref 0), (1, .int (nI n)), (2, .int (nI B))]) ⟨rfl, rfl, rfl, rfl, trivial⟩ (by show List.Nodup [3, 0, 1, 2]; decide) (by show List.Nodup [3, 4, 0, 1, 2]; decide) ?_
    exact hK a hS hT 0
  | succ r ih =>
    intro m hm a hS hT
    cases m with
    | zero =>
      cases K with
      | zero =>
        have h0n : 0 ≤ n := Nat.zero_le _
        refine fe_s 2 (pc' := 13) (lc' := [(4, .int (nI 0)), (3, .int (nI 0)), (0, .ref 0), (1, .int (nI n)), (2, .int (nI B))]) (stk' := [.int (nI n), .int (nI 0)]) (mem' := fm g tp bt a b) (by intro _ _ _; eq_refl) ?_
        refine fe_s 1 (pc' := cond (fx_cb .gt (nI 0) (nI n)) 102 16) (lc' := [(4, .int (nI 0)), (3, .int (nI 0)), (0, .ref 0), (1, .int (nI n)), (2, .int (nI B))]) (stk' := []) (mem' := fm g tp bt a b) (by intro _ _ _; eq_refl) ?_
        rw [show (fx_cb .gt (nI 0) (nI n)) = false from cb_gtF (a := 0) (b := n) (by omega) (by omega) (by omega)]
        dsimp only [cond]
        refine fe_s 8 (pc' := 29) (lc' := [(4, .int (nI 0)), (3, .int (nI 0)), (0, .ref 0), (1, .int (nI n)), (2, .int (nI B))]) (stk' := [.int (nI 0), .int ((61 * (nI 0)) + (nI 0)), .ref 15]) (mem' := fm g tp bt a b) (by intro _ _ _; eq_refl) ?_
        rw [show ((61 * (nI 0)) + (nI 0) : Int32) = nI ((61 * 0) + 0) from by simp only [show (61 : Int32) = nI 61 from rfl, nI_add, fm_mul]]
        refine fe_s 1 (pc' := cond (fx_cb .ne (nI 0) 0) 36 32) (lc' := [(4, .int (nI 0)), (3, .int (nI 0)), (0, .ref 0), (1, .int (nI n)), (2, .int (nI B))]) (stk' := [.int (nI ((61 * 0) + 0)), .ref 15]) (mem' := fm g tp bt a b) (by intro _ _ _; eq_refl) ?_
        rw [show (fx_cb .ne (nI 0) 0) = false from cb_neF (a := 0) (b := 0) (by omega) (by omega) (by omega)]
        dsimp only [cond]
        refine fe_s 2 (pc' := 39) (lc' := [(4, .int (nI 0)), (3, .int (nI 0)), (0, .ref 0), (1, .int (nI n)), (2, .int (nI B))]) (stk' := [.int 0, .int (nI ((61 * 0) + 0)), .ref 15]) (mem' := fm g tp bt a b) (by intro _ _ _; eq_refl) ?_
        refine fe_stI (mem' := fm g tp bt (fm_u a 15 (nI ((61 * 0) + 0) : Int32).toNatClampNeg 0) b) (by rfl) (by rfl) (fx_inN (i := (61 * 0) + 0) (by omega) (by omega)) fm_si15 ?_
        rw [show Int32.toNatClampNeg (nI ((61 * 0) + 0)) = (61 * 0) + 0 from nI_clamp (by omega)]
        obtain ⟨t9, ht9⟩ : ∃ z, z = fm_u a 15 ((61 * 0) + 0) 0 := ⟨_, rfl⟩
        rw [← ht9]
        refine fe_s 4 (pc' := 47) (lc' := [(5, .int 1), (4, .int (nI 0)), (3, .int (nI 0)), (0, .ref 0), (1, .int (nI n)), (2, .int (nI B))]) (stk' := [.int (nI 0), .int 1]) (mem' := fm g tp bt t9 b) (by intro _ _ _; eq_refl) ?_
        refine fe_s 1 (pc' := cond (fx_cb .gt 1 (nI 0)) 96 50) (lc' := [(5, .int 1), (4, .int (nI 0)), (3, .int (nI 0)), (0, .ref 0), (1, .int (nI n)), (2, .int (nI B))]) (stk' := []) (mem' := fm g tp bt t9 b) (by intro _ _ _; eq_refl) ?_
        rw [show (fx_cb .gt 1 (nI 0)) = true from cb_gtT (a := 1) (b := 0) (by omega) (by omega) (by omega)]
        dsimp only [cond]
        refine fe_s 1 (pc' := 99) (lc' := [(4, .int ((nI 0) + 1)), (5, .int 1), (3, .int (nI 0)), (0, .ref 0), (1, .int (nI n)), (2, .int (nI B))]) (stk' := []) (mem' := fm g tp bt t9 b) (by intro _ _ _; eq_refl) ?_
        rw [show ((nI 0) + 1 : Int32) = nI (0 + 1) from by simp only [show (1 : Int32) = nI 1 from rfl, nI_add, fm_mul]]
        refine fe_s 1 (pc' := fx_to 99 (-89)) (lc' := [(4, .int (nI (0 + 1))), (5, .int 1), (3, .int (nI 0)), (0, .ref 0), (1, .int (nI n)), (2, .int (nI B))]) (stk' := []) (mem' := fm g tp bt t9 b) (by intro _ _ _; eq_refl) ?_
        rw [show fx_to 99 (-89) = 10 from by decide]
        have hS2 : fm_S15 a0 t9 := by rw [ht9]; exact fm_S15_u hS
        have hT2 : fm_TB n t9 0 0 := by rw [ht9, show (61 * 0) + 0 = 61 * 0 + 0 by omega, show (0 : Int32) = nI 0 from rfl]; exact fm_TB_u hT hn (by omega) (by omega)
        have hc2 : t9 15 (61 * 0 + 0) = nI 0 := by rw [ht9, fm_us, if_pos (by omega)]; rfl
        refine fe_w (lc' := [(4, .int (nI (0 + 1))), (3, .int (nI 0)), (0, .ref 0), (1, .int (nI n)), (2, .int (nI B))]) ⟨rfl, rfl, rfl, rfl, rfl, trivial⟩ (by show List.Nodup [4, 3, 0, 1, 2]; decide) (by show List.Nodup [4, 5, 3, 0, 1, 2]; decide) ?_
        exact ih (0 + 1) (by omega) t9 hS2 (fm_TB_n hT2 (hc2.trans (congrArg nI (fm_tr_0 _).symm)))
      | succ k =>
        have h0n : 0 ≤ n := Nat.zero_le _
        refine fe_s 2 (pc' := 13) (lc' := [(4, .int (nI 0)), (3, .int (nI (k + 1))), (0, .ref 0), (1, .int (nI n)), (2, .int (nI B))]) (stk' := [.int (nI n), .int (nI 0)]) (mem' := fm g tp bt a b) (by intro _ _ _; eq_refl) ?_
        refine fe_s 1 (pc' := cond (fx_cb .gt (nI 0) (nI n)) 102 16) (lc' := [(4, .int (nI 0)), (3, .int (nI (k + 1))), (0, .ref 0), (1, .int (nI n)), (2, .int (nI B))]) (stk' := []) (mem' := fm g tp bt a b) (by intro _ _ _; eq_refl) ?_
        rw [show (fx_cb .gt (nI 0) (nI n)) = false from cb_gtF (a := 0) (b := n) (by omega) (by omega) (by omega)]
        dsimp only [cond]
        refine fe_s 8 (pc' := 29) (lc' := [(4, .int (nI 0)), (3, .int (nI (k + 1))), (0, .ref 0), (1, .int (nI n)), (2, .int (nI B))]) (stk' := [.int (nI 0), .int ((61 * (nI (k + 1))) + (nI 0)), .ref 15]) (mem' := fm g tp bt a b) (by intro _ _ _; eq_refl) ?_
        rw [show ((61 * (nI (k + 1))) + (nI 0) : Int32) = nI ((61 * (k + 1)) + 0) from by simp only [show (61 : Int32) = nI 61 from rfl, nI_add, fm_mul]]
        refine fe_s 1 (pc' := cond (fx_cb .ne (nI 0) 0) 36 32) (lc' := [(4, .int (nI 0)), (3, .int (nI (k + 1))), (0, .ref 0), (1, .int (nI n)), (2, .int (nI B))]) (stk' := [.int (nI ((61 * (k + 1)) + 0)), .ref 15]) (mem' := fm g tp bt a b) (by intro _ _ _; eq_refl) ?_
        rw [show (fx_cb .ne (nI 0) 0) = false from cb_neF (a := 0) (b := 0) (by omega) (by omega) (by omega)]
        dsimp only [cond]
        refine fe_s 2 (pc' := 39) (lc' := [(4, .int (nI 0)), (3, .int (nI (k + 1))), (0, .ref 0), (1, .int (nI n)), (2, .int (nI B))]) (stk' := [.int 0, .int (nI ((61 * (k + 1)) + 0)), .ref 15]) (mem' := fm g tp bt a b) (by intro _ _ _; eq_refl) ?_
        refine fe_stI (mem' := fm g tp bt (fm_u a 15 (nI ((61 * (k + 1)) + 0) : Int32).toNatClampNeg 0) b) (by rfl) (by rfl) (fx_inN (i := (61 * (k + 1)) + 0) (by omega) (by omega)) fm_si15 ?_
        rw [show Int32.toNatClampNeg (nI ((61 * (k + 1)) + 0)) = (61 * (k + 1)) + 0 from nI_clamp (by omega)]
        obtain ⟨t10, ht10⟩ : ∃ z, z = fm_u a 15 ((61 * (k + 1)) + 0) 0 := ⟨_, rfl⟩
        rw [← ht10]
        refine fe_s 4 (pc' := 47) (lc' := [(5, .int 1), (4, .int (nI 0)), (3, .int (nI (k + 1))), (0, .ref 0), (1, .int (nI n)), (2, .int (nI B))]) (stk' := [.int (nI 0), .int 1]) (mem' := fm g tp bt t10 b) (by intro _ _ _; eq_refl) ?_
        refine fe_s 1 (pc' := cond (fx_cb .gt 1 (nI 0)) 96 50) (lc' := [(5, .int 1), (4, .int (nI 0)), (3, .int (nI (k + 1))), (0, .ref 0), (1, .int (nI n)), (2, .int (nI B))]) (stk' := []) (mem' := fm g tp bt t10 b) (by intro _ _ _; eq_refl) ?_
        rw [show (fx_cb .gt 1 (nI 0)) = true from cb_gtT (a := 1) (b := 0) (by omega) (by omega) (by omega)]
        dsimp only [cond]
        refine fe_s 1 (pc' := 99) (lc' := [(4, .int ((nI 0) + 1)), (5, .int 1), (3, .int (nI (k + 1))), (0, .ref 0), (1, .int (nI n)), (2, .int (nI B))]) (stk' := []) (mem' := fm g tp bt t10 b) (by intro _ _ _; eq_refl) ?_
        rw [show ((nI 0) + 1 : Int32) = nI (0 + 1) from by simp only [show (1 : Int32) = nI 1 from rfl, nI_add, fm_mul]]
        refine fe_s 1 (pc' := fx_to 99 (-89)) (lc' := [(4, .int (nI (0 + 1))), (5, .int 1), (3, .int (nI (k + 1))), (0, .ref 0), (1, .int (nI n)), (2, .int (nI B))]) (stk' := []) (mem' := fm g tp bt t10 b) (by intro _ _ _; eq_refl) ?_
        rw [show fx_to 99 (-89) = 10 from by decide]
        have hS2 : fm_S15 a0 t10 := by rw [ht10]; exact fm_S15_u hS
        have hT2 : fm_TB n t10 (k + 1) 0 := by rw [ht10, show (61 * (k + 1)) + 0 = 61 * (k + 1) + 0 by omega, show (0 : Int32) = nI 0 from rfl]; exact fm_TB_u hT hn (by omega) (by omega)
        have hc2 : t10 15 (61 * (k + 1) + 0) = nI 0 := by rw [ht10, fm_us, if_pos (by omega)]; rfl
        refine fe_w (lc' := [(4, .int (nI (0 + 1))), (3, .int (nI (k + 1))), (0, .ref 0), (1, .int (nI n)), (2, .int (nI B))]) ⟨rfl, rfl, rfl, rfl, rfl, trivial⟩ (by show List.Nodup [4, 3, 0, 1, 2]; decide) (by show List.Nodup [4, 5, 3, 0, 1, 2]; decide) ?_
        exact ih (0 + 1) (by omega) t10 hS2 (fm_TB_n hT2 (hc2.trans (congrArg nI (fm_tr_0 _).symm)))
    | succ m =>
      cases K with
      | zero =>
        refine fe_s 2 (pc' := 13) (lc' := [(4, .int (nI (m + 1))), (3, .int (nI 0)), (0, .ref 0), (1, .int (nI n)), (2, .int (nI B))]) (stk' := [.int (nI n), .int (nI (m + 1))]) (mem' := fm g tp bt a b) (by intro _ _ _; eq_refl) ?_
        refine fe_s 1 (pc' := cond (fx_cb .gt (nI (m + 1)) (nI n)) 102 16) (lc' := [(4, .int (nI (m + 1))), (3, .int (nI 0)), (0, .ref 0), (1, .int (nI n)), (2, .int (nI B))]) (stk' := []) (mem' := fm g tp bt a b) (by intro _ _ _; eq_refl) ?_
        rw [show (fx_cb .gt (nI (m + 1)) (nI n)) = false from cb_gtF (a := m + 1) (b := n) (by omega) (by omega) (by omega)]
        dsimp only [cond]
        refine fe_s 8 (pc' := 29) (lc' := [(4, .int (nI (m + 1))), (3, .int (nI 0)), (0, .ref 0), (1, .int (nI n)), (2, .int (nI B))]) (stk' := [.int (nI (m + 1)), .int ((61 * (nI 0)) + (nI (m + 1))), .ref 15]) (mem' := fm g tp bt a b) (by intro _ _ _; eq_refl) ?_
        rw [show ((61 * (nI 0)) + (nI (m + 1)) : Int32) = nI ((61 * 0) + (m + 1)) from by simp only [show (61 : Int32) = nI 61 from rfl, nI_add, fm_mul]]
        refine fe_s 1 (pc' := cond (fx_cb .ne (nI (m + 1)) 0) 36 32) (lc' := [(4, .int (nI (m + 1))), (3, .int (nI 0)), (0, .ref 0), (1, .int (nI n)), (2, .int (nI B))]) (stk' := [.int (nI ((61 * 0) + (m + 1))), .ref 15]) (mem' := fm g tp bt a b) (by intro _ _ _; eq_refl) ?_
        rw [show (fx_cb .ne (nI (m + 1)) 0) = true from cb_neT (a := m + 1) (b := 0) (by omega) (by omega) (by omega)]
        dsimp only [cond]
        refine fe_s 1 (pc' := 39) (lc' := [(4, .int (nI (m + 1))), (3, .int (nI 0)), (0, .ref 0), (1, .int (nI n)), (2, .int (nI B))]) (stk' := [.int 1000000, .int (nI ((61 * 0) + (m + 1))), .ref 15]) (mem' := fm g tp bt a b) (by intro _ _ _; eq_refl) ?_
        refine fe_stI (mem' := fm g tp bt (fm_u a 15 (nI ((61 * 0) + (m + 1)) : Int32).toNatClampNeg 1000000) b) (by rfl) (by rfl) (fx_inN (i := (61 * 0) + (m + 1)) (by omega) (by omega)) fm_si15 ?_
        rw [show Int32.toNatClampNeg (nI ((61 * 0) + (m + 1))) = (61 * 0) + (m + 1) from nI_clamp (by omega)]
        obtain ⟨t11, ht11⟩ : ∃ z, z = fm_u a 15 ((61 * 0) + (m + 1)) 1000000 := ⟨_, rfl⟩
        rw [← ht11]
        refine fe_s 4 (pc' := 47) (lc' := [(5, .int 1), (4, .int (nI (m + 1))), (3, .int (nI 0)), (0, .ref 0), (1, .int (nI n)), (2, .int (nI B))]) (stk' := [.int (nI (m + 1)), .int 1]) (mem' := fm g tp bt t11 b) (by intro _ _ _; eq_refl) ?_
        refine fe_s 1 (pc' := cond (fx_cb .gt 1 (nI (m + 1))) 96 50) (lc' := [(5, .int 1), (4, .int (nI (m + 1))), (3, .int (nI 0)), (0, .ref 0), (1, .int (nI n)), (2, .int (nI B))]) (stk' := []) (mem' := fm g tp bt t11 b) (by intro _ _ _; eq_refl) ?_
        rw [show (fx_cb .gt 1 (nI (m + 1))) = false from cb_gtF (a := 1) (b := m + 1) (by omega) (by omega) (by omega)]
        dsimp only [cond]
        refine fe_s 1 (pc' := 51) (lc' := [(5, .int 1), (4, .int (nI (m + 1))), (3, .int (nI 0)), (0, .ref 0), (1, .int (nI n)), (2, .int (nI B))]) (stk' := [.int (nI 0)]) (mem' := fm g tp bt t11 b) (by intro _ _ _; eq_refl) ?_
        refine fe_s 1 (pc' := cond (fx_cb .le (nI 0) 0) 96 54) (lc' := [(5, .int 1), (4, .int (nI (m + 1))), (3, .int (nI 0)), (0, .ref 0), (1, .int (nI n)), (2, .int (nI B))]) (stk' := []) (mem' := fm g tp bt t11 b) (by intro _ _ _; eq_refl) ?_
        rw [show (fx_cb .le (nI 0) 0) = true from cb_leT (a := 0) (b := 0) (by omega) (by omega) (by omega)]
        dsimp only [cond]
        refine fe_s 1 (pc' := 99) (lc' := [(4, .int ((nI (m + 1)) + 1)), (5, .int 1), (3, .int (nI 0)), (0, .ref 0), (1, .int (nI n)), (2, .int (nI B))]) (stk' := []) (mem' := fm g tp bt t11 b) (by intro _ _ _; eq_refl) ?_
        rw [show ((nI (m + 1)) + 1 : Int32) = nI ((m + 1) + 1) from by simp only [show (1 : Int32) = nI 1 from rfl, nI_add, fm_mul]]
        refine fe_s 1 (pc' := fx_to 99 (-89)) (lc' := [(4, .int (nI ((m + 1) + 1))), (5, .int 1), (3, .int (nI 0)), (0, .ref 0), (1, .int (nI n)), (2, .int (nI B))]) (stk' := []) (mem' := fm g tp bt t11 b) (by intro _ _ _; eq_refl) ?_
        rw [show fx_to 99 (-89) = 10 from by decide]
        have hS2 : fm_S15 a0 t11 := by rw [ht11]; exact fm_S15_u hS
        have hT2 : fm_TB n t11 0 (m + 1) := by rw [ht11, show (61 * 0) + (m + 1) = 61 * 0 + (m + 1) by omega, show (1000000 : Int32) = nI 1000000 from rfl]; exact fm_TB_u hT hn (by omega) (by omega)
        have hc2 : t11 15 (61 * 0 + (m + 1)) = nI 1000000 := by rw [ht11, fm_us, if_pos (by omega)]; rfl
        refine fe_w (lc' := [(4, .int (nI ((m + 1) + 1))), (3, .int (nI 0)), (0, .ref 0), (1, .int (nI n)), (2, .int (nI B))]) ⟨rfl, rfl, rfl, rfl, rfl, trivial⟩ (by show List.Nodup [4, 3, 0, 1, 2]; decide) (by show List.Nodup [4, 5, 3, 0, 1, 2]; decide) ?_
        exact ih ((m + 1) + 1) (by omega) t11 hS2 (fm_TB_n hT2 (hc2.trans (congrArg nI (show 1000000 = fm_tr 0 (m + 1) from rfl))))
      | succ k =>
        refine fe_s 2 (pc' := 13) (lc' := [(4, .int (nI (m + 1))), (3, .int (nI (k + 1))), (0, .ref 0), (1, .int (nI n)), (2, .int (nI B))]) (stk' := [.int (nI n), .int (nI (m + 1))]) (mem' := fm g tp bt a b) (by intro _ _ _; eq_refl) ?_
        refine fe_s 1 (pc' := cond (fx_cb .gt (nI (m + 1)) (nI n)) 102 16) (lc' := [(4, .int (nI (m + 1))), (3, .int (nI (k + 1))), (0, .ref 0), (1, .int (nI n)), (2, .int (nI B))]) (stk' := []) (mem' := fm g tp bt a b) (by intro _ _ _; eq_refl) ?_
        rw [show (fx_cb .gt (nI (m + 1)) (nI n)) = false from cb_gtF (a := m + 1) (b := n) (by omega) (by omega) (by omega)]
        dsimp only [cond]
        refine fe_s 8 (pc' := 29) (lc' := [(4, .int (nI (m + 1))), (3, .int (nI (k + 1))), (0, .ref 0), (1, .int (nI n)), (2, .int (nI B))]) (stk' := [.int (nI (m + 1)), .int ((61 * (nI (k + 1))) + (nI (m + 1))), .ref 15]) (mem' := fm g tp bt a b) (by intro _ _ _; eq_refl) ?_
        rw [show ((61 * (nI (k + 1))) + (nI (m + 1)) : Int32) = nI ((61 * (k + 1)) + (m + 1)) from by simp only [show (61 : Int32) = nI 61 from rfl, nI_add, fm_mul]]
        refine fe_s 1 (pc' := cond (fx_cb .ne (nI (m + 1)) 0) 36 32) (lc' := [(4, .int (nI (m + 1))), (3, .int (nI (k + 1))), (0, .ref 0), (1, .int (nI n)), (2, .int (nI B))]) (stk' := [.int (nI ((61 * (k + 1)) + (m + 1))), .ref 15]) (mem' := fm g tp bt a b) (by intro _ _ _; eq_refl) ?_
        rw [show (fx_cb .ne (nI (m + 1)) 0) = true from cb_neT (a := m + 1) (b := 0) (by omega) (by omega) (by omega)]
        dsimp only [cond]
        refine fe_s 1 (pc' := 39) (lc' := [(4, .int (nI (m + 1))), (3, .int (nI (k + 1))), (0, .ref 0), (1, .int (nI n)), (2, .int (nI B))]) (stk' := [.int 1000000, .int (nI ((61 * (k + 1)) + (m + 1))), .ref 15]) (mem' := fm g tp bt a b) (by intro _ _ _; eq_refl) ?_
        refine fe_stI (mem' := fm g tp bt (fm_u a 15 (nI ((61 * (k + 1)) + (m + 1)) : Int32).toNatClampNeg 1000000) b) (by rfl) (by rfl) (fx_inN (i := (61 * (k + 1)) + (m + 1)) (by omega) (by omega)) fm_si15 ?_
        rw [show Int32.toNatClampNeg (nI ((61 * (k + 1)) + (m + 1))) = (61 * (k + 1)) + (m + 1) from nI_clamp (by omega)]
        obtain ⟨t12, ht12⟩ : ∃ z, z = fm_u a 15 ((61 * (k + 1)) + (m + 1)) 1000000 := ⟨_, rfl⟩
        rw [← ht12]
        refine fe_s 2 (pc' := 43) (lc' := [(5, .int 1), (4, .int (nI (m + 1))), (3, .int (nI (k + 1))), (0, .ref 0), (1, .int (nI n)), (2, .int (nI B))]) (stk' := []) (mem' := fm g tp bt t12 b) (by intro _ _ _; eq_refl) ?_
        have hS2 : fm_S15 a0 t12 := by rw [ht12]; exact fm_S15_u hS
        have hT2 : fm_TB n t12 (k + 1) (m + 1) := by rw [ht12, show (61 * (k + 1)) + (m + 1) = 61 * (k + 1) + (m + 1) by omega, show (1000000 : Int32) = nI 1000000 from rfl]; exact fm_TB_u hT hn (by omega) (by omega)
        have hc2 : t12 15 (61 * (k + 1) + (m + 1)) = nI 1000000 := by rw [ht12, fm_us, if_pos (by omega)]; rfl
        refine fe_w (lc' := [(5, .int 1), (4, .int (nI (m + 1))), (3, .int (nI (k + 1))), (0, .ref 0), (1, .int (nI n)), (2, .int (nI B))]) ⟨rfl, rfl, rfl, rfl, rfl, rfl, trivial⟩ (by show List.Nodup [5, 4, 3, 0, 1, 2]; decide) (by show List.Nodup [5, 4, 3, 0, 1, 2]; decide) ?_
        refine tro_x hn (by omega) (by omega) (fun a' x5 hS' hT' hc' => ?_) (m + 1) 1 1000000 (by omega) (by omega) (by omega) rfl t12 hS2 hT2 hc2
        refine fe_s 1 (pc' := 99) (lc' := [(4, .int ((nI (m + 1)) + 1)), (5, .int x5), (3, .int (nI (k + 1))), (0, .ref 0), (1, .int (nI n)), (2, .int (nI B))]) (stk' := []) (mem' := fm g tp bt a' b) (by intro _ _ _; eq_refl) ?_
        rw [show ((nI (m + 1)) + 1 : Int32) = nI ((m + 1) + 1) from by simp only [show (1 : Int32) = nI 1 from rfl, nI_add, fm_mul]]
        refine fe_s 1 (pc' := fx_to 99 (-89)) (lc' := [(4, .int (nI ((m + 1) + 1))), (5, .int x5), (3, .int (nI (k + 1))), (0, .ref 0), (1, .int (nI n)), (2, .int (nI B))]) (stk' := []) (mem' := fm g tp bt a' b) (by intro _ _ _; eq_refl) ?_
        rw [show fx_to 99 (-89) = 10 from by decide]
        refine fe_w (lc' := [(4, .int (nI ((m + 1) + 1))), (3, .int (nI (k + 1))), (0, .ref 0), (1, .int (nI n)), (2, .int (nI B))]) ⟨rfl, rfl, rfl, rfl, rfl, trivial⟩ (by show List.Nodup [4, 3, 0, 1, 2]; decide) (by show List.Nodup [4, 5, 3, 0, 1, 2]; decide) ?_
        exact ih (m + 1 + 1) (by omega) a' hS' (fm_TB_n hT' hc')
set_option maxHeartbeats 4000000 in
theorem tro_k {n B : Nat} (hn : n ≤ 60) (hB6 : B ≤ 6) : ∀ (r K : Nat), K + r = B + 1 → ∀ a, fm_S15 a0 a → fm_TB n a K 0 → fe_R 1 gk_m344 2 [(3, .int (nI K)), (0, .ref 0), (1, .int (nI n)), (2, .int (nI B))] [] (fm g tp bt a b) (fun R => ∃ a', fm_S15 a0 a' ∧ fm_TB n a' (B + 1) 0 ∧ R = (some (.int (nI (fm_tr B n))), fm g tp bt a' b)) := by
  intro r
  induction r with
  | zero =>
    intro K hK a hS hT
    obtain rfl : K = B + 1 := by omega
    refine fe_s 2 (pc' := 4) (lc' := [(3, .int (nI (B + 1))), (0, .ref 0), (1, .int (nI n)), (2, .int (nI B))]) (stk' := [.int (nI B), .int (nI (B + 1))]) (mem' := fm g tp bt a b) (by intro _ _ _; eq_refl) ?_
    refine fe_s 1 (pc' := cond (fx_cb .gt (nI (B + 1)) (nI B)) 108 7) (lc' := [(3, .int (nI (B + 1))), (0, .ref 0), (1, .int (nI n)), (2, .int (nI B))]) (stk' := []) (mem' := fm g tp bt a b) (by intro _ _ _; eq_refl) ?_
    rw [show (fx_cb .gt (nI (B + 1)) (nI B)) = true from cb_gtT (a := B + 1) (b := B) (by omega) (by omega) (by omega)]
    dsimp only [cond]
    refine fe_s 7 (pc' := 118) (lc' := [(3, .int (nI (B + 1))), (0, .ref 0), (1, .int (nI n)), (2, .int (nI B))]) (stk' := [.int ((61 * (nI B)) + (nI n)), .ref 15]) (mem' := fm g tp bt a b) (by intro _ _ _; eq_refl) ?_
    rw [show ((61 * (nI B)) + (nI n) : Int32) = nI ((61 * B) + n) from by simp only [show (61 : Int32) = nI 61 from rfl, nI_add, fm_mul]]
    refine fe_ldI (by rfl) (by rfl) (fx_inN (i := (61 * B) + n) (by omega) (by omega)) ?_
    rw [show Int32.toNatClampNeg (nI ((61 * B) + n)) = (61 * B) + n from nI_clamp (by omega)]
    rw [show a 15 ((61 * B) + n) = nI (fm_tr B n) from by rw [show (61 * B) + n = 61 * B + n by omega]; exact hT.1 B n (Nat.le_refl _) (Or.inl (by omega))]
    exact fe_ret ⟨_, hS, hT, rfl⟩ (by rfl) (by rfl) (by rfl)
  | succ r ih =>
    intro K hK a hS hT
    refine fe_s 2 (pc' := 4) (lc' := [(3, .int (nI K)), (0, .ref 0), (1, .int (nI n)), (2, .int (nI B))]) (stk' := [.int (nI B), .int (nI K)]) (mem' := fm g tp bt a b) (by intro _ _ _; eq_refl) ?_
    refine fe_s 1 (pc' := cond (fx_cb .gt (nI K) (nI B)) 108 7) (lc' := [(3, .int (nI K)), (0, .ref 0), (1, .int (nI n)), (2, .int (nI B))]) (stk' := []) (mem' := fm g tp bt a b) (by intro _ _ _; eq_refl) ?_
    rw [show (fx_cb .gt (nI K) (nI B)) = false from cb_gtF (a := K) (b := B) (by omega) (by omega) (by omega)]
    dsimp only [cond]
    refine fe_s 2 (pc' := 10) (lc' := [(4, .int 0), (3, .int (nI K)), (0, .ref 0), (1, .int (nI n)), (2, .int (nI B))]) (stk' := []) (mem' := fm g tp bt a b) (by intro _ _ _; eq_refl) ?_
    refine fe_w (lc' := [(4, .int 0), (3, .int (nI K)), (0, .ref 0), (1, .int (nI n)), (2, .int (nI B))]) ⟨rfl, rfl, rfl, rfl, rfl, trivial⟩ (by show List.Nodup [4, 3, 0, 1, 2]; decide) (by show List.Nodup [4, 3, 0, 1, 2]; decide) ?_
    exact tro_m hn (by omega) (fun a' hS' hT' x5 => ih (K + 1) (by omega) a' hS' (fm_TB_k hT')) (n + 1) 0 (by omega) a hS hT
theorem fr_trialsOf {n B : Nat} (hn : n ≤ 60) (hB6 : B ≤ 6) (h15 : ∀ i, i < 427 → 0 ≤ (a 15 i).toInt ∧ (a 15 i).toInt ≤ 1000000) : ∃ (v : Option Value) (mem' : fx_M), (fun R => ∃ a', fm_S15 a a' ∧ fm_TB n a' (B + 1) 0 ∧ R = (some (.int (nI (fm_tr B n))), fm g tp bt a' b)) (v, mem') ∧ fr_T 2 344 [.ref 0, .int (nI n), .int (nI B)] (fm g tp bt a b) v mem' := by
  refine fe_meth (F := fun R => ∃ a', fm_S15 a a' ∧ fm_TB n a' (B + 1) 0 ∧ R = (some (.int (nI (fm_tr B n))), fm g tp bt a' b)) (M := gk_m344) (by rfl) (by rfl) ?_
  refine fe_s 2 (pc' := 2) (lc' := [(3, .int 0), (0, .ref 0), (1, .int (nI n)), (2, .int (nI B))]) (stk' := []) (mem' := fm g tp bt a b) (by intro _ _ _; eq_refl) ?_
  refine fe_w (lc' := [(3, .int 0), (0, .ref 0), (1, .int (nI n)), (2, .int (nI B))]) ⟨rfl, rfl, rfl, rfl, trivial⟩ (by show List.Nodup [3, 0, 1, 2]; decide) (by show List.Nodup [3, 0, 1, 2]; decide) ?_
  exact tro_k (a0 := a) hn hB6 (B + 1) 0 (by omega) a (fun _ _ => rfl) ⟨fun k' m' h1 h2 => absurd h2 (by omega), h15⟩
theorem fr_isTrial {x y : Int32} : ∃ (v : Option Value) (mem' : fx_M), (fun R => ∃ z : Int32, (z = 0 ∨ z = 1 ∧ ∃ N B : Nat, N ≤ 60 ∧ 1 ≤ B ∧ B ≤ 6 ∧ x = nI N ∧ y = nI B) ∧ R = (some (.int z), fm g tp bt a b)) (v, mem') ∧ fr_T 2 346 [.int x, .int y] (fm g tp bt a b) v mem' := by
  refine fe_meth (F := fun R => ∃ z : Int32, (z = 0 ∨ z = 1 ∧ ∃ N B : Nat, N ≤ 60 ∧ 1 ≤ B ∧ B ≤ 6 ∧ x = nI N ∧ y = nI B) ∧ R = (some (.int z), fm g tp bt a b)) (M := gk_m346) (by rfl) (by rfl) ?_
  refine fe_s 4 (pc' := 6) (lc' := [(0, .int x), (1, .int y)]) (stk' := [.long 60, .long (0 : Int64), .long (x.toInt64)]) (mem' := fm g tp bt a b) (by intro _ _ _; eq_refl) ?_
  obtain ⟨vf101, memf101, ⟨xf101, hxf101, hRf101⟩, hfrf101⟩ := fr_isFrom (v := x.toInt64) (l := (0 : Int64)) (m := 60) (mem := fm g tp bt a b)
  cases hRf101
  refine fe_ivS hfrf101 (by omega) (by rfl) (by rfl) (by rfl) (by rfl) (by rfl) ?_
  rcases hxf101 with ⟨rfl, -⟩ | ⟨rfl, hlf101, hmf101⟩
  · refine fe_s 1 (pc' := cond (fx_cb .eq 0 0) 28 12) (lc' := [(0, .int x), (1, .int y)]) (stk' := []) (mem' := fm g tp bt a b) (by intro _ _ _; eq_refl) ?_
    rw [show (fx_cb .eq 0 0) = true from by decide]
    dsimp only [cond]
    refine fe_s 1 (pc' := 29) (lc' := [(0, .int x), (1, .int y)]) (stk' := [.int 0]) (mem' := fm g tp bt a b) (by intro _ _ _; eq_refl) ?_
    exact fe_ret ⟨_, Or.inl rfl, rfl⟩ (by rfl) (by rfl) (by rfl)
  · obtain ⟨N, hN, rfl⟩ : ∃ qq, qq ≤ 60 ∧ x = nI qq := by
      rw [Int32.toInt_toInt64] at hlf101 hmf101
      rw [show (((60 : Int64)).toInt) = 60 from rfl] at hmf101
      rw [show (((0 : Int64)).toInt) = 0 from rfl] at hlf101
      exact nI_bd (n := 60) (by omega) hmf101
    refine fe_s 1 (pc' := cond (fx_cb .eq 1 0) 28 12) (lc' := [(0, .int (nI N)), (1, .int y)]) (stk' := []) (mem' := fm g tp bt a b) (by intro _ _ _; eq_refl) ?_
    rw [show (fx_cb .eq 1 0) = false from by decide]
    dsimp only [cond]
    refine fe_s 4 (pc' := 18) (lc' := [(0, .int (nI N)), (1, .int y)]) (stk' := [.long 6, .long (1 : Int64), .long (y.toInt64)]) (mem' := fm g tp bt a b) (by intro _ _ _; eq_refl) ?_
    obtain ⟨vf102, memf102, ⟨xf102, hxf102, hRf102⟩, hfrf102⟩ := fr_isFrom (v := y.toInt64) (l := (1 : Int64)) (m := 6) (mem := fm g tp bt a b)
    cases hRf102
    refine fe_ivS hfrf102 (by omega) (by rfl) (by rfl) (by rfl) (by rfl) (by rfl) ?_
    rcases hxf102 with ⟨rfl, -⟩ | ⟨rfl, hlf102, hmf102⟩
    · refine fe_s 1 (pc' := cond (fx_cb .eq 0 0) 28 24) (lc' := [(0, .int (nI N)), (1, .int y)]) (stk' := []) (mem' := fm g tp bt a b) (by intro _ _ _; eq_refl) ?_
      rw [show (fx_cb .eq 0 0) = true from by decide]
      dsimp only [cond]
      refine fe_s 1 (pc' := 29) (lc' := [(0, .int (nI N)), (1, .int y)]) (stk' := [.int 0]) (mem' := fm g tp bt a b) (by intro _ _ _; eq_refl) ?_
      exact fe_ret ⟨_, Or.inl rfl, rfl⟩ (by rfl) (by rfl) (by rfl)
    · obtain ⟨B, hB, rfl⟩ : ∃ qq, qq ≤ 6 ∧ y = nI qq := by
        rw [Int32.toInt_toInt64] at hlf102 hmf102
        rw [show (((6 : Int64)).toInt) = 6 from rfl] at hmf102
        rw [show (((1 : Int64)).toInt) = 1 from rfl] at hlf102
        exact nI_bd (n := 6) (by omega) hmf102
      have h1B : 1 ≤ B := by
        rw [Int32.toInt_toInt64, nI_i32 (by omega), show (((1 : Int64)).toInt) = 1 from rfl] at hlf102; omega
      refine fe_s 1 (pc' := cond (fx_cb .eq 1 0) 28 24) (lc' := [(0, .int (nI N)), (1, .int (nI B))]) (stk' := []) (mem' := fm g tp bt a b) (by intro _ _ _; eq_refl) ?_
      rw [show (fx_cb .eq 1 0) = false from by decide]
      dsimp only [cond]
      refine fe_s 2 (pc' := 29) (lc' := [(0, .int (nI N)), (1, .int (nI B))]) (stk' := [.int 1]) (mem' := fm g tp bt a b) (by intro _ _ _; eq_refl) ?_
      exact fe_ret ⟨_, Or.inr ⟨rfl, N, B, by omega, by omega, by omega, rfl, rfl⟩, rfl⟩ (by rfl) (by rfl) (by rfl)
/-- what tryFirst leaves behind -/
def fm_PT (g : Nat → Int32) (tp bt : Int64) (a : Nat → Nat → Int32) (b : Nat → Nat → Int64) (R : Option Value × fx_M) : Prop := ∃ (v : Int32) (g' : Nat → Int32) (a' : Nat → Nat → Int32), fm_S15 a a' ∧ (∀ i, i < 427 → 0 ≤ (a' 15 i).toInt ∧ (a' 15 i).toInt ≤ 1000000) ∧ fm_G g g' ∧ R = (some (.int v), fm g' tp bt a' b)
theorem fr_tryFirst {n b2 : Int32} (hBa : fm_B a) (hgb : fm_gb g) (h15 : ∀ i, i < 427 → 0 ≤ (a 15 i).toInt ∧ (a 15 i).toInt ≤ 1000000) : ∃ (v : Option Value) (mem' : fx_M), (fm_PT g tp bt a b) (v, mem') ∧ fr_T 3 348 [.ref 0, .int n, .int b2] (fm g tp bt a b) v mem' := by
  have hG := fm_G_rf hgb
  refine fe_meth (F := fm_PT g tp bt a b) (M := gk_m348) (by rfl) (by rfl) ?_
  refine fe_s 2 (pc' := 2) (lc' := [(0, .ref 0), (1, .int n), (2, .int b2)]) (stk' := [.int b2, .int n]) (mem' := fm g tp bt a b) (by intro _ _ _; eq_refl) ?_
  obtain ⟨vz1, memz1, ⟨xz1, hxz1, hRz1⟩, hfrz1⟩ := fr_isTrial (x := n) (y := b2) (g := g) (tp := tp) (bt := bt) (a := a) (b := b)
  cases hRz1
  refine fe_ivS hfrz1 (by omega) (by rfl) (by rfl) (by rfl) (by rfl) (by rfl) ?_
  rcases hxz1 with rfl | ⟨rfl, N, B, hN, hB1, hB, rfl, rfl⟩
  · refine fe_s 1 (pc' := cond (fx_cb .ne 0 0) 14 8) (lc' := [(0, .ref 0), (1, .int n), (2, .int b2)]) (stk' := []) (mem' := fm g tp bt a b) (by intro _ _ _; eq_refl) ?_
    rw [show (fx_cb .ne 0 0) = false from by decide]
    dsimp only [cond]
    refine fe_s 2 (pc' := 10) (lc' := [(0, .ref 0), (1, .int n), (2, .int b2)]) (stk' := [.int 1, .ref 0]) (mem' := fm g tp bt a b) (by intro _ _ _; eq_refl) ?_
    refine fe_ivV (fr_refuse (x := 1)) (by omega) (by rfl) (by rfl) (by rfl) (by rfl) (by rfl) (by rfl) ?_
    exact fe_ret ⟨_, _, _, fun _ _ => rfl, h15, (fm_G_2 hG (by decide) (by decide)), rfl⟩ (by rfl) (by rfl) (by rfl)
  · refine fe_s 1 (pc' := cond (fx_cb .ne 1 0) 14 8) (lc' := [(0, .ref 0), (1, .int (nI N)), (2, .int (nI B))]) (stk' := []) (mem' := fm g tp bt a b) (by intro _ _ _; eq_refl) ?_
    rw [show (fx_cb .ne 1 0) = true from by decide]
    dsimp only [cond]
    refine fe_s 1 (pc' := 15) (lc' := [(0, .ref 0), (1, .int (nI N)), (2, .int (nI B))]) (stk' := [.int (nI N)]) (mem' := fm g tp bt a b) (by intro _ _ _; eq_refl) ?_
    refine fe_s 1 (pc' := cond (fx_cb .ne (nI N) 0) 25 18) (lc' := [(0, .ref 0), (1, .int (nI N)), (2, .int (nI B))]) (stk' := []) (mem' := fm g tp bt a b) (by intro _ _ _; eq_refl) ?_
    by_cases h2 : N = 0
    · rw [show (fx_cb .ne (nI N) 0) = false from cb_neF (a := N) (b := 0) (by omega) (by omega) (by omega)]
      dsimp only [cond]
      refine fe_s 2 (pc' := 21) (lc' := [(0, .ref 0), (1, .int (nI N)), (2, .int (nI B))]) (stk' := [.int 6, .ref 0]) (mem' := fm g tp bt a b) (by intro _ _ _; eq_refl) ?_
      refine fe_ivV (fr_refuse (x := 6)) (by omega) (by rfl) (by rfl) (by rfl) (by rfl) (by rfl) (by rfl) ?_
      exact fe_ret ⟨_, _, _, fun _ _ => rfl, h15, (fm_G_2 hG (by decide) (by decide)), rfl⟩ (by rfl) (by rfl) (by rfl)
    · rw [show (fx_cb .ne (nI N) 0) = true from cb_neT (a := N) (b := 0) (by omega) (by omega) (by omega)]
      dsimp only [cond]
      refine fe_s 3 (pc' := 28) (lc' := [(0, .ref 0), (1, .int (nI N)), (2, .int (nI B))]) (stk' := [.int (nI B), .int (nI N), .ref 0]) (mem' := fm g tp bt a b) (by intro _ _ _; eq_refl) ?_
      obtain ⟨vT, memT, ⟨aT, hST, hTT, hRT⟩, hfrT⟩ := fr_trialsOf (n := N) (B := B) (g := g) (tp := tp) (bt := bt) (a := a) (b := b) hN hB h15
      cases hRT
      refine fe_ivV hfrT (by omega) (by rfl) (by rfl) (by rfl) (by rfl) (by rfl) (by rfl) ?_
      refine fe_s 3 (pc' := 35) (lc' := [(4, .int 1), (3, .int (nI (fm_tr B N))), (0, .ref 0), (1, .int (nI N)), (2, .int (nI B))]) (stk' := []) (mem' := fm g tp bt aT b) (by intro _ _ _; eq_refl) ?_
      obtain ⟨k, rfl⟩ : ∃ k, B = k + 1 := ⟨B - 1, by omega⟩
      obtain ⟨X, hX1, hXN, eX⟩ := fm_tr_at k (m := N) (by omega) hN
      have loop : ∀ (r x : Nat), x + r = X → 1 ≤ x → fe_R 2 gk_m348 35 [(4, .int (nI x)), (3, .int (nI (fm_tr (k + 1) N))), (0, .ref 0), (1, .int (nI N)), (2, .int (nI (k + 1)))] [] (fm g tp bt aT b) (fm_PT g tp bt a b) := by
        intro r
        induction r with
        | zero =>
          intro x hx h1x
          have hxX : x = X := by omega
          refine fe_s 4 (pc' := 40) (lc' := [(4, .int (nI x)), (3, .int (nI (fm_tr (k + 1) N))), (0, .ref 0), (1, .int (nI N)), (2, .int (nI (k + 1)))]) (stk' := [.int (nI x), .int (nI (k + 1)), .int (nI N), .ref 0]) (mem' := fm g tp bt aT b) (by intro _ _ _; eq_refl) ?_
          have cw3 := fr_triedAt (g := g) (tp := tp) (bt := bt) (b := b) (n := N) (k := k) (m := N) (x := x) (a := aT) (hTT.1 k (x - 1) (by omega) (Or.inl (by omega))) (hTT.1 (k + 1) (N - x) (by omega) (Or.inl (by omega))) (by omega) (by omega) (by omega) (by omega)
          refine fe_ivV cw3 (by omega) (by rfl) (by rfl) (by rfl) (by rfl) (by rfl) (by rfl) ?_
          refine fe_s 1 (pc' := 44) (lc' := [(4, .int (nI x)), (3, .int (nI (fm_tr (k + 1) N))), (0, .ref 0), (1, .int (nI N)), (2, .int (nI (k + 1)))]) (stk' := [.int (nI (fm_tr (k + 1) N)), .int (nI (1 + max (fm_tr k (x - 1)) (fm_tr (k + 1) (N - x))))]) (mem' := fm g tp bt aT b) (by intro _ _ _; eq_refl) ?_
          refine fe_s 1 (pc' := cond (fx_cb .eq (nI (1 + max (fm_tr k (x - 1)) (fm_tr (k + 1) (N - x)))) (nI (fm_tr (k + 1) N))) 53 47) (lc' := [(4, .int (nI x)), (3, .int (nI (fm_tr (k + 1) N))), (0, .ref 0), (1, .int (nI N)), (2, .int (nI (k + 1)))]) (stk' := []) (mem' := fm g tp bt aT b) (by intro _ _ _; eq_refl) ?_
          cases h4 : fx_cb .eq (nI (1 + max (fm_tr k (x - 1)) (fm_tr (k + 1) (N - x)))) (nI (fm_tr (k + 1) N))
          · refine fe_s 2 (pc' := 35) (lc' := [(4, .int ((nI x) + 1)), (3, .int (nI (fm_tr (k + 1) N))), (0, .ref 0), (1, .int (nI N)), (2, .int (nI (k + 1)))]) (stk' := []) (mem' := fm g tp bt aT b) (by intro _ _ _; eq_refl) ?_
            rw [show ((nI x) + 1 : Int32) = nI (x + 1) from by simp only [show (1 : Int32) = nI 1 from rfl, nI_add, fm_mul]]
            exfalso; rw [hxX, ← eX, show fx_cb .eq (nI (fm_tr (k + 1) N)) (nI (fm_tr (k + 1) N)) = true from decide_eq_true rfl] at h4; cases h4
          · refine fe_s 2 (pc' := 56) (lc' := [(4, .int (nI x)), (3, .int (nI (fm_tr (k + 1) N))), (0, .ref 0), (1, .int (nI N)), (2, .int (nI (k + 1)))]) (stk' := [.int (nI x), .ref 0]) (mem' := fm g tp bt aT b) (by intro _ _ _; eq_refl) ?_
            refine fe_ivV (fr_gives (x := nI x)) (by omega) (by rfl) (by rfl) (by rfl) (by rfl) (by rfl) (by rfl) ?_
            exact fe_ret ⟨_, _, _, hST, hTT.2, (fm_G_2 hG (by decide) (by decide)), rfl⟩ (by rfl) (by rfl) (by rfl)
        | succ r ih =>
          intro x hx h1x
          refine fe_s 4 (pc' := 40) (lc' := [(4, .int (nI x)), (3, .int (nI (fm_tr (k + 1) N))), (0, .ref 0), (1, .int (nI N)), (2, .int (nI (k + 1)))]) (stk' := [.int (nI x), .int (nI (k + 1)), .int (nI N), .ref 0]) (mem' := fm g tp bt aT b) (by intro _ _ _; eq_refl) ?_
          have cw5 := fr_triedAt (g := g) (tp := tp) (bt := bt) (b := b) (n := N) (k := k) (m := N) (x := x) (a := aT) (hTT.1 k (x - 1) (by omega) (Or.inl (by omega))) (hTT.1 (k + 1) (N - x) (by omega) (Or.inl (by omega))) (by omega) (by omega) (by omega) (by omega)
          refine fe_ivV cw5 (by omega) (by rfl) (by rfl) (by rfl) (by rfl) (by rfl) (by rfl) ?_
          refine fe_s 1 (pc' := 44) (lc' := [(4, .int (nI x)), (3, .int (nI (fm_tr (k + 1) N))), (0, .ref 0), (1, .int (nI N)), (2, .int (nI (k + 1)))]) (stk' := [.int (nI (fm_tr (k + 1) N)), .int (nI (1 + max (fm_tr k (x - 1)) (fm_tr (k + 1) (N - x))))]) (mem' := fm g tp bt aT b) (by intro _ _ _; eq_refl) ?_
          refine fe_s 1 (pc' := cond (fx_cb .eq (nI (1 + max (fm_tr k (x - 1)) (fm_tr (k + 1) (N - x)))) (nI (fm_tr (k + 1) N))) 53 47) (lc' := [(4, .int (nI x)), (3, .int (nI (fm_tr (k + 1) N))), (0, .ref 0), (1, .int (nI N)), (2, .int (nI (k + 1)))]) (stk' := []) (mem' := fm g tp bt aT b) (by intro _ _ _; eq_refl) ?_
          cases h6 : fx_cb .eq (nI (1 + max (fm_tr k (x - 1)) (fm_tr (k + 1) (N - x)))) (nI (fm_tr (k + 1) N))
          · refine fe_s 2 (pc' := 35) (lc' := [(4, .int ((nI x) + 1)), (3, .int (nI (fm_tr (k + 1) N))), (0, .ref 0), (1, .int (nI N)), (2, .int (nI (k + 1)))]) (stk' := []) (mem' := fm g tp bt aT b) (by intro _ _ _; eq_refl) ?_
            rw [show ((nI x) + 1 : Int32) = nI (x + 1) from by simp only [show (1 : Int32) = nI 1 from rfl, nI_add, fm_mul]]
            refine fe_w (lc' := [(4, .int (nI (x + 1))), (3, .int (nI (fm_tr (k + 1) N))), (0, .ref 0), (1, .int (nI N)), (2, .int (nI (k + 1)))]) ⟨rfl, rfl, rfl, rfl, rfl, trivial⟩ (by show List.Nodup [4, 3, 0, 1, 2]; decide) (by show List.Nodup [4, 3, 0, 1, 2]; decide) ?_
            exact ih (x + 1) (by omega) (by omega)
          · refine fe_s 2 (pc' := 56) (lc' := [(4, .int (nI x)), (3, .int (nI (fm_tr (k + 1) N))), (0, .ref 0), (1, .int (nI N)), (2, .int (nI (k + 1)))]) (stk' := [.int (nI x), .ref 0]) (mem' := fm g tp bt aT b) (by intro _ _ _; eq_refl) ?_
            refine fe_ivV (fr_gives (x := nI x)) (by omega) (by rfl) (by rfl) (by rfl) (by rfl) (by rfl) (by rfl) ?_
            exact fe_ret ⟨_, _, _, hST, hTT.2, (fm_G_2 hG (by decide) (by decide)), rfl⟩ (by rfl) (by rfl) (by rfl)
      refine fe_w (lc' := [(4, .int (nI 1)), (3, .int (nI (fm_tr (k + 1) N))), (0, .ref 0), (1, .int (nI N)), (2, .int (nI (k + 1)))]) ⟨rfl, rfl, rfl, rfl, rfl, trivial⟩ (by show List.Nodup [4, 3, 0, 1, 2]; decide) (by show List.Nodup [4, 3, 0, 1, 2]; decide) ?_
      exact loop (X - 1) 1 (by omega) (by omega)
end FTO
end MH9_2
