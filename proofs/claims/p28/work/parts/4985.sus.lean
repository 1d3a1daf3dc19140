/-! ===== fx: suspects ===== -/
section FSU
variable {g : Nat → Int32} {tp bt : Int64} {a0 a : Nat → Nat → Int32} {b : Nat → Nat → Int64}
theorem nI_dec {p : Nat} : nI (p + 1) + (-1) = nI p := by
  rw [← nI_add, Int32.add_assoc, show (nI 1 + (-1) : Int32) = 0 by decide, Int32.add_zero]
set_option maxRecDepth 20000 in
set_option maxHeartbeats 16000000 in
theorem sus_L {T W NC : Nat} {set may : Int32} (hB : fm_B a0) (hW : W < 8) (eNC : a0 1 0 = nI NC) (hNC : NC ≤ 10) : ∀ (n p : Nat), p + n = 9 → ∀ (m d : Nat), 10 < d + m → d ≤ NC → ∀ (a : Nat → Nat → Int32) (sn : Int32), fm_D a0 a T → (∀ i, i < p → ∃ c, c < 10 ∧ a 16 i = nI c) → (d = 0 ∧ a 16 p = -1 ∨ ∃ e, d = e + 1 ∧ a 16 p = nI e) → (∀ (a2 : Nat → Nat → Int32) (s2 : Int32), fm_D a0 a2 T → (∀ i, i < p → a2 16 i = a 16 i) → fe_R 8 gk_m349 105 [(4, .int (nI p + (-1))), (5, .int s2), (0, .ref 0), (1, .int (nI W)), (2, .int set), (3, .int may)] [] (fm g tp bt a2 b) (fun R => ∃ v : Int32, (v = 0 ∨ v = 1) ∧ ∃ a' : Nat → Nat → Int32, fm_D a0 a' T ∧ R = (some (.int v), fm g tp bt a' b))) → fe_R 8 gk_m349 105 [(4, .int (nI p)), (5, .int sn), (0, .ref 0), (1, .int (nI W)), (2, .int set), (3, .int may)] [] (fm g tp bt a b) (fun R => ∃ v : Int32, (v = 0 ∨ v = 1) ∧ ∃ a' : Nat → Nat → Int32, fm_D a0 a' T ∧ R = (some (.int v), fm g tp bt a' b)) := by
  intro n
  induction n with
  | zero =>
    intro p hp m
    obtain rfl : p = 9 := by omega
    induction m with
    | zero => intro d hd hdN; exfalso; omega
    | succ m ihm =>
      intro d hd hdN a sn hD hpre hrow hK
      have hNW := fm_B_0 hB (i := 1) (n := 8) (by decide) rfl
      have at215 : ∀ (c : Nat) (old s5 : Int32), d ≤ c → c ≤ NC → fe_R 8 gk_m349 215 [(7, .int (nI c)), (6, .int old), (4, .int (nI 9)), (5, .int s5), (0, .ref 0), (1, .int (nI W)), (2, .int set), (3, .int may)] [] (fm g tp bt a b) (fun R => ∃ v : Int32, (v = 0 ∨ v = 1) ∧ ∃ a' : Nat → Nat → Int32, fm_D a0 a' T ∧ R = (some (.int v), fm g tp bt a' b)) := by
        intro c old s5 hdc hcN
        refine fe_s 4 (pc' := 223) (lc' := [(7, .int (nI c)), (6, .int old), (4, .int (nI 9)), (5, .int s5), (0, .ref 0), (1, .int (nI W)), (2, .int set), (3, .int may)]) (stk' := [.int (nI c), .int (nI 9), .ref 16]) (mem' := fm g tp bt a b) (fun _ _ _ => rfl) ?_
        refine fe_stI (mem' := fm g tp bt (fm_u a 16 (nI 9 : Int32).toNatClampNeg (nI c)) b) (by rfl) (by rfl) (fx_inN (i := 9) (by omega) (by omega)) fm_si16 ?_
        rw [show Int32.toNatClampNeg (nI 9) = 9 from rfl]
        obtain ⟨t101, ht101⟩ : ∃ z, z = fm_u a 16 (9) (nI c) := ⟨_, rfl⟩
        rw [← ht101]
        have hDt101 : fm_D a0 t101 T := by rw [ht101]; exact fm_D_ot hD (by decide) (by decide) rfl
        refine fe_s 4 (pc' := 231) (lc' := [(7, .int (nI c)), (6, .int old), (4, .int (nI 9)), (5, .int s5), (0, .ref 0), (1, .int (nI W)), (2, .int set), (3, .int may)]) (stk' := [.int 0, .ref 1, .int (nI c)]) (mem' := fm g tp bt t101 b) (fun _ _ _ => rfl) ?_
        refine fe_ldI (by rfl) (by rfl) (fx_inN (i := 0) (by omega) (by omega)) ?_
        rw [show Int32.toNatClampNeg (0) = 0 from rfl]
        rw [show t101 1 0 = nI NC from (fm_D_h hDt101 (by decide) rfl).trans eNC]
        refine fe_s 1 (pc' := cond (fx_cb .ne (nI c) (nI NC)) 241 235) (lc' := [(7, .int (nI c)), (6, .int old), (4, .int (nI 9)), (5, .int s5), (0, .ref 0), (1, .int (nI W)), (2, .int set), (3, .int may)]) (stk' := []) (mem' := fm g tp bt t101 b) (fun _ _ _ => rfl) ?_
        by_cases h102 : c = NC
        · rw [show (fx_cb .ne (nI c) (nI NC)) = false from cb_neF (a := c) (b := NC) (by omega) (by omega) (by omega)]
          dsimp only [cond]
          refine fe_s 1 (pc' := 238) (lc' := [(4, .int ((nI 9) + (-1))), (7, .int (nI c)), (6, .int old), (5, .int s5), (0, .ref 0), (1, .int (nI W)), (2, .int set), (3, .int may)]) (stk' := []) (mem' := fm g tp bt t101 b) (fun _ _ _ => rfl) ?_
          refine fe_s 1 (pc' := fx_to 238 (-133)) (lc' := [(4, .int ((nI 9) + (-1))), (7, .int (nI c)), (6, .int old), (5, .int s5), (0, .ref 0), (1, .int (nI W)), (2, .int set), (3, .int may)]) (stk' := []) (mem' := fm g tp bt t101 b) (fun _ _ _ => rfl) ?_
          rw [show fx_to 238 (-133) = 105 from by decide]
          refine fe_w (lc' := [(4, .int ((nI 9) + (-1))), (5, .int s5), (0, .ref 0), (1, .int (nI W)), (2, .int set), (3, .int may)]) ⟨rfl, rfl, rfl, rfl, rfl, rfl, trivial⟩ (by show List.Nodup [4, 5, 0, 1, 2, 3]; decide) (by show List.Nodup [4, 7, 6, 5, 0, 1, 2, 3]; decide) ?_
          exact hK _ _ hDt101 (fun i hi => by rw [ht101, fm_us, if_neg (by omega)])
        · rw [show (fx_cb .ne (nI c) (nI NC)) = true from cb_neT (a := c) (b := NC) (by omega) (by omega) (by omega)]
          dsimp only [cond]
          refine fe_s 7 (pc' := 252) (lc' := [(5, .int (s5 ||| ((1 : Int32) <<< ((nI c) &&& 31)))), (7, .int (nI c)), (6, .int old), (4, .int (nI 9)), (0, .ref 0), (1, .int (nI W)), (2, .int set), (3, .int may)]) (stk' := [.int (nI 9)]) (mem' := fm g tp bt t101 b) (fun _ _ _ => rfl) ?_
          refine fe_s 1 (pc' := cond (fx_cb .le (nI 9) 0) 275 255) (lc' := [(5, .int (s5 ||| ((1 : Int32) <<< ((nI c) &&& 31)))), (7, .int (nI c)), (6, .int old), (4, .int (nI 9)), (0, .ref 0), (1, .int (nI W)), (2, .int set), (3, .int may)]) (stk' := []) (mem' := fm g tp bt t101 b) (fun _ _ _ => rfl) ?_
          rw [show (fx_cb .le (nI 9) 0) = false from cb_leF (a := 9) (b := 0) (by omega) (by omega) (by omega)]
          dsimp only [cond]
          refine fe_s 2 (pc' := 258) (lc' := [(5, .int (s5 ||| ((1 : Int32) <<< ((nI c) &&& 31)))), (7, .int (nI c)), (6, .int old), (4, .int (nI 9)), (0, .ref 0), (1, .int (nI W)), (2, .int set), (3, .int may)]) (stk' := [.int (nI c), .ref 0]) (mem' := fm g tp bt t101 b) (fun _ _ _ => rfl) ?_
          obtain ⟨v103, z104, hv103⟩ := fq_isShore (C := c) (g := g) (tp := tp) (bt := bt) (a := t101) (b := b) (by omega)
          refine fe_ivV hv103 (by omega) (by rfl) (by rfl) (by rfl) (by rfl) (by rfl) (by rfl) ?_
          rcases z104 with rfl | rfl
          · refine fe_s 1 (pc' := cond (fx_cb .eq 0 0) 275 264) (lc' := [(5, .int (s5 ||| ((1 : Int32) <<< ((nI c) &&& 31)))), (7, .int (nI c)), (6, .int old), (4, .int (nI 9)), (0, .ref 0), (1, .int (nI W)), (2, .int set), (3, .int may)]) (stk' := []) (mem' := fm g tp bt t101 b) (fun _ _ _ => rfl) ?_
            rw [show (fx_cb .eq 0 0) = true from by decide]
            dsimp only [cond]
            refine fe_s 2 (pc' := 279) (lc' := [(5, .int (s5 ||| ((1 : Int32) <<< ((nI c) &&& 31)))), (7, .int (nI c)), (6, .int old), (4, .int (nI 9)), (0, .ref 0), (1, .int (nI W)), (2, .int set), (3, .int may)]) (stk' := [.int 9, .int (nI 9)]) (mem' := fm g tp bt t101 b) (fun _ _ _ => rfl) ?_
            refine fe_s 1 (pc' := cond (fx_cb .ne (nI 9) 9) 285 282) (lc' := [(5, .int (s5 ||| ((1 : Int32) <<< ((nI c) &&& 31)))), (7, .int (nI c)), (6, .int old), (4, .int (nI 9)), (0, .ref 0), (1, .int (nI W)), (2, .int set), (3, .int may)]) (stk' := []) (mem' := fm g tp bt t101 b) (fun _ _ _ => rfl) ?_
            rw [show (fx_cb .ne (nI 9) 9) = false from cb_neF (a := 9) (b := 9) (by omega) (by omega) (by omega)]
            dsimp only [cond]
            refine fe_s 1 (pc' := fx_to 282 (-177)) (lc' := [(5, .int (s5 ||| ((1 : Int32) <<< ((nI c) &&& 31)))), (7, .int (nI c)), (6, .int old), (4, .int (nI 9)), (0, .ref 0), (1, .int (nI W)), (2, .int set), (3, .int may)]) (stk' := []) (mem' := fm g tp bt t101 b) (fun _ _ _ => rfl) ?_
            rw [show fx_to 282 (-177) = 105 from by decide]
            refine fe_w (lc' := [(4, .int (nI 9)), (5, .int (s5 ||| ((1 : Int32) <<< ((nI c) &&& 31)))), (0, .ref 0), (1, .int (nI W)), (2, .int set), (3, .int may)]) ⟨rfl, rfl, rfl, rfl, rfl, rfl, trivial⟩ (by show List.Nodup [4, 5, 0, 1, 2, 3]; decide) (by show List.Nodup [5, 7, 6, 4, 0, 1, 2, 3]; decide) ?_
            exact ihm (c + 1) (by omega) (by omega) _ _ hDt101 (fun i hi => by rw [ht101, fm_us, if_neg (by omega)]; exact hpre i hi) (Or.inr ⟨c, rfl, by rw [ht101, fm_us, if_pos rfl]⟩) (fun a2 s2 h2 h3 => hK a2 s2 h2 (fun i hi => by rw [h3 i hi, ht101, fm_us, if_neg (by omega)]))
          · refine fe_s 1 (pc' := cond (fx_cb .eq 1 0) 275 264) (lc' := [(5, .int (s5 ||| ((1 : Int32) <<< ((nI c) &&& 31)))), (7, .int (nI c)), (6, .int old), (4, .int (nI 9)), (0, .ref 0), (1, .int (nI W)), (2, .int set), (3, .int may)]) (stk' := []) (mem' := fm g tp bt t101 b) (fun _ _ _ => rfl) ?_
            rw [show (fx_cb .eq 1 0) = false from by decide]
            dsimp only [cond]
            refine fe_s 5 (pc' := 270) (lc' := [(5, .int (s5 ||| ((1 : Int32) <<< ((nI c) &&& 31)))), (7, .int (nI c)), (6, .int old), (4, .int (nI 9)), (0, .ref 0), (1, .int (nI W)), (2, .int set), (3, .int may)]) (stk' := [.int (set &&& ((s5 ||| ((1 : Int32) <<< ((nI c) &&& 31))) ^^^ (-1)))]) (mem' := fm g tp bt t101 b) (fun _ _ _ => rfl) ?_
            refine fe_s 1 (pc' := cond (fx_cb .ne (set &&& ((s5 ||| ((1 : Int32) <<< ((nI c) &&& 31))) ^^^ (-1))) 0) 275 273) (lc' := [(5, .int (s5 ||| ((1 : Int32) <<< ((nI c) &&& 31)))), (7, .int (nI c)), (6, .int old), (4, .int (nI 9)), (0, .ref 0), (1, .int (nI W)), (2, .int set), (3, .int may)]) (stk' := []) (mem' := fm g tp bt t101 b) (fun _ _ _ => rfl) ?_
            cases h105 : fx_cb .ne (set &&& ((s5 ||| ((1 : Int32) <<< ((nI c) &&& 31))) ^^^ (-1))) 0
            · refine fe_s 1 (pc' := 274) (lc' := [(5, .int (s5 ||| ((1 : Int32) <<< ((nI c) &&& 31)))), (7, .int (nI c)), (6, .int old), (4, .int (nI 9)), (0, .ref 0), (1, .int (nI W)), (2, .int set), (3, .int may)]) (stk' := [.int 1]) (mem' := fm g tp bt t101 b) (fun _ _ _ => rfl) ?_
              exact fe_ret ⟨_, Or.inr rfl, _, hDt101, rfl⟩ (by rfl) (by rfl) (by rfl)
            · refine fe_s 2 (pc' := 279) (lc' := [(5, .int (s5 ||| ((1 : Int32) <<< ((nI c) &&& 31)))), (7, .int (nI c)), (6, .int old), (4, .int (nI 9)), (0, .ref 0), (1, .int (nI W)), (2, .int set), (3, .int may)]) (stk' := [.int 9, .int (nI 9)]) (mem' := fm g tp bt t101 b) (fun _ _ _ => rfl) ?_
              refine fe_s 1 (pc' := cond (fx_cb .ne (nI 9) 9) 285 282) (lc' := [(5, .int (s5 ||| ((1 : Int32) <<< ((nI c) &&& 31)))), (7, .int (nI c)), (6, .int old), (4, .int (nI 9)), (0, .ref 0), (1, .int (nI W)), (2, .int set), (3, .int may)]) (stk' := []) (mem' := fm g tp bt t101 b) (fun _ _ _ => rfl) ?_
              rw [show (fx_cb .ne (nI 9) 9) = false from cb_neF (a := 9) (b := 9) (by omega) (by omega) (by omega)]
              dsimp only [cond]
              refine fe_s 1 (pc' := fx_to 282 (-177)) (lc' := [(5, .int (s5 ||| ((1 : Int32) <<< ((nI c) &&& 31)))), (7, .int (nI c)), (6, .int old), (4, .int (nI 9)), (0, .ref 0), (1, .int (nI W)), (2, .int set), (3, .int may)]) (stk' := []) (mem' := fm g tp bt t101 b) (fun _ _ _ => rfl) ?_
              rw [show fx_to 282 (-177) = 105 from by decide]
              refine fe_w (lc' := [(4, .int (nI 9)), (5, .int (s5 ||| ((1 : Int32) <<< ((nI c) &&& 31)))), (0, .ref 0), (1, .int (nI W)), (2, .int set), (3, .int may)]) ⟨rfl, rfl, rfl, rfl, rfl, rfl, trivial⟩ (by show List.Nodup [4, 5, 0, 1, 2, 3]; decide) (by show List.Nodup [5, 7, 6, 4, 0, 1, 2, 3]; decide) ?_
              exact ihm (c + 1) (by omega) (by omega) _ _ hDt101 (fun i hi => by rw [ht101, fm_us, if_neg (by omega)]; exact hpre i hi) (Or.inr ⟨c, rfl, by rw [ht101, fm_us, if_pos rfl]⟩) (fun a2 s2 h2 h3 => hK a2 s2 h2 (fun i hi => by rw [h3 i hi, ht101, fm_us, if_neg (by omega)]))
      have l142 : ∀ (r c : Nat), c + r = NC → d ≤ c → ∀ (old s5 : Int32), fe_R 8 gk_m349 142 [(7, .int (nI c)), (6, .int old), (4, .int (nI 9)), (5, .int s5), (0, .ref 0), (1, .int (nI W)), (2, .int set), (3, .int may)] [] (fm g tp bt a b) (fun R => ∃ v : Int32, (v = 0 ∨ v = 1) ∧ ∃ a' : Nat → Nat → Int32, fm_D a0 a' T ∧ R = (some (.int v), fm g tp bt a' b)) := by
        intro r
        induction r with
        | zero =>
          intro c hc hdc old s5
          obtain rfl : NC = c := by omega
          refine fe_s 4 (pc' := 149) (lc' := [(7, .int (nI NC)), (6, .int old), (4, .int (nI 9)), (5, .int s5), (0, .ref 0), (1, .int (nI W)), (2, .int set), (3, .int may)]) (stk' := [.int 0, .ref 1, .int (nI NC)]) (mem' := fm g tp bt a b) (fun _ _ _ => rfl) ?_
          refine fe_ldI (by rfl) (by rfl) (fx_inN (i := 0) (by omega) (by omega)) ?_
          rw [show Int32.toNatClampNeg (0) = 0 from rfl]
          rw [show a 1 0 = nI NC from (fm_D_h hD (by decide) rfl).trans eNC]
          refine fe_s 1 (pc' := cond (fx_cb .ge (nI NC) (nI NC)) 215 153) (lc' := [(7, .int (nI NC)), (6, .int old), (4, .int (nI 9)), (5, .int s5), (0, .ref 0), (1, .int (nI W)), (2, .int set), (3, .int may)]) (stk' := []) (mem' := fm g tp bt a b) (fun _ _ _ => rfl) ?_
          rw [show (fx_cb .ge (nI NC) (nI NC)) = true from cb_geT (a := NC) (b := NC) (by omega) (by omega) (by omega)]
          dsimp only [cond]
          refine fe_w (lc' := [(7, .int (nI NC)), (6, .int old), (4, .int (nI 9)), (5, .int s5), (0, .ref 0), (1, .int (nI W)), (2, .int set), (3, .int may)]) ⟨rfl, rfl, rfl, rfl, rfl, rfl, rfl, rfl, trivial⟩ (by show List.Nodup [7, 6, 4, 5, 0, 1, 2, 3]; decide) (by show List.Nodup [7, 6, 4, 5, 0, 1, 2, 3]; decide) ?_
          exact at215 NC _ _ (by omega) (by omega)
        | succ r ihr =>
          intro c hc hdc old s5
          have hcl : c < NC := by omega
          refine fe_s 4 (pc' := 149) (lc' := [(7, .int (nI c)), (6, .int old), (4, .int (nI 9)), (5, .int s5), (0, .ref 0), (1, .int (nI W)), (2, .int set), (3, .int may)]) (stk' := [.int 0, .ref 1, .int (nI c)]) (mem' := fm g tp bt a b) (fun _ _ _ => rfl) ?_
          refine fe_ldI (by rfl) (by rfl) (fx_inN (i := 0) (by omega) (by omega)) ?_
          rw [show Int32.toNatClampNeg (0) = 0 from rfl]
          rw [show a 1 0 = nI NC from (fm_D_h hD (by decide) rfl).trans eNC]
          refine fe_s 1 (pc' := cond (fx_cb .ge (nI c) (nI NC)) 215 153) (lc' := [(7, .int (nI c)), (6, .int old), (4, .int (nI 9)), (5, .int s5), (0, .ref 0), (1, .int (nI W)), (2, .int set), (3, .int may)]) (stk' := []) (mem' := fm g tp bt a b) (fun _ _ _ => rfl) ?_
          rw [show (fx_cb .ge (nI c) (nI NC)) = false from cb_geF (a := c) (b := NC) (by omega) (by omega) (by omega)]
          dsimp only [cond]
          refine fe_s 3 (pc' := 157) (lc' := [(7, .int (nI c)), (6, .int old), (4, .int (nI 9)), (5, .int s5), (0, .ref 0), (1, .int (nI W)), (2, .int set), (3, .int may)]) (stk' := [.int (nI c), .int may, .ref 0]) (mem' := fm g tp bt a b) (fun _ _ _ => rfl) ?_
          refine fe_ivV fr_isIn (by omega) (by rfl) (by rfl) (by rfl) (by rfl) (by rfl) (by rfl) ?_
          rcases fm_b_01 may (nI c) with q106 | q106
          · rw [q106]
            refine fe_s 1 (pc' := cond (fx_cb .eq 0 0) 209 163) (lc' := [(7, .int (nI c)), (6, .int old), (4, .int (nI 9)), (5, .int s5), (0, .ref 0), (1, .int (nI W)), (2, .int set), (3, .int may)]) (stk' := []) (mem' := fm g tp bt a b) (fun _ _ _ => rfl) ?_
            rw [show (fx_cb .eq 0 0) = true from by decide]
            dsimp only [cond]
            refine fe_s 1 (pc' := 212) (lc' := [(7, .int ((nI c) + 1)), (6, .int old), (4, .int (nI 9)), (5, .int s5), (0, .ref 0), (1, .int (nI W)), (2, .int set), (3, .int may)]) (stk' := []) (mem' := fm g tp bt a b) (fun _ _ _ => rfl) ?_
            rw [show ((nI c) + 1 : Int32) = nI (c + 1) from by simp only [show (1 : Int32) = nI 1 from rfl, nI_add, fm_mul]]
            refine fe_s 1 (pc' := fx_to 212 (-70)) (lc' := [(7, .int (nI (c + 1))), (6, .int old), (4, .int (nI 9)), (5, .int s5), (0, .ref 0), (1, .int (nI W)), (2, .int set), (3, .int may)]) (stk' := []) (mem' := fm g tp bt a b) (fun _ _ _ => rfl) ?_
            rw [show fx_to 212 (-70) = 142 from by decide]
            refine fe_w (lc' := [(7, .int (nI (c + 1))), (6, .int old), (4, .int (nI 9)), (5, .int s5), (0, .ref 0), (1, .int (nI W)), (2, .int set), (3, .int may)]) ⟨rfl, rfl, rfl, rfl, rfl, rfl, rfl, rfl, trivial⟩ (by show List.Nodup [7, 6, 4, 5, 0, 1, 2, 3]; decide) (by show List.Nodup [7, 6, 4, 5, 0, 1, 2, 3]; decide) ?_
            exact ihr (c + 1) (by omega) (by omega) _ _
          · rw [q106]
            refine fe_s 1 (pc' := cond (fx_cb .eq 1 0) 209 163) (lc' := [(7, .int (nI c)), (6, .int old), (4, .int (nI 9)), (5, .int s5), (0, .ref 0), (1, .int (nI W)), (2, .int set), (3, .int may)]) (stk' := []) (mem' := fm g tp bt a b) (fun _ _ _ => rfl) ?_
            rw [show (fx_cb .eq 1 0) = false from by decide]
            dsimp only [cond]
            refine fe_s 3 (pc' := 168) (lc' := [(7, .int (nI c)), (6, .int old), (4, .int (nI 9)), (5, .int s5), (0, .ref 0), (1, .int (nI W)), (2, .int set), (3, .int may)]) (stk' := [.int (nI c), .int s5, .ref 0]) (mem' := fm g tp bt a b) (fun _ _ _ => rfl) ?_
            refine fe_ivV fr_isIn (by omega) (by rfl) (by rfl) (by rfl) (by rfl) (by rfl) (by rfl) ?_
            rcases fm_b_01 s5 (nI c) with q107 | q107
            · rw [q107]
              refine fe_s 1 (pc' := cond (fx_cb .ne 0 0) 209 174) (lc' := [(7, .int (nI c)), (6, .int old), (4, .int (nI 9)), (5, .int s5), (0, .ref 0), (1, .int (nI W)), (2, .int set), (3, .int may)]) (stk' := []) (mem' := fm g tp bt a b) (fun _ _ _ => rfl) ?_
              rw [show (fx_cb .ne 0 0) = false from by decide]
              dsimp only [cond]
              refine fe_s 1 (pc' := 176) (lc' := [(7, .int (nI c)), (6, .int old), (4, .int (nI 9)), (5, .int s5), (0, .ref 0), (1, .int (nI W)), (2, .int set), (3, .int may)]) (stk' := [.int (nI 9)]) (mem' := fm g tp bt a b) (fun _ _ _ => rfl) ?_
              refine fe_s 1 (pc' := cond (fx_cb .ne (nI 9) 0) 191 179) (lc' := [(7, .int (nI c)), (6, .int old), (4, .int (nI 9)), (5, .int s5), (0, .ref 0), (1, .int (nI W)), (2, .int set), (3, .int may)]) (stk' := []) (mem' := fm g tp bt a b) (fun _ _ _ => rfl) ?_
              rw [show (fx_cb .ne (nI 9) 0) = true from cb_neT (a := 9) (b := 0) (by omega) (by omega) (by omega)]
              dsimp only [cond]
              refine fe_s 6 (pc' := 200) (lc' := [(7, .int (nI c)), (6, .int old), (4, .int (nI 9)), (5, .int s5), (0, .ref 0), (1, .int (nI W)), (2, .int set), (3, .int may)]) (stk' := [.int ((nI 9) - 1), .ref 16, .ref 0]) (mem' := fm g tp bt a b) (fun _ _ _ => rfl) ?_
              rw [show ((nI 9) - 1 : Int32) = nI (9 - 1) from by simp only [show (1 : Int32) = nI 1 from rfl, tg_sub2 (x := 9) (y := 1) (by omega), nI_add, fm_mul]]
              refine fe_ldI (by rfl) (by rfl) (fx_inN (i := 9 - 1) (by omega) (by omega)) ?_
              rw [show Int32.toNatClampNeg (nI (9 - 1)) = 9 - 1 from nI_clamp (by omega)]
              obtain ⟨c108, hc108, ec108⟩ := hpre (9 - 1) (by omega)
              rw [ec108]
              refine fe_s 1 (pc' := 203) (lc' := [(7, .int (nI c)), (6, .int old), (4, .int (nI 9)), (5, .int s5), (0, .ref 0), (1, .int (nI W)), (2, .int set), (3, .int may)]) (stk' := [.int (nI c), .int (nI c108), .ref 0]) (mem' := fm g tp bt a b) (fun _ _ _ => rfl) ?_
              refine fe_ivV (fr_isWay (A := c108) (B := nI c) (g := g) (tp := tp) (bt := bt) (a := a) (b := b) (by omega)) (by omega) (by rfl) (by rfl) (by rfl) (by rfl) (by rfl) (by rfl) ?_
              rcases fm_b_01 (a 1 (10 + 6 * c108)) (nI c) with q109 | q109
              · rw [q109]
                refine fe_s 1 (pc' := cond (fx_cb .ne 0 0) 215 209) (lc' := [(7, .int (nI c)), (6, .int old), (4, .int (nI 9)), (5, .int s5), (0, .ref 0), (1, .int (nI W)), (2, .int set), (3, .int may)]) (stk' := []) (mem' := fm g tp bt a b) (fun _ _ _ => rfl) ?_
                rw [show (fx_cb .ne 0 0) = false from by decide]
                dsimp only [cond]
                refine fe_s 1 (pc' := 212) (lc' := [(7, .int ((nI c) + 1)), (6, .int old), (4, .int (nI 9)), (5, .int s5), (0, .ref 0), (1, .int (nI W)), (2, .int set), (3, .int may)]) (stk' := []) (mem' := fm g tp bt a b) (fun _ _ _ => rfl) ?_
                rw [show ((nI c) + 1 : Int32) = nI (c + 1) from by simp only [show (1 : Int32) = nI 1 from rfl, nI_add, fm_mul]]
                refine fe_s 1 (pc' := fx_to 212 (-70)) (lc' := [(7, .int (nI (c + 1))), (6, .int old), (4, .int (nI 9)), (5, .int s5), (0, .ref 0), (1, .int (nI W)), (2, .int set), (3, .int may)]) (stk' := []) (mem' := fm g tp bt a b) (fun _ _ _ => rfl) ?_
                rw [show fx_to 212 (-70) = 142 from by decide]
                refine fe_w (lc' := [(7, .int (nI (c + 1))), (6, .int old), (4, .int (nI 9)), (5, .int s5), (0, .ref 0), (1, .int (nI W)), (2, .int set), (3, .int may)]) ⟨rfl, rfl, rfl, rfl, rfl, rfl, rfl, rfl, trivial⟩ (by show List.Nodup [7, 6, 4, 5, 0, 1, 2, 3]; decide) (by show List.Nodup [7, 6, 4, 5, 0, 1, 2, 3]; decide) ?_
                exact ihr (c + 1) (by omega) (by omega) _ _
              · rw [q109]
                refine fe_s 1 (pc' := cond (fx_cb .ne 1 0) 215 209) (lc' := [(7, .int (nI c)), (6, .int old), (4, .int (nI 9)), (5, .int s5), (0, .ref 0), (1, .int (nI W)), (2, .int set), (3, .int may)]) (stk' := []) (mem' := fm g tp bt a b) (fun _ _ _ => rfl) ?_
                rw [show (fx_cb .ne 1 0) = true from by decide]
                dsimp only [cond]
                refine fe_w (lc' := [(7, .int (nI c)), (6, .int old), (4, .int (nI 9)), (5, .int s5), (0, .ref 0), (1, .int (nI W)), (2, .int set), (3, .int may)]) ⟨rfl, rfl, rfl, rfl, rfl, rfl, rfl, rfl, trivial⟩ (by show List.Nodup [7, 6, 4, 5, 0, 1, 2, 3]; decide) (by show List.Nodup [7, 6, 4, 5, 0, 1, 2, 3]; decide) ?_
                exact at215 c _ _ (by omega) (by omega)
            · rw [q107]
              refine fe_s 1 (pc' := cond (fx_cb .ne 1 0) 209 174) (lc' := [(7, .int (nI c)), (6, .int old), (4, .int (nI 9)), (5, .int s5), (0, .ref 0), (1, .int (nI W)), (2, .int set), (3, .int may)]) (stk' := []) (mem' := fm g tp bt a b) (fun _ _ _ => rfl) ?_
              rw [show (fx_cb .ne 1 0) = true from by decide]
              dsimp only [cond]
              refine fe_s 1 (pc' := 212) (lc' := [(7, .int ((nI c) + 1)), (6, .int old), (4, .int (nI 9)), (5, .int s5), (0, .ref 0), (1, .int (nI W)), (2, .int set), (3, .int may)]) (stk' := []) (mem' := fm g tp bt a b) (fun _ _ _ => rfl) ?_
              rw [show ((nI c) + 1 : Int32) = nI (c + 1) from by simp only [show (1 : Int32) = nI 1 from rfl, nI_add, fm_mul]]
              refine fe_s 1 (pc' := fx_to 212 (-70)) (lc' := [(7, .int (nI (c + 1))), (6, .int old), (4, .int (nI 9)), (5, .int s5), (0, .ref 0), (1, .int (nI W)), (2, .int set), (3, .int may)]) (stk' := []) (mem' := fm g tp bt a b) (fun _ _ _ => rfl) ?_
              rw [show fx_to 212 (-70) = 142 from by decide]
              refine fe_w (lc' := [(7, .int (nI (c + 1))), (6, .int old), (4, .int (nI 9)), (5, .int s5), (0, .ref 0), (1, .int (nI W)), (2, .int set), (3, .int may)]) ⟨rfl, rfl, rfl, rfl, rfl, rfl, rfl, rfl, trivial⟩ (by show List.Nodup [7, 6, 4, 5, 0, 1, 2, 3]; decide) (by show List.Nodup [7, 6, 4, 5, 0, 1, 2, 3]; decide) ?_
              exact ihr (c + 1) (by omega) (by omega) _ _
      refine fe_s 1 (pc' := 107) (lc' := [(4, .int (nI 9)), (5, .int sn), (0, .ref 0), (1, .int (nI W)), (2, .int set), (3, .int may)]) (stk' := [.int (nI 9)]) (mem' := fm g tp bt a b) (fun _ _ _ => rfl) ?_
      refine fe_s 1 (pc' := cond (fx_cb .lt (nI 9) 0) 299 110) (lc' := [(4, .int (nI 9)), (5, .int sn), (0, .ref 0), (1, .int (nI W)), (2, .int set), (3, .int may)]) (stk' := []) (mem' := fm g tp bt a b) (fun _ _ _ => rfl) ?_
      rw [show (fx_cb .lt (nI 9) 0) = false from cb_ltF (a := 9) (b := 0) (by omega) (by omega) (by omega)]
      dsimp only [cond]
      refine fe_s 3 (pc' := 116) (lc' := [(4, .int (nI 9)), (5, .int sn), (0, .ref 0), (1, .int (nI W)), (2, .int set), (3, .int may)]) (stk' := [.int (nI 9), .ref 16]) (mem' := fm g tp bt a b) (fun _ _ _ => rfl) ?_
      refine fe_ldI (by rfl) (by rfl) (fx_inN (i := 9) (by omega) (by omega)) ?_
      rw [show Int32.toNatClampNeg (nI 9) = 9 from rfl]
      rcases hrow with ⟨hd0, er⟩ | ⟨e, hde, er⟩
      · rw [er]
        refine fe_s 3 (pc' := 122) (lc' := [(6, .int (-1)), (4, .int (nI 9)), (5, .int sn), (0, .ref 0), (1, .int (nI W)), (2, .int set), (3, .int may)]) (stk' := [.int (-1), .int (-1)]) (mem' := fm g tp bt a b) (fun _ _ _ => rfl) ?_
        refine fe_s 1 (pc' := cond (fx_cb .eq (-1) (-1)) 136 125) (lc' := [(6, .int (-1)), (4, .int (nI 9)), (5, .int sn), (0, .ref 0), (1, .int (nI W)), (2, .int set), (3, .int may)]) (stk' := []) (mem' := fm g tp bt a b) (fun _ _ _ => rfl) ?_
        rw [show (fx_cb .eq (-1) (-1)) = true from by decide]
        dsimp only [cond]
        refine fe_s 4 (pc' := 142) (lc' := [(7, .int ((-1) + 1)), (6, .int (-1)), (4, .int (nI 9)), (5, .int sn), (0, .ref 0), (1, .int (nI W)), (2, .int set), (3, .int may)]) (stk' := []) (mem' := fm g tp bt a b) (fun _ _ _ => rfl) ?_
        rw [show ((-1) + 1 : Int32) = 0 from rfl]
        refine fe_w (lc' := [(7, .int 0), (6, .int (-1)), (4, .int (nI 9)), (5, .int sn), (0, .ref 0), (1, .int (nI W)), (2, .int set), (3, .int may)]) ⟨rfl, rfl, rfl, rfl, rfl, rfl, rfl, rfl, trivial⟩ (by show List.Nodup [7, 6, 4, 5, 0, 1, 2, 3]; decide) (by show List.Nodup [7, 6, 4, 5, 0, 1, 2, 3]; decide) ?_
        exact l142 (NC - (0)) (0) (by omega) (by omega) _ _
      · rw [er]
        refine fe_s 3 (pc' := 122) (lc' := [(6, .int (nI e)), (4, .int (nI 9)), (5, .int sn), (0, .ref 0), (1, .int (nI W)), (2, .int set), (3, .int may)]) (stk' := [.int (-1), .int (nI e)]) (mem' := fm g tp bt a b) (fun _ _ _ => rfl) ?_
        refine fe_s 1 (pc' := cond (fx_cb .eq (nI e) (-1)) 136 125) (lc' := [(6, .int (nI e)), (4, .int (nI 9)), (5, .int sn), (0, .ref 0), (1, .int (nI W)), (2, .int set), (3, .int may)]) (stk' := []) (mem' := fm g tp bt a b) (fun _ _ _ => rfl) ?_
        rw [show (fx_cb .eq (nI e) (-1)) = false from cb_n_eq (by omega) (by decide)]
        dsimp only [cond]
        refine fe_s 12 (pc' := 142) (lc' := [(7, .int ((nI e) + 1)), (5, .int (sn &&& (((1 : Int32) <<< ((nI e) &&& 31)) ^^^ (-1)))), (6, .int (nI e)), (4, .int (nI 9)), (0, .ref 0), (1, .int (nI W)), (2, .int set), (3, .int may)]) (stk' := []) (mem' := fm g tp bt a b) (fun _ _ _ => rfl) ?_
        rw [show ((nI e) + 1 : Int32) = nI (e + 1) from by simp only [show (1 : Int32) = nI 1 from rfl, nI_add, fm_mul]]
        refine fe_w (lc' := [(7, .int (nI (e + 1))), (6, .int (nI e)), (4, .int (nI 9)), (5, .int (sn &&& (((1 : Int32) <<< ((nI e) &&& 31)) ^^^ (-1)))), (0, .ref 0), (1, .int (nI W)), (2, .int set), (3, .int may)]) ⟨rfl, rfl, rfl, rfl, rfl, rfl, rfl, rfl, trivial⟩ (by show List.Nodup [7, 6, 4, 5, 0, 1, 2, 3]; decide) (by show List.Nodup [7, 5, 6, 4, 0, 1, 2, 3]; decide) ?_
        exact l142 (NC - (e + 1)) (e + 1) (by omega) (by omega) _ _
  | succ n ihn =>
    intro p hp m
    induction m with
    | zero => intro d hd hdN; exfalso; omega
    | succ m ihm =>
      intro d hd hdN a sn hD hpre hrow hK
      have hNW := fm_B_0 hB (i := 1) (n := 8) (by decide) rfl
      have at215 : ∀ (c : Nat) (old s5 : Int32), d ≤ c → c ≤ NC → fe_R 8 gk_m349 215 [(7, .int (nI c)), (6, .int old), (4, .int (nI p)), (5, .int s5), (0, .ref 0), (1, .int (nI W)), (2, .int set), (3, .int may)] [] (fm g tp bt a b) (fun R => ∃ v : Int32, (v = 0 ∨ v = 1) ∧ ∃ a' : Nat → Nat → Int32, fm_D a0 a' T ∧ R = (some (.int v), fm g tp bt a' b)) := by
        intro c old s5 hdc hcN
        refine fe_s 4 (pc' := 223) (lc' := [(7, .int (nI c)), (6, .int old), (4, .int (nI p)), (5, .int s5), (0, .ref 0), (1, .int (nI W)), (2, .int set), (3, .int may)]) (stk' := [.int (nI c), .int (nI p), .ref 16]) (mem' := fm g tp bt a b) (fun _ _ _ => rfl) ?_
        refine fe_stI (mem' := fm g tp bt (fm_u a 16 (nI p : Int32).toNatClampNeg (nI c)) b) (by rfl) (by rfl) (fx_inN (i := p) (by omega) (by omega)) fm_si16 ?_
        rw [show Int32.toNatClampNeg (nI p) = p from nI_clamp (by omega)]
        obtain ⟨t110, ht110⟩ : ∃ z, z = fm_u a 16 (p) (nI c) := ⟨_, rfl⟩
        rw [← ht110]
        have hDt110 : fm_D a0 t110 T := by rw [ht110]; exact fm_D_ot hD (by decide) (by decide) rfl
        refine fe_s 4 (pc' := 231) (lc' := [(7, .int (nI c)), (6, .int old), (4, .int (nI p)), (5, .int s5), (0, .ref 0), (1, .int (nI W)), (2, .int set), (3, .int may)]) (stk' := [.int 0, .ref 1, .int (nI c)]) (mem' := fm g tp bt t110 b) (fun _ _ _ => rfl) ?_
        refine fe_ldI (by rfl) (by rfl) (fx_inN (i := 0) (by omega) (by omega)) ?_
        rw [show Int32.toNatClampNeg (0) = 0 from rfl]
        rw [show t110 1 0 = nI NC from (fm_D_h hDt110 (by decide) rfl).trans eNC]
        refine fe_s 1 (pc' := cond (fx_cb .ne (nI c) (nI NC)) 241 235) (lc' := [(7, .int (nI c)), (6, .int old), (4, .int (nI p)), (5, .int s5), (0, .ref 0), (1, .int (nI W)), (2, .int set), (3, .int may)]) (stk' := []) (mem' := fm g tp bt t110 b) (fun _ _ _ => rfl) ?_
        by_cases h111 : c = NC
        · rw [show (fx_cb .ne (nI c) (nI NC)) = false from cb_neF (a := c) (b := NC) (by omega) (by omega) (by omega)]
          dsimp only [cond]
          refine fe_s 1 (pc' := 238) (lc' := [(4, .int ((nI p) + (-1))), (7, .int (nI c)), (6, .int old), (5, .int s5), (0, .ref 0), (1, .int (nI W)), (2, .int set), (3, .int may)]) (stk' := []) (mem' := fm g tp bt t110 b) (fun _ _ _ => rfl) ?_
          refine fe_s 1 (pc' := fx_to 238 (-133)) (lc' := [(4, .int ((nI p) + (-1))), (7, .int (nI c)), (6, .int old), (5, .int s5), (0, .ref 0), (1, .int (nI W)), (2, .int set), (3, .int may)]) (stk' := []) (mem' := fm g tp bt t110 b) (fun _ _ _ => rfl) ?_
          rw [show fx_to 238 (-133) = 105 from by decide]
          refine fe_w (lc' := [(4, .int ((nI p) + (-1))), (5, .int s5), (0, .ref 0), (1, .int (nI W)), (2, .int set), (3, .int may)]) ⟨rfl, rfl, rfl, rfl, rfl, rfl, trivial⟩ (by show List.Nodup [4, 5, 0, 1, 2, 3]; decide) (by show List.Nodup [4, 7, 6, 5, 0, 1, 2, 3]; decide) ?_
          exact hK _ _ hDt110 (fun i hi => by rw [ht110, fm_us, if_neg (by omega)])
        · rw [show (fx_cb .ne (nI c) (nI NC)) = true from cb_neT (a := c) (b := NC) (by omega) (by omega) (by omega)]
          dsimp only [cond]
          refine fe_s 7 (pc' := 252) (lc' := [(5, .int (s5 ||| ((1 : Int32) <<< ((nI c) &&& 31)))), (7, .int (nI c)), (6, .int old), (4, .int (nI p)), (0, .ref 0), (1, .int (nI W)), (2, .int set), (3, .int may)]) (stk' := [.int (nI p)]) (mem' := fm g tp bt t110 b) (fun _ _ _ => rfl) ?_
          refine fe_s 1 (pc' := cond (fx_cb .le (nI p) 0) 275 255) (lc' := [(5, .int (s5 ||| ((1 : Int32) <<< ((nI c) &&& 31)))), (7, .int (nI c)), (6, .int old), (4, .int (nI p)), (0, .ref 0), (1, .int (nI W)), (2, .int set), (3, .int may)]) (stk' := []) (mem' := fm g tp bt t110 b) (fun _ _ _ => rfl) ?_
          by_cases h112 : p ≤ 0
          · rw [show (fx_cb .le (nI p) 0) = true from cb_leT (a := p) (b := 0) (by omega) (by omega) (by omega)]
            dsimp only [cond]
            refine fe_s 2 (pc' := 279) (lc' := [(5, .int (s5 ||| ((1 : Int32) <<< ((nI c) &&& 31)))), (7, .int (nI c)), (6, .int old), (4, .int (nI p)), (0, .ref 0), (1, .int (nI W)), (2, .int set), (3, .int may)]) (stk' := [.int 9, .int (nI p)]) (mem' := fm g tp bt t110 b) (fun _ _ _ => rfl) ?_
            refine fe_s 1 (pc' := cond (fx_cb .ne (nI p) 9) 285 282) (lc' := [(5, .int (s5 ||| ((1 : Int32) <<< ((nI c) &&& 31)))), (7, .int (nI c)), (6, .int old), (4, .int (nI p)), (0, .ref 0), (1, .int (nI W)), (2, .int set), (3, .int may)]) (stk' := []) (mem' := fm g tp bt t110 b) (fun _ _ _ => rfl) ?_
            rw [show (fx_cb .ne (nI p) 9) = true from cb_neT (a := p) (b := 9) (by omega) (by omega) (by omega)]
            dsimp only [cond]
            refine fe_s 5 (pc' := 295) (lc' := [(4, .int ((nI p) + 1)), (5, .int (s5 ||| ((1 : Int32) <<< ((nI c) &&& 31)))), (7, .int (nI c)), (6, .int old), (0, .ref 0), (1, .int (nI W)), (2, .int set), (3, .int may)]) (stk' := [.int (-1), .int ((nI p) + 1), .ref 16]) (mem' := fm g tp bt t110 b) (fun _ _ _ => rfl) ?_
            rw [show ((nI p) + 1 : Int32) = nI (p + 1) from by simp only [show (1 : Int32) = nI 1 from rfl, nI_add, fm_mul]]
            refine fe_stI (mem' := fm g tp bt (fm_u t110 16 (nI (p + 1) : Int32).toNatClampNeg (-1)) b) (by rfl) (by rfl) (fx_inN (i := p + 1) (by omega) (by omega)) fm_si16 ?_
            rw [show Int32.toNatClampNeg (nI (p + 1)) = p + 1 from nI_clamp (by omega)]
            obtain ⟨t113, ht113⟩ : ∃ z, z = fm_u t110 16 (p + 1) (-1) := ⟨_, rfl⟩
            rw [← ht113]
            have hDt113 : fm_D a0 t113 T := by rw [ht113]; exact fm_D_ot hDt110 (by decide) (by decide) rfl
            refine fe_s 1 (pc' := fx_to 296 (-191)) (lc' := [(4, .int (nI (p + 1))), (5, .int (s5 ||| ((1 : Int32) <<< ((nI c) &&& 31)))), (7, .int (nI c)), (6, .int old), (0, .ref 0), (1, .int (nI W)), (2, .int set), (3, .int may)]) (stk' := []) (mem' := fm g tp bt t113 b) (fun _ _ _ => rfl) ?_
            rw [show fx_to 296 (-191) = 105 from by decide]
            refine fe_w (lc' := [(4, .int (nI (p + 1))), (5, .int (s5 ||| ((1 : Int32) <<< ((nI c) &&& 31)))), (0, .ref 0), (1, .int (nI W)), (2, .int set), (3, .int may)]) ⟨rfl, rfl, rfl, rfl, rfl, rfl, trivial⟩ (by show List.Nodup [4, 5, 0, 1, 2, 3]; decide) (by show List.Nodup [4, 5, 7, 6, 0, 1, 2, 3]; decide) ?_
            refine ihn (p + 1) (by omega) 11 0 (by omega) (by omega) _ _ hDt113 (fun i hi => ?_) (Or.inl ⟨rfl, by rw [ht113, fm_us, if_pos rfl]⟩) (fun a2 s2 h2 h3 => ?_)
            · rw [ht113, fm_us, if_neg (by omega), ht110, fm_us]
              by_cases e : i = p
              · rw [if_pos e]; exact ⟨c, by omega, rfl⟩
              · rw [if_neg e]; exact hpre i (by omega)
            · rw [nI_dec]
              have hv : ∀ i, i < p → a2 16 i = a 16 i := fun i hi => by rw [h3 i (by omega), ht113, fm_us, if_neg (by omega), ht110, fm_us, if_neg (by omega)]
              exact ihm (c + 1) (by omega) (by omega) a2 s2 h2 (fun i hi => by rw [hv i hi]; exact hpre i hi) (Or.inr ⟨c, rfl, by rw [h3 p (by omega), ht113, fm_us, if_neg (by omega), ht110, fm_us, if_pos rfl]⟩) (fun a4 s4 h4 h5 => hK a4 s4 h4 (fun i hi => by rw [h5 i hi, hv i hi]))
          · rw [show (fx_cb .le (nI p) 0) = false from cb_leF (a := p) (b := 0) (by omega) (by omega) (by omega)]
            dsimp only [cond]
            refine fe_s 2 (pc' := 258) (lc' := [(5, .int (s5 ||| ((1 : Int32) <<< ((nI c) &&& 31)))), (7, .int (nI c)), (6, .int old), (4, .int (nI p)), (0, .ref 0), (1, .int (nI W)), (2, .int set), (3, .int may)]) (stk' := [.int (nI c), .ref 0]) (mem' := fm g tp bt t110 b) (fun _ _ _ => rfl) ?_
            obtain ⟨v114, z115, hv114⟩ := fq_isShore (C := c) (g := g) (tp := tp) (bt := bt) (a := t110) (b := b) (by omega)
            refine fe_ivV hv114 (by omega) (by rfl) (by rfl) (by rfl) (by rfl) (by rfl) (by rfl) ?_
            rcases z115 with rfl | rfl
            · refine fe_s 1 (pc' := cond (fx_cb .eq 0 0) 275 264) (lc' := [(5, .int (s5 ||| ((1 : Int32) <<< ((nI c) &&& 31)))), (7, .int (nI c)), (6, .int old), (4, .int (nI p)), (0, .ref 0), (1, .int (nI W)), (2, .int set), (3, .int may)]) (stk' := []) (mem' := fm g tp bt t110 b) (fun _ _ _ => rfl) ?_
              rw [show (fx_cb .eq 0 0) = true from by decide]
              dsimp only [cond]
              refine fe_s 2 (pc' := 279) (lc' := [(5, .int (s5 ||| ((1 : Int32) <<< ((nI c) &&& 31)))), (7, .int (nI c)), (6, .int old), (4, .int (nI p)), (0, .ref 0), (1, .int (nI W)), (2, .int set), (3, .int may)]) (stk' := [.int 9, .int (nI p)]) (mem' := fm g tp bt t110 b) (fun _ _ _ => rfl) ?_
              refine fe_s 1 (pc' := cond (fx_cb .ne (nI p) 9) 285 282) (lc' := [(5, .int (s5 ||| ((1 : Int32) <<< ((nI c) &&& 31)))), (7, .int (nI c)), (6, .int old), (4, .int (nI p)), (0, .ref 0), (1, .int (nI W)), (2, .int set), (3, .int may)]) (stk' := []) (mem' := fm g tp bt t110 b) (fun _ _ _ => rfl) ?_
              rw [show (fx_cb .ne (nI p) 9) = true from cb_neT (a := p) (b := 9) (by omega) (by omega) (by omega)]
              dsimp only [cond]
              refine fe_s 5 (pc' := 295) (lc' := [(4, .int ((nI p) + 1)), (5, .int (s5 ||| ((1 : Int32) <<< ((nI c) &&& 31)))), (7, .int (nI c)), (6, .int old), (0, .ref 0), (1, .int (nI W)), (2, .int set), (3, .int may)]) (stk' := [.int (-1), .int ((nI p) + 1), .ref 16]) (mem' := fm g tp bt t110 b) (fun _ _ _ => rfl) ?_
              rw [show ((nI p) + 1 : Int32) = nI (p + 1) from by simp only [show (1 : Int32) = nI 1 from rfl, nI_add, fm_mul]]
              refine fe_stI (mem' := fm g tp bt (fm_u t110 16 (nI (p + 1) : Int32).toNatClampNeg (-1)) b) (by rfl) (by rfl) (fx_inN (i := p + 1) (by omega) (by omega)) fm_si16 ?_
              rw [show Int32.toNatClampNeg (nI (p + 1)) = p + 1 from nI_clamp (by omega)]
              obtain ⟨t116, ht116⟩ : ∃ z, z = fm_u t110 16 (p + 1) (-1) := ⟨_, rfl⟩
              rw [← ht116]
              have hDt116 : fm_D a0 t116 T := by rw [ht116]; exact fm_D_ot hDt110 (by decide) (by decide) rfl
              refine fe_s 1 (pc' := fx_to 296 (-191)) (lc' := [(4, .int (nI (p + 1))), (5, .int (s5 ||| ((1 : Int32) <<< ((nI c) &&& 31)))), (7, .int (nI c)), (6, .int old), (0, .ref 0), (1, .int (nI W)), (2, .int set), (3, .int may)]) (stk' := []) (mem' := fm g tp bt t116 b) (fun _ _ _ => rfl) ?_
              rw [show fx_to 296 (-191) = 105 from by decide]
              refine fe_w (lc' := [(4, .int (nI (p + 1))), (5, .int (s5 ||| ((1 : Int32) <<< ((nI c) &&& 31)))), (0, .ref 0), (1, .int (nI W)), (2, .int set), (3, .int may)]) ⟨rfl, rfl, rfl, rfl, rfl, rfl, trivial⟩ (by show List.Nodup [4, 5, 0, 1, 2, 3]; decide) (by show List.Nodup [4, 5, 7, 6, 0, 1, 2, 3]; decide) ?_
              refine ihn (p + 1) (by omega) 11 0 (by omega) (by omega) _ _ hDt116 (fun i hi => ?_) (Or.inl ⟨rfl, by rw [ht116, fm_us, if_pos rfl]⟩) (fun a2 s2 h2 h3 => ?_)
              · rw [ht116, fm_us, if_neg (by omega), ht110, fm_us]
                by_cases e : i = p
                · rw [if_pos e]; exact ⟨c, by omega, rfl⟩
                · rw [if_neg e]; exact hpre i (by omega)
              · rw [nI_dec]
                have hv : ∀ i, i < p → a2 16 i = a 16 i := fun i hi => by rw [h3 i (by omega), ht116, fm_us, if_neg (by omega), ht110, fm_us, if_neg (by omega)]
                exact ihm (c + 1) (by omega) (by omega) a2 s2 h2 (fun i hi => by rw [hv i hi]; exact hpre i hi) (Or.inr ⟨c, rfl, by rw [h3 p (by omega), ht116, fm_us, if_neg (by omega), ht110, fm_us, if_pos rfl]⟩) (fun a4 s4 h4 h5 => hK a4 s4 h4 (fun i hi => by rw [h5 i hi, hv i hi]))
            · refine fe_s 1 (pc' := cond (fx_cb .eq 1 0) 275 264) (lc' := [(5, .int (s5 ||| ((1 : Int32) <<< ((nI c) &&& 31)))), (7, .int (nI c)), (6, .int old), (4, .int (nI p)), (0, .ref 0), (1, .int (nI W)), (2, .int set), (3, .int may)]) (stk' := []) (mem' := fm g tp bt t110 b) (fun _ _ _ => rfl) ?_
              rw [show (fx_cb .eq 1 0) = false from by decide]
              dsimp only [cond]
              refine fe_s 5 (pc' := 270) (lc' := [(5, .int (s5 ||| ((1 : Int32) <<< ((nI c) &&& 31)))), (7, .int (nI c)), (6, .int old), (4, .int (nI p)), (0, .ref 0), (1, .int (nI W)), (2, .int set), (3, .int may)]) (stk' := [.int (set &&& ((s5 ||| ((1 : Int32) <<< ((nI c) &&& 31))) ^^^ (-1)))]) (mem' := fm g tp bt t110 b) (fun _ _ _ => rfl) ?_
              refine fe_s 1 (pc' := cond (fx_cb .ne (set &&& ((s5 ||| ((1 : Int32) <<< ((nI c) &&& 31))) ^^^ (-1))) 0) 275 273) (lc' := [(5, .int (s5 ||| ((1 : Int32) <<< ((nI c) &&& 31)))), (7, .int (nI c)), (6, .int old), (4, .int (nI p)), (0, .ref 0), (1, .int (nI W)), (2, .int set), (3, .int may)]) (stk' := []) (mem' := fm g tp bt t110 b) (fun _ _ _ => rfl) ?_
              cases h117 : fx_cb .ne (set &&& ((s5 ||| ((1 : Int32) <<< ((nI c) &&& 31))) ^^^ (-1))) 0
              · refine fe_s 1 (pc' := 274) (lc' := [(5, .int (s5 ||| ((1 : Int32) <<< ((nI c) &&& 31)))), (7, .int (nI c)), (6, .int old), (4, .int (nI p)), (0, .ref 0), (1, .int (nI W)), (2, .int set), (3, .int may)]) (stk' := [.int 1]) (mem' := fm g tp bt t110 b) (fun _ _ _ => rfl) ?_
                exact fe_ret ⟨_, Or.inr rfl, _, hDt110, rfl⟩ (by rfl) (by rfl) (by rfl)
              · refine fe_s 2 (pc' := 279) (lc' := [(5, .int (s5 ||| ((1 : Int32) <<< ((nI c) &&& 31)))), (7, .int (nI c)), (6, .int old), (4, .int (nI p)), (0, .ref 0), (1, .int (nI W)), (2, .int set), (3, .int may)]) (stk' := [.int 9, .int (nI p)]) (mem' := fm g tp bt t110 b) (fun _ _ _ => rfl) ?_
                refine fe_s 1 (pc' := cond (fx_cb .ne (nI p) 9) 285 282) (lc' := [(5, .int (s5 ||| ((1 : Int32) <<< ((nI c) &&& 31)))), (7, .int (nI c)), (6, .int old), (4, .int (nI p)), (0, .ref 0), (1, .int (nI W)), (2, .int set), (3, .int may)]) (stk' := []) (mem' := fm g tp bt t110 b) (fun _ _ _ => rfl) ?_
                rw [show (fx_cb .ne (nI p) 9) = true from cb_neT (a := p) (b := 9) (by omega) (by omega) (by omega)]
                dsimp only [cond]
                refine fe_s 5 (pc' := 295) (lc' := [(4, .int ((nI p) + 1)), (5, .int (s5 ||| ((1 : Int32) <<< ((nI c) &&& 31)))), (7, .int (nI c)), (6, .int old), (0, .ref 0), (1, .int (nI W)), (2, .int set), (3, .int may)]) (stk' := [.int (-1), .int ((nI p) + 1), .ref 16]) (mem' := fm g tp bt t110 b) (fun _ _ _ => rfl) ?_
                rw [show ((nI p) + 1 : Int32) = nI (p + 1) from by simp only [show (1 : Int32) = nI 1 from rfl, nI_add, fm_mul]]
                refine fe_stI (mem' := fm g tp bt (fm_u t110 16 (nI (p + 1) : Int32).toNatClampNeg (-1)) b) (by rfl) (by rfl) (fx_inN (i := p + 1) (by omega) (by omega)) fm_si16 ?_
                rw [show Int32.toNatClampNeg (nI (p + 1)) = p + 1 from nI_clamp (by omega)]
                obtain ⟨t118, ht118⟩ : ∃ z, z = fm_u t110 16 (p + 1) (-1) := ⟨_, rfl⟩
                rw [← ht118]
                have hDt118 : fm_D a0 t118 T := by rw [ht118]; exact fm_D_ot hDt110 (by decide) (by decide) rfl
                refine fe_s 1 (pc' := fx_to 296 (-191)) (lc' := [(4, .int (nI (p + 1))), (5, .int (s5 ||| ((1 : Int32) <<< ((nI c) &&& 31)))), (7, .int (nI c)), (6, .int old), (0, .ref 0), (1, .int (nI W)), (2, .int set), (3, .int may)]) (stk' := []) (mem' := fm g tp bt t118 b) (fun _ _ _ => rfl) ?_
                rw [show fx_to 296 (-191) = 105 from by decide]
                refine fe_w (lc' := [(4, .int (nI (p + 1))), (5, .int (s5 ||| ((1 : Int32) <<< ((nI c) &&& 31)))), (0, .ref 0), (1, .int (nI W)), (2, .int set), (3, .int may)]) ⟨rfl, rfl, rfl, rfl, rfl, rfl, trivial⟩ (by show List.Nodup [4, 5, 0, 1, 2, 3]; decide) (by show List.Nodup [4, 5, 7, 6, 0, 1, 2, 3]; decide) ?_
                refine ihn (p + 1) (by omega) 11 0 (by omega) (by omega) _ _ hDt118 (fun i hi => ?_) (Or.inl ⟨rfl, by rw [ht118, fm_us, if_pos rfl]⟩) (fun a2 s2 h2 h3 => ?_)
                · rw [ht118, fm_us, if_neg (by omega), ht110, fm_us]
                  by_cases e : i = p
                  · rw [if_pos e]; exact ⟨c, by omega, rfl⟩
                  · rw [if_neg e]; exact hpre i (by omega)
                · rw [nI_dec]
                  have hv : ∀ i, i < p → a2 16 i = a 16 i := fun i hi => by rw [h3 i (by omega), ht118, fm_us, if_neg (by omega), ht110, fm_us, if_neg (by omega)]
                  exact ihm (c + 1) (by omega) (by omega) a2 s2 h2 (fun i hi => by rw [hv i hi]; exact hpre i hi) (Or.inr ⟨c, rfl, by rw [h3 p (by omega), ht118, fm_us, if_neg (by omega), ht110, fm_us, if_pos rfl]⟩) (fun a4 s4 h4 h5 => hK a4 s4 h4 (fun i hi => by rw [h5 i hi, hv i hi]))
      have l142 : ∀ (r c : Nat), c + r = NC → d ≤ c → ∀ (old s5 : Int32), fe_R 8 gk_m349 142 [(7, .int (nI c)), (6, .int old), (4, .int (nI p)), (5, .int s5), (0, .ref 0), (1, .int (nI W)), (2, .int set), (3, .int may)] [] (fm g tp bt a b) (fun R => ∃ v : Int32, (v = 0 ∨ v = 1) ∧ ∃ a' : Nat → Nat → Int32, fm_D a0 a' T ∧ R = (some (.int v), fm g tp bt a' b)) := by
        intro r
        induction r with
        | zero =>
          intro c hc hdc old s5
          obtain rfl : NC = c := by omega
          refine fe_s 4 (pc' := 149) (lc' := [(7, .int (nI NC)), (6, .int old), (4, .int (nI p)), (5, .int s5), (0, .ref 0), (1, .int (nI W)), (2, .int set), (3, .int may)]) (stk' := [.int 0, .ref 1, .int (nI NC)]) (mem' := fm g tp bt a b) (fun _ _ _ => rfl) ?_
          refine fe_ldI (by rfl) (by rfl) (fx_inN (i := 0) (by omega) (by omega)) ?_
          rw [show Int32.toNatClampNeg (0) = 0 from rfl]
          rw [show a 1 0 = nI NC from (fm_D_h hD (by decide) rfl).trans eNC]
          refine fe_s 1 (pc' := cond (fx_cb .ge (nI NC) (nI NC)) 215 153) (lc' := [(7, .int (nI NC)), (6, .int old), (4, .int (nI p)), (5, .int s5), (0, .ref 0), (1, .int (nI W)), (2, .int set), (3, .int may)]) (stk' := []) (mem' := fm g tp bt a b) (fun _ _ _ => rfl) ?_
          rw [show (fx_cb .ge (nI NC) (nI NC)) = true from cb_geT (a := NC) (b := NC) (by omega) (by omega) (by omega)]
          dsimp only [cond]
          refine fe_w (lc' := [(7, .int (nI NC)), (6, .int old), (4, .int (nI p)), (5, .int s5), (0, .ref 0), (1, .int (nI W)), (2, .int set), (3, .int may)]) ⟨rfl, rfl, rfl, rfl, rfl, rfl, rfl, rfl, trivial⟩ (by show List.Nodup [7, 6, 4, 5, 0, 1, 2, 3]; decide) (by show List.Nodup [7, 6, 4, 5, 0, 1, 2, 3]; decide) ?_
          exact at215 NC _ _ (by omega) (by omega)
        | succ r ihr =>
          intro c hc hdc old s5
          have hcl : c < NC := by omega
          refine fe_s 4 (pc' := 149) (lc' := [(7, .int (nI c)), (6, .int old), (4, .int (nI p)), (5, .int s5), (0, .ref 0), (1, .int (nI W)), (2, .int set), (3, .int may)]) (stk' := [.int 0, .ref 1, .int (nI c)]) (mem' := fm g tp bt a b) (fun _ _ _ => rfl) ?_
          refine fe_ldI (by rfl) (by rfl) (fx_inN (i := 0) (by omega) (by omega)) ?_
          rw [show Int32.toNatClampNeg (0) = 0 from rfl]
          rw [show a 1 0 = nI NC from (fm_D_h hD (by decide) rfl).trans eNC]
          refine fe_s 1 (pc' := cond (fx_cb .ge (nI c) (nI NC)) 215 153) (lc' := [(7, .int (nI c)), (6, .int old), (4, .int (nI p)), (5, .int s5), (0, .ref 0), (1, .int (nI W)), (2, .int set), (3, .int may)]) (stk' := []) (mem' := fm g tp bt a b) (fun _ _ _ => rfl) ?_
          rw [show (fx_cb .ge (nI c) (nI NC)) = false from cb_geF (a := c) (b := NC) (by omega) (by omega) (by omega)]
          dsimp only [cond]
          refine fe_s 3 (pc' := 157) (lc' := [(7, .int (nI c)), (6, .int old), (4, .int (nI p)), (5, .int s5), (0, .ref 0), (1, .int (nI W)), (2, .int set), (3, .int may)]) (stk' := [.int (nI c), .int may, .ref 0]) (mem' := fm g tp bt a b) (fun _ _ _ => rfl) ?_
          refine fe_ivV fr_isIn (by omega) (by rfl) (by rfl) (by rfl) (by rfl) (by rfl) (by rfl) ?_
          rcases fm_b_01 may (nI c) with q119 | q119
          · rw [q119]
            refine fe_s 1 (pc' := cond (fx_cb .eq 0 0) 209 163) (lc' := [(7, .int (nI c)), (6, .int old), (4, .int (nI p)), (5, .int s5), (0, .ref 0), (1, .int (nI W)), (2, .int set), (3, .int may)]) (stk' := []) (mem' := fm g tp bt a b) (fun _ _ _ => rfl) ?_
            rw [show (fx_cb .eq 0 0) = true from by decide]
            dsimp only [cond]
            refine fe_s 1 (pc' := 212) (lc' := [(7, .int ((nI c) + 1)), (6, .int old), (4, .int (nI p)), (5, .int s5), (0, .ref 0), (1, .int (nI W)), (2, .int set), (3, .int may)]) (stk' := []) (mem' := fm g tp bt a b) (fun _ _ _ => rfl) ?_
            rw [show ((nI c) + 1 : Int32) = nI (c + 1) from by simp only [show (1 : Int32) = nI 1 from rfl, nI_add, fm_mul]]
            refine fe_s 1 (pc' := fx_to 212 (-70)) (lc' := [(7, .int (nI (c + 1))), (6, .int old), (4, .int (nI p)), (5, .int s5), (0, .ref 0), (1, .int (nI W)), (2, .int set), (3, .int may)]) (stk' := []) (mem' := fm g tp bt a b) (fun _ _ _ => rfl) ?_
            rw [show fx_to 212 (-70) = 142 from by decide]
            refine fe_w (lc' := [(7, .int (nI (c + 1))), (6, .int old), (4, .int (nI p)), (5, .int s5), (0, .ref 0), (1, .int (nI W)), (2, .int set), (3, .int may)]) ⟨rfl, rfl, rfl, rfl, rfl, rfl, rfl, rfl, trivial⟩ (by show List.Nodup [7, 6, 4, 5, 0, 1, 2, 3]; decide) (by show List.Nodup [7, 6, 4, 5, 0, 1, 2, 3]; decide) ?_
            exact ihr (c + 1) (by omega) (by omega) _ _
          · rw [q119]
            refine fe_s 1 (pc' := cond (fx_cb .eq 1 0) 209 163) (lc' := [(7, .int (nI c)), (6, .int old), (4, .int (nI p)), (5, .int s5), (0, .ref 0), (1, .int (nI W)), (2, .int set), (3, .int may)]) (stk' := []) (mem' := fm g tp bt a b) (fun _ _ _ => rfl) ?_
            rw [show (fx_cb .eq 1 0) = false from by decide]
            dsimp only [cond]
            refine fe_s 3 (pc' := 168) (lc' := [(7, .int (nI c)), (6, .int old), (4, .int (nI p)), (5, .int s5), (0, .ref 0), (1, .int (nI W)), (2, .int set), (3, .int may)]) (stk' := [.int (nI c), .int s5, .ref 0]) (mem' := fm g tp bt a b) (fun _ _ _ => rfl) ?_
            refine fe_ivV fr_isIn (by omega) (by rfl) (by rfl) (by rfl) (by rfl) (by rfl) (by rfl) ?_
            rcases fm_b_01 s5 (nI c) with q120 | q120
            · rw [q120]
              refine fe_s 1 (pc' := cond (fx_cb .ne 0 0) 209 174) (lc' := [(7, .int (nI c)), (6, .int old), (4, .int (nI p)), (5, .int s5), (0, .ref 0), (1, .int (nI W)), (2, .int set), (3, .int may)]) (stk' := []) (mem' := fm g tp bt a b) (fun _ _ _ => rfl) ?_
              rw [show (fx_cb .ne 0 0) = false from by decide]
              dsimp only [cond]
              refine fe_s 1 (pc' := 176) (lc' := [(7, .int (nI c)), (6, .int old), (4, .int (nI p)), (5, .int s5), (0, .ref 0), (1, .int (nI W)), (2, .int set), (3, .int may)]) (stk' := [.int (nI p)]) (mem' := fm g tp bt a b) (fun _ _ _ => rfl) ?_
              refine fe_s 1 (pc' := cond (fx_cb .ne (nI p) 0) 191 179) (lc' := [(7, .int (nI c)), (6, .int old), (4, .int (nI p)), (5, .int s5), (0, .ref 0), (1, .int (nI W)), (2, .int set), (3, .int may)]) (stk' := []) (mem' := fm g tp bt a b) (fun _ _ _ => rfl) ?_
              by_cases h121 : p = 0
              · rw [show (fx_cb .ne (nI p) 0) = false from cb_neF (a := p) (b := 0) (by omega) (by omega) (by omega)]
                dsimp only [cond]
                refine fe_s 2 (pc' := 182) (lc' := [(7, .int (nI c)), (6, .int old), (4, .int (nI p)), (5, .int s5), (0, .ref 0), (1, .int (nI W)), (2, .int set), (3, .int may)]) (stk' := [.int (nI c), .ref 0]) (mem' := fm g tp bt a b) (fun _ _ _ => rfl) ?_
                obtain ⟨v122, z123, hv122⟩ := fq_isShore (C := c) (g := g) (tp := tp) (bt := bt) (a := a) (b := b) (by omega)
                refine fe_ivV hv122 (by omega) (by rfl) (by rfl) (by rfl) (by rfl) (by rfl) (by rfl) ?_
                rcases z123 with rfl | rfl
                · refine fe_s 1 (pc' := cond (fx_cb .ne 0 0) 215 188) (lc' := [(7, .int (nI c)), (6, .int old), (4, .int (nI p)), (5, .int s5), (0, .ref 0), (1, .int (nI W)), (2, .int set), (3, .int may)]) (stk' := []) (mem' := fm g tp bt a b) (fun _ _ _ => rfl) ?_
                  rw [show (fx_cb .ne 0 0) = false from by decide]
                  dsimp only [cond]
                  refine fe_s 2 (pc' := 212) (lc' := [(7, .int ((nI c) + 1)), (6, .int old), (4, .int (nI p)), (5, .int s5), (0, .ref 0), (1, .int (nI W)), (2, .int set), (3, .int may)]) (stk' := []) (mem' := fm g tp bt a b) (fun _ _ _ => rfl) ?_
                  rw [show ((nI c) + 1 : Int32) = nI (c + 1) from by simp only [show (1 : Int32) = nI 1 from rfl, nI_add, fm_mul]]
                  refine fe_s 1 (pc' := fx_to 212 (-70)) (lc' := [(7, .int (nI (c + 1))), (6, .int old), (4, .int (nI p)), (5, .int s5), (0, .ref 0), (1, .int (nI W)), (2, .int set), (3, .int may)]) (stk' := []) (mem' := fm g tp bt a b) (fun _ _ _ => rfl) ?_
                  rw [show fx_to 212 (-70) = 142 from by decide]
                  refine fe_w (lc' := [(7, .int (nI (c + 1))), (6, .int old), (4, .int (nI p)), (5, .int s5), (0, .ref 0), (1, .int (nI W)), (2, .int set), (3, .int may)]) ⟨rfl, rfl, rfl, rfl, rfl, rfl, rfl, rfl, trivial⟩ (by show List.Nodup [7, 6, 4, 5, 0, 1, 2, 3]; decide) (by show List.Nodup [7, 6, 4, 5, 0, 1, 2, 3]; decide) ?_
                  exact ihr (c + 1) (by omega) (by omega) _ _
                · refine fe_s 1 (pc' := cond (fx_cb .ne 1 0) 215 188) (lc' := [(7, .int (nI c)), (6, .int old), (4, .int (nI p)), (5, .int s5), (0, .ref 0), (1, .int (nI W)), (2, .int set), (3, .int may)]) (stk' := []) (mem' := fm g tp bt a b) (fun _ _ _ => rfl) ?_
                  rw [show (fx_cb .ne 1 0) = true from by decide]
                  dsimp only [cond]
                  refine fe_w (lc' := [(7, .int (nI c)), (6, .int old), (4, .int (nI p)), (5, .int s5), (0, .ref 0), (1, .int (nI W)), (2, .int set), (3, .int may)]) ⟨rfl, rfl, rfl, rfl, rfl, rfl, rfl, rfl, trivial⟩ (by show List.Nodup [7, 6, 4, 5, 0, 1, 2, 3]; decide) (by show List.Nodup [7, 6, 4, 5, 0, 1, 2, 3]; decide) ?_
                  exact at215 c _ _ (by omega) (by omega)
              · rw [show (fx_cb .ne (nI p) 0) = true from cb_neT (a := p) (b := 0) (by omega) (by omega) (by omega)]
                dsimp only [cond]
                refine fe_s 6 (pc' := 200) (lc' := [(7, .int (nI c)), (6, .int old), (4, .int (nI p)), (5, .int s5), (0, .ref 0), (1, .int (nI W)), (2, .int set), (3, .int may)]) (stk' := [.int ((nI p) - 1), .ref 16, .ref 0]) (mem' := fm g tp bt a b) (fun _ _ _ => rfl) ?_
                rw [show ((nI p) - 1 : Int32) = nI (p - 1) from by simp only [show (1 : Int32) = nI 1 from rfl, tg_sub2 (x := p) (y := 1) (by omega), nI_add, fm_mul]]
                refine fe_ldI (by rfl) (by rfl) (fx_inN (i := p - 1) (by omega) (by omega)) ?_
                rw [show Int32.toNatClampNeg (nI (p - 1)) = p - 1 from nI_clamp (by omega)]
                obtain ⟨c124, hc124, ec124⟩ := hpre (p - 1) (by omega)
                rw [ec124]
                refine fe_s 1 (pc' := 203) (lc' := [(7, .int (nI c)), (6, .int old), (4, .int (nI p)), (5, .int s5), (0, .ref 0), (1, .int (nI W)), (2, .int set), (3, .int may)]) (stk' := [.int (nI c), .int (nI c124), .ref 0]) (mem' := fm g tp bt a b) (fun _ _ _ => rfl) ?_
                refine fe_ivV (fr_isWay (A := c124) (B := nI c) (g := g) (tp := tp) (bt := bt) (a := a) (b := b) (by omega)) (by omega) (by rfl) (by rfl) (by rfl) (by rfl) (by rfl) (by rfl) ?_
                rcases fm_b_01 (a 1 (10 + 6 * c124)) (nI c) with q125 | q125
                · rw [q125]
                  refine fe_s 1 (pc' := cond (fx_cb .ne 0 0) 215 209) (lc' := [(7, .int (nI c)), (6, .int old), (4, .int (nI p)), (5, .int s5), (0, .ref 0), (1, .int (nI W)), (2, .int set), (3, .int may)]) (stk' := []) (mem' := fm g tp bt a b) (fun _ _ _ => rfl) ?_
                  rw [show (fx_cb .ne 0 0) = false from by decide]
                  dsimp only [cond]
                  refine fe_s 1 (pc' := 212) (lc' := [(7, .int ((nI c) + 1)), (6, .int old), (4, .int (nI p)), (5, .int s5), (0, .ref 0), (1, .int (nI W)), (2, .int set), (3, .int may)]) (stk' := []) (mem' := fm g tp bt a b) (fun _ _ _ => rfl) ?_
                  rw [show ((nI c) + 1 : Int32) = nI (c + 1) from by simp only [show (1 : Int32) = nI 1 from rfl, nI_add, fm_mul]]
                  refine fe_s 1 (pc' := fx_to 212 (-70)) (lc' := [(7, .int (nI (c + 1))), (6, .int old), (4, .int (nI p)), (5, .int s5), (0, .ref 0), (1, .int (nI W)), (2, .int set), (3, .int may)]) (stk' := []) (mem' := fm g tp bt a b) (fun _ _ _ => rfl) ?_
                  rw [show fx_to 212 (-70) = 142 from by decide]
                  refine fe_w (lc' := [(7, .int (nI (c + 1))), (6, .int old), (4, .int (nI p)), (5, .int s5), (0, .ref 0), (1, .int (nI W)), (2, .int set), (3, .int may)]) ⟨rfl, rfl, rfl, rfl, rfl, rfl, rfl, rfl, trivial⟩ (by show List.Nodup [7, 6, 4, 5, 0, 1, 2, 3]; decide) (by show List.Nodup [7, 6, 4, 5, 0, 1, 2, 3]; decide) ?_
                  exact ihr (c + 1) (by omega) (by omega) _ _
                · rw [q125]
                  refine fe_s 1 (pc' := cond (fx_cb .ne 1 0) 215 209) (lc' := [(7, .int (nI c)), (6, .int old), (4, .int (nI p)), (5, .int s5), (0, .ref 0), (1, .int (nI W)), (2, .int set), (3, .int may)]) (stk' := []) (mem' := fm g tp bt a b) (fun _ _ _ => rfl) ?_
                  rw [show (fx_cb .ne 1 0) = true from by decide]
                  dsimp only [cond]
                  refine fe_w (lc' := [(7, .int (nI c)), (6, .int old), (4, .int (nI p)), (5, .int s5), (0, .ref 0), (1, .int (nI W)), (2, .int set), (3, .int may)]) ⟨rfl, rfl, rfl, rfl, rfl, rfl, rfl, rfl, trivial⟩ (by show List.Nodup [7, 6, 4, 5, 0, 1, 2, 3]; decide) (by show List.Nodup [7, 6, 4, 5, 0, 1, 2, 3]; decide) ?_
                  exact at215 c _ _ (by omega) (by omega)
            · rw [q120]
              refine fe_s 1 (pc' := cond (fx_cb .ne 1 0) 209 174) (lc' := [(7, .int (nI c)), (6, .int old), (4, .int (nI p)), (5, .int s5), (0, .ref 0), (1, .int (nI W)), (2, .int set), (3, .int may)]) (stk' := []) (mem' := fm g tp bt a b) (fun _ _ _ => rfl) ?_
              rw [show (fx_cb .ne 1 0) = true from by decide]
              dsimp only [cond]
              refine fe_s 1 (pc' := 212) (lc' := [(7, .int ((nI c) + 1)), (6, .int old), (4, .int (nI p)), (5, .int s5), (0, .ref 0), (1, .int (nI W)), (2, .int set), (3, .int may)]) (stk' := []) (mem' := fm g tp bt a b) (fun _ _ _ => rfl) ?_
              rw [show ((nI c) + 1 : Int32) = nI (c + 1) from by simp only [show (1 : Int32) = nI 1 from rfl, nI_add, fm_mul]]
              refine fe_s 1 (pc' := fx_to 212 (-70)) (lc' := [(7, .int (nI (c + 1))), (6, .int old), (4, .int (nI p)), (5, .int s5), (0, .ref 0), (1, .int (nI W)), (2, .int set), (3, .int may)]) (stk' := []) (mem' := fm g tp bt a b) (fun _ _ _ => rfl) ?_
              rw [show fx_to 212 (-70) = 142 from by decide]
              refine fe_w (lc' := [(7, .int (nI (c + 1))), (6, .int old), (4, .int (nI p)), (5, .int s5), (0, .ref 0), (1, .int (nI W)), (2, .int set), (3, .int may)]) ⟨rfl, rfl, rfl, rfl, rfl, rfl, rfl, rfl, trivial⟩ (by show List.Nodup [7, 6, 4, 5, 0, 1, 2, 3]; decide) (by show List.Nodup [7, 6, 4, 5, 0, 1, 2, 3]; decide) ?_
              exact ihr (c + 1) (by omega) (by omega) _ _
      refine fe_s 1 (pc' := 107) (lc' := [(4, .int (nI p)), (5, .int sn), (0, .ref 0), (1, .int (nI W)), (2, .int set), (3, .int may)]) (stk' := [.int (nI p)]) (mem' := fm g tp bt a b) (fun _ _ _ => rfl) ?_
      refine fe_s 1 (pc' := cond (fx_cb .lt (nI p) 0) 299 110) (lc' := [(4, .int (nI p)), (5, .int sn), (0, .ref 0), (1, .int (nI W)), (2, .int set), (3, .int may)]) (stk' := []) (mem' := fm g tp bt a b) (fun _ _ _ => rfl) ?_
      rw [show (fx_cb .lt (nI p) 0) = false from cb_ltF (a := p) (b := 0) (by omega) (by omega) (by omega)]
      dsimp only [cond]
      refine fe_s 3 (pc' := 116) (lc' := [(4, .int (nI p)), (5, .int sn), (0, .ref 0), (1, .int (nI W)), (2, .int set), (3, .int may)]) (stk' := [.int (nI p), .ref 16]) (mem' := fm g tp bt a b) (fun _ _ _ => rfl) ?_
      refine fe_ldI (by rfl) (by rfl) (fx_inN (i := p) (by omega) (by omega)) ?_
      rw [show Int32.toNatClampNeg (nI p) = p from nI_clamp (by omega)]
      rcases hrow with ⟨hd0, er⟩ | ⟨e, hde, er⟩
      · rw [er]
        refine fe_s 3 (pc' := 122) (lc' := [(6, .int (-1)), (4, .int (nI p)), (5, .int sn), (0, .ref 0), (1, .int (nI W)), (2, .int set), (3, .int may)]) (stk' := [.int (-1), .int (-1)]) (mem' := fm g tp bt a b) (fun _ _ _ => rfl) ?_
        refine fe_s 1 (pc' := cond (fx_cb .eq (-1) (-1)) 136 125) (lc' := [(6, .int (-1)), (4, .int (nI p)), (5, .int sn), (0, .ref 0), (1, .int (nI W)), (2, .int set), (3, .int may)]) (stk' := []) (mem' := fm g tp bt a b) (fun _ _ _ => rfl) ?_
        rw [show (fx_cb .eq (-1) (-1)) = true from by decide]
        dsimp only [cond]
        refine fe_s 4 (pc' := 142) (lc' := [(7, .int ((-1) + 1)), (6, .int (-1)), (4, .int (nI p)), (5, .int sn), (0, .ref 0), (1, .int (nI W)), (2, .int set), (3, .int may)]) (stk' := []) (mem' := fm g tp bt a b) (fun _ _ _ => rfl) ?_
        rw [show ((-1) + 1 : Int32) = 0 from rfl]
        refine fe_w (lc' := [(7, .int 0), (6, .int (-1)), (4, .int (nI p)), (5, .int sn), (0, .ref 0), (1, .int (nI W)), (2, .int set), (3, .int may)]) ⟨rfl, rfl, rfl, rfl, rfl, rfl, rfl, rfl, trivial⟩ (by show List.Nodup [7, 6, 4, 5, 0, 1, 2, 3]; decide) (by show List.Nodup [7, 6, 4, 5, 0, 1, 2, 3]; decide) ?_
        exact l142 (NC - (0)) (0) (by omega) (by omega) _ _
      · rw [er]
        refine fe_s 3 (pc' := 122) (lc' := [(6, .int (nI e)), (4, .int (nI p)), (5, .int sn), (0, .ref 0), (1, .int (nI W)), (2, .int set), (3, .int may)]) (stk' := [.int (-1), .int (nI e)]) (mem' := fm g tp bt a b) (fun _ _ _ => rfl) ?_
        refine fe_s 1 (pc' := cond (fx_cb .eq (nI e) (-1)) 136 125) (lc' := [(6, .int (nI e)), (4, .int (nI p)), (5, .int sn), (0, .ref 0), (1, .int (nI W)), (2, .int set), (3, .int may)]) (stk' := []) (mem' := fm g tp bt a b) (fun _ _ _ => rfl) ?_
        rw [show (fx_cb .eq (nI e) (-1)) = false from cb_n_eq (by omega) (by decide)]
        dsimp only [cond]
        refine fe_s 12 (pc' := 142) (lc' := [(7, .int ((nI e) + 1)), (5, .int (sn &&& (((1 : Int32) <<< ((nI e) &&& 31)) ^^^ (-1)))), (6, .int (nI e)), (4, .int (nI p)), (0, .ref 0), (1, .int (nI W)), (2, .int set), (3, .int may)]) (stk' := []) (mem' := fm g tp bt a b) (fun _ _ _ => rfl) ?_
        rw [show ((nI e) + 1 : Int32) = nI (e + 1) from by simp only [show (1 : Int32) = nI 1 from rfl, nI_add, fm_mul]]
        refine fe_w (lc' := [(7, .int (nI (e + 1))), (6, .int (nI e)), (4, .int (nI p)), (5, .int (sn &&& (((1 : Int32) <<< ((nI e) &&& 31)) ^^^ (-1)))), (0, .ref 0), (1, .int (nI W)), (2, .int set), (3, .int may)]) ⟨rfl, rfl, rfl, rfl, rfl, rfl, rfl, rfl, trivial⟩ (by show List.Nodup [7, 6, 4, 5, 0, 1, 2, 3]; decide) (by show List.Nodup [7, 5, 6, 4, 0, 1, 2, 3]; decide) ?_
        exact l142 (NC - (e + 1)) (e + 1) (by omega) (by omega) _ _
set_option maxHeartbeats 8000000 in
set_option maxRecDepth 20000 in
theorem fr_isSuspect {T : Nat} {W : Nat} {set : Int32} (hB : fm_B a0) (hD : fm_D a0 a T) (hW : W < 8) : ∃ (v : Option Value) (mem' : fx_M), (fun R => ∃ v : Int32, (v = 0 ∨ v = 1) ∧ ∃ a' : Nat → Nat → Int32, fm_D a0 a' T ∧ R = (some (.int v), fm g tp bt a' b)) (v, mem') ∧ fr_T 9 349 [.ref 0, .int (nI W), .int set] (fm g tp bt a b) v mem' := by
  obtain ⟨NC, hNC, eNC⟩ := fm_B_0 hB (i := 0) (n := 10) (by decide) rfl
  obtain ⟨NW, hNW, eNW⟩ := fm_B_0 hB (i := 1) (n := 8) (by decide) rfl
  have hT9 := hD.2.2.2.2.1
  refine fe_meth (F := fun R => ∃ v : Int32, (v = 0 ∨ v = 1) ∧ ∃ a' : Nat → Nat → Int32, fm_D a0 a' T ∧ R = (some (.int v), fm g tp bt a' b)) (M := gk_m349) (by rfl) (by rfl) ?_
  refine fe_s 2 (pc' := 2) (lc' := [(0, .ref 0), (1, .int (nI W)), (2, .int set)]) (stk' := [.int 0, .ref 0]) (mem' := fm g tp bt a b) (fun _ _ _ => rfl) ?_
  obtain ⟨vd1, memd1, ⟨xd1, ad1, hDd1, hRd1⟩, hfrd1⟩ := fr_setOf0 (g := g) (tp := tp) (bt := bt) (a := a) (b := b) hB hD
  cases hRd1
  refine fe_ivV hfrd1 (by omega) (by rfl) (by rfl) (by rfl) (by rfl) (by rfl) (by rfl) ?_
  refine fe_s 3 (pc' := 9) (lc' := [(4, .int 0), (3, .int xd1), (0, .ref 0), (1, .int (nI W)), (2, .int set)]) (stk' := []) (mem' := fm g tp bt ad1 b) (fun _ _ _ => rfl) ?_
  have loop2 : ∀ (r i2 : Nat), i2 + r = NC → ∀ (x3_2 : Int32), ∀ a_2 : Nat → Nat → Int32, fm_D a0 a_2 T → fe_R 8 gk_m349 9 [(4, .int (nI i2)), (3, .int x3_2), (0, .ref 0), (1, .int (nI W)), (2, .int set)] [] (fm g tp bt a_2 b) (fun R => ∃ v : Int32, (v = 0 ∨ v = 1) ∧ ∃ a' : Nat → Nat → Int32, fm_D a0 a' T ∧ R = (some (.int v), fm g tp bt a' b)) := by
    intro r
    induction r with
    | zero =>
      intro i2 hi2 x3_2 a_2 hD_2
      obtain rfl : NC = i2 := by omega
      refine fe_s 4 (pc' := 16) (lc' := [(4, .int (nI NC)), (3, .int x3_2), (0, .ref 0), (1, .int (nI W)), (2, .int set)]) (stk' := [.int 0, .ref 1, .int (nI NC)]) (mem' := fm g tp bt a_2 b) (fun _ _ _ => rfl) ?_
      refine fe_ldI (by rfl) (by rfl) (fx_inN (i := 0) (by omega) (by omega)) ?_
      rw [show Int32.toNatClampNeg (0) = 0 from rfl]
      rw [show a_2 1 0 = nI NC from (fm_D_h hD_2 (by decide) rfl).trans eNC]
      refine fe_s 1 (pc' := cond (fx_cb .ge (nI NC) (nI NC)) 92 20) (lc' := [(4, .int (nI NC)), (3, .int x3_2), (0, .ref 0), (1, .int (nI W)), (2, .int set)]) (stk' := []) (mem' := fm g tp bt a_2 b) (fun _ _ _ => rfl) ?_
      rw [show (fx_cb .ge (nI NC) (nI NC)) = true from cb_geT (a := NC) (b := NC) (by omega) (by omega) (by omega)]
      dsimp only [cond]
      refine fe_s 8 (pc' := 104) (lc' := [(5, .int 0), (4, .int 0), (3, .int x3_2), (0, .ref 0), (1, .int (nI W)), (2, .int set)]) (stk' := [.int (-1), .int 0, .ref 16]) (mem' := fm g tp bt a_2 b) (fun _ _ _ => rfl) ?_
      refine fe_stI (mem' := fm g tp bt (fm_u a_2 16 (0 : Int32).toNatClampNeg (-1)) b) (by rfl) (by rfl) (fx_inN (i := 0) (by omega) (by omega)) fm_si16 ?_
      rw [show Int32.toNatClampNeg (0) = 0 from rfl]
      obtain ⟨aR, haR⟩ : ∃ z, z = fm_u a_2 16 0 (-1) := ⟨_, rfl⟩
      rw [← haR]
      have hDR : fm_D a0 aR T := by rw [haR]; exact fm_D_ot hD_2 (by decide) (by decide) rfl
      refine fe_w (lc' := [(4, .int (nI 0)), (5, .int 0), (0, .ref 0), (1, .int (nI W)), (2, .int set), (3, .int x3_2)]) ⟨rfl, rfl, rfl, rfl, rfl, rfl, trivial⟩ (by show List.Nodup [4, 5, 0, 1, 2, 3]; decide) (by show List.Nodup [5, 4, 3, 0, 1, 2]; decide) ?_
      refine sus_L hB hW eNC hNC 9 0 (by omega) 11 0 (by omega) (by omega) _ _ hDR (fun i hi => absurd hi (Nat.not_lt_zero i)) (Or.inl ⟨rfl, by rw [haR, fm_us, if_pos rfl]⟩) (fun a2 s2 h2 h3 => ?_)
      rw [show (nI 0 + (-1) : Int32) = -1 from rfl]
      refine fe_s 1 (pc' := 107) (lc' := [(4, .int (-1)), (5, .int s2), (0, .ref 0), (1, .int (nI W)), (2, .int set), (3, .int x3_2)]) (stk' := [.int (-1)]) (mem' := fm g tp bt a2 b) (fun _ _ _ => rfl) ?_
      refine fe_s 1 (pc' := cond (fx_cb .lt (-1) 0) 299 110) (lc' := [(4, .int (-1)), (5, .int s2), (0, .ref 0), (1, .int (nI W)), (2, .int set), (3, .int x3_2)]) (stk' := []) (mem' := fm g tp bt a2 b) (fun _ _ _ => rfl) ?_
      rw [show (fx_cb .lt (-1) 0) = true from by decide]
      dsimp only [cond]
      refine fe_s 1 (pc' := 300) (lc' := [(4, .int (-1)), (5, .int s2), (0, .ref 0), (1, .int (nI W)), (2, .int set), (3, .int x3_2)]) (stk' := [.int 0]) (mem' := fm g tp bt a2 b) (fun _ _ _ => rfl) ?_
      exact fe_ret ⟨_, Or.inl rfl, _, h2, rfl⟩ (by rfl) (by rfl) (by rfl)
    | succ r ih2 =>
      intro i2 hi2 x3_2 a_2 hD_2
      have hl2 : i2 < NC := by omega
      refine fe_s 4 (pc' := 16) (lc' := [(4, .int (nI i2)), (3, .int x3_2), (0, .ref 0), (1, .int (nI W)), (2, .int set)]) (stk' := [.int 0, .ref 1, .int (nI i2)]) (mem' := fm g tp bt a_2 b) (fun _ _ _ => rfl) ?_
      refine fe_ldI (by rfl) (by rfl) (fx_inN (i := 0) (by omega) (by omega)) ?_
      rw [show Int32.toNatClampNeg (0) = 0 from rfl]
      rw [show a_2 1 0 = nI NC from (fm_D_h hD_2 (by decide) rfl).trans eNC]
      refine fe_s 1 (pc' := cond (fx_cb .ge (nI i2) (nI NC)) 92 20) (lc' := [(4, .int (nI i2)), (3, .int x3_2), (0, .ref 0), (1, .int (nI W)), (2, .int set)]) (stk' := []) (mem' := fm g tp bt a_2 b) (fun _ _ _ => rfl) ?_
      rw [show (fx_cb .ge (nI i2) (nI NC)) = false from cb_geF (a := i2) (b := NC) (by omega) (by omega) (by omega)]
      dsimp only [cond]
      refine fe_s 3 (pc' := 24) (lc' := [(4, .int (nI i2)), (3, .int x3_2), (0, .ref 0), (1, .int (nI W)), (2, .int set)]) (stk' := [.int (nI i2), .int set, .ref 0]) (mem' := fm g tp bt a_2 b) (fun _ _ _ => rfl) ?_
      refine fe_ivV fr_isIn (by omega) (by rfl) (by rfl) (by rfl) (by rfl) (by rfl) (by rfl) ?_
      rcases fm_b_01 set (nI i2) with q3 | q3
      · rw [q3]
        refine fe_s 1 (pc' := cond (fx_cb .eq 0 0) 46 30) (lc' := [(4, .int (nI i2)), (3, .int x3_2), (0, .ref 0), (1, .int (nI W)), (2, .int set)]) (stk' := []) (mem' := fm g tp bt a_2 b) (fun _ _ _ => rfl) ?_
        rw [show (fx_cb .eq 0 0) = true from by decide]
        dsimp only [cond]
        refine fe_s 3 (pc' := 50) (lc' := [(4, .int (nI i2)), (3, .int x3_2), (0, .ref 0), (1, .int (nI W)), (2, .int set)]) (stk' := [.int (nI i2), .int set, .ref 0]) (mem' := fm g tp bt a_2 b) (fun _ _ _ => rfl) ?_
        refine fe_ivV fr_isIn (by omega) (by rfl) (by rfl) (by rfl) (by rfl) (by rfl) (by rfl) ?_
        rcases fm_b_01 set (nI i2) with q4 | q4
        · rw [q4]
          refine fe_s 1 (pc' := cond (fx_cb .ne 0 0) 79 56) (lc' := [(4, .int (nI i2)), (3, .int x3_2), (0, .ref 0), (1, .int (nI W)), (2, .int set)]) (stk' := []) (mem' := fm g tp bt a_2 b) (fun _ _ _ => rfl) ?_
          rw [show (fx_cb .ne 0 0) = false from by decide]
          dsimp only [cond]
          refine fe_s 2 (pc' := 59) (lc' := [(4, .int (nI i2)), (3, .int x3_2), (0, .ref 0), (1, .int (nI W)), (2, .int set)]) (stk' := [.int (nI i2), .ref 0]) (mem' := fm g tp bt a_2 b) (fun _ _ _ => rfl) ?_
          obtain ⟨v5, z6, hv5⟩ := fq_isIce (C := i2) (g := g) (tp := tp) (bt := bt) (a := a_2) (b := b) (fm_D_t hB hD_2) (by omega)
          refine fe_ivV hv5 (by omega) (by rfl) (by rfl) (by rfl) (by rfl) (by rfl) (by rfl) ?_
          rcases z6 with rfl | rfl
          · refine fe_s 1 (pc' := cond (fx_cb .eq 0 0) 86 65) (lc' := [(4, .int (nI i2)), (3, .int x3_2), (0, .ref 0), (1, .int (nI W)), (2, .int set)]) (stk' := []) (mem' := fm g tp bt a_2 b) (fun _ _ _ => rfl) ?_
            rw [show (fx_cb .eq 0 0) = true from by decide]
            dsimp only [cond]
            refine fe_s 1 (pc' := 89) (lc' := [(4, .int ((nI i2) + 1)), (3, .int x3_2), (0, .ref 0), (1, .int (nI W)), (2, .int set)]) (stk' := []) (mem' := fm g tp bt a_2 b) (fun _ _ _ => rfl) ?_
            rw [show ((nI i2) + 1 : Int32) = nI (i2 + 1) from by simp only [show (1 : Int32) = nI 1 from rfl, nI_add, fm_mul]]
            refine fe_s 1 (pc' := fx_to 89 (-80)) (lc' := [(4, .int (nI (i2 + 1))), (3, .int x3_2), (0, .ref 0), (1, .int (nI W)), (2, .int set)]) (stk' := []) (mem' := fm g tp bt a_2 b) (fun _ _ _ => rfl) ?_
            rw [show fx_to 89 (-80) = 9 from by decide]
            exact ih2 (i2 + 1) (by omega) _ a_2 hD_2
          · refine fe_s 1 (pc' := cond (fx_cb .eq 1 0) 86 65) (lc' := [(4, .int (nI i2)), (3, .int x3_2), (0, .ref 0), (1, .int (nI W)), (2, .int set)]) (stk' := []) (mem' := fm g tp bt a_2 b) (fun _ _ _ => rfl) ?_
            rw [show (fx_cb .eq 1 0) = false from by decide]
            dsimp only [cond]
            refine fe_s 2 (pc' := 68) (lc' := [(4, .int (nI i2)), (3, .int x3_2), (0, .ref 0), (1, .int (nI W)), (2, .int set)]) (stk' := [.int (nI i2), .ref 0]) (mem' := fm g tp bt a_2 b) (fun _ _ _ => rfl) ?_
            obtain ⟨v7, hv7⟩ := fq_strengthOf (C := i2) (g := g) (tp := tp) (bt := bt) (a := a_2) (b := b) (fm_D_t hB hD_2) (by omega)
            refine fe_ivV hv7 (by omega) (by rfl) (by rfl) (by rfl) (by rfl) (by rfl) (by rfl) ?_
            refine fe_s 2 (pc' := 73) (lc' := [(4, .int (nI i2)), (3, .int x3_2), (0, .ref 0), (1, .int (nI W)), (2, .int set)]) (stk' := [.int (nI W), .ref 0, .int v7]) (mem' := fm g tp bt a_2 b) (fun _ _ _ => rfl) ?_
            obtain ⟨v8, hv8⟩ := fq_weightOf (V := W) (g := g) (tp := tp) (bt := bt) (a := a_2) (b := b) (by omega)
            refine fe_ivV hv8 (by omega) (by rfl) (by rfl) (by rfl) (by rfl) (by rfl) (by rfl) ?_
            refine fe_s 1 (pc' := cond (fx_cb .lt v7 v8) 86 79) (lc' := [(4, .int (nI i2)), (3, .int x3_2), (0, .ref 0), (1, .int (nI W)), (2, .int set)]) (stk' := []) (mem' := fm g tp bt a_2 b) (fun _ _ _ => rfl) ?_
            cases h9 : fx_cb .lt v7 v8
            · refine fe_s 7 (pc' := 89) (lc' := [(4, .int ((nI i2) + 1)), (3, .int (x3_2 ||| ((1 : Int32) <<< ((nI i2) &&& 31)))), (0, .ref 0), (1, .int (nI W)), (2, .int set)]) (stk' := []) (mem' := fm g tp bt a_2 b) (fun _ _ _ => rfl) ?_
              rw [show ((nI i2) + 1 : Int32) = nI (i2 + 1) from by simp only [show (1 : Int32) = nI 1 from rfl, nI_add, fm_mul]]
              refine fe_s 1 (pc' := fx_to 89 (-80)) (lc' := [(4, .int (nI (i2 + 1))), (3, .int (x3_2 ||| ((1 : Int32) <<< ((nI i2) &&& 31)))), (0, .ref 0), (1, .int (nI W)), (2, .int set)]) (stk' := []) (mem' := fm g tp bt a_2 b) (fun _ _ _ => rfl) ?_
              rw [show fx_to 89 (-80) = 9 from by decide]
              exact ih2 (i2 + 1) (by omega) _ a_2 hD_2
            · refine fe_s 1 (pc' := 89) (lc' := [(4, .int ((nI i2) + 1)), (3, .int x3_2), (0, .ref 0), (1, .int (nI W)), (2, .int set)]) (stk' := []) (mem' := fm g tp bt a_2 b) (fun _ _ _ => rfl) ?_
              rw [show ((nI i2) + 1 : Int32) = nI (i2 + 1) from by simp only [show (1 : Int32) = nI 1 from rfl, nI_add, fm_mul]]
              refine fe_s 1 (pc' := fx_to 89 (-80)) (lc' := [(4, .int (nI (i2 + 1))), (3, .int x3_2), (0, .ref 0), (1, .int (nI W)), (2, .int set)]) (stk' := []) (mem' := fm g tp bt a_2 b) (fun _ _ _ => rfl) ?_
              rw [show fx_to 89 (-80) = 9 from by decide]
              exact ih2 (i2 + 1) (by omega) _ a_2 hD_2
        · rw [q4]
          refine fe_s 1 (pc' := cond (fx_cb .ne 1 0) 79 56) (lc' := [(4, .int (nI i2)), (3, .int x3_2), (0, .ref 0), (1, .int (nI W)), (2, .int set)]) (stk' := []) (mem' := fm g tp bt a_2 b) (fun _ _ _ => rfl) ?_
          rw [show (fx_cb .ne 1 0) = true from by decide]
          dsimp only [cond]
          refine fe_s 7 (pc' := 89) (lc' := [(4, .int ((nI i2) + 1)), (3, .int (x3_2 ||| ((1 : Int32) <<< ((nI i2) &&& 31)))), (0, .ref 0), (1, .int (nI W)), (2, .int set)]) (stk' := []) (mem' := fm g tp bt a_2 b) (fun _ _ _ => rfl) ?_
          rw [show ((nI i2) + 1 : Int32) = nI (i2 + 1) from by simp only [show (1 : Int32) = nI 1 from rfl, nI_add, fm_mul]]
          refine fe_s 1 (pc' := fx_to 89 (-80)) (lc' := [(4, .int (nI (i2 + 1))), (3, .int (x3_2 ||| ((1 : Int32) <<< ((nI i2) &&& 31)))), (0, .ref 0), (1, .int (nI W)), (2, .int set)]) (stk' := []) (mem' := fm g tp bt a_2 b) (fun _ _ _ => rfl) ?_
          rw [show fx_to 89 (-80) = 9 from by decide]
          exact ih2 (i2 + 1) (by omega) _ a_2 hD_2
      · rw [q3]
        refine fe_s 1 (pc' := cond (fx_cb .eq 1 0) 46 30) (lc' := [(4, .int (nI i2)), (3, .int x3_2), (0, .ref 0), (1, .int (nI W)), (2, .int set)]) (stk' := []) (mem' := fm g tp bt a_2 b) (fun _ _ _ => rfl) ?_
        rw [show (fx_cb .eq 1 0) = false from by decide]
        dsimp only [cond]
        refine fe_s 2 (pc' := 33) (lc' := [(4, .int (nI i2)), (3, .int x3_2), (0, .ref 0), (1, .int (nI W)), (2, .int set)]) (stk' := [.int (nI i2), .ref 0]) (mem' := fm g tp bt a_2 b) (fun _ _ _ => rfl) ?_
        obtain ⟨v10, hv10⟩ := fq_strengthOf (C := i2) (g := g) (tp := tp) (bt := bt) (a := a_2) (b := b) (fm_D_t hB hD_2) (by omega)
        refine fe_ivV hv10 (by omega) (by rfl) (by rfl) (by rfl) (by rfl) (by rfl) (by rfl) ?_
        refine fe_s 2 (pc' := 38) (lc' := [(4, .int (nI i2)), (3, .int x3_2), (0, .ref 0), (1, .int (nI W)), (2, .int set)]) (stk' := [.int (nI W), .ref 0, .int v10]) (mem' := fm g tp bt a_2 b) (fun _ _ _ => rfl) ?_
        obtain ⟨v11, hv11⟩ := fq_weightOf (V := W) (g := g) (tp := tp) (bt := bt) (a := a_2) (b := b) (by omega)
        refine fe_ivV hv11 (by omega) (by rfl) (by rfl) (by rfl) (by rfl) (by rfl) (by rfl) ?_
        refine fe_s 1 (pc' := cond (fx_cb .lt v10 v11) 46 44) (lc' := [(4, .int (nI i2)), (3, .int x3_2), (0, .ref 0), (1, .int (nI W)), (2, .int set)]) (stk' := []) (mem' := fm g tp bt a_2 b) (fun _ _ _ => rfl) ?_
        cases h12 : fx_cb .lt v10 v11
        · refine fe_s 1 (pc' := 45) (lc' := [(4, .int (nI i2)), (3, .int x3_2), (0, .ref 0), (1, .int (nI W)), (2, .int set)]) (stk' := [.int 0]) (mem' := fm g tp bt a_2 b) (fun _ _ _ => rfl) ?_
          exact fe_ret ⟨_, Or.inl rfl, _, hD_2, rfl⟩ (by rfl) (by rfl) (by rfl)
        · refine fe_s 3 (pc' := 50) (lc' := [(4, .int (nI i2)), (3, .int x3_2), (0, .ref 0), (1, .int (nI W)), (2, .int set)]) (stk' := [.int (nI i2), .int set, .ref 0]) (mem' := fm g tp bt a_2 b) (fun _ _ _ => rfl) ?_
          refine fe_ivV fr_isIn (by omega) (by rfl) (by rfl) (by rfl) (by rfl) (by rfl) (by rfl) ?_
          rcases fm_b_01 set (nI i2) with q13 | q13
          · rw [q13]
            refine fe_s 1 (pc' := cond (fx_cb .ne 0 0) 79 56) (lc' := [(4, .int (nI i2)), (3, .int x3_2), (0, .ref 0), (1, .int (nI W)), (2, .int set)]) (stk' := []) (mem' := fm g tp bt a_2 b) (fun _ _ _ => rfl) ?_
            rw [show (fx_cb .ne 0 0) = false from by decide]
            dsimp only [cond]
            refine fe_s 2 (pc' := 59) (lc' := [(4, .int (nI i2)), (3, .int x3_2), (0, .ref 0), (1, .int (nI W)), (2, .int set)]) (stk' := [.int (nI i2), .ref 0]) (mem' := fm g tp bt a_2 b) (fun _ _ _ => rfl) ?_
            obtain ⟨v14, z15, hv14⟩ := fq_isIce (C := i2) (g := g) (tp := tp) (bt := bt) (a := a_2) (b := b) (fm_D_t hB hD_2) (by omega)
            refine fe_ivV hv14 (by omega) (by rfl) (by rfl) (by rfl) (by rfl) (by rfl) (by rfl) ?_
            rcases z15 with rfl | rfl
            · refine fe_s 1 (pc' := cond (fx_cb .eq 0 0) 86 65) (lc' := [(4, .int (nI i2)), (3, .int x3_2), (0, .ref 0), (1, .int (nI W)), (2, .int set)]) (stk' := []) (mem' := fm g tp bt a_2 b) (fun _ _ _ => rfl) ?_
              rw [show (fx_cb .eq 0 0) = true from by decide]
              dsimp only [cond]
              refine fe_s 1 (pc' := 89) (lc' := [(4, .int ((nI i2) + 1)), (3, .int x3_2), (0, .ref 0), (1, .int (nI W)), (2, .int set)]) (stk' := []) (mem' := fm g tp bt a_2 b) (fun _ _ _ => rfl) ?_
              rw [show ((nI i2) + 1 : Int32) = nI (i2 + 1) from by simp only [show (1 : Int32) = nI 1 from rfl, nI_add, fm_mul]]
              refine fe_s 1 (pc' := fx_to 89 (-80)) (lc' := [(4, .int (nI (i2 + 1))), (3, .int x3_2), (0, .ref 0), (1, .int (nI W)), (2, .int set)]) (stk' := []) (mem' := fm g tp bt a_2 b) (fun _ _ _ => rfl) ?_
              rw [show fx_to 89 (-80) = 9 from by decide]
              exact ih2 (i2 + 1) (by omega) _ a_2 hD_2
            · refine fe_s 1 (pc' := cond (fx_cb .eq 1 0) 86 65) (lc' := [(4, .int (nI i2)), (3, .int x3_2), (0, .ref 0), (1, .int (nI W)), (2, .int set)]) (stk' := []) (mem' := fm g tp bt a_2 b) (fun _ _ _ => rfl) ?_
              rw [show (fx_cb .eq 1 0) = false from by decide]
              dsimp only [cond]
              refine fe_s 2 (pc' := 68) (lc' := [(4, .int (nI i2)), (3, .int x3_2), (0, .ref 0), (1, .int (nI W)), (2, .int set)]) (stk' := [.int (nI i2), .ref 0]) (mem' := fm g tp bt a_2 b) (fun _ _ _ => rfl) ?_
              obtain ⟨v16, hv16⟩ := fq_strengthOf (C := i2) (g := g) (tp := tp) (bt := bt) (a := a_2) (b := b) (fm_D_t hB hD_2) (by omega)
              refine fe_ivV hv16 (by omega) (by rfl) (by rfl) (by rfl) (by rfl) (by rfl) (by rfl) ?_
              refine fe_s 2 (pc' := 73) (lc' := [(4, .int (nI i2)), (3, .int x3_2), (0, .ref 0), (1, .int (nI W)), (2, .int set)]) (stk' := [.int (nI W), .ref 0, .int v16]) (mem' := fm g tp bt a_2 b) (fun _ _ _ => rfl) ?_
              obtain ⟨v17, hv17⟩ := fq_weightOf (V := W) (g := g) (tp := tp) (bt := bt) (a := a_2) (b := b) (by omega)
              refine fe_ivV hv17 (by omega) (by rfl) (by rfl) (by rfl) (by rfl) (by rfl) (by rfl) ?_
              refine fe_s 1 (pc' := cond (fx_cb .lt v16 v17) 86 79) (lc' := [(4, .int (nI i2)), (3, .int x3_2), (0, .ref 0), (1, .int (nI W)), (2, .int set)]) (stk' := []) (mem' := fm g tp bt a_2 b) (fun _ _ _ => rfl) ?_
              cases h18 : fx_cb .lt v16 v17
              · refine fe_s 7 (pc' := 89) (lc' := [(4, .int ((nI i2) + 1)), (3, .int (x3_2 ||| ((1 : Int32) <<< ((nI i2) &&& 31)))), (0, .ref 0), (1, .int (nI W)), (2, .int set)]) (stk' := []) (mem' := fm g tp bt a_2 b) (fun _ _ _ => rfl) ?_
                rw [show ((nI i2) + 1 : Int32) = nI (i2 + 1) from by simp only [show (1 : Int32) = nI 1 from rfl, nI_add, fm_mul]]
                refine fe_s 1 (pc' := fx_to 89 (-80)) (lc' := [(4, .int (nI (i2 + 1))), (3, .int (x3_2 ||| ((1 : Int32) <<< ((nI i2) &&& 31)))), (0, .ref 0), (1, .int (nI W)), (2, .int set)]) (stk' := []) (mem' := fm g tp bt a_2 b) (fun _ _ _ => rfl) ?_
                rw [show fx_to 89 (-80) = 9 from by decide]
                exact ih2 (i2 + 1) (by omega) _ a_2 hD_2
              · refine fe_s 1 (pc' := 89) (lc' := [(4, .int ((nI i2) + 1)), (3, .int x3_2), (0, .ref 0), (1, .int (nI W)), (2, .int set)]) (stk' := []) (mem' := fm g tp bt a_2 b) (fun _ _ _ => rfl) ?_
                rw [show ((nI i2) + 1 : Int32) = nI (i2 + 1) from by simp only [show (1 : Int32) = nI 1 from rfl, nI_add, fm_mul]]
                refine fe_s 1 (pc' := fx_to 89 (-80)) (lc' := [(4, .int (nI (i2 + 1))), (3, .int x3_2), (0, .ref 0), (1, .int (nI W)), (2, .int set)]) (stk' := []) (mem' := fm g tp bt a_2 b) (fun _ _ _ => rfl) ?_
                rw [show fx_to 89 (-80) = 9 from by decide]
                exact ih2 (i2 + 1) (by omega) _ a_2 hD_2
          · rw [q13]
            refine fe_s 1 (pc' := cond (fx_cb .ne 1 0) 79 56) (lc' := [(4, .int (nI i2)), (3, .int x3_2), (0, .ref 0), (1, .int (nI W)), (2, .int set)]) (stk' := []) (mem' := fm g tp bt a_2 b) (fun _ _ _ => rfl) ?_
            rw [show (fx_cb .ne 1 0) = true from by decide]
            dsimp only [cond]
            refine fe_s 7 (pc' := 89) (lc' := [(4, .int ((nI i2) + 1)), (3, .int (x3_2 ||| ((1 : Int32) <<< ((nI i2) &&& 31)))), (0, .ref 0), (1, .int (nI W)), (2, .int set)]) (stk' := []) (mem' := fm g tp bt a_2 b) (fun _ _ _ => rfl) ?_
            rw [show ((nI i2) + 1 : Int32) = nI (i2 + 1) from by simp only [show (1 : Int32) = nI 1 from rfl, nI_add, fm_mul]]
            refine fe_s 1 (pc' := fx_to 89 (-80)) (lc' := [(4, .int (nI (i2 + 1))), (3, .int (x3_2 ||| ((1 : Int32) <<< ((nI i2) &&& 31)))), (0, .ref 0), (1, .int (nI W)), (2, .int set)]) (stk' := []) (mem' := fm g tp bt a_2 b) (fun _ _ _ => rfl) ?_
            rw [show fx_to 89 (-80) = 9 from by decide]
            exact ih2 (i2 + 1) (by omega) _ a_2 hD_2
  exact loop2 (NC) 0 (by omega) _ ad1 hDd1
theorem fr_suspects {st : Int32} (hBa : fm_B a) (hgb : fm_gb g) : ∃ (v : Option Value) (mem' : fx_M), (fm_PO g tp bt a b) (v, mem') ∧ fr_T 10 350 [.ref 0, .int st] (fm g tp bt a b) v mem' := by
  have hG := fm_G_rf hgb
  have hB := hBa
  obtain ⟨NC, hNC, eNC⟩ := fm_B_0 hB (i := 0) (n := 10) (by decide) rfl
  obtain ⟨NW, hNW, eNW⟩ := fm_B_0 hB (i := 1) (n := 8) (by decide) rfl
  obtain ⟨NG, hNG, eNG⟩ := fm_B_0 hB (i := 3) (n := 20) (by decide) rfl
  obtain ⟨T, hT9, eT⟩ := fm_T5 hB
  have hD : fm_D a a T := fm_D_rf hB eT (by omega)
  refine fe_meth (F := fm_PO g tp bt a b) (M := gk_m350) (by rfl) (by rfl) ?_
  refine fe_s 7 (pc' := 9) (lc' := [(0, .ref 0), (1, .int st)]) (stk' := [.int 0, .ref 1, .long (1 : Int64), .long (0 : Int64), .long (st.toInt64)]) (mem' := fm g tp bt a b) (fun _ _ _ => rfl) ?_
  refine fe_ldI (by rfl) (by rfl) (fx_inN (i := 0) (by omega) (by omega)) ?_
  rw [show Int32.toNatClampNeg (0) = 0 from rfl]
  rw [show a 1 0 = nI NC from (fm_D_h hD (by decide) rfl).trans eNC]
  refine fe_s 3 (pc' := 13) (lc' := [(0, .ref 0), (1, .int st)]) (stk' := [.long (((1 : Int64) <<< ((nI NC).toInt64 &&& 63)) - (1 : Int64)), .long (0 : Int64), .long (st.toInt64)]) (mem' := fm g tp bt a b) (fun _ _ _ => rfl) ?_
  obtain ⟨vf1, memf1, ⟨xf1, hxf1, hRf1⟩, hfrf1⟩ := fr_isFrom (v := st.toInt64) (l := (0 : Int64)) (m := ((1 : Int64) <<< ((nI NC).toInt64 &&& 63)) - (1 : Int64)) (mem := fm g tp bt a b)
  cases hRf1
  refine fe_ivS hfrf1 (by omega) (by rfl) (by rfl) (by rfl) (by rfl) (by rfl) ?_
  rcases hxf1 with ⟨rfl, -⟩ | ⟨rfl, hlf1, hmf1⟩
  · refine fe_s 1 (pc' := cond (fx_cb .eq 0 0) 29 19) (lc' := [(0, .ref 0), (1, .int st)]) (stk' := []) (mem' := fm g tp bt a b) (fun _ _ _ => rfl) ?_
    rw [show (fx_cb .eq 0 0) = true from by decide]
    dsimp only [cond]
    refine fe_s 2 (pc' := 31) (lc' := [(0, .ref 0), (1, .int st)]) (stk' := [.int 1, .ref 0]) (mem' := fm g tp bt a b) (fun _ _ _ => rfl) ?_
    refine fe_ivV (fr_refuse (x := 1)) (by omega) (by rfl) (by rfl) (by rfl) (by rfl) (by rfl) (by rfl) ?_
    exact fe_ret ⟨_, _, _, _, _, _, (fm_E_rf hBa), (fm_G_2 hG (by decide) (by decide)), (fun _ _ _ => rfl), rfl⟩ (by rfl) (by rfl) (by rfl)
  · refine fe_s 1 (pc' := cond (fx_cb .eq 1 0) 29 19) (lc' := [(0, .ref 0), (1, .int st)]) (stk' := []) (mem' := fm g tp bt a b) (fun _ _ _ => rfl) ?_
    rw [show (fx_cb .eq 1 0) = false from by decide]
    dsimp only [cond]
    refine fe_s 3 (pc' := 22) (lc' := [(0, .ref 0), (1, .int st)]) (stk' := [.int 0, .ref 0, .int st]) (mem' := fm g tp bt a b) (fun _ _ _ => rfl) ?_
    obtain ⟨vd2, memd2, ⟨xd2, ad2, hDd2, hRd2⟩, hfrd2⟩ := fr_setOf0 (g := g) (tp := tp) (bt := bt) (a := a) (b := b) hB hD
    cases hRd2
    refine fe_ivV hfrd2 (by omega) (by rfl) (by rfl) (by rfl) (by rfl) (by rfl) (by rfl) ?_
    refine fe_s 1 (pc' := 26) (lc' := [(0, .ref 0), (1, .int st)]) (stk' := [.int (st &&& xd2)]) (mem' := fm g tp bt ad2 b) (fun _ _ _ => rfl) ?_
    refine fe_s 1 (pc' := cond (fx_cb .eq (st &&& xd2) 0) 35 29) (lc' := [(0, .ref 0), (1, .int st)]) (stk' := []) (mem' := fm g tp bt ad2 b) (fun _ _ _ => rfl) ?_
    cases h3 : fx_cb .eq (st &&& xd2) 0
    · refine fe_s 2 (pc' := 31) (lc' := [(0, .ref 0), (1, .int st)]) (stk' := [.int 1, .ref 0]) (mem' := fm g tp bt ad2 b) (fun _ _ _ => rfl) ?_
      refine fe_ivV (fr_refuse (x := 1)) (by omega) (by rfl) (by rfl) (by rfl) (by rfl) (by rfl) (by rfl) ?_
      exact fe_ret ⟨_, _, _, _, _, _, fm_E_D hB hDd2 (by omega), (fm_G_2 hG (by decide) (by decide)), (fun _ _ _ => rfl), rfl⟩ (by rfl) (by rfl) (by rfl)
    · refine fe_s 4 (pc' := 39) (lc' := [(3, .int 0), (2, .int 0), (0, .ref 0), (1, .int st)]) (stk' := []) (mem' := fm g tp bt ad2 b) (fun _ _ _ => rfl) ?_
      have loop4 : ∀ (r i4 : Nat), i4 + r = NW → ∀ (x2_4 : Int32), ∀ a_4 : Nat → Nat → Int32, fm_D a a_4 T → fe_R 9 gk_m350 39 [(3, .int (nI i4)), (2, .int x2_4), (0, .ref 0), (1, .int st)] [] (fm g tp bt a_4 b) (fm_PO g tp bt a b) := by
        intro r
        induction r with
        | zero =>
          intro i4 hi4 x2_4 a_4 hD_4
          obtain rfl : NW = i4 := by omega
          refine fe_s 4 (pc' := 45) (lc' := [(3, .int (nI NW)), (2, .int x2_4), (0, .ref 0), (1, .int st)]) (stk' := [.int 1, .ref 1, .int (nI NW)]) (mem' := fm g tp bt a_4 b) (fun _ _ _ => rfl) ?_
          refine fe_ldI (by rfl) (by rfl) (fx_inN (i := 1) (by omega) (by omega)) ?_
          rw [show Int32.toNatClampNeg (1) = 1 from rfl]
          rw [show a_4 1 1 = nI NW from (fm_D_h hD_4 (by decide) rfl).trans eNW]
          refine fe_s 1 (pc' := cond (fx_cb .ge (nI NW) (nI NW)) 74 49) (lc' := [(3, .int (nI NW)), (2, .int x2_4), (0, .ref 0), (1, .int st)]) (stk' := []) (mem' := fm g tp bt a_4 b) (fun _ _ _ => rfl) ?_
          rw [show (fx_cb .ge (nI NW) (nI NW)) = true from cb_geT (a := NW) (b := NW) (by omega) (by omega) (by omega)]
          dsimp only [cond]
          refine fe_s 2 (pc' := 76) (lc' := [(3, .int (nI NW)), (2, .int x2_4), (0, .ref 0), (1, .int st)]) (stk' := [.int x2_4, .ref 0]) (mem' := fm g tp bt a_4 b) (fun _ _ _ => rfl) ?_
          refine fe_ivV (fr_gives (x := x2_4)) (by omega) (by rfl) (by rfl) (by rfl) (by rfl) (by rfl) (by rfl) ?_
          exact fe_ret ⟨_, _, _, _, _, _, fm_E_D hB hD_4 (by omega), (fm_G_2 hG (by decide) (by decide)), (fun _ _ _ => rfl), rfl⟩ (by rfl) (by rfl) (by rfl)
        | succ r ih4 =>
          intro i4 hi4 x2_4 a_4 hD_4
          have hl4 : i4 < NW := by omega
          refine fe_s 4 (pc' := 45) (lc' := [(3, .int (nI i4)), (2, .int x2_4), (0, .ref 0), (1, .int st)]) (stk' := [.int 1, .ref 1, .int (nI i4)]) (mem' := fm g tp bt a_4 b) (fun _ _ _ => rfl) ?_
          refine fe_ldI (by rfl) (by rfl) (fx_inN (i := 1) (by omega) (by omega)) ?_
          rw [show Int32.toNatClampNeg (1) = 1 from rfl]
          rw [show a_4 1 1 = nI NW from (fm_D_h hD_4 (by decide) rfl).trans eNW]
          refine fe_s 1 (pc' := cond (fx_cb .ge (nI i4) (nI NW)) 74 49) (lc' := [(3, .int (nI i4)), (2, .int x2_4), (0, .ref 0), (1, .int st)]) (stk' := []) (mem' := fm g tp bt a_4 b) (fun _ _ _ => rfl) ?_
          rw [show (fx_cb .ge (nI i4) (nI NW)) = false from cb_geF (a := i4) (b := NW) (by omega) (by omega) (by omega)]
          dsimp only [cond]
          refine fe_s 4 (pc' := 53) (lc' := [(3, .int (nI i4)), (2, .int x2_4), (0, .ref 0), (1, .int st)]) (stk' := [.int st, .int (nI i4), .ref 0, .int x2_4]) (mem' := fm g tp bt a_4 b) (fun _ _ _ => rfl) ?_
          obtain ⟨ve5, meme5, ⟨xe5, hxe5, ae5, hDe5, hRe5⟩, hfre5⟩ := fr_isSuspect (W := i4) (set := st) (g := g) (tp := tp) (bt := bt) (a := a_4) (b := b) hB hD_4 (by omega)
          cases hRe5
          refine fe_ivV hfre5 (by omega) (by rfl) (by rfl) (by rfl) (by rfl) (by rfl) (by rfl) ?_
          rcases hxe5 with rfl | rfl
          · refine fe_s 1 (pc' := cond (fx_cb .eq 0 0) 65 59) (lc' := [(3, .int (nI i4)), (2, .int x2_4), (0, .ref 0), (1, .int st)]) (stk' := [.int x2_4]) (mem' := fm g tp bt ae5 b) (fun _ _ _ => rfl) ?_
            rw [show (fx_cb .eq 0 0) = true from by decide]
            dsimp only [cond]
            refine fe_s 5 (pc' := 39) (lc' := [(3, .int ((nI i4) + 1)), (2, .int (x2_4 ||| 0)), (0, .ref 0), (1, .int st)]) (stk' := []) (mem' := fm g tp bt ae5 b) (fun _ _ _ => rfl) ?_
            rw [show ((nI i4) + 1 : Int32) = nI (i4 + 1) from by simp only [show (1 : Int32) = nI 1 from rfl, nI_add, fm_mul]]
            exact ih4 (i4 + 1) (by omega) _ ae5 hDe5
          · refine fe_s 1 (pc' := cond (fx_cb .eq 1 0) 65 59) (lc' := [(3, .int (nI i4)), (2, .int x2_4), (0, .ref 0), (1, .int st)]) (stk' := [.int x2_4]) (mem' := fm g tp bt ae5 b) (fun _ _ _ => rfl) ?_
            rw [show (fx_cb .eq 1 0) = false from by decide]
            dsimp only [cond]
            refine fe_s 8 (pc' := 39) (lc' := [(3, .int ((nI i4) + 1)), (2, .int (x2_4 ||| ((1 : Int32) <<< ((nI i4) &&& 31)))), (0, .ref 0), (1, .int st)]) (stk' := []) (mem' := fm g tp bt ae5 b) (fun _ _ _ => rfl) ?_
            rw [show ((nI i4) + 1 : Int32) = nI (i4 + 1) from by simp only [show (1 : Int32) = nI 1 from rfl, nI_add, fm_mul]]
            exact ih4 (i4 + 1) (by omega) _ ae5 hDe5
      exact loop4 (NW) 0 (by omega) _ ad2 hDd2
end FSU
