/-! ===== the model: odds, meanIn, as far as their answers go ===== -/
/-- ICE's number -/
def iceM (am : Nat → Int32) (c : Int32) : Prop := inN (am 0) c ∧ ∀ C, C < 10 → c = nI C → ¬ am (8 + 6 * C) = 1
def fm_PD (P : Prop) (R : Option Value × fx_M) : Prop := ∃ (v : Int32) (g' : Nat → Int32) (tp' bt' : Int64) (a' : Nat → Nat → Int32) (b' : Nat → Nat → Int64), (P ∧ v = 1 ∨ ¬ P ∧ v = 0) ∧ R = (some (.int v), fm g' tp' bt' a' b')
theorem i16_sub {f : Int32} (h1 : 0 ≤ f.toInt) (h2 : f.toInt ≤ 16) : (16 - f.toInt64 : Int64).toInt = 16 - f.toInt := by
  rw [Int64.toInt_sub, Int32.toInt_toInt64, show ((16 : Int64)).toInt = 16 from rfl]
  exact Int.bmod_eq_of_le (by omega) (by omega)
section MDAY
variable {g : Nat → Int32} {tp bt : Int64} {a : Nat → Nat → Int32} {b : Nat → Nat → Int64}
theorem md_shore {C : Nat} (hC : C < 10) : fr_T 2 256 [.ref 0, .int (nI C)] (fm g tp bt a b) (some (.int (if a 1 (8 + 6 * C) = 1 then 1 else 0))) (fm g tp bt a b) := by
  refine fr_meth (by rfl) (by rfl) ?_
  have e1 : 8 + 6 * nI C = nI (8 + 6 * C) := by
    rw [show (8 : Int32) = nI 8 from rfl, show (6 : Int32) = nI 6 from rfl, fm_mul, nI_add]
  refine fr_s 3 (pc' := 5) (lc' := [(0, .ref 0), (1, .int (nI C))]) (stk' := [.int (nI C), .ref 1]) (mem' := fm g tp bt a b) (fun _ _ _ => rfl) ?_
  refine fr_ivS (fr_cellRow (c := nI C)) (by omega) (by rfl) (by rfl) (by rfl) (by rfl) (by rfl) ?_
  show fr_R _ _ _ _ (.int (8 + 6 * nI C) :: [.ref 1]) _ _
  rw [e1]
  refine fr_ldI (by rfl) (by rfl) (fx_inN (i := 8 + 6 * C) (by omega) (by omega)) ?_
  rw [show Int32.toNatClampNeg (nI (8 + 6 * C)) = 8 + 6 * C from nI_clamp (by omega)]
  refine fr_s 1 (pc' := 10) (lc' := [(0, .ref 0), (1, .int (nI C))]) (stk' := [.int 1, .int (a 1 (8 + 6 * C))]) (mem' := fm g tp bt a b) (fun _ _ _ => rfl) ?_
  by_cases h : a 1 (8 + 6 * C) = 1
  · rw [if_pos h]
    refine fr_s 1 (pc' := cond (fx_cb .ne (a 1 (8 + 6 * C)) 1) 17 13) (lc' := [(0, .ref 0), (1, .int (nI C))]) (stk' := []) (mem' := fm g tp bt a b) (fun _ _ _ => rfl) ?_
    rw [show fx_cb .ne (a 1 (8 + 6 * C)) 1 = false from by rw [h]; decide]
    dsimp only [cond]
    refine fr_s 2 (pc' := 18) (lc' := [(0, .ref 0), (1, .int (nI C))]) (stk' := [.int 1]) (mem' := fm g tp bt a b) (fun _ _ _ => rfl) ?_
    exact fr_ret (by rfl) (by rfl) (by rfl)
  · rw [if_neg h]
    refine fr_s 1 (pc' := cond (fx_cb .ne (a 1 (8 + 6 * C)) 1) 17 13) (lc' := [(0, .ref 0), (1, .int (nI C))]) (stk' := []) (mem' := fm g tp bt a b) (fun _ _ _ => rfl) ?_
    rw [show fx_cb .ne (a 1 (8 + 6 * C)) 1 = true from by show (!decide (_ = (1 : Int32))) = true; rw [decide_eq_false h]; rfl]
    dsimp only [cond]
    refine fr_s 1 (pc' := 18) (lc' := [(0, .ref 0), (1, .int (nI C))]) (stk' := [.int 0]) (mem' := fm g tp bt a b) (fun _ _ _ => rfl) ?_
    exact fr_ret (by rfl) (by rfl) (by rfl)
theorem md_ice {c : Int32} {NC : Nat} (eN : a 1 0 = nI NC) (hN : NC ≤ 10) : ∃ (r : Option Value) (mem' : fx_M), (fun R => ∃ z : Int32, (z = 0 ∧ ¬ iceM (a 1) c ∨ z = 1 ∧ iceM (a 1) c ∧ ∃ C, C < 10 ∧ c = nI C) ∧ R = (some (.int z), fm g tp bt a b)) (r, mem') ∧ fr_T 3 257 [.ref 0, .int c] (fm g tp bt a b) r mem' := by
  refine fe_meth (F := fun R => ∃ z : Int32, (z = 0 ∧ ¬ iceM (a 1) c ∨ z = 1 ∧ iceM (a 1) c ∧ ∃ C, C < 10 ∧ c = nI C) ∧ R = (some (.int z), fm g tp bt a b)) (M := gk_m257) (by rfl) (by rfl) ?_
  refine fe_s 3 (pc' := 3) (lc' := [(0, .ref 0), (1, .int c)]) (stk' := [.long c.toInt64, .ref 0]) (mem' := fm g tp bt a b) (fun _ _ _ => rfl) ?_
  refine fe_ivV (ml_cell (c := c)) (by omega) (by rfl) (by rfl) (by rfl) (by rfl) (by rfl) (by rfl) ?_
  by_cases h1 : inN (a 1 0) c
  · rw [if_pos h1]
    obtain ⟨C, hC, rfl, hCc⟩ := inN_nat (m := 10) (by rw [eN, nI_i32 (by omega)]; omega) h1
    refine fe_s 1 (pc' := cond (fx_cb .eq 1 0) 21 9) (lc' := [(0, .ref 0), (1, .int (nI C))]) (stk' := []) (mem' := fm g tp bt a b) (fun _ _ _ => rfl) ?_
    rw [show fx_cb .eq 1 0 = false from by decide]
    dsimp only [cond]
    refine fe_s 2 (pc' := 11) (lc' := [(0, .ref 0), (1, .int (nI C))]) (stk' := [.int (nI C), .ref 0]) (mem' := fm g tp bt a b) (fun _ _ _ => rfl) ?_
    refine fe_ivV (md_shore hC) (by omega) (by rfl) (by rfl) (by rfl) (by rfl) (by rfl) (by rfl) ?_
    by_cases h2 : a 1 (8 + 6 * C) = 1
    · rw [if_pos h2]
      refine fe_s 1 (pc' := cond (fx_cb .ne 1 0) 21 17) (lc' := [(0, .ref 0), (1, .int (nI C))]) (stk' := []) (mem' := fm g tp bt a b) (fun _ _ _ => rfl) ?_
      rw [show fx_cb .ne 1 0 = true from by decide]
      dsimp only [cond]
      refine fe_s 1 (pc' := 22) (lc' := [(0, .ref 0), (1, .int (nI C))]) (stk' := [.int 0]) (mem' := fm g tp bt a b) (fun _ _ _ => rfl) ?_
      exact fe_ret ⟨0, Or.inl ⟨rfl, fun z => z.2 C hC rfl h2⟩, rfl⟩ (by rfl) (by rfl) (by rfl)
    · rw [if_neg h2]
      refine fe_s 1 (pc' := cond (fx_cb .ne 0 0) 21 17) (lc' := [(0, .ref 0), (1, .int (nI C))]) (stk' := []) (mem' := fm g tp bt a b) (fun _ _ _ => rfl) ?_
      rw [show fx_cb .ne 0 0 = false from by decide]
      dsimp only [cond]
      refine fe_s 2 (pc' := 22) (lc' := [(0, .ref 0), (1, .int (nI C))]) (stk' := [.int 1]) (mem' := fm g tp bt a b) (fun _ _ _ => rfl) ?_
      refine fe_ret ⟨1, Or.inr ⟨rfl, ⟨h1, fun C2 h3 e => ?_⟩, C, hC, rfl⟩, rfl⟩ (by rfl) (by rfl) (by rfl)
      have e3 := congrArg Int32.toInt e
      rw [nI_i32 (by omega), nI_i32 (by omega)] at e3
      obtain rfl : C = C2 := by omega
      exact h2
  · rw [if_neg h1]
    refine fe_s 1 (pc' := cond (fx_cb .eq 0 0) 21 9) (lc' := [(0, .ref 0), (1, .int c)]) (stk' := []) (mem' := fm g tp bt a b) (fun _ _ _ => rfl) ?_
    rw [show fx_cb .eq 0 0 = true from by decide]
    dsimp only [cond]
    refine fe_s 1 (pc' := 22) (lc' := [(0, .ref 0), (1, .int c)]) (stk' := [.int 0]) (mem' := fm g tp bt a b) (fun _ _ _ => rfl) ?_
    exact fe_ret ⟨0, Or.inl ⟨rfl, fun z => h1 z.1⟩, rfl⟩ (by rfl) (by rfl) (by rfl)
theorem md_days {c days f t : Int32} {NCa : Nat} (eNCa : a 1 0 = nI NCa) (hNCa : NCa ≤ 10) : ∃ (v : Option Value) (mem' : fx_M), (fun R => ∃ z : Int32, (z = 0 ∧ ¬ (iceM (a 1) c ∧ dyN days f t) ∨ z = 1 ∧ (iceM (a 1) c ∧ dyN days f t) ∧ ∃ C d : Nat, C < 10 ∧ d ≤ 10 ∧ c = nI C ∧ days = nI d) ∧ R = (some (.int z), fm g tp bt a b)) (v, mem') ∧ fr_T 4 354 [.ref 0, .int c, .int days, .int f, .int t] (fm g tp bt a b) v mem' := by
  refine fe_meth (F := fun R => ∃ z : Int32, (z = 0 ∧ ¬ (iceM (a 1) c ∧ dyN days f t) ∨ z = 1 ∧ (iceM (a 1) c ∧ dyN days f t) ∧ ∃ C d : Nat, C < 10 ∧ d ≤ 10 ∧ c = nI C ∧ days = nI d) ∧ R = (some (.int z), fm g tp bt a b)) (M := gk_m354) (by rfl) (by rfl) ?_
  have bad : ¬ (iceM (a 1) c ∧ dyN days f t) → fe_R 3 gk_m354 52 [(0, .ref 0), (1, .int c), (2, .int days), (3, .int f), (4, .int t)] [] (fm g tp bt a b) (fun R => ∃ z : Int32, (z = 0 ∧ ¬ (iceM (a 1) c ∧ dyN days f t) ∨ z = 1 ∧ (iceM (a 1) c ∧ dyN days f t) ∧ ∃ C d : Nat, C < 10 ∧ d ≤ 10 ∧ c = nI C ∧ days = nI d) ∧ R = (some (.int z), fm g tp bt a b)) := fun hn => by
    refine fe_s 1 (pc' := 53) (lc' := [(0, .ref 0), (1, .int c), (2, .int days), (3, .int f), (4, .int t)]) (stk' := [.int 0]) (mem' := fm g tp bt a b) (fun _ _ _ => rfl) ?_
    exact fe_ret ⟨0, Or.inl ⟨rfl, hn⟩, rfl⟩ (by rfl) (by rfl) (by rfl)
  refine fe_s 2 (pc' := 2) (lc' := [(0, .ref 0), (1, .int c), (2, .int days), (3, .int f), (4, .int t)]) (stk' := [.int c, .ref 0]) (mem' := fm g tp bt a b) (fun _ _ _ => rfl) ?_
  obtain ⟨v0, mem0, ⟨x0, hx0, hR0⟩, hf0⟩ := md_ice (c := c) (g := g) (tp := tp) (bt := bt) (b := b) eNCa hNCa
  cases hR0
  refine fe_ivV hf0 (by omega) (by rfl) (by rfl) (by rfl) (by rfl) (by rfl) (by rfl) ?_
  rcases hx0 with ⟨rfl, hn0⟩ | ⟨rfl, hp0, C, hC, eC⟩
  · skip
    refine fe_s 1 (pc' := cond (fx_cb .eq 0 0) 52 8) (lc' := [(0, .ref 0), (1, .int c), (2, .int days), (3, .int f), (4, .int t)]) (stk' := []) (mem' := fm g tp bt a b) (fun _ _ _ => rfl) ?_
    rw [show fx_cb .eq 0 0 = true from by decide]
    dsimp only [cond]
    exact bad (fun z => hn0 z.1)
  · skip
    refine fe_s 1 (pc' := cond (fx_cb .eq 1 0) 52 8) (lc' := [(0, .ref 0), (1, .int c), (2, .int days), (3, .int f), (4, .int t)]) (stk' := []) (mem' := fm g tp bt a b) (fun _ _ _ => rfl) ?_
    rw [show fx_cb .eq 1 0 = false from by decide]
    dsimp only [cond]
    refine fe_s 4 (pc' := 14) (lc' := [(0, .ref 0), (1, .int c), (2, .int days), (3, .int f), (4, .int t)]) (stk' := [.long 10, .long (0 : Int64), .long (days.toInt64)]) (mem' := fm g tp bt a b) (fun _ _ _ => rfl) ?_
    obtain ⟨v1, mem1, ⟨x1, hx1, hR1⟩, hf1⟩ := fr_isFrom (v := days.toInt64) (l := (0 : Int64)) (m := 10) (mem := fm g tp bt a b)
    cases hR1
    refine fe_ivS hf1 (by omega) (by rfl) (by rfl) (by rfl) (by rfl) (by rfl) ?_
    rcases hx1 with ⟨rfl, hn1⟩ | ⟨rfl, hl1, hm1⟩
    · skip
      refine fe_s 1 (pc' := cond (fx_cb .eq 0 0) 52 20) (lc' := [(0, .ref 0), (1, .int c), (2, .int days), (3, .int f), (4, .int t)]) (stk' := []) (mem' := fm g tp bt a b) (fun _ _ _ => rfl) ?_
      rw [show fx_cb .eq 0 0 = true from by decide]
      dsimp only [cond]
      exact bad (fun z => hn1 (by rw [Int32.toInt_toInt64]; exact ⟨z.2.1.1, z.2.1.2⟩))
    · skip
      refine fe_s 1 (pc' := cond (fx_cb .eq 1 0) 52 20) (lc' := [(0, .ref 0), (1, .int c), (2, .int days), (3, .int f), (4, .int t)]) (stk' := []) (mem' := fm g tp bt a b) (fun _ _ _ => rfl) ?_
      rw [show fx_cb .eq 1 0 = false from by decide]
      dsimp only [cond]
      rw [Int32.toInt_toInt64] at hl1 hm1
      have hl1 : 0 ≤ days.toInt := hl1
      have hm1 : days.toInt ≤ 10 := hm1
      refine fe_s 4 (pc' := 26) (lc' := [(0, .ref 0), (1, .int c), (2, .int days), (3, .int f), (4, .int t)]) (stk' := [.long 16, .long (0 : Int64), .long (f.toInt64)]) (mem' := fm g tp bt a b) (fun _ _ _ => rfl) ?_
      obtain ⟨v2, mem2, ⟨x2, hx2, hR2⟩, hf2⟩ := fr_isFrom (v := f.toInt64) (l := (0 : Int64)) (m := 16) (mem := fm g tp bt a b)
      cases hR2
      refine fe_ivS hf2 (by omega) (by rfl) (by rfl) (by rfl) (by rfl) (by rfl) ?_
      rcases hx2 with ⟨rfl, hn2⟩ | ⟨rfl, hl2, hm2⟩
      · skip
        refine fe_s 1 (pc' := cond (fx_cb .eq 0 0) 52 32) (lc' := [(0, .ref 0), (1, .int c), (2, .int days), (3, .int f), (4, .int t)]) (stk' := []) (mem' := fm g tp bt a b) (fun _ _ _ => rfl) ?_
        rw [show fx_cb .eq 0 0 = true from by decide]
        dsimp only [cond]
        exact bad (fun z => hn2 (by rw [Int32.toInt_toInt64]; exact ⟨z.2.2.1.1, z.2.2.1.2⟩))
      · skip
        refine fe_s 1 (pc' := cond (fx_cb .eq 1 0) 52 32) (lc' := [(0, .ref 0), (1, .int c), (2, .int days), (3, .int f), (4, .int t)]) (stk' := []) (mem' := fm g tp bt a b) (fun _ _ _ => rfl) ?_
        rw [show fx_cb .eq 1 0 = false from by decide]
        dsimp only [cond]
        rw [Int32.toInt_toInt64] at hl2 hm2
        have hl2 : 0 ≤ f.toInt := hl2
        have hm2 : f.toInt ≤ 16 := hm2
        have e16 := i16_sub hl2 hm2
        refine fe_s 7 (pc' := 42) (lc' := [(0, .ref 0), (1, .int c), (2, .int days), (3, .int f), (4, .int t)]) (stk' := [.long (16 - (f.toInt64)), .long (0 : Int64), .long (t.toInt64)]) (mem' := fm g tp bt a b) (fun _ _ _ => rfl) ?_
        obtain ⟨v3, mem3, ⟨x3, hx3, hR3⟩, hf3⟩ := fr_isFrom (v := t.toInt64) (l := (0 : Int64)) (m := (16 - (f.toInt64))) (mem := fm g tp bt a b)
        cases hR3
        refine fe_ivS hf3 (by omega) (by rfl) (by rfl) (by rfl) (by rfl) (by rfl) ?_
        rcases hx3 with ⟨rfl, hn3⟩ | ⟨rfl, hl3, hm3⟩
        · skip
          refine fe_s 1 (pc' := cond (fx_cb .eq 0 0) 52 48) (lc' := [(0, .ref 0), (1, .int c), (2, .int days), (3, .int f), (4, .int t)]) (stk' := []) (mem' := fm g tp bt a b) (fun _ _ _ => rfl) ?_
          rw [show fx_cb .eq 0 0 = true from by decide]
          dsimp only [cond]
          exact bad (fun z => hn3 (by rw [Int32.toInt_toInt64]; rw [e16]; exact ⟨z.2.2.2.1, z.2.2.2.2⟩))
        · skip
          refine fe_s 1 (pc' := cond (fx_cb .eq 1 0) 52 48) (lc' := [(0, .ref 0), (1, .int c), (2, .int days), (3, .int f), (4, .int t)]) (stk' := []) (mem' := fm g tp bt a b) (fun _ _ _ => rfl) ?_
          rw [show fx_cb .eq 1 0 = false from by decide]
          dsimp only [cond]
          rw [Int32.toInt_toInt64] at hl3 hm3
          have hl3 : 0 ≤ t.toInt := hl3
          rw [e16] at hm3
          refine fe_s 2 (pc' := 53) (lc' := [(0, .ref 0), (1, .int c), (2, .int days), (3, .int f), (4, .int t)]) (stk' := [.int 1]) (mem' := fm g tp bt a b) (fun _ _ _ => rfl) ?_
          obtain ⟨d, hd, ed⟩ := nI_bd (x := days) (n := 10) hl1 hm1
          exact fe_ret ⟨1, Or.inr ⟨rfl, ⟨hp0, ⟨hl1, hm1⟩, ⟨hl2, hm2⟩, hl3, hm3⟩, C, d, hC, hd, eC, ed⟩, rfl⟩ (by rfl) (by rfl) (by rfl)
theorem md_odds {c m dd f t : Int32} (hBa : fm_B a) (hgb : fm_gb g) : ∃ (v : Option Value) (mem' : fx_M), (fm_PD (iceM (a 1) c ∧ (0 ≤ m.toInt ∧ m.toInt ≤ 999) ∧ dyN dd f t)) (v, mem') ∧ fr_T 9 355 [.ref 0, .int c, .int m, .int dd, .int f, .int t] (fm g tp bt a b) v mem' := by
  have hG := fm_G_rf hgb
  obtain ⟨NCa, hNCa, eNCa⟩ := fm_B_0 hBa (i := 0) (n := 10) (by decide) rfl
  obtain ⟨NWa, hNWa, eNWa⟩ := fm_B_0 hBa (i := 1) (n := 8) (by decide) rfl
  refine fe_meth (F := fm_PD (iceM (a 1) c ∧ (0 ≤ m.toInt ∧ m.toInt ≤ 999) ∧ dyN dd f t)) (M := gk_m355) (by rfl) (by rfl) ?_
  refine fe_s 5 (pc' := 7) (lc' := [(0, .ref 0), (1, .int c), (2, .int m), (3, .int dd), (4, .int f), (5, .int t)]) (stk' := [.int t, .int f, .int dd, .int c, .ref 0]) (mem' := fm g tp bt a b) (fun _ _ _ => rfl) ?_
  obtain ⟨vw1, memw1, ⟨xw1, hxw1, hRw1⟩, hfrw1⟩ := md_days (c := c) (days := dd) (f := f) (t := t) (g := g) (tp := tp) (bt := bt) (a := a) (b := b) eNCa hNCa
  cases hRw1
  refine fe_ivV hfrw1 (by omega) (by rfl) (by rfl) (by rfl) (by rfl) (by rfl) (by rfl) ?_
  rcases hxw1 with ⟨rfl, hn1⟩ | ⟨rfl, hp1, C, d, hC, hd, rfl, rfl⟩
  · refine fe_s 1 (pc' := cond (fx_cb .eq 0 0) 25 13) (lc' := [(0, .ref 0), (1, .int c), (2, .int m), (3, .int dd), (4, .int f), (5, .int t)]) (stk' := []) (mem' := fm g tp bt a b) (fun _ _ _ => rfl) ?_
    rw [show (fx_cb .eq 0 0) = true from by decide]
    dsimp only [cond]
    refine fe_s 2 (pc' := 27) (lc' := [(0, .ref 0), (1, .int c), (2, .int m), (3, .int dd), (4, .int f), (5, .int t)]) (stk' := [.int 1, .ref 0]) (mem' := fm g tp bt a b) (fun _ _ _ => rfl) ?_
    refine fe_ivV fr_isx1 (by omega) (by rfl) (by rfl) (by rfl) (by rfl) (by rfl) (by rfl) ?_
    exact fe_ret ⟨_, _, _, _, _, _, Or.inr ⟨fun z => hn1 ⟨z.1, z.2.2⟩, rfl⟩, rfl⟩ (by rfl) (by rfl) (by rfl)
  · refine fe_s 1 (pc' := cond (fx_cb .eq 1 0) 25 13) (lc' := [(0, .ref 0), (1, .int (nI C)), (2, .int m), (3, .int (nI d)), (4, .int f), (5, .int t)]) (stk' := []) (mem' := fm g tp bt a b) (fun _ _ _ => rfl) ?_
    rw [show (fx_cb .eq 1 0) = false from by decide]
    dsimp only [cond]
    refine fe_s 4 (pc' := 19) (lc' := [(0, .ref 0), (1, .int (nI C)), (2, .int m), (3, .int (nI d)), (4, .int f), (5, .int t)]) (stk' := [.long 999, .long (0 : Int64), .long (m.toInt64)]) (mem' := fm g tp bt a b) (fun _ _ _ => rfl) ?_
    obtain ⟨vf2, memf2, ⟨xf2, hxf2, hRf2⟩, hfrf2⟩ := fr_isFrom (v := m.toInt64) (l := (0 : Int64)) (m := 999) (mem := fm g tp bt a b)
    cases hRf2
    refine fe_ivS hfrf2 (by omega) (by rfl) (by rfl) (by rfl) (by rfl) (by rfl) ?_
    rcases hxf2 with ⟨rfl, hn2⟩ | ⟨rfl, hlf2, hmf2⟩
    · refine fe_s 1 (pc' := cond (fx_cb .ne 0 0) 31 25) (lc' := [(0, .ref 0), (1, .int (nI C)), (2, .int m), (3, .int (nI d)), (4, .int f), (5, .int t)]) (stk' := []) (mem' := fm g tp bt a b) (fun _ _ _ => rfl) ?_
      rw [show (fx_cb .ne 0 0) = false from by decide]
      dsimp only [cond]
      refine fe_s 2 (pc' := 27) (lc' := [(0, .ref 0), (1, .int (nI C)), (2, .int m), (3, .int (nI d)), (4, .int f), (5, .int t)]) (stk' := [.int 1, .ref 0]) (mem' := fm g tp bt a b) (fun _ _ _ => rfl) ?_
      refine fe_ivV fr_isx1 (by omega) (by rfl) (by rfl) (by rfl) (by rfl) (by rfl) (by rfl) ?_
      exact fe_ret ⟨_, _, _, _, _, _, Or.inr ⟨fun z => hn2 (by rw [Int32.toInt_toInt64]; exact ⟨z.2.1.1, z.2.1.2⟩), rfl⟩, rfl⟩ (by rfl) (by rfl) (by rfl)
    · have okm : 0 ≤ m.toInt ∧ m.toInt ≤ 999 := by
        rw [Int32.toInt_toInt64] at hlf2 hmf2
        exact ⟨hlf2, hmf2⟩
      refine fe_s 1 (pc' := cond (fx_cb .ne 1 0) 31 25) (lc' := [(0, .ref 0), (1, .int (nI C)), (2, .int m), (3, .int (nI d)), (4, .int f), (5, .int t)]) (stk' := []) (mem' := fm g tp bt a b) (fun _ _ _ => rfl) ?_
      rw [show (fx_cb .ne 1 0) = true from by decide]
      dsimp only [cond]
      refine fe_s 5 (pc' := 38) (lc' := [(0, .ref 0), (1, .int (nI C)), (2, .int m), (3, .int (nI d)), (4, .int f), (5, .int t)]) (stk' := [.int t, .int f, .int (nI d), .int (nI C), .ref 0]) (mem' := fm g tp bt a b) (fun _ _ _ => rfl) ?_
      obtain ⟨vy3, memy3, ⟨xy3, by3, hxy3, hby3, hRy3⟩, hfry3⟩ := fr_laysDays (C := C) (days := d) (f := f) (t := t) (g := g) (tp := tp) (bt := bt) (a := a) (b := b) (by omega) (by omega)
      cases hRy3
      have hbby3 : ∀ t, t ≠ 17 → t ≠ 18 → by3 t = b t := fun t h7 h8 => (hby3 t h7 h8).trans ((fun _ _ _ => rfl) t h7 h8)
      refine fe_ivV hfry3 (by omega) (by rfl) (by rfl) (by rfl) (by rfl) (by rfl) (by rfl) ?_
      refine fe_s 5 (pc' := 47) (lc' := [(6, .long xy3), (0, .ref 0), (1, .int (nI C)), (2, .int m), (3, .int (nI d)), (4, .int f), (5, .int t)]) (stk' := [.int m, .int (nI C), .ref 0, .ref 0]) (mem' := fm g tp bt a by3) (fun _ _ _ => rfl) ?_
      obtain ⟨vu4, memu4, ⟨xu4, hRu4⟩, hfru4⟩ := fr_waysTo (C := C) (m := m) (g := g) (tp := tp) (bt := bt) (a := a) (b := by3) (by omega)
      cases hRu4
      refine fe_ivV hfru4 (by omega) (by rfl) (by rfl) (by rfl) (by rfl) (by rfl) (by rfl) ?_
      refine fe_s 1 (pc' := 52) (lc' := [(6, .long xy3), (0, .ref 0), (1, .int (nI C)), (2, .int m), (3, .int (nI d)), (4, .int f), (5, .int t)]) (stk' := [.long xy3, .long xu4, .ref 0]) (mem' := fm g tp bt a by3) (fun _ _ _ => rfl) ?_
      obtain ⟨vt5, memt5, ⟨tt5, ut5, hRt5⟩, hfrt5⟩ := fr_tellsByX (n := xu4) (d := xy3) (g := g) (tp := tp) (bt := bt) (a := a) (b := by3) (by rw [hxy3]; exact fm_16n _ (by omega))
      cases hRt5
      refine fe_ivV hfrt5 (by omega) (by rfl) (by rfl) (by rfl) (by rfl) (by rfl) (by rfl) ?_
      exact fe_ret ⟨_, _, _, _, _, _, Or.inl ⟨⟨hp1.1, okm, hp1.2⟩, rfl⟩, rfl⟩ (by rfl) (by rfl) (by rfl)
theorem md_meanIn {c dd f t : Int32} (hBa : fm_B a) (hgb : fm_gb g) : ∃ (v : Option Value) (mem' : fx_M), (fm_PD (iceM (a 1) c ∧ dyN dd f t)) (v, mem') ∧ fr_T 9 357 [.ref 0, .int c, .int dd, .int f, .int t] (fm g tp bt a b) v mem' := by
  have hG := fm_G_rf hgb
  obtain ⟨NCa, hNCa, eNCa⟩ := fm_B_0 hBa (i := 0) (n := 10) (by decide) rfl
  obtain ⟨NWa, hNWa, eNWa⟩ := fm_B_0 hBa (i := 1) (n := 8) (by decide) rfl
  refine fe_meth (F := fm_PD (iceM (a 1) c ∧ dyN dd f t)) (M := gk_m357) (by rfl) (by rfl) ?_
  refine fe_s 5 (pc' := 6) (lc' := [(0, .ref 0), (1, .int c), (2, .int dd), (3, .int f), (4, .int t)]) (stk' := [.int t, .int f, .int dd, .int c, .ref 0]) (mem' := fm g tp bt a b) (fun _ _ _ => rfl) ?_
  obtain ⟨vw1, memw1, ⟨xw1, hxw1, hRw1⟩, hfrw1⟩ := md_days (c := c) (days := dd) (f := f) (t := t) (g := g) (tp := tp) (bt := bt) (a := a) (b := b) eNCa hNCa
  cases hRw1
  refine fe_ivV hfrw1 (by omega) (by rfl) (by rfl) (by rfl) (by rfl) (by rfl) (by rfl) ?_
  rcases hxw1 with ⟨rfl, hn1⟩ | ⟨rfl, hp1, C, d, hC, hd, rfl, rfl⟩
  · refine fe_s 1 (pc' := cond (fx_cb .ne 0 0) 18 12) (lc' := [(0, .ref 0), (1, .int c), (2, .int dd), (3, .int f), (4, .int t)]) (stk' := []) (mem' := fm g tp bt a b) (fun _ _ _ => rfl) ?_
    rw [show (fx_cb .ne 0 0) = false from by decide]
    dsimp only [cond]
    refine fe_s 2 (pc' := 14) (lc' := [(0, .ref 0), (1, .int c), (2, .int dd), (3, .int f), (4, .int t)]) (stk' := [.int 1, .ref 0]) (mem' := fm g tp bt a b) (fun _ _ _ => rfl) ?_
    refine fe_ivV fr_isx1 (by omega) (by rfl) (by rfl) (by rfl) (by rfl) (by rfl) (by rfl) ?_
    exact fe_ret ⟨_, _, _, _, _, _, Or.inr ⟨fun z => hn1 z, rfl⟩, rfl⟩ (by rfl) (by rfl) (by rfl)
  · refine fe_s 1 (pc' := cond (fx_cb .ne 1 0) 18 12) (lc' := [(0, .ref 0), (1, .int (nI C)), (2, .int (nI d)), (3, .int f), (4, .int t)]) (stk' := []) (mem' := fm g tp bt a b) (fun _ _ _ => rfl) ?_
    rw [show (fx_cb .ne 1 0) = true from by decide]
    dsimp only [cond]
    refine fe_s 5 (pc' := 24) (lc' := [(0, .ref 0), (1, .int (nI C)), (2, .int (nI d)), (3, .int f), (4, .int t)]) (stk' := [.int t, .int f, .int (nI d), .int (nI C), .ref 0]) (mem' := fm g tp bt a b) (fun _ _ _ => rfl) ?_
    obtain ⟨vy2, memy2, ⟨xy2, by2, hxy2, hby2, hRy2⟩, hfry2⟩ := fr_laysDays (C := C) (days := d) (f := f) (t := t) (g := g) (tp := tp) (bt := bt) (a := a) (b := b) (by omega) (by omega)
    cases hRy2
    have hbby2 : ∀ t, t ≠ 17 → t ≠ 18 → by2 t = b t := fun t h7 h8 => (hby2 t h7 h8).trans ((fun _ _ _ => rfl) t h7 h8)
    refine fe_ivV hfry2 (by omega) (by rfl) (by rfl) (by rfl) (by rfl) (by rfl) (by rfl) ?_
    refine fe_s 5 (pc' := 35) (lc' := [(9, .int 0), (7, .long (0 : Int64)), (5, .long xy2), (0, .ref 0), (1, .int (nI C)), (2, .int (nI d)), (3, .int f), (4, .int t)]) (stk' := []) (mem' := fm g tp bt a by2) (fun _ _ _ => rfl) ?_
    have loop3 : ∀ (r i3 : Nat), i3 + r = 21 → ∀ x7_3 : Int64, fe_R 8 gk_m357 35 [(9, .int (nI i3)), (7, .long x7_3), (5, .long xy2), (0, .ref 0), (1, .int (nI C)), (2, .int (nI d)), (3, .int f), (4, .int t)] [] (fm g tp bt a by2) (fm_PD (iceM (a 1) (nI C) ∧ dyN (nI d) f t)) := by
      intro r
      induction r with
      | zero =>
        intro i3 hi3 x7_3
        obtain rfl : i3 = 21 := by omega
        refine fe_s 2 (pc' := 39) (lc' := [(9, .int (nI 21)), (7, .long x7_3), (5, .long xy2), (0, .ref 0), (1, .int (nI C)), (2, .int (nI d)), (3, .int f), (4, .int t)]) (stk' := [.int 21, .int (nI 21)]) (mem' := fm g tp bt a by2) (fun _ _ _ => rfl) ?_
        refine fe_s 1 (pc' := cond (fx_cb .ge (nI 21) 21) 73 42) (lc' := [(9, .int (nI 21)), (7, .long x7_3), (5, .long xy2), (0, .ref 0), (1, .int (nI C)), (2, .int (nI d)), (3, .int f), (4, .int t)]) (stk' := []) (mem' := fm g tp bt a by2) (fun _ _ _ => rfl) ?_
        rw [show (fx_cb .ge (nI 21) 21) = true from cb_geT (a := 21) (b := 21) (by omega) (by omega) (by omega)]
        dsimp only [cond]
        refine fe_s 3 (pc' := 78) (lc' := [(9, .int (nI 21)), (7, .long x7_3), (5, .long xy2), (0, .ref 0), (1, .int (nI C)), (2, .int (nI d)), (3, .int f), (4, .int t)]) (stk' := [.long xy2, .long x7_3, .ref 0]) (mem' := fm g tp bt a by2) (fun _ _ _ => rfl) ?_
        obtain ⟨vt4, memt4, ⟨tt4, ut4, hRt4⟩, hfrt4⟩ := fr_tellsByX (n := x7_3) (d := xy2) (g := g) (tp := tp) (bt := bt) (a := a) (b := by2) (by rw [hxy2]; exact fm_16n _ (by omega))
        cases hRt4
        refine fe_ivV hfrt4 (by omega) (by rfl) (by rfl) (by rfl) (by rfl) (by rfl) (by rfl) ?_
        exact fe_ret ⟨_, _, _, _, _, _, Or.inl ⟨hp1, rfl⟩, rfl⟩ (by rfl) (by rfl) (by rfl)
      | succ r ih3 =>
        intro i3 hi3 x7_3
        have hl3 : i3 < 21 := by omega
        refine fe_s 2 (pc' := 39) (lc' := [(9, .int (nI i3)), (7, .long x7_3), (5, .long xy2), (0, .ref 0), (1, .int (nI C)), (2, .int (nI d)), (3, .int f), (4, .int t)]) (stk' := [.int 21, .int (nI i3)]) (mem' := fm g tp bt a by2) (fun _ _ _ => rfl) ?_
        refine fe_s 1 (pc' := cond (fx_cb .ge (nI i3) 21) 73 42) (lc' := [(9, .int (nI i3)), (7, .long x7_3), (5, .long xy2), (0, .ref 0), (1, .int (nI C)), (2, .int (nI d)), (3, .int f), (4, .int t)]) (stk' := []) (mem' := fm g tp bt a by2) (fun _ _ _ => rfl) ?_
        rw [show (fx_cb .ge (nI i3) 21) = false from cb_geF (a := i3) (b := 21) (by omega) (by omega) (by omega)]
        dsimp only [cond]
        refine fe_s 4 (pc' := 50) (lc' := [(9, .int (nI i3)), (7, .long x7_3), (5, .long xy2), (0, .ref 0), (1, .int (nI C)), (2, .int (nI d)), (3, .int f), (4, .int t)]) (stk' := [.int (nI i3), .ref 17, .long x7_3]) (mem' := fm g tp bt a by2) (fun _ _ _ => rfl) ?_
        refine fe_ldL (by rfl) (by rfl) (fx_inN (i := i3) (by omega) (by omega)) ?_
        rw [show Int32.toNatClampNeg (nI i3) = i3 from nI_clamp (by omega)]
        refine fe_s 2 (pc' := 53) (lc' := [(9, .int (nI i3)), (7, .long x7_3), (5, .long xy2), (0, .ref 0), (1, .int (nI C)), (2, .int (nI d)), (3, .int f), (4, .int t)]) (stk' := [.int (nI C), .ref 0, .long (by2 17 i3), .long x7_3]) (mem' := fm g tp bt a by2) (fun _ _ _ => rfl) ?_
        obtain ⟨v5, hv5⟩ := fq_bearsNow (C := C) (g := g) (tp := tp) (bt := bt) (a := a) (b := by2) (by omega)
        refine fe_ivV hv5 (by omega) (by rfl) (by rfl) (by rfl) (by rfl) (by rfl) (by rfl) ?_
        refine fe_s 10 (pc' := 35) (lc' := [(9, .int ((nI i3) + 1)), (7, .long (x7_3 + ((by2 17 i3) * (((v5 + (nI i3)) - 10).toInt64)))), (5, .long xy2), (0, .ref 0), (1, .int (nI C)), (2, .int (nI d)), (3, .int f), (4, .int t)]) (stk' := []) (mem' := fm g tp bt a by2) (fun _ _ _ => rfl) ?_
        rw [show ((nI i3) + 1 : Int32) = nI (i3 + 1) from by simp only [show (1 : Int32) = nI 1 from rfl, nI_add, fm_mul]]
        refine fe_w (lc' := [(9, .int (nI (i3 + 1))), (7, .long (x7_3 + ((by2 17 i3) * (((v5 + (nI i3)) - 10).toInt64)))), (5, .long xy2), (0, .ref 0), (1, .int (nI C)), (2, .int (nI d)), (3, .int f), (4, .int t)]) ⟨rfl, rfl, rfl, rfl, rfl, rfl, rfl, rfl, trivial⟩ (by show List.Nodup [9, 7, 5, 0, 1, 2, 3, 4]; decide) (by show List.Nodup [9, 7, 5, 0, 1, 2, 3, 4]; decide) ?_
        exact ih3 (i3 + 1) (by omega) _
    exact loop3 (21) (0) (by omega) _
end MDAY
