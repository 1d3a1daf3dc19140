section MG21_0
/-! ===== the model: odds, meanIn, as far as their answers go ===== -/
/-- ICE's number -/
def iceM (am : Nat → Int32) (c : Int32) : Prop := inN (am 0) c ∧ ∀ C, C < 10 → c = nI C → ¬ am (8 + 6 * C) = 1
def fm_PD (P : Prop) (R : Option Value × fx_M) : Prop := ∃ (v : Int32) (g' : Nat → Int32) (tp' bt' : Int64) (a' : Nat → Nat → Int32) (b' : Nat → Nat → Int64), (P ∧ v = 1 ∨ ¬ P ∧ v = 0) ∧ R = (some (.int v), fm g' tp' bt' a' b')
theorem i16_sub {f : Int32} (h1 : 0 ≤ f.toInt) (h2 : f.toInt ≤ 16) : (16 - f.toInt64 : Int64).toInt = 16 - f.toInt := by
  rw [Int64.toInt_sub, Int32.toInt_toInt64, show ((16 : Int64)).toInt = 16 from rfl]
  exact Int.bmod_eq_of_le (by omega) (by omega)
section MDAY
variable {g : Nat → Int32} {tp bt : Int64} {a : Nat → Nat → Int32} {b : Nat → Nat → Int64}
theorem md_shore {C : Nat} (hC : C < 10) : fr_T 2 256 [.ref 0, .int (nI C)] (fm g tp bt a b) (some (.int (if a 1 (8 + 6 * C) = 1 then 1 else 0))) (fm g tp bt a b) := by
  refine fr_meth (by rfl) (by rfl) ?_
  have e1 : 8 + 6 * nI C = nI (8 + 6 * C) := by
    rw [show (8 : Int32) = nI 8 from rfl, show (6 : Int32) = nI 6 from rfl, fm_mul, nI_add]
  refine fr_s 3 (pc' := 5) (lc' := [(0, .ref 0), (1, .int (nI C))]) (stk' := [.int (nI C), .ref 1]) (mem' := fm g tp bt a b) (fun _ _ _ => rfl) ?_
  refine fr_ivS (fr_cellRow (c := nI C)) (by omega) (by rfl) (by rfl) (by rfl) (by rfl) (by rfl) ?_
  show fr_R _ _ _ _ (.int (8 + 6 * nI C) :: [.ref 1]) _ _
  rw [e1]
  refine fr_ldI (by rfl) (by rfl) (fx_inN (i := 8 + 6 * C) (by omega) (by omega)) ?_
  rw [show Int32.toNatClampNeg (nI (8 + 6 * C)) = 8 + 6 * C from nI_clamp (by omega)]
  refine fr_s 1 (pc' := 10) (lc' := [(0, .ref 0), (1, .int (nI C))]) (stk' := [.int 1, .int (a 1 (8 + 6 * C))]) (mem' := fm g tp bt a b) (fun _ _ _ => rfl) ?_
  by_cases h : a 1 (8 + 6 * C) = 1
  · rw [if_pos h]
    refine fr_s 1 (pc' := cond (fx_cb .ne (a 1 (8 + 6 * C)) 1) 17 13) (lc' := [(0, .ref 0), (1, .int (nI C))]) (stk' := []) (mem' := fm g tp bt a b) (fun _ _ _ => rfl) ?_
    rw [show fx_cb .ne (a 1 (8 + 6 * C)) 1 = false from by rw [h]; decide]
    dsimp only [cond]
    refine fr_s 2 (pc' := 18) (lc' := [(0, .ref 0), (1, .int (nI C))]) (stk' := [.int 1]) (mem' := fm g tp bt a b) (fun _ _ _ => rfl) ?_
    exact fr_ret (by rfl) (by rfl) (by rfl)
  · rw [if_neg h]
    refine fr_s 1 (pc' := cond (fx_cb .ne (a 1 (8 + 6 * C)) 1) 17 13) (lc' := [(0, .ref 0), (1, .int (nI C))]) (stk' := []) (mem' := fm g tp bt a b) (fun _ _ _ => rfl) ?_
    rw [show fx_cb .ne (a 1 (8 + 6 * C)) 1 = true from by show (!decide (_ = (1 : Int32))) = true; rw [decide_eq_false h]; rfl]
    dsimp only [cond]
    refine fr_s 1 (pc' := 18) (lc' := [(0, .ref 0), (1, .int (nI C))]) (stk' := [.int 0]) (mem' := fm g tp bt a b) (fun _ _ _ => rfl) ?_
    exact fr_ret (by rfl) (by rfl) (by rfl)
theorem md_ice {c : Int32} {NC : Nat} (eN : a 1 0 = nI NC) (hN : NC ≤ 10) : ∃ (r : Option Value) (mem' : fx_M), (fun R => ∃ z : Int32, (z = 0 ∧ ¬ iceM (a 1) c ∨ z = 1 ∧ iceM (a 1) c ∧ ∃ C, C < 10 ∧ c = nI C) ∧ R = (some (.int z), fm g tp bt a b)) (r, mem') ∧ fr_T 3 257 [.ref 0, .int c] (fm g tp bt a b) r mem' := by
  refine fe_meth (F := fun R => ∃ z : Int32, (z = 0 ∧ ¬ iceM (a 1) c ∨ z = 1 ∧ iceM (a 1) c ∧ ∃ C, C < 10 ∧ c = nI C) ∧ R = (some (.int z), fm g tp bt a b)) (M := gk_m257) (by rfl) (by rfl) ?_
  refine fe_s 3 (pc' := 3) (lc' := [(0, .ref 0), (1, .int c)]) (stk' := [.long c.toInt64, .ref 0]) (mem' := fm g tp bt a b) (fun _ _ _ => rfl) ?_
  refine fe_ivV (ml_cell (c := c)) (by omega) (by rfl) (by rfl) (by rfl) (by rfl) (by rfl) (by rfl) ?_
  by_cases h1 : inN (a 1 0) c
  · rw [if_pos h1]
    obtain ⟨C, hC, rfl, hCc⟩ := inN_nat (m := 10) (by rw [eN, nI_i32 (by omega)]; omega) h1
    refine fe_s 1 (pc' := cond (fx_cb .eq 1 0) 21 9) (lc' := [(0, .ref 0), (1, .int (nI C))]) (stk' := []) (mem' := fm g tp bt a b) (fun _ _ _ => rfl) ?_
    rw [show fx_cb .eq 1 0 = false from by decide]
    dsimp only [cond]
    refine fe_s 2 (pc' := 11) (lc' := [(0, .ref 0), (1, .int (nI C))]) (stk' := [.int (nI C), .ref 0]) (mem' := fm g tp bt a b) (fun _ _ _ => rfl) ?_
    refine fe_ivV (md_shore hC) (by omega) (by rfl) (by rfl) (by rfl) (by rfl) (by rfl) (by rfl) ?_
    by_cases h2 : a 1 (8 + 6 * C) = 1
    · rw [if_pos h2]
      refine fe_s 1 (pc' := cond (fx_cb .ne 1 0) 21 17) (lc' := [(0, .ref 0), (1, .int (nI C))]) (stk' := []) (mem' := fm g tp bt a b) (fun _ _ _ => rfl) ?_
      rw [show fx_cb .ne 1 0 = true from by decide]
      dsimp only [cond]
      refine fe_s 1 (pc' := 22) (lc' := [(0, .ref 0), (1, .int (nI C))]) (stk' := [.int 0]) (mem' := fm g tp bt a b) (fun _ _ _ => rfl) ?_
      exact fe_ret ⟨0, Or.inl ⟨rfl, fun z => z.2 C hC rfl h2⟩, rfl⟩ (by rfl) (by rfl) (by rfl)
    · rw [if_neg h2]
      refine fe_s 1 (pc' := cond (fx_cb .ne 0 0) 21 17) (lc' := [(0, .ref 0), (1, .int (nI C))]) (stk' := []) (mem' := fm g tp bt a b) (fun _ _ _ => rfl) ?_
      rw [show fx_cb .ne 0 0 = false from by decide]
      dsimp only [cond]
      refine fe_s 2 (pc' := 22) (lc' := [(0, .ref 0), (1, .int (nI C))]) (stk' := [.int 1]) (mem' := fm g tp bt a b) (fun _ _ _ => rfl) ?_
      refine fe_ret ⟨1, Or.inr ⟨rfl, ⟨h1, fun C2 h3 e => ?_⟩, C, hC, rfl⟩, rfl⟩ (by rfl) (by rfl) (by rfl)
      have e3 := congrArg Int32.toInt e
      rw [nI_i32 (by omega), nI_i32 (by omega)] at e3
      obtain rfl : C = C2 := by omega
      exact h2
  · rw [if_neg h1]
    refine fe_s 1 (pc' := cond (fx_cb .eq 0 0) 21 9) (lc' := [(0, .ref 0), (1, .int c)]) (stk' := []) (mem' := fm g tp bt a b) (fun _ _ _ => rfl) ?_
    rw [show fx_cb .eq 0 0 = true from by decide]
    dsimp only [cond]
    refine fe_s 1 (pc' := 22) (lc' := [(0, .ref 0), (1, .int c)]) (stk' := [.int 0]) (mem' := fm g tp bt a b) (fun _ _ _ => rfl) ?_
    exact fe_ret ⟨0, Or.inl ⟨rfl, fun z => h1 z.1⟩, rfl⟩ (by rfl) (by rfl) (by rfl)
theorem md_days {c days f t : Int32} {NCa : Nat} (eNCa : a 1 0 = nI NCa) (hNCa : NCa ≤ 10) : ∃ (v : Option Value) (mem' : fx_M), (fun R => ∃ z : Int32, (z = 0 ∧ ¬ (iceM (a 1) c ∧ dyN days f t) ∨ z = 1 ∧ (iceM (a 1) c ∧ dyN days f t) ∧ ∃ C d : Nat, C < 10 ∧ d ≤ 10 ∧ c = nI C ∧ days = nI d) ∧ R = (some (.int z), fm g tp bt a b)) (v, mem') ∧ fr_T 4 354 [.ref 0, .int c, .int days, .int f, .int t] (fm g tp bt a b) v mem' := by
  refine fe_meth (F := fun R => ∃ z : Int32, (z = 0 ∧ ¬ (iceM (a 1) c ∧ dyN days f t) ∨ z = 1 ∧ (iceM (a 1) c ∧ dyN days f t) ∧ ∃ C d : Nat, C < 10 ∧ d ≤ 10 ∧ c = nI C ∧ days = nI d) ∧ R = (some (.int z), fm g tp bt a b)) (M := gk_m354) (by rfl) (by rfl) ?_
  have bad : ¬ (iceM (a 1) c ∧ dyN days f t) → fe_R 3 gk_m354 52 [(0, .ref 0), (1, .int c), (2, .int days), (3, .int f), (4, .int t)] [] (fm g tp bt a b) (fun R => ∃ z : Int32, (z = 0 ∧ ¬ (iceM (a 1) c ∧ dyN days f t) ∨ z = 1 ∧ (iceM (a 1) c ∧ dyN days f t) ∧ ∃ C d : Nat, C < 10 ∧ d ≤ 10 ∧ c = nI C ∧ days = nI d) ∧ R = (some (.int z), fm g tp bt a b)) := fun hn => by
    refine fe_s 1 (pc' := 53) (lc' := [(0, .ref 0), (1, .int c), (2, .int days), (3, .int f), (4, .int t)]) (stk' := [.int 0]) (mem' := fm g tp bt a b) (fun _ _ _ => rfl) ?_
    exact fe_ret ⟨0, Or.inl ⟨rfl, hn⟩, rfl⟩ (by rfl) (by rfl) (by rfl)
  refine fe_s 2 (pc' := 2) (lc' := [(0, .ref 0), (1, .int c), (2, .int days), (3, .int f), (4, .int t)]) (stk' := [.int c, .ref 0]) (mem' := fm g tp bt a b) (fun _ _ _ => rfl) ?_
  obtain ⟨v0, mem0, ⟨x0, hx0, hR0⟩, hf0⟩ := md_ice (c := c) (g := g) (tp := tp) (bt := bt) (b := b) eNCa hNCa
  cases hR0
  refine fe_ivV hf0 (by omega) (by rfl) (by rfl) (by rfl) (by rfl) (by rfl) (by rfl) ?_
  rcases hx0 with ⟨rfl, hn0⟩ | ⟨rfl, hp0, C, hC, eC⟩
  · skip
    refine fe_s 1 (pc' := cond (fx_cb .eq 0 0) 52 8) (lc' := [(0, .ref 0), (1, .int c), (2, .int days), (3, .int f), (4, .int t)]) (stk' := []) (mem' := fm g tp bt a b) (fun _ _ _ => rfl) ?_
    rw [show fx_cb .eq 0 0 = true from by decide]
    dsimp only [cond]
    exact bad (fun z => hn0 z.1)
  · skip
    refine fe_s 1 (pc' := cond (fx_cb .eq 1 0) 52 8) (lc' := [(0, .ref 0), (1, .int c), (2, .int days), (3, .int f), (4, .int t)]) (stk' := []) (mem' := fm g tp bt a b) (fun _ _ _ => rfl) ?_
    rw [show fx_cb .eq 1 0 = false from by decide]
    dsimp only [cond]
    refine fe_s 4 (pc' := 14) (lc' := [(0, .ref 0), (1, .int c), (2, .int days), (3, .int f), (4, .int t)]) (stk' := [.long 10, .long (0 : Int64), .long (days.toInt64)]) (mem' := fm g tp bt a b) (fun _ _ _ => rfl) ?_
    obtain ⟨v1, mem1, ⟨x1, hx1, hR1⟩, hf1⟩ := fr_isFrom (v := days.toInt64) (l := (0 : Int64)) (m := 10) (mem := fm g tp bt a b)
    cases hR1
    refine fe_ivS hf1 (by omega) (by rfl) (by rfl) (by rfl) (by rfl) (by rfl) ?_
    rcases hx1 with ⟨rfl, hn1⟩ | ⟨rfl, hl1, hm1⟩
    · skip
      refine fe_s 1 (pc' := cond (fx_cb .eq 0 0) 52 20) (lc' := [(0, .ref 0), (1, .int c), (2, .int days), (3, .int f), (4, .int t)]) (stk' := []) (mem' := fm g tp bt a b) (fun _ _ _ => rfl) ?_
      rw [show fx_cb .eq 0 0 = true from by decide]
      dsimp only [cond]
      exact bad (fun z => hn1 (by rw [Int32.toInt_toInt64]; exact ⟨z.2.1.1, z.2.1.2⟩))
    · skip
      refine fe_s 1 (pc' := cond (fx_cb .eq 1 0) 52 20) (lc' := [(0, .ref 0), (1, .int c), (2, .int days), (3, .int f), (4, .int t)]) (stk' := []) (mem' := fm g tp bt a b) (fun _ _ _ => rfl) ?_
      rw [show fx_cb .eq 1 0 = false from by decide]
      dsimp only [cond]
      rw [Int32.toInt_toInt64] at hl1 hm1
      have hl1 : 0 ≤ days.toInt := hl1
      have hm1 : days.toInt ≤ 10 := hm1
      refine fe_s 4 (pc' := 26) (lc' := [(0, .ref 0), (1, .int c), (2, .int days), (3, .int f), (4, .int t)]) (stk' := [.long 16, .long (0 : Int64), .long (f.toInt64)]) (mem' := fm g tp bt a b) (fun _ _ _ => rfl) ?_
      obtain ⟨v2, mem2, ⟨x2, hx2, hR2⟩, hf2⟩ := fr_isFrom (v := f.toInt64) (l := (0 : Int64)) (m := 16) (mem := fm g tp bt a b)
      cases hR2
      refine fe_ivS hf2 (by omega) (by rfl) (by rfl) (by rfl) (by rfl) (by rfl) ?_
      rcases hx2 with ⟨rfl, hn2⟩ | ⟨rfl, hl2, hm2⟩
      · skip
        refine fe_s 1 (pc' := cond (fx_cb .eq 0 0) 52 32) (lc' := [(0, .ref 0), (1, .int c), (2, .int days), (3, .int f), (4, .int t)]) (stk' := []) (mem' := fm g tp bt a b) (fun _ _ _ => rfl) ?_
        rw [show fx_cb .eq 0 0 = true from by decide]
        dsimp only [cond]
        exact bad (fun z => hn2 (by rw [Int32.toInt_toInt64]; exact ⟨z.2.2.1.1, z.2.2.1.2⟩))
      · skip
        refine fe_s 1 (pc' := cond (fx_cb .eq 1 0) 52 32) (lc' := [(0, .ref 0), (1, .int c), (2, .int days), (3, .int f), (4, .int t)]) (stk' := []) (mem' := fm g tp bt a b) (fun _ _ _ => rfl) ?_
        rw [show fx_cb .eq 1 0 = false from by decide]
        dsimp only [cond]
        rw [Int32.toInt_toInt64] at hl2 hm2
        have hl2 : 0 ≤ f.toInt := hl2
        have hm2 : f.toInt ≤ 16 := hm2
        have e16 := i16_sub hl2 hm2
        refine fe_s 7 (pc' := 42) (lc' := [(0, .ref 0), (1, .int c), (2, .int days), (3, .int f), (4, .int t)]) (stk' := [.long (16 - (f.toInt64)), .long (0 : Int64), .long (t.toInt64)]) (mem' := fm g tp bt a b) (fun _ _ _ => rfl) ?_
        obtain ⟨v3, mem3, ⟨x3, hx3, hR3⟩, hf3⟩ := fr_isFrom (v := t.toInt64) (l := (0 : Int64)) (m := (16 - (f.toInt64))) (mem := fm g tp bt a b)
        cases hR3
        refine fe_ivS hf3 (by omega) (by rfl) (by rfl) (by rfl) (by rfl) (by rfl) ?_
        rcases hx3 with ⟨rfl, hn3⟩ | ⟨rfl, hl3, hm3⟩
        · skip
          refine fe_s 1 (pc' := cond (fx_cb .eq 0 0) 52 48) (lc' := [(0, .ref 0), (1, .int c), (2, .int days), (3, .int f), (4, .int t)]) (stk' := []) (mem' := fm g tp bt a b) (fun _ _ _ => rfl) ?_
          rw [show fx_cb .eq 0 0 = true from by decide]
          dsimp only [cond]
          exact bad (fun z => hn3 (by rw [Int32.toInt_toInt64]; rw [e16]; exact ⟨z.2.2.2.1, z.2.2.2.2⟩))
        · skip
          refine fe_s 1 (pc' := cond (fx_cb .eq 1 0) 52 48) (lc' := [(0, .ref 0), (1, .int c), (2, .int days), (3, .int f), (4, .int t)]) (stk' := []) (mem' := fm g tp bt a b) (fun _ _ _ => rfl) ?_
          rw [show fx_cb .eq 1 0 = false from by decide]
          dsimp only [cond]
          rw [Int32.toInt_toInt64] at hl3 hm3
          have hl3 : 0 ≤ t.toInt := hl3
          rw [e16] at hm3
          refine fe_s 2 (pc' := 53) (lc' := [(0, .ref 0), (1, .int c), (2, .int days), (3, .int f), (4, .int t)]) (stk' := [.int 1]) (mem' := fm g tp bt a b) (fun _ _ _ => rfl) ?_
          obtain ⟨d, hd, ed⟩ := nI_bd (x := days) (n := 10) hl1 hm1
          exact fe_ret ⟨1, Or.inr ⟨rfl, ⟨hp0, ⟨hl1, hm1⟩, ⟨hl2, hm2⟩, hl3, hm3⟩, C, d, hC, hd, eC, ed⟩, rfl⟩ (by rfl) (by rfl) (by rfl)
theorem md_odds {c m dd f t : Int32} (hBa : fm_B a) (hgb : fm_gb g) : ∃ (v : Option Value) (mem' : fx_M), (fm_PD (iceM (a 1) c ∧ (0 ≤ m.toInt ∧ m.toInt ≤ 999) ∧ dyN dd f t)) (v, mem') ∧ fr_T 9 355 [.ref 0, .int c, .int m, .int dd, .int f, .int t] (fm g tp bt a b) v mem' := by
  have hG := fm_G_rf hgb
  obtain ⟨NCa, hNCa, eNCa⟩ := fm_B_0 hBa (i := 0) (n := 10) (by decide) rfl
  obtain ⟨NWa, hNWa, eNWa⟩ := fm_B_0 hBa (i := 1) (n := 8) (by decide) rfl
  refine fe_meth (F := fm_PD (iceM (a 1) c ∧ (0 ≤ m.toInt ∧ m.toInt ≤ 999) ∧ dyN dd f t)) (M := gk_m355) (by rfl) (by rfl) ?_
  refine fe_s 5 (pc' := 7) (lc' := [(0, .ref 0), (1, .int c), (2, .int m), (3, .int dd), (4, .int f), (5, .int t)]) (stk' := [.int t, .int f, .int dd, .int c, .ref 0]) (mem' := fm g tp bt a b) (fun _ _ _ => rfl) ?_
  obtain ⟨vw1, memw1, ⟨xw1, hxw1, hRw1⟩, hfrw1⟩ := md_days (c := c) (days := dd) (f := f) (t := t) (g := g) (tp := tp) (bt := bt) (a := a) (b := b) eNCa hNCa
  cases hRw1
  refine fe_ivV hfrw1 (by omega) (by rfl) (by rfl) (by rfl) (by rfl) (by rfl) (by rfl) ?_
  rcases hxw1 with ⟨rfl, hn1⟩ | ⟨rfl, hp1, C, d, hC, hd, rfl, rfl⟩
  · refine fe_s 1 (pc' := cond (fx_cb .eq 0 0) 25 13) (lc' := [(0, .ref 0), (1, .int c), (2, .int m), (3, .int dd), (4, .int f), (5, .int t)]) (stk' := []) (mem' := fm g tp bt a b) (fun _ _ _ => rfl) ?_
    rw [show (fx_cb .eq 0 0) = true from by decide]
    dsimp only [cond]
    refine fe_s 2 (pc' := 27) (lc' := [(0, .ref 0), (1, .int c), (2, .int m), (3, .int dd), (4, .int f), (5, .int t)]) (stk' := [.int 1, .ref 0]) (mem' := fm g tp bt a b) (fun _ _ _ => rfl) ?_
    refine fe_ivV fr_isx1 (by omega) (by rfl) (by rfl) (by rfl) (by rfl) (by rfl) (by rfl) ?_
    exact fe_ret ⟨_, _, _, _, _, _, Or.inr ⟨fun z => hn1 ⟨z.1, z.2.2⟩, rfl⟩, rfl⟩ (by rfl) (by rfl) (by rfl)
  · refine fe_s 1 (pc' := cond (fx_cb .eq 1 0) 25 13) (lc' := [(0, .ref 0), (1, .int (nI C)), (2, .int m), (3, .int (nI d)), (4, .int f), (5, .int t)]) (stk' := []) (mem' := fm g tp bt a b) (fun _ _ _ => rfl) ?_
    rw [show (fx_cb .eq 1 0) = false from by decide]
    dsimp only [cond]
    refine fe_s 4 (pc' := 19) (lc' := [(0, .ref 0), (1, .int (nI C)), (2, .int m), (3, .int (nI d)), (4, .int f), (5, .int t)]) (stk' := [.long 999, .long (0 : Int64), .long (m.toInt64)]) (mem' := fm g tp bt a b) (fun _ _ _ => rfl) ?_
    obtain ⟨vf2, memf2, ⟨xf2, hxf2, hRf2⟩, hfrf2⟩ := fr_isFrom (v := m.toInt64) (l := (0 : Int64)) (m := 999) (mem := fm g tp bt a b)
    cases hRf2
    refine fe_ivS hfrf2 (by omega) (by rfl) (by rfl) (by rfl) (by rfl) (by rfl) ?_
    rcases hxf2 with ⟨rfl, hn2⟩ | ⟨rfl, hlf2, hmf2⟩
    · refine fe_s 1 (pc' := cond (fx_cb .ne 0 0) 31 25) (lc' := [(0, .ref 0), (1, .int (nI C)), (2, .int m), (3, .int (nI d)), (4, .int f), (5, .int t)]) (stk' := []) (mem' := fm g tp bt a b) (fun _ _ _ => rfl) ?_
      rw [show (fx_cb .ne 0 0) = false from by decide]
      dsimp only [cond]
      refine fe_s 2 (pc' := 27) (lc' := [(0, .ref 0), (1, .int (nI C)), (2, .int m), (3, .int (nI d)), (4, .int f), (5, .int t)]) (stk' := [.int 1, .ref 0]) (mem' := fm g tp bt a b) (fun _ _ _ => rfl) ?_
      refine fe_ivV fr_isx1 (by omega) (by rfl) (by rfl) (by rfl) (by rfl) (by rfl) (by rfl) ?_
      exact fe_ret ⟨_, _, _, _, _, _, Or.inr ⟨fun z => hn2 (by rw [Int32.toInt_toInt64]; exact ⟨z.2.1.1, z.2.1.2⟩), rfl⟩, rfl⟩ (by rfl) (by rfl) (by rfl)
    · have okm : 0 ≤ m.toInt ∧ m.toInt ≤ 999 := by
        rw [Int32.toInt_toInt64] at hlf2 hmf2
        exact ⟨hlf2, hmf2⟩
      refine fe_s 1 (pc' := cond (fx_cb .ne 1 0) 31 25) (lc' := [(0, .ref 0), (1, .int (nI C)), (2, .int m), (3, .int (nI d)), (4, .int f), (5, .int t)]) (stk' := []) (mem' := fm g tp bt a b) (fun _ _ _ => rfl) ?_
      rw [show (fx_cb .ne 1 0) = true from by decide]
      dsimp only [cond]
      refine fe_s 5 (pc' := 38) (lc' := [(0, .ref 0), (1, .int (nI C)), (2, .int m), (3, .int (nI d)), (4, .int f), (5, .int t)]) (stk' := [.int t, .int f, .int (nI d), .int (nI C), .ref 0]) (mem' := fm g tp bt a b) (fun _ _ _ => rfl) ?_
      obtain ⟨vy3, memy3, ⟨xy3, by3, hxy3, hby3, hRy3⟩, hfry3⟩ := fr_laysDays (C := C) (days := d) (f := f) (t := t) (g := g) (tp := tp) (bt := bt) (a := a) (b := b) (by omega) (by omega)
      cases hRy3
      have hbby3 : ∀ t, t ≠ 17 → t ≠ 18 → by3 t = b t := fun t h7 h8 => (hby3 t h7 h8).trans ((fun _ _ _ => rfl) t h7 h8)
      refine fe_ivV hfry3 (by omega) (by rfl) (by rfl) (by rfl) (by rfl) (by rfl) (by rfl) ?_
      refine fe_s 5 (pc' := 47) (lc' := [(6, .long xy3), (0, .ref 0), (1, .int (nI C)), (2, .int m), (3, .int (nI d)), (4, .int f), (5, .int t)]) (stk' := [.int m, .int (nI C), .ref 0, .ref 0]) (mem' := fm g tp bt a by3) (fun _ _ _ => rfl) ?_
      obtain ⟨vu4, memu4, ⟨xu4, hRu4⟩, hfru4⟩ := fr_waysTo (C := C) (m := m) (g := g) (tp := tp) (bt := bt) (a := a) (b := by3) (by omega)
      cases hRu4
      refine fe_ivV hfru4 (by omega) (by rfl) (by rfl) (by rfl) (by rfl) (by rfl) (by rfl) ?_
      refine fe_s 1 (pc' := 52) (lc' := [(6, .long xy3), (0, .ref 0), (1, .int (nI C)), (2, .int m), (3, .int (nI d)), (4, .int f), (5, .int t)]) (stk' := [.long xy3, .long xu4, .ref 0]) (mem' := fm g tp bt a by3) (fun _ _ _ => rfl) ?_
      obtain ⟨vt5, memt5, ⟨tt5, ut5, hRt5⟩, hfrt5⟩ := fr_tellsByX (n := xu4) (d := xy3) (g := g) (tp := tp) (bt := bt) (a := a) (b := by3) (by rw [hxy3]; exact fm_16n _ (by omega))
      cases hRt5
      refine fe_ivV hfrt5 (by omega) (by rfl) (by rfl) (by rfl) (by rfl) (by rfl) (by rfl) ?_
      exact fe_ret ⟨_, _, _, _, _, _, Or.inl ⟨⟨hp1.1, okm, hp1.2⟩, rfl⟩, rfl⟩ (by rfl) (by rfl) (by rfl)
theorem md_meanIn {c dd f t : Int32} (hBa : fm_B a) (hgb : fm_gb g) : ∃ (v : Option Value) (mem' : fx_M), (fm_PD (iceM (a 1) c ∧ dyN dd f t)) (v, mem') ∧ fr_T 9 357 [.ref 0, .int c, .int dd, .int f, .int t] (fm g tp bt a b) v mem' := by
  have hG := fm_G_rf hgb
  obtain ⟨NCa, hNCa, eNCa⟩ := fm_B_0 hBa (i := 0) (n := 10) (by decide) rfl
  obtain ⟨NWa, hNWa, eNWa⟩ := fm_B_0 hBa (i := 1) (n := 8) (by decide) rfl
  refine fe_meth (F := fm_PD (iceM (a 1) c ∧ dyN dd f t)) (M := gk_m357) (by rfl) (by rfl) ?_
  refine fe_s 5 (pc' := 6) (lc' := [(0, .ref 0), (1, .int c), (2, .int dd), (3, .int f), (4, .int t)]) (stk' := [.int t, .int f, .int dd, .int c, .ref 0]) (mem' := fm g tp bt a b) (fun _ _ _ => rfl) ?_
  obtain ⟨vw1, memw1, ⟨xw1, hxw1, hRw1⟩, hfrw1⟩ := md_days (c := c) (days := dd) (f := f) (t := t) (g := g) (tp := tp) (bt := bt) (a := a) (b := b) eNCa hNCa
  cases hRw1
  refine fe_ivV hfrw1 (by omega) (by rfl) (by rfl) (by rfl) (by rfl) (by rfl) (by rfl) ?_
  rcases hxw1 with ⟨rfl, hn1⟩ | ⟨rfl, hp1, C, d, hC, hd, rfl, rfl⟩
  · refine fe_s 1 (pc' := cond (fx_cb .ne 0 0) 18 12) (lc' := [(0, .ref 0), (1, .int c), (2, .int dd), (3, .int f), (4, .int t)]) (stk' := []) (mem' := fm g tp bt a b) (fun _ _ _ => rfl) ?_
    rw [show (fx_cb .ne 0 0) = false from by decide]
    dsimp only [cond]
    refine fe_s 2 (pc' := 14) (lc' := [(0, .ref 0), (1, .int c), (2, .int dd), (3, .int f), (4, .int t)]) (stk' := [.int 1, .ref 0]) (mem' := fm g tp bt a b) (fun _ _ _ => rfl) ?_
    refine fe_ivV fr_isx1 (by omega) (by rfl) (by rfl) (by rfl) (by rfl) (by rfl) (by rfl) ?_
    exact fe_ret ⟨_, _, _, _, _, _, Or.inr ⟨fun z => hn1 z, rfl⟩, rfl⟩ (by rfl) (by rfl) (by rfl)
  · refine fe_s 1 (pc' := cond (fx_cb .ne 1 0) 18 12) (lc' := [(0, .ref 0), (1, .int (nI C)), (2, .int (nI d)), (3, .int f), (4, .int t)]) (stk' := []) (mem' := fm g tp bt a b) (fun _ _ _ => rfl) ?_
    rw [show (fx_cb .ne 1 0) = true from by decide]
    dsimp only [cond]
    refine fe_s 5 (pc' := 24) (lc' := [(0, .ref 0), (1, .int (nI C)), (2, .int (nI d)), (3, .int f), (4, .int t)]) (stk' := [.int t, .int f, .int (nI d), .int (nI C), .ref 0]) (mem' := fm g tp bt a b) (fun _ _ _ => rfl) ?_
    obtain ⟨vy2, memy2, ⟨xy2, by2, hxy2, hby2, hRy2⟩, hfry2⟩ := fr_laysDays (C := C) (days := d) (f := f) (t := t) (g := g) (tp := tp) (bt := bt) (a := a) (b := b) (by omega) (by omega)
    cases hRy2
    have hbby2 : ∀ t, t ≠ 17 → t ≠ 18 → by2 t = b t := fun t h7 h8 => (hby2 t h7 h8).trans ((fun _ _ _ => rfl) t h7 h8)
    refine fe_ivV hfry2 (by omega) (by rfl) (by rfl) (by rfl) (by rfl) (by rfl) (by rfl) ?_
    refine fe_s 5 (pc' := 35) (lc' := [(9, .int 0), (7, .long (0 : Int64)), (5, .long xy2), (0, .ref 0), (1, .int (nI C)), (2, .int (nI d)), (3, .int f), (4, .int t)]) (stk' := []) (mem' := fm g tp bt a by2) (fun _ _ _ => rfl) ?_
    have loop3 : ∀ (r i3 : Nat), i3 + r = 21 → ∀ x7_3 : Int64, fe_R 8 gk_m357 35 [(9, .int (nI i3)), (7, .long x7_3), (5, .long xy2), (0, .ref 0), (1, .int (nI C)), (2, .int (nI d)), (3, .int f), (4, .int t)] [] (fm g tp bt a by2) (fm_PD (iceM (a 1) (nI C) ∧ dyN (nI d) f t)) := by
      intro r
      induction r with
      | zero =>
        intro i3 hi3 x7_3
        obtain rfl : i3 = 21 := by omega
        refine fe_s 2 (pc' := 39) (lc' := [(9, .int (nI 21)), (7, .long x7_3), (5, .long xy2), (0, .ref 0), (1, .int (nI C)), (2, .int (nI d)), (3, .int f), (4, .int t)]) (stk' := [.int 21, .int (nI 21)]) (mem' := fm g tp bt a by2) (fun _ _ _ => rfl) ?_
        refine fe_s 1 (pc' := cond (fx_cb .ge (nI 21) 21) 73 42) (lc' := [(9, .int (nI 21)), (7, .long x7_3), (5, .long xy2), (0, .ref 0), (1, .int (nI C)), (2, .int (nI d)), (3, .int f), (4, .int t)]) (stk' := []) (mem' := fm g tp bt a by2) (fun _ _ _ => rfl) ?_
        rw [show (fx_cb .ge (nI 21) 21) = true from cb_geT (a := 21) (b := 21) (by omega) (by omega) (by omega)]
        dsimp only [cond]
        refine fe_s 3 (pc' := 78) (lc' := [(9, .int (nI 21)), (7, .long x7_3), (5, .long xy2), (0, .ref 0), (1, .int (nI C)), (2, .int (nI d)), (3, .int f), (4, .int t)]) (stk' := [.long xy2, .long x7_3, .ref 0]) (mem' := fm g tp bt a by2) (fun _ _ _ => rfl) ?_
        obtain ⟨vt4, memt4, ⟨tt4, ut4, hRt4⟩, hfrt4⟩ := fr_tellsByX (n := x7_3) (d := xy2) (g := g) (tp := tp) (bt := bt) (a := a) (b := by2) (by rw [hxy2]; exact fm_16n _ (by omega))
        cases hRt4
        refine fe_ivV hfrt4 (by omega) (by rfl) (by rfl) (by rfl) (by rfl) (by rfl) (by rfl) ?_
        exact fe_ret ⟨_, _, _, _, _, _, Or.inl ⟨hp1, rfl⟩, rfl⟩ (by rfl) (by rfl) (by rfl)
      | succ r ih3 =>
        intro i3 hi3 x7_3
        have hl3 : i3 < 21 := by omega
        refine fe_s 2 (pc' := 39) (lc' := [(9, .int (nI i3)), (7, .long x7_3), (5, .long xy2), (0, .ref 0), (1, .int (nI C)), (2, .int (nI d)), (3, .int f), (4, .int t)]) (stk' := [.int 21, .int (nI i3)]) (mem' := fm g tp bt a by2) (fun _ _ _ => rfl) ?_
        refine fe_s 1 (pc' := cond (fx_cb .ge (nI i3) 21) 73 42) (lc' := [(9, .int (nI i3)), (7, .long x7_3), (5, .long xy2), (0, .ref 0), (1, .int (nI C)), (2, .int (nI d)), (3, .int f), (4, .int t)]) (stk' := []) (mem' := fm g tp bt a by2) (fun _ _ _ => rfl) ?_
        rw [show (fx_cb .ge (nI i3) 21) = false from cb_geF (a := i3) (b := 21) (by omega) (by omega) (by omega)]
        dsimp only [cond]
        refine fe_s 4 (pc' := 50) (lc' := [(9, .int (nI i3)), (7, .long x7_3), (5, .long xy2), (0, .ref 0), (1, .int (nI C)), (2, .int (nI d)), (3, .int f), (4, .int t)]) (stk' := [.int (nI i3), .ref 17, .long x7_3]) (mem' := fm g tp bt a by2) (fun _ _ _ => rfl) ?_
        refine fe_ldL (by rfl) (by rfl) (fx_inN (i := i3) (by omega) (by omega)) ?_
        rw [show Int32.toNatClampNeg (nI i3) = i3 from nI_clamp (by omega)]
        refine fe_s 2 (pc' := 53) (lc' := [(9, .int (nI i3)), (7, .long x7_3), (5, .long xy2), (0, .ref 0), (1, .int (nI C)), (2, .int (nI d)), (3, .int f), (4, .int t)]) (stk' := [.int (nI C), .ref 0, .long (by2 17 i3), .long x7_3]) (mem' := fm g tp bt a by2) (fun _ _ _ => rfl) ?_
        obtain ⟨v5, hv5⟩ := fq_bearsNow (C := C) (g := g) (tp := tp) (bt := bt) (a := a) (b := by2) (by omega)
        refine fe_ivV hv5 (by omega) (by rfl) (by rfl) (by rfl) (by rfl) (by rfl) (by rfl) ?_
        refine fe_s 10 (pc' := 35) (lc' := [(9, .int ((nI i3) + 1)), (7, .long (x7_3 + ((by2 17 i3) * (((v5 + (nI i3)) - 10).toInt64)))), (5, .long xy2), (0, .ref 0), (1, .int (nI C)), (2, .int (nI d)), (3, .int f), (4, .int t)]) (stk' := []) (mem' := fm g tp bt a by2) (fun _ _ _ => rfl) ?_
        rw [show ((nI i3) + 1 : Int32) = nI (i3 + 1) from by simp only [show (1 : Int32) = nI 1 from rfl, nI_add, fm_mul]]
        refine fe_w (lc' := [(9, .int (nI (i3 + 1))), (7, .long (x7_3 + ((by2 17 i3) * (((v5 + (nI i3)) - 10).toInt64)))), (5, .long xy2), (0, .ref 0), (1, .int (nI C)), (2, .int (nI d)), (3, .int f), (4, .int t)]) ⟨rfl, rfl, rfl, rfl, rfl, rfl, rfl, rfl, trivial⟩ (by show List.Nodup [9, 7, 5, 0, 1, 2, 3, 4]; decide) (by show List.Nodup [9, 7, 5, 0, 1, 2, 3, 4]; decide) ?_
        exact ih3 (i3 + 1) (by omega) _
    exact loop3 (21) (0) (by omega) _
end MDAY
end MG21_0
section MG21_1
/-! ===== odds, meanIn: the calls of both ===== -/
def odC : SC := fun av g _ _ _ v => ∃ c m d f t : Int32, av = [.int c, .int m, .int d, .int f, .int t] ∧ v = .int (if iceN (g 15 8) (g 15 9) c ∧ (0 ≤ m.toInt ∧ m.toInt ≤ 999) ∧ dyN d f t then 1 else 0)
def odM : SM := fun av _ a _ _ v => ∃ c m d f t : Int32, av = [.int c, .int m, .int d, .int f, .int t] ∧ ((iceM (a 1) c ∧ (0 ≤ m.toInt ∧ m.toInt ≤ 999) ∧ dyN d f t) ∧ v = .int 1 ∨ ¬ (iceM (a 1) c ∧ (0 ≤ m.toInt ∧ m.toInt ≤ 999) ∧ dyN d f t) ∧ v = .int 0)
def meC : SC := fun av g _ _ _ v => ∃ c d f t : Int32, av = [.int c, .int d, .int f, .int t] ∧ v = .int (if iceN (g 15 8) (g 15 9) c ∧ dyN d f t then 1 else 0)
def meM : SM := fun av _ a _ _ v => ∃ c d f t : Int32, av = [.int c, .int d, .int f, .int t] ∧ ((iceM (a 1) c ∧ dyN d f t) ∧ v = .int 1 ∨ ¬ (iceM (a 1) c ∧ dyN d f t) ∧ v = .int 0)
theorem ice_wr {g a : Nat → Nat → Int32} {gm : Nat → Int32} {am : Nat → Nat → Int32} (h : wrE g a gm am) (hc : (g 15 8).toInt ≤ 10) (c : Int32) : iceN (g 15 8) (g 15 9) c ↔ iceM (am 1) c := by
  obtain ⟨-, -, h4, -⟩ := h
  have e8 : g 15 8 = am 1 0 := h4.1
  have e9 : ∀ i : Nat, i < 10 → (i : Int) < (g 15 8).toInt → (g 15 9 >>> (nI i &&& 31)) &&& 1 = am 1 (842 * 0 + 8 + 6 * i) := h4.2.2.2.2
  have b2 : ∀ x : Int32, ∀ i : Nat, i < 32 → (x >>> (nI i &&& 31)) &&& 1 = 0 ∨ (x >>> (nI i &&& 31)) &&& 1 = 1 := fun x i hi => by
    rw [bi_v _ hi]
    by_cases e : x.toBitVec.getLsbD i = true
    · rw [if_pos e]; exact Or.inr rfl
    · rw [if_neg e]; exact Or.inl rfl
  constructor
  · rintro ⟨h1, h2⟩
    refine ⟨by rw [← e8]; exact h1, fun C hC e h3 => ?_⟩
    subst e
    have hl := h1.2
    rw [nI_i32 (by omega)] at hl
    have := e9 C hC hl
    rw [h2, show 842 * 0 + 8 + 6 * C = 8 + 6 * C from by omega, h3] at this
    exact absurd this (by decide)
  · rintro ⟨h1, h2⟩
    rw [← e8] at h1
    obtain ⟨C, hC, rfl, -⟩ := inN_nat (m := 10) hc h1
    refine ⟨h1, ?_⟩
    have hl := h1.2
    rw [nI_i32 (by omega)] at hl
    have h9 := e9 C hC hl
    rcases b2 (g 15 9) C (by omega) with h | h
    · exact h
    · rw [h, show 842 * 0 + 8 + 6 * C = 8 + 6 * C from by omega] at h9
      exact absurd h9.symm (h2 C hC rfl)
theorem od_wr {av : List Value} {u w : Value} {g a g' a' : Nat → Nat → Int32} {gm gm' : Nat → Int32} {am am' : Nat → Nat → Int32} (h : wrE g a gm am) (hc : (g 15 8).toInt ≤ 10) (h1 : odC av g a g' a' u) (h2 : odM av gm am gm' am' w) : u = w := by
  obtain ⟨c, m, d, f, t, rfl, rfl⟩ := h1
  obtain ⟨c2, m2, d2, f2, t2, e, h3⟩ := h2
  cases e
  rw [← ice_wr h hc c] at h3
  rcases h3 with ⟨h3, rfl⟩ | ⟨h3, rfl⟩
  · rw [if_pos h3]
  · rw [if_neg h3]
theorem me_wr {av : List Value} {u w : Value} {g a g' a' : Nat → Nat → Int32} {gm gm' : Nat → Int32} {am am' : Nat → Nat → Int32} (h : wrE g a gm am) (hc : (g 15 8).toInt ≤ 10) (h1 : meC av g a g' a' u) (h2 : meM av gm am gm' am' w) : u = w := by
  obtain ⟨c, d, f, t, rfl, rfl⟩ := h1
  obtain ⟨c2, d2, f2, t2, e, h3⟩ := h2
  cases e
  rw [← ice_wr h hc c] at h3
  rcases h3 with ⟨h3, rfl⟩ | ⟨h3, rfl⟩
  · rw [if_pos h3]
  · rw [if_neg h3]
section DAYQ
variable {l : Launch} {D : va_G} {xt : tk_XT} {ads : List Nat}
theorem av4 {e1 e2 e3 e4 : tk_I} {rest : List Value} (h : rk_A2 lq_av ([0, 0, 0, 0].zip [e1, e2, e3, e4]) rest) : ∃ v0 v1 v2 v3 : Int32, rest = [.int v0, .int v1, .int v2, .int v3] := by
  obtain ⟨x0, r0, rfl, k0⟩ := av_int (show rk_A2 lq_av ((0, e1) :: [(0, e2), (0, e3), (0, e4)]) rest from h)
  obtain ⟨x1, r1, rfl, k1⟩ := av_int k0
  obtain ⟨x2, r2, rfl, k2⟩ := av_int k1
  obtain ⟨x3, r3, rfl, k3⟩ := av_int k2
  obtain rfl := k3.nil
  exact ⟨x0, x1, x2, x3, rfl⟩
theorem odC_sem (hxt : tk_xtok xt) {W : List (Nat × Nat)} (hK : KC l D xt ads 178 [0, 0, 0, 0, 0] [gn_i, gn_i, gn_i, gn_i, gn_i] W) : lw_sem l D xt gc_TY h3_X ads lw_twC 20 178 [0, 0, 0, 0, 0] [gn_i, gn_i, gn_i, gn_i, gn_i] (QC W (fun av g a g' a' v => odC av g a g' a' v ∧ (g 15 8).toInt ≤ 10)) := by
  refine cx_sem (S := fun av g a g' a' v => odC av g a g' a' v ∧ (g 15 8).toInt ≤ 10) (k := 3) hxt (by decide) hK (fun rest g l' a b R hr hin => ?_)
  obtain ⟨c, m, d, f, t, rfl⟩ := av5 hr
  have hc : (g 15 8).toInt ≤ 10 := hin.1.2.2.1.2
  by_cases h : iceN (g 15 8) (g 15 9) c ∧ (0 ≤ m.toInt ∧ m.toInt ≤ 999) ∧ dyN d f t
  · obtain ⟨C, hC, rfl, -⟩ := inN_nat (m := 10) hc h.1.1
    obtain ⟨D1, hD, rfl⟩ := nI_bd (x := d) (n := 10) h.2.2.1.1 h.2.2.1.2
    obtain ⟨g', l2, b', hrun⟩ := hd_oddsT (g := g) (l := l') (a := a) (b := b) (R := R) hC hD h
    exact ⟨.int 1, g', l2, a, b', Nat.zero_le 1, hrun, ⟨nI C, m, nI D1, f, t, rfl, by rw [if_pos h]⟩, hc⟩
  · exact ⟨.int 0, fm_u g 0 0 1, l', a, b, Nat.zero_le 1, hd_oddsF h, ⟨c, m, d, f, t, rfl, by rw [if_neg h]⟩, hc⟩
theorem meC_sem (hxt : tk_xtok xt) {W : List (Nat × Nat)} (hK : KC l D xt ads 180 [0, 0, 0, 0] [gn_i, gn_i, gn_i, gn_i] W) : lw_sem l D xt gc_TY h3_X ads lw_twC 20 180 [0, 0, 0, 0] [gn_i, gn_i, gn_i, gn_i] (QC W (fun av g a g' a' v => meC av g a g' a' v ∧ (g 15 8).toInt ≤ 10)) := by
  refine cx_sem (S := fun av g a g' a' v => meC av g a g' a' v ∧ (g 15 8).toInt ≤ 10) (k := 3) hxt (by decide) hK (fun rest g l' a b R hr hin => ?_)
  obtain ⟨c, d, f, t, rfl⟩ := av4 hr
  have hc : (g 15 8).toInt ≤ 10 := hin.1.2.2.1.2
  by_cases h : iceN (g 15 8) (g 15 9) c ∧ dyN d f t
  · obtain ⟨C, hC, rfl, -⟩ := inN_nat (m := 10) hc h.1.1
    obtain ⟨D1, hD, rfl⟩ := nI_bd (x := d) (n := 10) h.2.1.1 h.2.1.2
    obtain ⟨g', l2, b', hrun⟩ := hd_meanT (g := g) (l := l') (a := a) (b := b) (R := R) hC hD h
    exact ⟨.int 1, g', l2, a, b', Nat.zero_le 1, hrun, ⟨nI C, nI D1, f, t, rfl, by rw [if_pos h]⟩, hc⟩
  · exact ⟨.int 0, fm_u g 0 0 1, l', a, b, Nat.zero_le 1, hd_meanF h, ⟨c, d, f, t, rfl, by rw [if_neg h]⟩, hc⟩
/-- a call of the model that leaves all that is looked at, and its answer -/
theorem mx_keepV (hst : HS xt) {k f n : Nat} {V : List Value → (Nat → Int32) → (Nat → Nat → Int32) → Value → Prop}
    (hex : ∀ (g : Nat → Int32) (tp bt : Int64) (a : Nat → Nat → Int32) (b : Nat → Nat → Int64) (xs : List Int32), xs.length = n → fm_I g a → ∃ (v : Option Value) (mem' : fx_M), fm_PP gn_M0 g a b (v, mem') ∧ fm_PK g a (v, mem') ∧ fr_T k f (.ref 0 :: xs.map Value.int) (fm g tp bt a b) v mem' ∧ ∀ x : Int32, v = some (.int x) → V (xs.map Value.int) g a (.int x)) : lw_sem l D xt gn_TY (gn_X lw_twM) ads lw_twM (k + 4) f (List.replicate n 0) (List.replicate n gn_i) (fun av ws ws' v => QM (fun av g a _ _ v => V av g a v) av ws ws' v ∧ ∀ z ∈ mw_W, lw_at ws' z = lw_at ws z) := by
  refine lw_sem_imp (mx_sem (k := k) (f := f) (n := n) hst gn_M0_ms (S := fun av g a g' a' v => V av g a v ∧ g' 10 = g 10 ∧ g' 42 = g 42 ∧ a' 6 = a 6 ∧ ∀ i, fm_st i = true → a' 1 i = a 1 i) (fun g tp bt a b xs hx hI => ?_)) ?_
  · obtain ⟨v, mem', h1, ⟨v2, g2, tp2, bt2, a2, b2, e2, q1, q2, q3, q4⟩, h3, hV⟩ := hex g tp bt a b xs hx hI
    obtain ⟨v1, g1, tp1, bt1, a1, b1, e1, p1, p2⟩ := h1
    cases e1
    have em : fm g1 tp1 bt1 a1 b1 = fm g2 tp2 bt2 a2 b2 := congrArg Prod.snd e2
    have ea : ∀ t n ty, ((fm g1 tp1 bt1 a1 b1)[t]? = some (.inr (ty, n, .inl (a1 t)))) → ((fm g2 tp2 bt2 a2 b2)[t]? = some (.inr (ty, n, .inl (a2 t)))) → a1 t = a2 t := fun t n ty k1 k2 => by
      rw [em, k2] at k1
      injection k1 with k1
      injection k1 with k1
      injection k1 with _ k1
      injection k1 with _ k1
      injection k1 with k1
      exact k1.symm
    have e10 : g1 10 = g2 10 := Value.int.inj (Option.some.inj (fm_o_inj 10 em))
    have e42 : g1 42 = g2 42 := Value.int.inj (Option.some.inj (fm_o_inj 42 em))
    have ea6 : a1 6 = a2 6 := ea 6 900 .byte rfl rfl
    have ea1 : a1 1 = a2 1 := ea 1 5894 .int rfl rfl
    exact ⟨v1, g1, tp1, bt1, a1, b1, h3, p1, p2, hV v1 rfl, e10.trans q1, e42.trans q2, ea6.trans q3, fun i hi => (congrFun ea1 i).trans (q4 i hi)⟩
  · rintro av ws ws' v - ⟨hv, g, a, g', a', h1, h2, h3, hV, q1, q2, q3, q4⟩
    exact ⟨⟨hv, g, a, g', a', h1, h2, h3, hV⟩, mw_unW h1 (mw_eqV h2 q1 q2 q3 (fun i hi => q4 i (mw_lt i hi).2))⟩
theorem odM_sem (hst : HS xt) : lw_sem l D xt gn_TY (gn_X lw_twM) ads lw_twM 13 355 [0, 0, 0, 0, 0] [gn_i, gn_i, gn_i, gn_i, gn_i] (fun av ws ws' v => QM odM av ws ws' v ∧ ∀ z ∈ mw_W, lw_at ws' z = lw_at ws z) := by
  refine mx_keepV (k := 9) (f := 355) (n := 5) (V := fun av g a v => odM av g a g a v) hst (fun g tp bt a b xs hx hI => ?_)
  obtain ⟨x0, xs0, rfl, hx0⟩ := fm_xsS hx
  obtain ⟨x1, xs1, rfl, hx1⟩ := fm_xsS hx0
  obtain ⟨x2, xs2, rfl, hx2⟩ := fm_xsS hx1
  obtain ⟨x3, xs3, rfl, hx3⟩ := fm_xsS hx2
  obtain ⟨x4, xs4, rfl, hx4⟩ := fm_xsS hx3
  obtain rfl := List.length_eq_zero_iff.mp hx4
  obtain ⟨v, mem', hP, hf⟩ := fr_odds (g := g) (tp := tp) (bt := bt) (a := a) (b := b) (c := x0) (m := x1) (dd := x2) (f := x3) (t := x4) hI.2.1 (fm_I_gb hI)
  obtain ⟨v2, mem2, ⟨x, g2, tp2, bt2, a2, b2, h2, eR⟩, hf2⟩ := md_odds (g := g) (tp := tp) (bt := bt) (a := a) (b := b) (c := x0) (m := x1) (dd := x2) (f := x3) (t := x4) hI.2.1 (fm_I_gb hI)
  cases eR
  obtain ⟨d1, -⟩ := fr_det hf hf2
  refine ⟨v, mem', fm_I_PZ hI hP, fm_PK_Z hP, hf, fun y ey => ⟨x0, x1, x2, x3, x4, rfl, ?_⟩⟩
  rw [ey] at d1
  have e : y = x := Value.int.inj (Option.some.inj d1)
  subst e
  rcases h2 with ⟨h2, rfl⟩ | ⟨h2, rfl⟩
  · exact Or.inl ⟨h2, rfl⟩
  · exact Or.inr ⟨h2, rfl⟩
theorem meM_sem (hst : HS xt) : lw_sem l D xt gn_TY (gn_X lw_twM) ads lw_twM 13 357 [0, 0, 0, 0] [gn_i, gn_i, gn_i, gn_i] (fun av ws ws' v => QM meM av ws ws' v ∧ ∀ z ∈ mw_W, lw_at ws' z = lw_at ws z) := by
  refine mx_keepV (k := 9) (f := 357) (n := 4) (V := fun av g a v => meM av g a g a v) hst (fun g tp bt a b xs hx hI => ?_)
  obtain ⟨x0, xs0, rfl, hx0⟩ := fm_xsS hx
  obtain ⟨x1, xs1, rfl, hx1⟩ := fm_xsS hx0
  obtain ⟨x2, xs2, rfl, hx2⟩ := fm_xsS hx1
  obtain ⟨x3, xs3, rfl, hx3⟩ := fm_xsS hx2
  obtain rfl := List.length_eq_zero_iff.mp hx3
  obtain ⟨v, mem', hP, hf⟩ := fr_meanIn (g := g) (tp := tp) (bt := bt) (a := a) (b := b) (c := x0) (dd := x1) (f := x2) (t := x3) hI.2.1 (fm_I_gb hI)
  obtain ⟨v2, mem2, ⟨x, g2, tp2, bt2, a2, b2, h2, eR⟩, hf2⟩ := md_meanIn (g := g) (tp := tp) (bt := bt) (a := a) (b := b) (c := x0) (dd := x1) (f := x2) (t := x3) hI.2.1 (fm_I_gb hI)
  cases eR
  obtain ⟨d1, -⟩ := fr_det hf hf2
  refine ⟨v, mem', fm_I_PZ hI hP, fm_PK_Z hP, hf, fun y ey => ⟨x0, x1, x2, x3, rfl, ?_⟩⟩
  rw [ey] at d1
  have e : y = x := Value.int.inj (Option.some.inj d1)
  subst e
  rcases h2 with ⟨h2, rfl⟩ | ⟨h2, rfl⟩
  · exact Or.inl ⟨h2, rfl⟩
  · exact Or.inr ⟨h2, rfl⟩
end DAYQ
end MG21_1
section MG21_2
/-! ===== the law: a run of its calls over two worlds bound by a relation ===== -/
/-- as lq_V; (8, k): what the class gave, (9, k): what the model gave (k 0 an int, 1 a long) -/
def lr_g (b ax am i : Nat) (xs : Nat → Int32) (u w : Value) (a : lq_V) (v : Value) : Prop := match a.1 with
  | 0 => v = .int (xs (i + a.2))
  | 1 => v = .int (nI a.2)
  | 2 => v = .ref b
  | 3 => v = .ref ax
  | 4 => v = .ref am
  | 5 => v = .int (nI (i + a.2))
  | 6 => ∃ x : Int32, v = .int x
  | 7 => ∃ x : Int64, v = .long x
  | 8 => v = u ∧ lr_ty a.2 v
  | 9 => v = w ∧ lr_ty a.2 v
  | _ => False
def lr_int (a : lq_V) : Bool := lq_int a || ((Nat.beq a.1 8 || Nat.beq a.1 9) && Nat.beq a.2 0)
def lr_lng (a : lq_V) : Bool := Nat.beq a.1 7 || ((Nat.beq a.1 8 || Nat.beq a.1 9) && Nat.beq a.2 1)
def lr_cat (a : lq_V) : Nat := cond (Nat.beq a.1 7 || ((Nat.beq a.1 8 || Nat.beq a.1 9) && Nat.beq a.2 1)) 2 1
def lr_sum : List lq_V → Nat
  | [] => 0
  | a :: r => lr_cat a + lr_sum r
/-- a number known may stand for one unknown -/
def lr_le (a r : lq_V) : Bool := (Nat.beq a.1 r.1 && Nat.beq a.2 r.2) || (Nat.beq r.1 6 && lq_int a)
def lr_les : List lq_V → List lq_V → Bool
  | [], [] => true
  | a :: as, r :: rs => lr_le a r && lr_les as rs
  | _, _ => false
theorem lr_les_ok {b ax am i : Nat} {xs : Nat → Int32} : ∀ {as rs : List lq_V} {av : List Value}, lr_les as rs = true → rk_A2 (lq_g b ax am i xs) as av → rk_A2 (lq_g b ax am i xs) rs av := by
  intro as
  induction as with
  | nil =>
    intro rs av h hg
    cases rs with
    | nil => exact hg
    | cons r rs => cases h
  | cons a as ih =>
    intro rs av h hg
    cases rs with
    | nil => cases h
    | cons r rs =>
      obtain ⟨v, k, rfl, g1, g2⟩ := hg.cons
      have h := Bool.and_eq_true_iff.mp (show (lr_le a r && lr_les as rs) = true from h)
      refine ⟨?_, ih h.2 g2⟩
      rcases Bool.or_eq_true_iff.mp (show ((Nat.beq a.1 r.1 && Nat.beq a.2 r.2) || (Nat.beq r.1 6 && lq_int a)) = true from h.1) with h1 | h1
      · have h1 := Bool.and_eq_true_iff.mp h1
        have e : a = r := Prod.ext (Nat.eq_of_beq_eq_true h1.1) (Nat.eq_of_beq_eq_true h1.2)
        rw [← e]
        exact g1
      · have h1 := Bool.and_eq_true_iff.mp h1
        have e := Nat.eq_of_beq_eq_true h1.1
        have hx : ∃ x : Int32, v = .int x := by
          have h2 := h1.2
          obtain ⟨k, j⟩ := a
          unfold lq_int at h2
          simp only [Bool.or_eq_true, Nat.beq_eq] at h2
          rcases h2 with rfl | rfl | rfl | rfl
          · exact ⟨_, g1⟩
          · exact ⟨_, g1⟩
          · exact ⟨_, g1⟩
          · exact g1
        obtain ⟨k, j⟩ := r
        have e : k = 6 := e
        subst e
        exact hx
/-- a row: the link's number, the method, its arguments' kinds and bounds, what it returns (0 an int, 1 a long), its arguments -/
abbrev lr_R : Type := Nat × Nat × List Nat × List tk_I × Nat × List lq_V
def lr_call (B : Nat → tk_I) (side : Nat) (r : lr_R) (idx : Nat) (st : List lq_V) : Option (List lq_V) := match rk_lk gk_lk12 idx with
  | some (kd, f, n) => (match lq_pop n [] st with
    | some (as, a :: rest) => if (r.1 = idx ∧ kd = 5 ∧ f = r.2.1 ∧ n = r.2.2.1.length ∧ gk_mci[f]? = some (cond (Nat.beq side 3) 11 12)) ∧ a.1 = side ∧ (lq_fits B as r.2.2.1 r.2.2.2.1 = true ∧ lr_les as r.2.2.2.2.2 = true ∧ as.all (fun a => Nat.ble a.1 7) = true) ∧ lr_sum rest ≤ 8 ∧ rest.all (fun a => Nat.ble a.1 (cond (Nat.beq side 3) 7 8)) = true then some rest else none
    | _ => none)
  | none => none
section LRG
variable {b ax am i : Nat} {xs : Nat → Int32} {u w : Value}
theorem lr_lq {a : lq_V} {v : Value} (h : Nat.ble a.1 7 = true) (hg : lr_g b ax am i xs u w a v) : lq_g b ax am i xs a v := by
  have h := Nat.le_of_ble_eq_true h
  obtain ⟨k, j⟩ := a
  have h : k ≤ 7 := h
  rcases (by omega : k = 0 ∨ k = 1 ∨ k = 2 ∨ k = 3 ∨ k = 4 ∨ k = 5 ∨ k = 6 ∨ k = 7) with rfl | rfl | rfl | rfl | rfl | rfl | rfl | rfl
  all_goals exact hg
theorem lr_lqs : ∀ {as : List lq_V} {av : List Value}, as.all (fun a => Nat.ble a.1 7) = true → rk_A2 (lr_g b ax am i xs u w) as av → rk_A2 (lq_g b ax am i xs) as av := by
  intro as
  induction as with
  | nil => intro av _ h; rw [h.nil]; trivial
  | cons a as ih =>
    intro av h hg
    obtain ⟨v, k, rfl, g1, g2⟩ := hg.cons
    have h := Bool.and_eq_true_iff.mp (show (Nat.ble a.1 7 && as.all (fun a => Nat.ble a.1 7)) = true from h)
    exact ⟨lr_lq h.1 g1, ih h.2 g2⟩
theorem lr_tr {u' w' : Value} {n : Nat} (hn : n = 7 ∨ n = 8 ∧ u' = u) : ∀ {as : List lq_V} {av : List Value}, as.all (fun a => Nat.ble a.1 n) = true → rk_A2 (lr_g b ax am i xs u w) as av → rk_A2 (lr_g b ax am i xs u' w') as av := by
  intro as
  induction as with
  | nil => intro av _ h; rw [h.nil]; trivial
  | cons a as ih =>
    intro av h hg
    obtain ⟨v, k, rfl, g1, g2⟩ := hg.cons
    have h := Bool.and_eq_true_iff.mp (show (Nat.ble a.1 n && as.all (fun a => Nat.ble a.1 n)) = true from h)
    refine ⟨?_, ih h.2 g2⟩
    have h1 := Nat.le_of_ble_eq_true h.1
    obtain ⟨k, j⟩ := a
    have h1 : k ≤ n := h1
    rcases (by omega : k = 0 ∨ k = 1 ∨ k = 2 ∨ k = 3 ∨ k = 4 ∨ k = 5 ∨ k = 6 ∨ k = 7 ∨ k = 8 ∧ n = 8) with rfl | rfl | rfl | rfl | rfl | rfl | rfl | rfl | ⟨rfl, e⟩
    all_goals first
      | exact g1
      | (rcases hn with hn | ⟨-, hn⟩
         · omega
         · rw [hn]; exact g1)
theorem lr_int_ok {a : lq_V} {v : Value} (h : lr_int a = true) (hg : lr_g b ax am i xs u w a v) : ∃ x : Int32, v = .int x := by
  obtain ⟨k, j⟩ := a
  unfold lr_int lq_int at h
  simp only [Bool.or_eq_true, Bool.and_eq_true, Nat.beq_eq] at h
  rcases h with (rfl | rfl | rfl | rfl) | ⟨rfl | rfl, rfl⟩
  · exact ⟨_, hg⟩
  · exact ⟨_, hg⟩
  · exact ⟨_, hg⟩
  · exact hg
  · exact hg.2
  · exact hg.2
theorem lr_lng_ok {a : lq_V} {v : Value} (h : lr_lng a = true) (hg : lr_g b ax am i xs u w a v) : ∃ x : Int64, v = .long x := by
  obtain ⟨k, j⟩ := a
  unfold lr_lng at h
  simp only [Bool.or_eq_true, Bool.and_eq_true, Nat.beq_eq] at h
  rcases h with rfl | ⟨rfl | rfl, rfl⟩
  · exact hg
  · exact hg.2
  · exact hg.2
theorem lr_cat_ok {a : lq_V} {v : Value} (hg : lr_g b ax am i xs u w a v) : v.category = lr_cat a := by
  obtain ⟨k, j⟩ := a
  have hz : ∀ j, lr_ty j v → j = 0 ∧ v.category = 1 ∨ j = 1 ∧ v.category = 2 := by
    intro j h
    match j, h with
    | 0, ⟨x, e⟩ => exact Or.inl ⟨rfl, by rw [e]; rfl⟩
    | 1, ⟨x, e⟩ => exact Or.inr ⟨rfl, by rw [e]; rfl⟩
  match k, hg with
  | 0, hg => rw [show v = _ from hg]; rfl
  | 1, hg => rw [show v = _ from hg]; rfl
  | 2, hg => rw [show v = _ from hg]; rfl
  | 3, hg => rw [show v = _ from hg]; rfl
  | 4, hg => rw [show v = _ from hg]; rfl
  | 5, hg => rw [show v = _ from hg]; rfl
  | 6, hg => obtain ⟨x, rfl⟩ := hg; rfl
  | 7, hg => obtain ⟨x, rfl⟩ := hg; rfl
  | 8, hg =>
    rcases hz j hg.2 with ⟨rfl, h⟩ | ⟨rfl, h⟩
    · exact h
    · exact h
  | 9, hg =>
    rcases hz j hg.2 with ⟨rfl, h⟩ | ⟨rfl, h⟩
    · exact h
    · exact h
theorem lr_sum_ok : ∀ {r : List lq_V} {stk : List Value}, rk_A2 (lr_g b ax am i xs u w) r stk → (stk.map fun v => v.category).sum = lr_sum r := by
  intro r
  induction r with
  | nil => intro stk h; rw [h.nil]; rfl
  | cons a r ih =>
    intro stk h
    obtain ⟨v, k, rfl, hg, hs⟩ := h.cons
    simp [lr_sum, lr_cat_ok hg, ih hs]
end LRG

def lr_step (B : Nat → tk_I) (rC rM : lr_R) (cmp : Bool) (ph pc : Nat) (ins : Instr) (st : List lq_V) : Option (List (Nat × Nat × List lq_V)) := match ins with
  | .aload_n k => if (k : Nat) = 0 then some [(ph, pc + 1, (2, 0) :: st)] else if (k : Nat) = 1 then some [(ph, pc + 1, (3, 0) :: st)] else if (k : Nat) = 2 then some [(ph, pc + 1, (4, 0) :: st)] else none
  | .iload_n k => if (k : Nat) = 3 then some [(ph, pc + 1, (5, 0) :: st)] else none
  | .iconst n => if 0 ≤ n ∧ n ≤ 5 then some [(ph, pc + 1, (1, n.toNat) :: st)] else none
  | .bipush _ => some [(ph, pc + 2, (6, 0) :: st)]
  | .iadd => match st with
    | (1, k) :: (5, j) :: r => if k ≤ 5 ∧ j ≤ 5 then some [(ph, pc + 1, (5, j + k) :: r)] else none
    | _ => none
  | .iaload => match st with
    | (5, k) :: (2, _) :: r => if k < 6 then some [(ph, pc + 1, (0, k) :: r)] else none
    | _ => none
  | .i2l => match st with
    | a :: r => if lr_int a = true then some [(ph, pc + 1, (7, 0) :: r)] else none
    | _ => none
  | .lshl => match st with
    | a :: (7, _) :: r => if lr_int a = true then some [(ph, pc + 1, (7, 0) :: r)] else none
    | _ => none
  | .land => match st with
    | (7, _) :: (7, _) :: r => some [(ph, pc + 1, (7, 0) :: r)]
    | _ => none
  | .lor => match st with
    | (7, _) :: (7, _) :: r => some [(ph, pc + 1, (7, 0) :: r)]
    | _ => none
  | .ldc2_w idx => match rk_cst gk_lcs idx with
    | some (.long _) => some [(ph, pc + 3, (7, 0) :: st)]
    | _ => none
  | .pop => match st with
    | a :: r => if lr_int a = true then some [(ph, pc + 1, r)] else none
    | _ => none
  | .pop2 => match st with
    | a :: r => if lr_lng a = true then some [(ph, pc + 1, r)] else none
    | _ => none
  | .lcmp => match st with
    | (9, 1) :: (8, 1) :: r => if ph = 2 ∧ cmp = true then some [(ph, pc + 1, (1, 0) :: r)] else none
    | _ => none
  | .goto off => if 0 ≤ (pc : Int) + off then some [(ph, ((pc : Int) + off).toNat, st)] else none
  | .ifCond .eq off => match st with
    | a :: r => if a = (1, 0) ∧ 0 ≤ (pc : Int) + off then some [(ph, ((pc : Int) + off).toNat, r)] else if lr_int a = true ∧ 0 ≤ (pc : Int) + off then some [(ph, ((pc : Int) + off).toNat, r), (ph, pc + 3, r)] else none
    | _ => none
  | .if_icmp .eq off => match st with
    | (9, 0) :: (8, 0) :: r => if (ph = 2 ∧ cmp = true) ∧ 0 ≤ (pc : Int) + off then some [(ph, ((pc : Int) + off).toNat, r)] else none
    | _ => none
  | .invokevirtual idx => match ph with
    | 0 => (match lr_call B 3 rC idx st with
      | some rest => some [(1, pc + 3, (8, rC.2.2.2.2.1) :: rest)]
      | none => none)
    | 1 => (match lr_call B 4 rM idx st with
      | some rest => some [(2, pc + 3, (9, rM.2.2.2.2.1) :: rest)]
      | none => none)
    | _ => none
  | _ => none

def lr_run (B : Nat → tk_I) (rC rM : lr_R) (cmp : Bool) (li : List (Nat × Instr × Nat)) (stop : Nat) : Nat → Nat → Nat → List lq_V → Bool
  | 0, _, _, _ => false
  | n + 1, ph, pc, st => cond (Nat.beq pc stop) (st.isEmpty && Nat.beq ph 2) (match lq_at li pc with
    | some (ins, len) => rk_len ins len && (match lr_step B rC rM cmp ph pc ins st with
      | some l => l.all (fun q => lr_run B rC rM cmp li stop n q.1 q.2.1 q.2.2)
      | none => false)
    | none => false)

section LRS
variable {p : Program} {l : Launch} {e : Env} {R : Room} {s : State} {m : MethodId} {args : Array Value} {below : List Frame} {meth : Method} {c : Code} {Q : State → Prop} {D : va_G} {Ad : Nat → Prop} {xt : tk_XT} {b ax am i L nc ns : Nat} {xs : Nat → Int32} {adC adM : List Nat}
/-- where the case stands: 0 ahead of its calls, 1 behind the class's, 2 behind both -/
def lr_ph (b ax am i : Nat) (xs : Nat → Int32) (RR : va_W → va_W → Prop) (asC asM : List lq_V) (QC QM : List Value → va_W → va_W → Value → Prop) (u w : Value) (ph : Nat) : va_W → va_W → Prop := match ph with
  | 0 => RR
  | 1 => fun c m => ∃ (c0 : va_W) (av : List Value), RR c0 m ∧ rk_A2 (lq_g b ax am i xs) asC av ∧ QC av c0 c u
  | _ => fun c m => ∃ (c0 m0 : va_W) (av av2 : List Value), RR c0 m0 ∧ (rk_A2 (lq_g b ax am i xs) asC av ∧ QC av c0 c u) ∧ rk_A2 (lq_g b ax am i xs) asM av2 ∧ QM av2 m0 m w
/-- both worlds stand, and what binds them -/
def lr_J (s : State) (D : va_G) (Ad : Nat → Prop) (adC adM : List Nat) (F : va_W → va_W → Prop) (H : Heap) (locs : List Loc) : Prop := ∃ wc wm : va_W, lw_T gc_TY h3_X adC lw_twC s D Ad H wc ∧ lw_T gn_TY (gn_X lw_twM) adM lw_twM s D Ad H wm ∧ va_S Ad s.heap H locs ∧ F wc wm
def lr_St (K : rk_K) (s : State) (D : va_G) (Ad : Nat → Prop) (adC adM : List Nat) (F : va_W → va_W → Prop) (b ax am i : Nat) (xs : Nat → Int32) (u w : Value) (nc ns pc : Nat) (st : List lq_V) : Prop := ∀ (H : Heap) (locs : List Loc) (ls : Array Slot) (stk : List Value), lr_J s D Ad adC adM F H locs → lv_has ls 4 (lw_lc b ax am i) → rk_A2 (lr_g b ax am i xs u w) st stk → K pc ls stk H locs nc ns
set_option maxHeartbeats 8000000 in
theorem lr_step_ok (hxt : tk_xtok xt) (hXt : xt Ad s s.heap) (hx : p.tables.exec = Jvm.exec) (hb : c.code = code) (hml : c.maxLocals = 4) (hF : rk_Fr s m args meth D gk_cl Ad gk_tbl gk_xw gk_fty gk_cln "GooseIceLaw" gk_lk12 gk_lcs) (hfr : 21 ≤ R.frames) (hlo : 840 ≤ R.locals) (hX : va_X b L xs s s.heap) (hbl : b < s.heap.size) (hbA : ¬ Ad b) (hL : L < 2147483648) (hi : i + 6 ≤ L) (hdis : ∀ x ∈ adM, ¬ x ∈ adC) (haC : tk_ty adC lw_twC 0 ax) (haM : tk_ty adM lw_twM 0 am) (hnc : nc ≤ R.cells) (hns : ns ≤ R.slots)
    {B : Nat → tk_I} (hB : ∀ k, (B k).1 ≤ (xs (i + k)).toInt ∧ (xs (i + k)).toInt ≤ (B k).2) {rC rM : lr_R} {RR : va_W → va_W → Prop} {QC QM : List Value → va_W → va_W → Value → Prop} {cmp : Bool} (hTC : lw_sem l D xt gc_TY h3_X adC lw_twC 20 rC.2.1 rC.2.2.1 rC.2.2.2.1 QC) (hTM : lw_sem l D xt gn_TY (gn_X lw_twM) adM lw_twM 20 rM.2.1 rM.2.2.1 rM.2.2.2.1 QM) (hyC : ∀ av c0 c1 v, QC av c0 c1 v → lr_ty rC.2.2.2.2.1 v) (hyM : ∀ av c0 c1 v, QM av c0 c1 v → lr_ty rM.2.2.2.2.1 v) (hcmp : cmp = true → ∀ (av av2 : List Value) (c0 c1 m0 m1 : va_W) (u w : Value), RR c0 m0 → rk_A2 (lq_g b ax am i xs) rC.2.2.2.2.2 av → QC av c0 c1 u → rk_A2 (lq_g b ax am i xs) rM.2.2.2.2.2 av2 → QM av2 m0 m1 w → u = w) {ph pc : Nat} {ins : Instr} {len : Nat} {u w : Value} {st : List lq_V} {res : List (Nat × Nat × List lq_V)} (hdg : decode code pc = .ok (ins, len)) (hlen : rk_len ins len = true) (h : lr_step B rC rM cmp ph pc ins st = some res) (kk : ∀ q ∈ res, ∀ u w : Value, lr_St (rk_KW p l e R s m args below meth c Q) s D Ad adC adM (lr_ph b ax am i xs RR rC.2.2.2.2.2 rM.2.2.2.2.2 QC QM u w q.1) b ax am i xs u w nc ns q.2.1 q.2.2) : lr_St (rk_KW p l e R s m args below meth c Q) s D Ad adC adM (lr_ph b ax am i xs RR rC.2.2.2.2.2 rM.2.2.2.2.2 QC QM u w ph) b ax am i xs u w nc ns pc st := by
  intro H locs ls stk hJ hl hS
  obtain ⟨wc, wm, hC, hM, hS0, hRR⟩ := id hJ
  cases ins
  case aload_n k =>
    simp [rk_len] at hlen; subst hlen
    simp only [lr_step] at h
    split at h
    · next e => cases h; exact lv_aload_n hx hb hdg e (lv_at hl 3 rfl) (kk _ (List.mem_singleton.mpr rfl) u w H locs ls _ hJ hl ⟨rfl, hS⟩)
    · split at h
      · next e => cases h; exact lv_aload_n hx hb hdg e (lv_at hl 2 rfl) (kk _ (List.mem_singleton.mpr rfl) u w H locs ls _ hJ hl ⟨rfl, hS⟩)
      · split at h
        · next e => cases h; exact lv_aload_n hx hb hdg e (lv_at hl 1 rfl) (kk _ (List.mem_singleton.mpr rfl) u w H locs ls _ hJ hl ⟨rfl, hS⟩)
        · cases h
  case iload_n k =>
    simp [rk_len] at hlen; subst hlen
    simp only [lr_step] at h
    split at h
    · next e => cases h; exact lv_iload_n hx hb hdg e (lv_at hl 0 rfl) (kk _ (List.mem_singleton.mpr rfl) u w H locs ls _ hJ hl ⟨rfl, hS⟩)
    · cases h
  case iconst n =>
    simp [rk_len] at hlen; subst hlen
    simp only [lr_step] at h
    split at h
    · next e =>
      cases h
      have hv : Int32.ofInt n = nI n.toNat := by
        rcases (by omega : n = 0 ∨ n = 1 ∨ n = 2 ∨ n = 3 ∨ n = 4 ∨ n = 5) with rfl | rfl | rfl | rfl | rfl | rfl <;> rfl
      exact lv_iconst hx hb hdg hv (kk _ (List.mem_singleton.mpr rfl) u w H locs ls _ hJ hl ⟨rfl, hS⟩)
    · cases h
  case bipush n =>
    simp [rk_len] at hlen; subst hlen
    simp only [lr_step] at h
    cases h
    exact lv_bipush hx hb hdg rfl (kk _ (List.mem_singleton.mpr rfl) u w H locs ls _ hJ hl ⟨⟨_, rfl⟩, hS⟩)
  case iadd =>
    simp [rk_len] at hlen; subst hlen
    simp only [lr_step] at h
    split at h
    · next k j r =>
      split at h
      · next e =>
        cases h
        obtain ⟨v1, k1, rfl, g1, hS1⟩ := hS.cons
        obtain ⟨v2, k2, rfl, g2, hS2⟩ := hS1.cons
        have g1 : v1 = .int (nI k) := g1
        have g2 : v2 = .int (nI (i + j)) := g2
        subst g1 g2
        refine lv_iadd hx hb hdg (kk _ (List.mem_singleton.mpr rfl) u w H locs ls _ hJ hl ⟨?_, hS2⟩)
        show Value.int (nI (i + j) + nI k) = .int (nI (i + (j + k)))
        rw [nI_add, Nat.add_assoc]
      · cases h
    · cases h
  case iaload =>
    simp [rk_len] at hlen; subst hlen
    simp only [lr_step] at h
    split at h
    · next k j r =>
      split at h
      · next e =>
        cases h
        obtain ⟨v1, k1, rfl, g1, hS1⟩ := hS.cons
        obtain ⟨v2, k2, rfl, g2, hS2⟩ := hS1.cons
        have g1 : v1 = .int (nI (i + k)) := g1
        have g2 : v2 = .ref b := g2
        subst g1 g2
        have hin : vp_in (nI (i + k)) L := vp_in_iff.mpr (by rw [nI_i32 (by omega)]; omega)
        refine va_sld hx hb hX hbl hbA hS0 hin hdg (kk _ (List.mem_singleton.mpr rfl) u w H locs ls _ hJ hl ⟨?_, hS2⟩)
        show Value.int (xs (nI (i + k)).toNatClampNeg) = .int (xs (i + k))
        rw [show (nI (i + k)).toNatClampNeg = i + k from nI_clamp (by omega)]
      · cases h
    · cases h
  case i2l =>
    simp [rk_len] at hlen; subst hlen
    simp only [lr_step] at h
    split at h
    · next a r =>
      split at h
      · next e =>
        cases h
        obtain ⟨v1, k1, rfl, g1, hS1⟩ := hS.cons
        obtain ⟨x, rfl⟩ := lr_int_ok e g1
        exact lv_i2l hx hb hdg rfl (kk _ (List.mem_singleton.mpr rfl) u w H locs ls _ hJ hl ⟨⟨_, rfl⟩, hS1⟩)
      · cases h
    · cases h
  case lshl =>
    simp [rk_len] at hlen; subst hlen
    simp only [lr_step] at h
    split at h
    · next a j r =>
      split at h
      · next e =>
        cases h
        obtain ⟨v1, k1, rfl, g1, hS1⟩ := hS.cons
        obtain ⟨v2, k2, rfl, ⟨y, rfl⟩, hS2⟩ := hS1.cons
        obtain ⟨x, rfl⟩ := lr_int_ok e g1
        exact lv_lshl hx hb hdg rfl (kk _ (List.mem_singleton.mpr rfl) u w H locs ls _ hJ hl ⟨⟨_, rfl⟩, hS2⟩)
      · cases h
    · cases h
  case land =>
    simp [rk_len] at hlen; subst hlen
    simp only [lr_step] at h
    split at h
    · cases h
      obtain ⟨v1, k1, rfl, ⟨x, rfl⟩, hS1⟩ := hS.cons
      obtain ⟨v2, k2, rfl, ⟨y, rfl⟩, hS2⟩ := hS1.cons
      exact lv_land hx hb hdg (kk _ (List.mem_singleton.mpr rfl) u w H locs ls _ hJ hl ⟨⟨_, rfl⟩, hS2⟩)
    · cases h
  case lor =>
    simp [rk_len] at hlen; subst hlen
    simp only [lr_step] at h
    split at h
    · cases h
      obtain ⟨v1, k1, rfl, ⟨x, rfl⟩, hS1⟩ := hS.cons
      obtain ⟨v2, k2, rfl, ⟨y, rfl⟩, hS2⟩ := hS1.cons
      exact lv_lor hx hb hdg (kk _ (List.mem_singleton.mpr rfl) u w H locs ls _ hJ hl ⟨⟨_, rfl⟩, hS2⟩)
    · cases h
  case ldc2_w idx =>
    simp [rk_len] at hlen; subst hlen
    simp only [lr_step] at h
    split at h
    · next x hc1 =>
      cases h
      obtain ⟨hts, hxw, hown, hK, hA, hcl, hlk, hini, hac, hcs⟩ := hF
      exact lv_ldc2 hx hb hown (hts _ ((hcs _ (rk_cst_mem hc1)).2 x rfl)) hdg (kk _ (List.mem_singleton.mpr rfl) u w H locs ls _ hJ hl ⟨⟨_, rfl⟩, hS⟩)
    · cases h
  case pop =>
    simp [rk_len] at hlen; subst hlen
    simp only [lr_step] at h
    split at h
    · next a r =>
      split at h
      · next e =>
        cases h
        obtain ⟨v1, k1, rfl, g1, hS1⟩ := hS.cons
        obtain ⟨x, rfl⟩ := lr_int_ok e g1
        exact lv_pop hx hb hdg rfl (kk _ (List.mem_singleton.mpr rfl) u w H locs ls _ hJ hl hS1)
      · cases h
    · cases h
  case pop2 =>
    simp [rk_len] at hlen; subst hlen
    simp only [lr_step] at h
    split at h
    · next a r =>
      split at h
      · next e =>
        cases h
        obtain ⟨v1, k1, rfl, g1, hS1⟩ := hS.cons
        obtain ⟨x, rfl⟩ := lr_lng_ok e g1
        exact lv_pop2_2 hx hb hdg rfl (kk _ (List.mem_singleton.mpr rfl) u w H locs ls _ hJ hl hS1)
      · cases h
    · cases h
  case lcmp =>
    simp [rk_len] at hlen; subst hlen
    simp only [lr_step] at h
    split at h
    · next r =>
      split at h
      · next e =>
        cases h
        obtain ⟨v1, k1, rfl, g1, hS1⟩ := hS.cons
        obtain ⟨v2, k2, rfl, g2, hS2⟩ := hS1.cons
        obtain ⟨g1, x, t1⟩ : v1 = w ∧ ∃ x : Int64, v1 = .long x := g1
        obtain ⟨g2, t2⟩ : v2 = u ∧ ∃ x : Int64, v2 = .long x := g2
        obtain ⟨rfl, hc⟩ := e
        obtain ⟨c0, m0, av, av2, z1, ⟨z2, z3⟩, z4, z5⟩ := hRR
        have huw := hcmp hc av av2 c0 wc m0 wm u w z1 z2 z3 z4 z5
        have hv : v1 = v2 := by rw [g1, g2, huw]
        rw [← hv, t1]
        refine W.lcmp hx hb hdg ?_
        refine kk _ (List.mem_singleton.mpr rfl) u w H locs ls _ hJ hl ⟨?_, hS2⟩
        show Value.int (lg_cmp x x) = .int (nI 0)
        have e0 : lg_cmp x x = 0 := by simp [lg_cmp]
        rw [e0]
        rfl
      · cases h
    · cases h
  case goto off =>
    simp [rk_len] at hlen; subst hlen
    simp only [lr_step] at h
    split at h
    · next e =>
      cases h
      exact lv_goto (tgt := ((pc : Int) + off).toNat) hx hb hdg (by omega) (kk _ (List.mem_singleton.mpr rfl) u w H locs ls _ hJ hl hS)
    · cases h
  case ifCond cnd off =>
    simp [rk_len] at hlen; subst hlen
    cases cnd
    case eq =>
      simp only [lr_step] at h
      split at h
      · next a r =>
        split at h
        · next e =>
          cases h
          obtain ⟨v1, k1, rfl, g1, hS1⟩ := hS.cons
          obtain ⟨rfl, e2⟩ := e
          have g1 : v1 = .int (nI 0) := g1
          subst g1
          exact lv_if_eq (tgt := ((pc : Int) + off).toNat) hx hb hdg (by omega) (fun _ => kk _ (List.mem_singleton.mpr rfl) u w H locs ls _ hJ hl hS1) (fun q => absurd rfl q)
        · split at h
          · next e =>
            cases h
            obtain ⟨v1, k1, rfl, g1, hS1⟩ := hS.cons
            obtain ⟨x, rfl⟩ := lr_int_ok e.1 g1
            exact lv_if_eq (tgt := ((pc : Int) + off).toNat) hx hb hdg (by omega) (fun _ => kk _ List.mem_cons_self u w H locs ls _ hJ hl hS1) (fun _ => kk _ (List.mem_cons_of_mem _ List.mem_cons_self) u w H locs ls _ hJ hl hS1)
          · cases h
      · cases h
    all_goals (simp [lr_step] at h)
  case if_icmp cnd off =>
    simp [rk_len] at hlen; subst hlen
    cases cnd
    case eq =>
      simp only [lr_step] at h
      split at h
      · next r =>
        split at h
        · next e =>
          cases h
          obtain ⟨v1, k1, rfl, g1, hS1⟩ := hS.cons
          obtain ⟨v2, k2, rfl, g2, hS2⟩ := hS1.cons
          obtain ⟨g1, x, t1⟩ : v1 = w ∧ ∃ x : Int32, v1 = .int x := g1
          obtain ⟨g2, t2⟩ : v2 = u ∧ ∃ x : Int32, v2 = .int x := g2
          obtain ⟨⟨rfl, hc⟩, e2⟩ := e
          obtain ⟨c0, m0, av, av2, z1, ⟨z2, z3⟩, z4, z5⟩ := hRR
          have huw := hcmp hc av av2 c0 wc m0 wm u w z1 z2 z3 z4 z5
          have hv : v1 = v2 := by rw [g1, g2, huw]
          rw [← hv, t1]
          exact lv_icmp_eq (tgt := ((pc : Int) + off).toNat) hx hb hdg (by omega) (fun _ => kk _ (List.mem_singleton.mpr rfl) u w H locs ls _ hJ hl hS2) (fun q => absurd rfl q)
        · cases h
      · cases h
    all_goals (simp [lr_step] at h)
  case invokevirtual idx =>
    simp [rk_len] at hlen; subst hlen
    simp only [lr_step] at h
    split at h
    · split at h
      · next rest hcl =>
        cases h
        unfold lr_call at hcl
        split at hcl
        · next kd f n hlk =>
          split at hcl
          · next as a rest' hpop =>
            split at hcl
            · next hc =>
              cases hcl
              obtain ⟨⟨rfl, rfl, rfl, rfl, hmc⟩, ha1, ⟨hfit, has, h7⟩, hsum, hrw⟩ := hc
              obtain ⟨v2, r2, ha, hr, rfl, hn⟩ := lq_pop_ok rC.2.2.1.length hpop (show rk_A2 (lr_g b ax am i xs u w) [] [] from trivial) hS
              rw [List.append_nil] at ha
              obtain ⟨vr, stk', rfl, hgr, hS1⟩ := hr.cons
              have ha := lr_lqs h7 ha
              obtain ⟨hav, hke⟩ := lq_fits_ok hB ha hfit
              have hsum' : (stk'.map fun v => v.category).sum ≤ 8 := by rw [lr_sum_ok hS1]; exact hsum
              have hvr : vr = .ref ax := by
                unfold lr_g at hgr
                rw [ha1] at hgr
                exact hgr
              subst hvr
              refine lw_call2 (lc := lw_lc b ax am i) hxt hXt hx hb hml hF (fun r hr => (gk_lkok12 r hr).2.1) hdis hTC hfr (by omega) (o1 := (11, _)) rfl hmc haC hlk rfl hke hav hsum' hdg hnc hns hl hC hM hS0 (fun ws1' H' locs' v hQ h1' h2' hS' => ?_)
              refine kk _ (List.mem_singleton.mpr rfl) v w H' locs' ls _ ⟨ws1', wm, h1', h2', hS', ?_⟩ hl ⟨⟨rfl, hyC _ _ _ _ hQ⟩, lr_tr (Or.inl rfl) hrw hS1⟩
              exact ⟨wc, v2, hRR, lr_les_ok has ha, hQ⟩
            · cases hcl
          · cases hcl
        · cases hcl
      · cases h
    · split at h
      · next rest hcl =>
        cases h
        unfold lr_call at hcl
        split at hcl
        · next kd f n hlk =>
          split at hcl
          · next as a rest' hpop =>
            split at hcl
            · next hc =>
              cases hcl
              obtain ⟨⟨rfl, rfl, rfl, rfl, hmc⟩, ha1, ⟨hfit, has, h7⟩, hsum, hrw⟩ := hc
              obtain ⟨v2, r2, ha, hr, rfl, hn⟩ := lq_pop_ok rM.2.2.1.length hpop (show rk_A2 (lr_g b ax am i xs u w) [] [] from trivial) hS
              rw [List.append_nil] at ha
              obtain ⟨vr, stk', rfl, hgr, hS1⟩ := hr.cons
              have ha := lr_lqs h7 ha
              obtain ⟨hav, hke⟩ := lq_fits_ok hB ha hfit
              have hsum' : (stk'.map fun v => v.category).sum ≤ 8 := by rw [lr_sum_ok hS1]; exact hsum
              have hvr : vr = .ref am := by
                unfold lr_g at hgr
                rw [ha1] at hgr
                exact hgr
              subst hvr
              refine lw_call2 (lc := lw_lc b ax am i) hxt hXt hx hb hml hF (fun r hr => (gk_lkok12 r hr).2.1) (fun x h1 h2 => hdis x h2 h1) hTM hfr (by omega) (o1 := (12, _)) rfl hmc haM hlk rfl hke hav hsum' hdg hnc hns hl hM hC hS0 (fun ws1' H' locs' v hQ h1' h2' hS' => ?_)
              refine kk _ (List.mem_singleton.mpr rfl) u v H' locs' ls _ ⟨wc, ws1', h2', h1', hS', ?_⟩ hl ⟨⟨rfl, hyM _ _ _ _ hQ⟩, lr_tr (Or.inr ⟨rfl, rfl⟩) hrw hS1⟩
              obtain ⟨c0, av, z1, z2, z3⟩ := hRR
              exact ⟨c0, wm, av, v2, z1, ⟨z2, z3⟩, lr_les_ok has ha, hQ⟩
            · cases hcl
          · cases hcl
        · cases hcl
      · cases h
    · cases h
  all_goals (simp [lr_step] at h)

theorem lr_run_ok (hxt : tk_xtok xt) (hXt : xt Ad s s.heap) (hx : p.tables.exec = Jvm.exec) (hb : c.code = code) (hml : c.maxLocals = 4) (hF : rk_Fr s m args meth D gk_cl Ad gk_tbl gk_xw gk_fty gk_cln "GooseIceLaw" gk_lk12 gk_lcs) (hfr : 21 ≤ R.frames) (hlo : 840 ≤ R.locals) (hX : va_X b L xs s s.heap) (hbl : b < s.heap.size) (hbA : ¬ Ad b) (hL : L < 2147483648) (hi : i + 6 ≤ L) (hdis : ∀ x ∈ adM, ¬ x ∈ adC) (haC : tk_ty adC lw_twC 0 ax) (haM : tk_ty adM lw_twM 0 am) (hnc : nc ≤ R.cells) (hns : ns ≤ R.slots)
    {B : Nat → tk_I} (hB : ∀ k, (B k).1 ≤ (xs (i + k)).toInt ∧ (xs (i + k)).toInt ≤ (B k).2) {rC rM : lr_R} {RR : va_W → va_W → Prop} {QC QM : List Value → va_W → va_W → Value → Prop} {cmp : Bool} (hTC : lw_sem l D xt gc_TY h3_X adC lw_twC 20 rC.2.1 rC.2.2.1 rC.2.2.2.1 QC) (hTM : lw_sem l D xt gn_TY (gn_X lw_twM) adM lw_twM 20 rM.2.1 rM.2.2.1 rM.2.2.2.1 QM) (hyC : ∀ av c0 c1 v, QC av c0 c1 v → lr_ty rC.2.2.2.2.1 v) (hyM : ∀ av c0 c1 v, QM av c0 c1 v → lr_ty rM.2.2.2.2.1 v) (hcmp : cmp = true → ∀ (av av2 : List Value) (c0 c1 m0 m1 : va_W) (u w : Value), RR c0 m0 → rk_A2 (lq_g b ax am i xs) rC.2.2.2.2.2 av → QC av c0 c1 u → rk_A2 (lq_g b ax am i xs) rM.2.2.2.2.2 av2 → QM av2 m0 m1 w → u = w) (hend : ∀ (av av2 : List Value) (c0 c1 m0 m1 : va_W) (u w : Value), RR c0 m0 → rk_A2 (lq_g b ax am i xs) rC.2.2.2.2.2 av → QC av c0 c1 u → rk_A2 (lq_g b ax am i xs) rM.2.2.2.2.2 av2 → QM av2 m0 m1 w → RR c1 m1) {li : List (Nat × Instr × Nat)} (hli : ∀ r ∈ li, decode code r.1 = .ok r.2) {stop : Nat} (hstop : ∀ u w : Value, lr_St (rk_KW p l e R s m args below meth c Q) s D Ad adC adM RR b ax am i xs u w nc ns stop []) : ∀ (n ph pc : Nat) (u w : Value) (st : List lq_V), lr_run B rC rM cmp li stop n ph pc st = true → lr_St (rk_KW p l e R s m args below meth c Q) s D Ad adC adM (lr_ph b ax am i xs RR rC.2.2.2.2.2 rM.2.2.2.2.2 QC QM u w ph) b ax am i xs u w nc ns pc st := by
  intro n
  induction n with
  | zero => intro ph pc u w st h; cases h
  | succ n ih =>
    intro ph pc u w st h
    unfold lr_run at h
    cases hb1 : Nat.beq pc stop with
    | true =>
      rw [hb1] at h
      have h := Bool.and_eq_true_iff.mp (show (st.isEmpty && Nat.beq ph 2) = true from h)
      rw [Nat.eq_of_beq_eq_true hb1, List.isEmpty_iff.mp h.1, Nat.eq_of_beq_eq_true h.2]
      intro H locs ls stk hJ hl hS
      obtain ⟨wc, wm, hC, hM, hS0, c0, m0, av, av2, z1, ⟨z2, z3⟩, z4, z5⟩ := hJ
      exact hstop u w H locs ls stk ⟨wc, wm, hC, hM, hS0, hend av av2 c0 wc m0 wm u w z1 z2 z3 z4 z5⟩ hl hS
    | false =>
      rw [hb1] at h
      dsimp only [cond] at h
      split at h
      · next ins len hat =>
        rw [Bool.and_eq_true] at h
        obtain ⟨h1, h2⟩ := h
        split at h2
        · next res hres =>
          have hdg : decode code pc = .ok (ins, len) := hli (pc, ins, len) (lq_at_ok hat)
          refine lr_step_ok (pc := pc) (ins := ins) (len := len) (st := st) (res := res) hxt hXt hx hb hml hF hfr hlo hX hbl hbA hL hi hdis haC haM hnc hns hB hTC hTM hyC hyM hcmp hdg h1 hres (fun q hq u w => ?_)
          exact ih q.1 q.2.1 u w q.2.2 (List.all_eq_true.mp h2 q hq)
        · cases h2
      · cases h
end LRS
theorem lr_same {b ax am i : Nat} {xs : Nat → Int32} : ∀ {as : List lq_V} {av av2 : List Value}, as.all (fun a => Nat.ble a.1 5) = true → rk_A2 (lq_g b ax am i xs) as av → rk_A2 (lq_g b ax am i xs) as av2 → av = av2 := by
  intro as
  induction as with
  | nil => intro av av2 _ h1 h2; rw [h1.nil, h2.nil]
  | cons a as ih =>
    intro av av2 h h1 h2
    obtain ⟨v, r, rfl, g1, g2⟩ := h1.cons
    obtain ⟨v', r', rfl, k1, k2⟩ := h2.cons
    have h := Bool.and_eq_true_iff.mp (show (Nat.ble a.1 5 && as.all (fun a => Nat.ble a.1 5)) = true from h)
    have e : v = v' := by
      have h1 := Nat.le_of_ble_eq_true h.1
      obtain ⟨k, j⟩ := a
      have h1 : k ≤ 5 := h1
      rcases (by omega : k = 0 ∨ k = 1 ∨ k = 2 ∨ k = 3 ∨ k = 4 ∨ k = 5) with rfl | rfl | rfl | rfl | rfl | rfl
      all_goals exact (show v = _ from g1).trans (show v' = _ from k1).symm
    rw [e, ih h.2 g2 k2]
end MG21_2
