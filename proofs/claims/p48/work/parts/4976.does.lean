/-! ===== fx: who lives: an order of the TALES is done ===== -/
section FLV
variable {g : Nat → Int32} {tp bt : Int64} {a0 a : Nat → Nat → Int32} {b : Nat → Nat → Int64}
theorem fr_sendsBy {T : Nat} {W : Nat} {to : Int32} (hB : fm_B a0) (hD : fm_D a0 a T) (hW : W < 8) : ∃ (v : Option Value) (mem' : fx_M), (fun R => ∃ v : Int32, (v = 0 ∨ v = 1) ∧ ∃ a' : Nat → Nat → Int32, fm_D a0 a' T ∧ R = (some (.int v), fm g tp bt a' b)) (v, mem') ∧ fr_T 9 359 [.ref 0, .int (nI W), .int to] (fm g tp bt a b) v mem' := by
  obtain ⟨NC, hNC, eNC⟩ := fm_B_0 hB (i := 0) (n := 10) (by decide) rfl
  obtain ⟨NW, hNW, eNW⟩ := fm_B_0 hB (i := 1) (n := 8) (by decide) rfl
  have hT9 := hD.2.2.2.2.1
  refine fe_meth (F := fun R => ∃ v : Int32, (v = 0 ∨ v = 1) ∧ ∃ a' : Nat → Nat → Int32, fm_D a0 a' T ∧ R = (some (.int v), fm g tp bt a' b)) (M := gk_m359) (by rfl) (by rfl) ?_
  refine fe_s 3 (pc' := 3) (lc' := [(0, .ref 0), (1, .int (nI W)), (2, .int to)]) (stk' := [.int to, .int (nI W), .ref 0]) (mem' := fm g tp bt a b) (fun _ _ _ => rfl) ?_
  obtain ⟨ve1, meme1, ⟨xe1, qe1, hxe1, hRe1, hse1⟩, hfre1⟩ := fr_sends (g := g) (tp := tp) (bt := bt) (b := b) (W := W) (to := to) (fm_D_t hB hD) (fm_D_sym hB hD) hD.2.2.2.2.2 (by omega)
  cases hRe1
  have hDe1 := fm_D_sent hD (by omega) hse1
  refine fe_ivV hfre1 (by omega) (by rfl) (by rfl) (by rfl) (by rfl) (by rfl) (by rfl) ?_
  rcases hxe1 with rfl | rfl | rfl
  · refine fe_s 1 (pc' := cond (fx_cb .le 0 0) 11 9) (lc' := [(0, .ref 0), (1, .int (nI W)), (2, .int to)]) (stk' := []) (mem' := fm g tp bt qe1 b) (fun _ _ _ => rfl) ?_
    rw [show (fx_cb .le 0 0) = true from by decide]
    dsimp only [cond]
    refine fe_s 4 (pc' := 17) (lc' := [(0, .ref 0), (1, .int (nI W)), (2, .int to)]) (stk' := [.int 2, .ref 20, .int 2, .ref 20]) (mem' := fm g tp bt qe1 b) (fun _ _ _ => rfl) ?_
    refine fe_ldI (by rfl) (by rfl) (fx_inN (i := 2) (by omega) (by omega)) ?_
    rw [show Int32.toNatClampNeg (2) = 2 from rfl]
    refine fe_s 2 (pc' := 20) (lc' := [(0, .ref 0), (1, .int (nI W)), (2, .int to)]) (stk' := [.int ((qe1 20 2) + 1), .int 2, .ref 20]) (mem' := fm g tp bt qe1 b) (fun _ _ _ => rfl) ?_
    refine fe_stI (mem' := fm g tp bt (fm_u qe1 20 (2 : Int32).toNatClampNeg ((qe1 20 2) + 1)) b) (by rfl) (by rfl) (fx_inN (i := 2) (by omega) (by omega)) (by rfl) ?_
    rw [show Int32.toNatClampNeg (2) = 2 from rfl]
    obtain ⟨at2, hat2⟩ : ∃ z, z = fm_u qe1 20 (2) ((qe1 20 2) + 1) := ⟨_, rfl⟩
    rw [← hat2]
    have hDt2 : fm_D a0 at2 T := by rw [hat2]; exact fm_D_ot hDe1 (by decide) (by decide) rfl
    refine fe_s 1 (pc' := 22) (lc' := [(0, .ref 0), (1, .int (nI W)), (2, .int to)]) (stk' := [.int 1]) (mem' := fm g tp bt at2 b) (fun _ _ _ => rfl) ?_
    exact fe_ret ⟨_, Or.inr rfl, _, hDt2, rfl⟩ (by rfl) (by rfl) (by rfl)
  · refine fe_s 1 (pc' := cond (fx_cb .le 6 0) 11 9) (lc' := [(0, .ref 0), (1, .int (nI W)), (2, .int to)]) (stk' := []) (mem' := fm g tp bt qe1 b) (fun _ _ _ => rfl) ?_
    rw [show (fx_cb .le 6 0) = false from by decide]
    dsimp only [cond]
    refine fe_s 1 (pc' := 10) (lc' := [(0, .ref 0), (1, .int (nI W)), (2, .int to)]) (stk' := [.int 0]) (mem' := fm g tp bt qe1 b) (fun _ _ _ => rfl) ?_
    exact fe_ret ⟨_, Or.inl rfl, _, hDe1, rfl⟩ (by rfl) (by rfl) (by rfl)
  · refine fe_s 1 (pc' := cond (fx_cb .le 7 0) 11 9) (lc' := [(0, .ref 0), (1, .int (nI W)), (2, .int to)]) (stk' := []) (mem' := fm g tp bt qe1 b) (fun _ _ _ => rfl) ?_
    rw [show (fx_cb .le 7 0) = false from by decide]
    dsimp only [cond]
    refine fe_s 1 (pc' := 10) (lc' := [(0, .ref 0), (1, .int (nI W)), (2, .int to)]) (stk' := [.int 0]) (mem' := fm g tp bt qe1 b) (fun _ _ _ => rfl) ?_
    exact fe_ret ⟨_, Or.inl rfl, _, hDe1, rfl⟩ (by rfl) (by rfl) (by rfl)
set_option maxRecDepth 20000 in
theorem fr_draw {n d : Nat} (hn : 0 < n) (hn9 : n ≤ 10) (hd : g 36 = nI d) (hd9 : d ≤ 65535) : ∃ (v : Option Value) (mem' : fx_M), (fun R => ∃ d' k : Nat, d' ≤ 65535 ∧ k < n ∧ R = (some (.int (nI k)), fm (upd g 36 (nI d')) tp bt a b)) (v, mem') ∧ fr_T 1 358 [.ref 0, .int (nI n)] (fm g tp bt a b) v mem' := by
  refine fe_meth (F := fun R => ∃ d' k : Nat, d' ≤ 65535 ∧ k < n ∧ R = (some (.int (nI k)), fm (upd g 36 (nI d')) tp bt a b)) (M := gk_m358) (by rfl) (by rfl) ?_
  have e : ((g 36) * 2999 + 11177) - ((g 36) * 2999 + 11177) / 65536 * 65536 = nI ((d * 2999 + 11177) % 65536) := by
    rw [hd, show (nI d * 2999 + 11177 : Int32) = nI (d * 2999 + 11177) from by rw [show (2999 : Int32) = nI 2999 from rfl, show (11177 : Int32) = nI 11177 from rfl, fm_mul, nI_add]]
    rw [show (65536 : Int32) = nI 65536 from rfl]
    exact pk_rem (a := d * 2999 + 11177) (d := 65536) (by omega) (by omega) (by omega)
  refine fe_s 15 (pc' := 28) (lc' := [(0, .ref 0), (1, .int (nI n))]) (stk' := [.int (nI n), .int ((((g 36) * 2999 + 11177) - ((g 36) * 2999 + 11177) / 65536 * 65536) / 8)]) (mem' := fm (upd g 36 (((g 36) * 2999 + 11177) - ((g 36) * 2999 + 11177) / 65536 * 65536)) tp bt a b) (fun _ _ _ => rfl) ?_
  rw [e]
  have hq : (d * 2999 + 11177) % 65536 < 65536 := Nat.mod_lt _ (by omega)
  generalize (d * 2999 + 11177) % 65536 = q at hq
  rw [show (nI q / 8 : Int32) = nI (q / 8) from pk_div (a := q) (d := 8) (by omega) (by omega) (by omega)]
  have hq8 : q / 8 < 65536 := by omega
  generalize q / 8 = q8 at hq8
  refine fe_irem (by rfl) (nI_ne0 (by omega) (by omega)) ?_
  rw [show (nI q8 - nI q8 / nI n * nI n : Int32) = nI (q8 % n) from pk_rem (by omega) (by omega) (by omega)]
  exact fe_ret ⟨q, q8 % n, by omega, Nat.mod_lt _ (by omega), rfl⟩ (by rfl) (by rfl) (by rfl)
theorem fr_stepsOn {T : Nat} {m : Nat} (hB : fm_B a0) (hD : fm_D a0 a T) (hm : m ≤ 20) (hT : T ≤ 9999) : ∃ (v : Option Value) (mem' : fx_M), (fun R => ∃ (v : Int32) (a' : Nat → Nat → Int32) (T' : Nat), (v = 0 ∨ v = 1) ∧ T' ≤ 9999 ∧ fm_D a0 a' T' ∧ R = (some (.int v), fm g tp bt a' b)) (v, mem') ∧ fr_T 9 361 [.ref 0, .int (nI m)] (fm g tp bt a b) v mem' := by
  obtain ⟨NC, hNC, eNC⟩ := fm_B_0 hB (i := 0) (n := 10) (by decide) rfl
  obtain ⟨NW, hNW, eNW⟩ := fm_B_0 hB (i := 1) (n := 8) (by decide) rfl
  have hT9 := hD.2.2.2.2.1
  refine fe_meth (F := fun R => ∃ (v : Int32) (a' : Nat → Nat → Int32) (T' : Nat), (v = 0 ∨ v = 1) ∧ T' ≤ 9999 ∧ fm_D a0 a' T' ∧ R = (some (.int v), fm g tp bt a' b)) (M := gk_m361) (by rfl) (by rfl) ?_
  refine fe_s 3 (pc' := 5) (lc' := [(0, .ref 0), (1, .int (nI m))]) (stk' := [.int 5, .ref 1]) (mem' := fm g tp bt a b) (fun _ _ _ => rfl) ?_
  refine fe_ldI (by rfl) (by rfl) (fx_inN (i := 5) (by omega) (by omega)) ?_
  rw [show Int32.toNatClampNeg (5) = 5 from rfl]
  rw [show a 1 5 = nI T from hD.2.2.2.1]
  refine fe_s 3 (pc' := 11) (lc' := [(0, .ref 0), (1, .int (nI m))]) (stk' := [.int 9999, .int ((nI T) + (nI m))]) (mem' := fm g tp bt a b) (fun _ _ _ => rfl) ?_
  rw [show ((nI T) + (nI m) : Int32) = nI (T + m) from by simp only [nI_add, fm_mul]]
  refine fe_s 1 (pc' := cond (fx_cb .le (nI (T + m)) 9999) 16 14) (lc' := [(0, .ref 0), (1, .int (nI m))]) (stk' := []) (mem' := fm g tp bt a b) (fun _ _ _ => rfl) ?_
  by_cases h1 : (T + m) ≤ 9999
  · rw [show (fx_cb .le (nI (T + m)) 9999) = true from cb_leT (a := T + m) (b := 9999) (by omega) (by omega) (by omega)]
    dsimp only [cond]
    refine fe_s 2 (pc' := 18) (lc' := [(2, .int 0), (0, .ref 0), (1, .int (nI m))]) (stk' := []) (mem' := fm g tp bt a b) (fun _ _ _ => rfl) ?_
    have loop2 : ∀ (r i2 : Nat), i2 + r = m → ∀ (a_2 : Nat → Nat → Int32) (T_2 : Nat), T_2 ≤ T + i2 → fm_D a0 a_2 T_2 → fe_R 8 gk_m361 18 [(2, .int (nI i2)), (0, .ref 0), (1, .int (nI m))] [] (fm g tp bt a_2 b) (fun R => ∃ (v : Int32) (a' : Nat → Nat → Int32) (T' : Nat), (v = 0 ∨ v = 1) ∧ T' ≤ 9999 ∧ fm_D a0 a' T' ∧ R = (some (.int v), fm g tp bt a' b)) := by
      intro r
      induction r with
      | zero =>
        intro i2 hi2 a_2 T_2 hT2 hD_2
        obtain rfl : m = i2 := by omega
        refine fe_s 2 (pc' := 20) (lc' := [(2, .int (nI m)), (0, .ref 0), (1, .int (nI m))]) (stk' := [.int (nI m), .int (nI m)]) (mem' := fm g tp bt a_2 b) (fun _ _ _ => rfl) ?_
        refine fe_s 1 (pc' := cond (fx_cb .ge (nI m) (nI m)) 45 23) (lc' := [(2, .int (nI m)), (0, .ref 0), (1, .int (nI m))]) (stk' := []) (mem' := fm g tp bt a_2 b) (fun _ _ _ => rfl) ?_
        rw [show (fx_cb .ge (nI m) (nI m)) = true from cb_geT (a := m) (b := m) (by omega) (by omega) (by omega)]
        dsimp only [cond]
        refine fe_s 4 (pc' := 51) (lc' := [(2, .int (nI m)), (0, .ref 0), (1, .int (nI m))]) (stk' := [.int 1, .ref 20, .int 1, .ref 20]) (mem' := fm g tp bt a_2 b) (fun _ _ _ => rfl) ?_
        refine fe_ldI (by rfl) (by rfl) (fx_inN (i := 1) (by omega) (by omega)) ?_
        rw [show Int32.toNatClampNeg (1) = 1 from rfl]
        refine fe_s 2 (pc' := 54) (lc' := [(2, .int (nI m)), (0, .ref 0), (1, .int (nI m))]) (stk' := [.int ((a_2 20 1) + (nI m)), .int 1, .ref 20]) (mem' := fm g tp bt a_2 b) (fun _ _ _ => rfl) ?_
        refine fe_stI (mem' := fm g tp bt (fm_u a_2 20 (1 : Int32).toNatClampNeg ((a_2 20 1) + (nI m))) b) (by rfl) (by rfl) (fx_inN (i := 1) (by omega) (by omega)) (by rfl) ?_
        rw [show Int32.toNatClampNeg (1) = 1 from rfl]
        obtain ⟨at3, hat3⟩ : ∃ z, z = fm_u a_2 20 (1) ((a_2 20 1) + (nI m)) := ⟨_, rfl⟩
        rw [← hat3]
        have hDt3 : fm_D a0 at3 T_2 := by rw [hat3]; exact fm_D_ot hD_2 (by decide) (by decide) rfl
        refine fe_s 1 (pc' := 56) (lc' := [(2, .int (nI m)), (0, .ref 0), (1, .int (nI m))]) (stk' := [.int 1]) (mem' := fm g tp bt at3 b) (fun _ _ _ => rfl) ?_
        exact fe_ret ⟨_, _, _, Or.inr rfl, by omega, hDt3, rfl⟩ (by rfl) (by rfl) (by rfl)
      | succ r ih2 =>
        intro i2 hi2 a_2 T_2 hT2 hD_2
        have hl2 : i2 < m := by omega
        refine fe_s 2 (pc' := 20) (lc' := [(2, .int (nI i2)), (0, .ref 0), (1, .int (nI m))]) (stk' := [.int (nI m), .int (nI i2)]) (mem' := fm g tp bt a_2 b) (fun _ _ _ => rfl) ?_
        refine fe_s 1 (pc' := cond (fx_cb .ge (nI i2) (nI m)) 45 23) (lc' := [(2, .int (nI i2)), (0, .ref 0), (1, .int (nI m))]) (stk' := []) (mem' := fm g tp bt a_2 b) (fun _ _ _ => rfl) ?_
        rw [show (fx_cb .ge (nI i2) (nI m)) = false from cb_geF (a := i2) (b := m) (by omega) (by omega) (by omega)]
        dsimp only [cond]
        refine fe_s 4 (pc' := 29) (lc' := [(2, .int (nI i2)), (0, .ref 0), (1, .int (nI m))]) (stk' := [.int 3, .ref 20, .int 3, .ref 20]) (mem' := fm g tp bt a_2 b) (fun _ _ _ => rfl) ?_
        refine fe_ldI (by rfl) (by rfl) (fx_inN (i := 3) (by omega) (by omega)) ?_
        rw [show Int32.toNatClampNeg (3) = 3 from rfl]
        refine fe_s 1 (pc' := 31) (lc' := [(2, .int (nI i2)), (0, .ref 0), (1, .int (nI m))]) (stk' := [.ref 0, .int (a_2 20 3), .int 3, .ref 20]) (mem' := fm g tp bt a_2 b) (fun _ _ _ => rfl) ?_
        obtain ⟨vd4, memd4, ⟨xd4, ad4, hDd4, hRd4⟩, hfrd4⟩ := fr_goes (T := T_2) (g := g) (tp := tp) (bt := bt) (a := a_2) (b := b) hB hD_2 (by omega)
        cases hRd4
        refine fe_ivV hfrd4 (by omega) (by rfl) (by rfl) (by rfl) (by rfl) (by rfl) (by rfl) ?_
        obtain ⟨vb5, hfrb5⟩ := fr_bits (x := xd4) (mem := fm g tp bt ad4 b)
        refine fe_ivS hfrb5 (by omega) (by rfl) (by rfl) (by rfl) (by rfl) (by rfl) ?_
        refine fe_s 1 (pc' := 38) (lc' := [(2, .int (nI i2)), (0, .ref 0), (1, .int (nI m))]) (stk' := [.int ((a_2 20 3) + vb5), .int 3, .ref 20]) (mem' := fm g tp bt ad4 b) (fun _ _ _ => rfl) ?_
        refine fe_stI (mem' := fm g tp bt (fm_u ad4 20 (3 : Int32).toNatClampNeg ((a_2 20 3) + vb5)) b) (by rfl) (by rfl) (fx_inN (i := 3) (by omega) (by omega)) (by rfl) ?_
        rw [show Int32.toNatClampNeg (3) = 3 from rfl]
        obtain ⟨at6, hat6⟩ : ∃ z, z = fm_u ad4 20 (3) ((a_2 20 3) + vb5) := ⟨_, rfl⟩
        rw [← hat6]
        have hDt6 : fm_D a0 at6 (T_2 + 1) := by rw [hat6]; exact fm_D_ot hDd4 (by decide) (by decide) rfl
        refine fe_s 2 (pc' := 18) (lc' := [(2, .int ((nI i2) + 1)), (0, .ref 0), (1, .int (nI m))]) (stk' := []) (mem' := fm g tp bt at6 b) (fun _ _ _ => rfl) ?_
        rw [show ((nI i2) + 1 : Int32) = nI (i2 + 1) from by simp only [show (1 : Int32) = nI 1 from rfl, nI_add, fm_mul]]
        exact ih2 (i2 + 1) (by omega) at6 (T_2 + 1) (by omega) hDt6
    exact loop2 (m) 0 (by omega) a T (by omega) hD
  · rw [show (fx_cb .le (nI (T + m)) 9999) = false from cb_leF (a := T + m) (b := 9999) (by omega) (by omega) (by omega)]
    dsimp only [cond]
    refine fe_s 1 (pc' := 15) (lc' := [(0, .ref 0), (1, .int (nI m))]) (stk' := [.int 0]) (mem' := fm g tp bt a b) (fun _ _ _ => rfl) ?_
    exact fe_ret ⟨_, _, _, Or.inl rfl, by omega, hD, rfl⟩ (by rfl) (by rfl) (by rfl)
theorem fr_sendsAny {T : Nat} {d : Nat} (hB : fm_B a0) (hD : fm_D a0 a T) (hT : T ≤ 9999) (hd36 : g 36 = nI d) (hd9 : d ≤ 65535) : ∃ (v : Option Value) (mem' : fx_M), (fun R => ∃ (v : Int32) (g' : Nat → Int32) (a' : Nat → Nat → Int32) (T' d' : Nat), (v = 0 ∨ v = 1) ∧ T' ≤ 9999 ∧ d' ≤ 65535 ∧ (∀ j, j ≠ 36 → g' j = g j) ∧ g' 36 = nI d' ∧ fm_D a0 a' T' ∧ R = (some (.int v), fm g' tp bt a' b)) (v, mem') ∧ fr_T 10 360 [.ref 0] (fm g tp bt a b) v mem' := by
  obtain ⟨NC, hNC, eNC⟩ := fm_B_0 hB (i := 0) (n := 10) (by decide) rfl
  obtain ⟨NW, hNW, eNW⟩ := fm_B_0 hB (i := 1) (n := 8) (by decide) rfl
  have hT9 := hD.2.2.2.2.1
  refine fe_meth (F := fun R => ∃ (v : Int32) (g' : Nat → Int32) (a' : Nat → Nat → Int32) (T' d' : Nat), (v = 0 ∨ v = 1) ∧ T' ≤ 9999 ∧ d' ≤ 65535 ∧ (∀ j, j ≠ 36 → g' j = g j) ∧ g' 36 = nI d' ∧ fm_D a0 a' T' ∧ R = (some (.int v), fm g' tp bt a' b)) (M := gk_m360) (by rfl) (by rfl) ?_
  refine fe_s 3 (pc' := 5) (lc' := [(0, .ref 0)]) (stk' := [.int 1, .ref 1]) (mem' := fm g tp bt a b) (fun _ _ _ => rfl) ?_
  refine fe_ldI (by rfl) (by rfl) (fx_inN (i := 1) (by omega) (by omega)) ?_
  rw [show Int32.toNatClampNeg (1) = 1 from rfl]
  rw [show a 1 1 = nI NW from (fm_D_h hD (by decide) rfl).trans eNW]
  refine fe_s 1 (pc' := cond (fx_cb .eq (nI NW) 0) 18 9) (lc' := [(0, .ref 0)]) (stk' := []) (mem' := fm g tp bt a b) (fun _ _ _ => rfl) ?_
  by_cases h1 : NW = 0
  · rw [show (fx_cb .eq (nI NW) 0) = true from cb_eqT (a := NW) (b := 0) (by omega) (by omega) (by omega)]
    dsimp only [cond]
    refine fe_s 1 (pc' := 19) (lc' := [(0, .ref 0)]) (stk' := [.int 0]) (mem' := fm g tp bt a b) (fun _ _ _ => rfl) ?_
    exact fe_ret ⟨_, _, _, _, _, Or.inl rfl, by omega, by omega, (fun _ _ => rfl), hd36, hD, rfl⟩ (by rfl) (by rfl) (by rfl)
  · rw [show (fx_cb .eq (nI NW) 0) = false from cb_eqF (a := NW) (b := 0) (by omega) (by omega) (by omega)]
    dsimp only [cond]
    refine fe_s 3 (pc' := 14) (lc' := [(0, .ref 0)]) (stk' := [.int 0, .ref 1]) (mem' := fm g tp bt a b) (fun _ _ _ => rfl) ?_
    refine fe_ldI (by rfl) (by rfl) (fx_inN (i := 0) (by omega) (by omega)) ?_
    rw [show Int32.toNatClampNeg (0) = 0 from rfl]
    rw [show a 1 0 = nI NC from (fm_D_h hD (by decide) rfl).trans eNC]
    refine fe_s 1 (pc' := cond (fx_cb .ne (nI NC) 0) 20 18) (lc' := [(0, .ref 0)]) (stk' := []) (mem' := fm g tp bt a b) (fun _ _ _ => rfl) ?_
    by_cases h2 : NC = 0
    · rw [show (fx_cb .ne (nI NC) 0) = false from cb_neF (a := NC) (b := 0) (by omega) (by omega) (by omega)]
      dsimp only [cond]
      refine fe_s 1 (pc' := 19) (lc' := [(0, .ref 0)]) (stk' := [.int 0]) (mem' := fm g tp bt a b) (fun _ _ _ => rfl) ?_
      exact fe_ret ⟨_, _, _, _, _, Or.inl rfl, by omega, by omega, (fun _ _ => rfl), hd36, hD, rfl⟩ (by rfl) (by rfl) (by rfl)
    · rw [show (fx_cb .ne (nI NC) 0) = true from cb_neT (a := NC) (b := 0) (by omega) (by omega) (by omega)]
      dsimp only [cond]
      refine fe_s 4 (pc' := 26) (lc' := [(0, .ref 0)]) (stk' := [.int 1, .ref 1, .ref 0]) (mem' := fm g tp bt a b) (fun _ _ _ => rfl) ?_
      refine fe_ldI (by rfl) (by rfl) (fx_inN (i := 1) (by omega) (by omega)) ?_
      rw [show Int32.toNatClampNeg (1) = 1 from rfl]
      rw [show a 1 1 = nI NW from (fm_D_h hD (by decide) rfl).trans eNW]
      obtain ⟨vd3, memd3, ⟨dd3, kd3, hdd3, hkd3, hRd3⟩, hfrd3⟩ := fr_draw (n := NW) (d := d) (g := g) (tp := tp) (bt := bt) (a := a) (b := b) (by omega) (by omega) hd36 (by omega)
      cases hRd3
      have hgfd3 : ∀ j, j ≠ 36 → (upd g 36 (nI dd3)) j = g j := fun j hj => (pk_un hj).trans ((fun _ _ => rfl) j hj)
      refine fe_ivV hfrd3 (by omega) (by rfl) (by rfl) (by rfl) (by rfl) (by rfl) (by rfl) ?_
      refine fe_s 7 (pc' := 39) (lc' := [(1, .int (nI kd3)), (0, .ref 0)]) (stk' := [.int 0, .ref 1, .ref 0, .int (nI kd3), .ref 0]) (mem' := fm (upd g 36 (nI dd3)) tp bt a b) (fun _ _ _ => rfl) ?_
      refine fe_ldI (by rfl) (by rfl) (fx_inN (i := 0) (by omega) (by omega)) ?_
      rw [show Int32.toNatClampNeg (0) = 0 from rfl]
      rw [show a 1 0 = nI NC from (fm_D_h hD (by decide) rfl).trans eNC]
      obtain ⟨vd4, memd4, ⟨dd4, kd4, hdd4, hkd4, hRd4⟩, hfrd4⟩ := fr_draw (n := NC) (d := dd3) (g := (upd g 36 (nI dd3))) (tp := tp) (bt := bt) (a := a) (b := b) (by omega) (by omega) rfl (by omega)
      cases hRd4
      have hgfd4 : ∀ j, j ≠ 36 → (upd (upd g 36 (nI dd3)) 36 (nI dd4)) j = g j := fun j hj => (pk_un hj).trans (hgfd3 j hj)
      refine fe_ivV hfrd4 (by omega) (by rfl) (by rfl) (by rfl) (by rfl) (by rfl) (by rfl) ?_
      obtain ⟨ve5, meme5, ⟨xe5, hxe5, ae5, hDe5, hRe5⟩, hfre5⟩ := fr_sendsBy (W := kd3) (to := nI kd4) (g := (upd (upd g 36 (nI dd3)) 36 (nI dd4))) (tp := tp) (bt := bt) (a := a) (b := b) hB hD (by omega)
      cases hRe5
      refine fe_ivV hfre5 (by omega) (by rfl) (by rfl) (by rfl) (by rfl) (by rfl) (by rfl) ?_
      rcases hxe5 with rfl | rfl
      · exact fe_ret ⟨_, _, _, _, _, Or.inl rfl, by omega, by omega, hgfd4, rfl, hDe5, rfl⟩ (by rfl) (by rfl) (by rfl)
      · exact fe_ret ⟨_, _, _, _, _, Or.inr rfl, by omega, by omega, hgfd4, rfl, hDe5, rfl⟩ (by rfl) (by rfl) (by rfl)
set_option maxHeartbeats 8000000 in
theorem fr_does {T : Nat} {d k : Nat} (hB : fm_B a0) (hD : fm_D a0 a T) (hT : T ≤ 9999) (hd36 : g 36 = nI d) (hd9 : d ≤ 65535) (hk : k < 60) (hr : fm_ro (a0 1 (478 + 6 * k)) (a0 1 (479 + 6 * k))) : ∃ (v : Option Value) (mem' : fx_M), (fun R => ∃ (v : Int32) (g' : Nat → Int32) (a' : Nat → Nat → Int32) (T' d' : Nat), (v = 0 ∨ v = 1) ∧ T' ≤ 9999 ∧ d' ≤ 65535 ∧ (∀ j, j ≠ 36 → g' j = g j) ∧ g' 36 = nI d' ∧ fm_D a0 a' T' ∧ R = (some (.int v), fm g' tp bt a' b)) (v, mem') ∧ fr_T 11 362 [.ref 0, .int (nI (478 + (6 * k)))] (fm g tp bt a b) v mem' := by
  obtain ⟨NC, hNC, eNC⟩ := fm_B_0 hB (i := 0) (n := 10) (by decide) rfl
  obtain ⟨NW, hNW, eNW⟩ := fm_B_0 hB (i := 1) (n := 8) (by decide) rfl
  obtain ⟨m, hm, em⟩ := fm_row_m hB hk
  have hT9 := hD.2.2.2.2.1
  refine fe_meth (F := fun R => ∃ (v : Int32) (g' : Nat → Int32) (a' : Nat → Nat → Int32) (T' d' : Nat), (v = 0 ∨ v = 1) ∧ T' ≤ 9999 ∧ d' ≤ 65535 ∧ (∀ j, j ≠ 36 → g' j = g j) ∧ g' 36 = nI d' ∧ fm_D a0 a' T' ∧ R = (some (.int v), fm g' tp bt a' b)) (M := gk_m362) (by rfl) (by rfl) ?_
  refine fe_s 5 (pc' := 7) (lc' := [(0, .ref 0), (1, .int (nI (478 + (6 * k))))]) (stk' := [.int ((nI (478 + (6 * k))) + 1), .ref 1]) (mem' := fm g tp bt a b) (fun _ _ _ => rfl) ?_
  rw [show ((nI (478 + (6 * k))) + 1 : Int32) = nI ((478 + (6 * k)) + 1) from by simp only [show (1 : Int32) = nI 1 from rfl, nI_add, fm_mul]]
  refine fe_ldI (by rfl) (by rfl) (fx_inN (i := (478 + (6 * k)) + 1) (by omega) (by omega)) ?_
  rw [show Int32.toNatClampNeg (nI ((478 + (6 * k)) + 1)) = (478 + (6 * k)) + 1 from nI_clamp (by omega)]
  rw [show a 1 ((478 + (6 * k)) + 1) = a0 1 (479 + 6 * k) from by rw [show (478 + (6 * k)) + 1 = 479 + 6 * k by omega]; exact fm_D_hi hD (by omega)]
  refine fe_s 4 (pc' := 14) (lc' := [(2, .int (a0 1 (479 + 6 * k))), (0, .ref 0), (1, .int (nI (478 + (6 * k))))]) (stk' := [.int (nI (478 + (6 * k))), .ref 1]) (mem' := fm g tp bt a b) (fun _ _ _ => rfl) ?_
  refine fe_ldI (by rfl) (by rfl) (fx_inN (i := 478 + (6 * k)) (by omega) (by omega)) ?_
  rw [show Int32.toNatClampNeg (nI (478 + (6 * k))) = 478 + (6 * k) from nI_clamp (by omega)]
  rw [show a 1 (478 + (6 * k)) = nI m from (fm_D_hi hD (by omega)).trans em]
  rcases (by omega : m = 11 ∨ m = 12 ∨ m = 13 ∨ m = 14 ∨ m = 15 ∨ (m < 11 ∨ 15 < m)) with rfl | rfl | rfl | rfl | rfl | hsw
  · rw [show nI 11 = 11 from rfl]
    obtain ⟨w, hw, ew⟩ := fm_ro_7 hr (Or.inl em)
    rw [ew]
    refine fe_s 1 (pc' := 48) (lc' := [(2, .int (nI w)), (0, .ref 0), (1, .int (nI (478 + (6 * k))))]) (stk' := []) (mem' := fm g tp bt a b) (fun _ _ _ => rfl) ?_
    refine fe_s 7 (pc' := 57) (lc' := [(2, .int (nI w)), (0, .ref 0), (1, .int (nI (478 + (6 * k))))]) (stk' := [.int ((nI (478 + (6 * k))) + 2), .ref 1, .int (nI w), .ref 0]) (mem' := fm g tp bt a b) (fun _ _ _ => rfl) ?_
    rw [show ((nI (478 + (6 * k))) + 2 : Int32) = nI ((478 + (6 * k)) + 2) from by simp only [show (2 : Int32) = nI 2 from rfl, nI_add, fm_mul]]
    refine fe_ldI (by rfl) (by rfl) (fx_inN (i := (478 + (6 * k)) + 2) (by omega) (by omega)) ?_
    rw [show Int32.toNatClampNeg (nI ((478 + (6 * k)) + 2)) = (478 + (6 * k)) + 2 from nI_clamp (by omega)]
    obtain ⟨ve1, meme1, ⟨xe1, hxe1, ae1, hDe1, hRe1⟩, hfre1⟩ := fr_sendsBy (W := w) (to := a 1 ((478 + (6 * k)) + 2)) (g := g) (tp := tp) (bt := bt) (a := a) (b := b) hB hD (by omega)
    cases hRe1
    refine fe_ivV hfre1 (by omega) (by rfl) (by rfl) (by rfl) (by rfl) (by rfl) (by rfl) ?_
    rcases hxe1 with rfl | rfl
    · exact fe_ret ⟨_, _, _, _, _, Or.inl rfl, by omega, by omega, (fun _ _ => rfl), hd36, hDe1, rfl⟩ (by rfl) (by rfl) (by rfl)
    · exact fe_ret ⟨_, _, _, _, _, Or.inr rfl, by omega, by omega, (fun _ _ => rfl), hd36, hDe1, rfl⟩ (by rfl) (by rfl) (by rfl)
  · rw [show nI 12 = 12 from rfl]
    obtain ⟨w, hw, ew⟩ := fm_ro_20 hr em
    rw [ew]
    refine fe_s 1 (pc' := 62) (lc' := [(2, .int (nI w)), (0, .ref 0), (1, .int (nI (478 + (6 * k))))]) (stk' := []) (mem' := fm g tp bt a b) (fun _ _ _ => rfl) ?_
    refine fe_s 2 (pc' := 64) (lc' := [(2, .int (nI w)), (0, .ref 0), (1, .int (nI (478 + (6 * k))))]) (stk' := [.int (nI w), .ref 0]) (mem' := fm g tp bt a b) (fun _ _ _ => rfl) ?_
    obtain ⟨ve2, meme2, ⟨xe2, ae2, Te2, hxe2, hTe2, hDe2, hRe2⟩, hfre2⟩ := fr_stepsOn (m := w) (g := g) (tp := tp) (bt := bt) (a := a) (b := b) hB hD (by omega) (by omega)
    cases hRe2
    refine fe_ivV hfre2 (by omega) (by rfl) (by rfl) (by rfl) (by rfl) (by rfl) (by rfl) ?_
    rcases hxe2 with rfl | rfl
    · exact fe_ret ⟨_, _, _, _, _, Or.inl rfl, by omega, by omega, (fun _ _ => rfl), hd36, hDe2, rfl⟩ (by rfl) (by rfl) (by rfl)
    · exact fe_ret ⟨_, _, _, _, _, Or.inr rfl, by omega, by omega, (fun _ _ => rfl), hd36, hDe2, rfl⟩ (by rfl) (by rfl) (by rfl)
  · rw [show nI 13 = 13 from rfl]
    refine fe_s 1 (pc' := 68) (lc' := [(2, .int (a0 1 (479 + 6 * k))), (0, .ref 0), (1, .int (nI (478 + (6 * k))))]) (stk' := []) (mem' := fm g tp bt a b) (fun _ _ _ => rfl) ?_
    refine fe_s 2 (pc' := 70) (lc' := [(2, .int (a0 1 (479 + 6 * k))), (0, .ref 0), (1, .int (nI (478 + (6 * k))))]) (stk' := [.int (a0 1 (479 + 6 * k)), .ref 0]) (mem' := fm g tp bt a b) (fun _ _ _ => rfl) ?_
    obtain ⟨vd3, memd3, ⟨xd3, ad3, hDd3, hRd3⟩, hfrd3⟩ := fr_freezes (n := a0 1 (479 + 6 * k)) (g := g) (tp := tp) (bt := bt) (a := a) (b := b) hB hD
    cases hRd3
    refine fe_ivV hfrd3 (by omega) (by rfl) (by rfl) (by rfl) (by rfl) (by rfl) (by rfl) ?_
    refine fe_s 1 (pc' := cond (fx_cb .lt xd3 0) 80 76) (lc' := [(2, .int (a0 1 (479 + 6 * k))), (0, .ref 0), (1, .int (nI (478 + (6 * k))))]) (stk' := []) (mem' := fm g tp bt ad3 b) (fun _ _ _ => rfl) ?_
    cases h4 : fx_cb .lt xd3 0
    · refine fe_s 2 (pc' := 81) (lc' := [(2, .int (a0 1 (479 + 6 * k))), (0, .ref 0), (1, .int (nI (478 + (6 * k))))]) (stk' := [.int 1]) (mem' := fm g tp bt ad3 b) (fun _ _ _ => rfl) ?_
      exact fe_ret ⟨_, _, _, _, _, Or.inr rfl, by omega, by omega, (fun _ _ => rfl), hd36, hDd3, rfl⟩ (by rfl) (by rfl) (by rfl)
    · refine fe_s 1 (pc' := 81) (lc' := [(2, .int (a0 1 (479 + 6 * k))), (0, .ref 0), (1, .int (nI (478 + (6 * k))))]) (stk' := [.int 0]) (mem' := fm g tp bt ad3 b) (fun _ _ _ => rfl) ?_
      exact fe_ret ⟨_, _, _, _, _, Or.inl rfl, by omega, by omega, (fun _ _ => rfl), hd36, hDd3, rfl⟩ (by rfl) (by rfl) (by rfl)
  · rw [show nI 14 = 14 from rfl]
    refine fe_s 1 (pc' := 82) (lc' := [(2, .int (a0 1 (479 + 6 * k))), (0, .ref 0), (1, .int (nI (478 + (6 * k))))]) (stk' := []) (mem' := fm g tp bt a b) (fun _ _ _ => rfl) ?_
    refine fe_s 2 (pc' := 84) (lc' := [(2, .int (a0 1 (479 + 6 * k))), (0, .ref 0), (1, .int (nI (478 + (6 * k))))]) (stk' := [.int (a0 1 (479 + 6 * k)), .ref 0]) (mem' := fm g tp bt a b) (fun _ _ _ => rfl) ?_
    obtain ⟨vd5, memd5, ⟨xd5, ad5, hDd5, hRd5⟩, hfrd5⟩ := fr_thaws (n := a0 1 (479 + 6 * k)) (g := g) (tp := tp) (bt := bt) (a := a) (b := b) hB hD
    cases hRd5
    refine fe_ivV hfrd5 (by omega) (by rfl) (by rfl) (by rfl) (by rfl) (by rfl) (by rfl) ?_
    refine fe_s 1 (pc' := cond (fx_cb .lt xd5 0) 94 90) (lc' := [(2, .int (a0 1 (479 + 6 * k))), (0, .ref 0), (1, .int (nI (478 + (6 * k))))]) (stk' := []) (mem' := fm g tp bt ad5 b) (fun _ _ _ => rfl) ?_
    cases h6 : fx_cb .lt xd5 0
    · refine fe_s 2 (pc' := 95) (lc' := [(2, .int (a0 1 (479 + 6 * k))), (0, .ref 0), (1, .int (nI (478 + (6 * k))))]) (stk' := [.int 1]) (mem' := fm g tp bt ad5 b) (fun _ _ _ => rfl) ?_
      exact fe_ret ⟨_, _, _, _, _, Or.inr rfl, by omega, by omega, (fun _ _ => rfl), hd36, hDd5, rfl⟩ (by rfl) (by rfl) (by rfl)
    · refine fe_s 1 (pc' := 95) (lc' := [(2, .int (a0 1 (479 + 6 * k))), (0, .ref 0), (1, .int (nI (478 + (6 * k))))]) (stk' := [.int 0]) (mem' := fm g tp bt ad5 b) (fun _ _ _ => rfl) ?_
      exact fe_ret ⟨_, _, _, _, _, Or.inl rfl, by omega, by omega, (fun _ _ => rfl), hd36, hDd5, rfl⟩ (by rfl) (by rfl) (by rfl)
  · rw [show nI 15 = 15 from rfl]
    refine fe_s 1 (pc' := 96) (lc' := [(2, .int (a0 1 (479 + 6 * k))), (0, .ref 0), (1, .int (nI (478 + (6 * k))))]) (stk' := []) (mem' := fm g tp bt a b) (fun _ _ _ => rfl) ?_
    refine fe_s 1 (pc' := 97) (lc' := [(2, .int (a0 1 (479 + 6 * k))), (0, .ref 0), (1, .int (nI (478 + (6 * k))))]) (stk' := [.ref 0]) (mem' := fm g tp bt a b) (fun _ _ _ => rfl) ?_
    obtain ⟨ve7, meme7, ⟨xe7, ge7, ae7, Te7, de7, hxe7, hTe7, hde7, hge7, hd36e7, hDe7, hRe7⟩, hfre7⟩ := fr_sendsAny (g := g) (tp := tp) (bt := bt) (a := a) (b := b) hB hD (by omega) hd36 (by omega)
    cases hRe7
    have hgfe7 : ∀ j, j ≠ 36 → ge7 j = g j := fun j hj => (hge7 j hj).trans ((fun _ _ => rfl) j hj)
    refine fe_ivV hfre7 (by omega) (by rfl) (by rfl) (by rfl) (by rfl) (by rfl) (by rfl) ?_
    rcases hxe7 with rfl | rfl
    · exact fe_ret ⟨_, _, _, _, _, Or.inl rfl, by omega, by omega, hgfe7, hd36e7, hDe7, rfl⟩ (by rfl) (by rfl) (by rfl)
    · exact fe_ret ⟨_, _, _, _, _, Or.inr rfl, by omega, by omega, hgfe7, hd36e7, hDe7, rfl⟩ (by rfl) (by rfl) (by rfl)
  · refine fe_tbd (pc' := 101) (by rfl) (by rfl) (by decide) (by rw [nI_i32 (by omega)]; omega) (by decide) (by decide) ?_
    refine fe_s 1 (pc' := 102) (lc' := [(2, .int (a0 1 (479 + 6 * k))), (0, .ref 0), (1, .int (nI (478 + (6 * k))))]) (stk' := [.int 1]) (mem' := fm g tp bt a b) (fun _ _ _ => rfl) ?_
    exact fe_ret ⟨_, _, _, _, _, Or.inr rfl, by omega, by omega, (fun _ _ => rfl), hd36, hD, rfl⟩ (by rfl) (by rfl) (by rfl)
theorem fm_sub1800 {m c : Nat} (hm : m ≤ 1922) (h18 : 1800 ≤ m) (hc : c < 100) (h : fx_cb .ne (nI m - 1800) (nI c) = false) : m = 1800 + c := by
  have e := fm_ne h
  rw [show (1800 : Int32) = nI 1800 from rfl, tg_sub2 (x := m) (y := 1800) h18] at e
  have := (nI_eq (a := m - 1800) (b := c) (by omega) (by omega)).mp e
  omega
set_option maxHeartbeats 8000000 in
theorem fr_isSo {T : Nat} {k : Nat} (hB : fm_B a0) (hD : fm_D a0 a T) (hk : k < 60) (hr : fm_ro (a0 1 (478 + 6 * k)) (a0 1 (479 + 6 * k))) (h18 : 1800 ≤ (a0 1 (478 + 6 * k)).toInt) : ∃ (v : Option Value) (mem' : fx_M), (fun R => ∃ v : Int32, (v = 0 ∨ v = 1) ∧ R = (some (.int v), fm g tp bt a b)) (v, mem') ∧ fr_T 7 363 [.ref 0, .int (nI (478 + (6 * k)))] (fm g tp bt a b) v mem' := by
  obtain ⟨NC, hNC, eNC⟩ := fm_B_0 hB (i := 0) (n := 10) (by decide) rfl
  obtain ⟨NW, hNW, eNW⟩ := fm_B_0 hB (i := 1) (n := 8) (by decide) rfl
  obtain ⟨m, hm, em⟩ := fm_row_m hB hk
  have hm18 : 1800 ≤ m := by rw [em, nI_i32 (by omega)] at h18; omega
  obtain ⟨w, hw, ew⟩ := fm_ro_9 hr h18
  have hw7 : ¬ (m = 1810 ∨ m = 1822) ∨ w < 8 := by
    by_cases e : m = 1810 ∨ m = 1822
    · obtain ⟨w2, h2, e2⟩ := fm_ro_7 hr (by rcases e with rfl | rfl; exact Or.inr (Or.inl em); exact Or.inr (Or.inr em))
      have := (nI_eq (a := w) (b := w2) (by omega) (by omega)).mp (ew.symm.trans e2)
      omega
    · exact Or.inl e
  have hT9 := hD.2.2.2.2.1
  refine fe_meth (F := fun R => ∃ v : Int32, (v = 0 ∨ v = 1) ∧ R = (some (.int v), fm g tp bt a b)) (M := gk_m363) (by rfl) (by rfl) ?_
  refine fe_s 3 (pc' := 5) (lc' := [(0, .ref 0), (1, .int (nI (478 + (6 * k))))]) (stk' := [.int (nI (478 + (6 * k))), .ref 1]) (mem' := fm g tp bt a b) (fun _ _ _ => rfl) ?_
  refine fe_ldI (by rfl) (by rfl) (fx_inN (i := 478 + (6 * k)) (by omega) (by omega)) ?_
  rw [show Int32.toNatClampNeg (nI (478 + (6 * k))) = 478 + (6 * k) from nI_clamp (by omega)]
  rw [show a 1 (478 + (6 * k)) = nI m from (fm_D_hi hD (by omega)).trans em]
  refine fe_s 5 (pc' := 14) (lc' := [(2, .int ((nI m) - 1800)), (0, .ref 0), (1, .int (nI (478 + (6 * k))))]) (stk' := [.int 22, .int ((nI m) - 1800)]) (mem' := fm g tp bt a b) (fun _ _ _ => rfl) ?_
  refine fe_s 1 (pc' := cond (fx_cb .ne ((nI m) - 1800) 22) 30 17) (lc' := [(2, .int ((nI m) - 1800)), (0, .ref 0), (1, .int (nI (478 + (6 * k))))]) (stk' := []) (mem' := fm g tp bt a b) (fun _ _ _ => rfl) ?_
  cases h1 : fx_cb .ne ((nI m) - 1800) 22
  · refine fe_s 6 (pc' := 25) (lc' := [(2, .int ((nI m) - 1800)), (0, .ref 0), (1, .int (nI (478 + (6 * k))))]) (stk' := [.int ((nI (478 + (6 * k))) + 1), .ref 1, .ref 0]) (mem' := fm g tp bt a b) (fun _ _ _ => rfl) ?_
    rw [show ((nI (478 + (6 * k))) + 1 : Int32) = nI ((478 + (6 * k)) + 1) from by simp only [show (1 : Int32) = nI 1 from rfl, nI_add, fm_mul]]
    refine fe_ldI (by rfl) (by rfl) (fx_inN (i := (478 + (6 * k)) + 1) (by omega) (by omega)) ?_
    rw [show Int32.toNatClampNeg (nI ((478 + (6 * k)) + 1)) = (478 + (6 * k)) + 1 from nI_clamp (by omega)]
    rw [show a 1 ((478 + (6 * k)) + 1) = a0 1 (479 + 6 * k) from by rw [show (478 + (6 * k)) + 1 = 479 + 6 * k by omega]; exact fm_D_hi hD (by omega)]
    rw [ew]
    have hm22 := fm_sub1800 (c := 22) hm hm18 (by omega) h1
    obtain ⟨v2, z3, hv2⟩ := fq_isWet (V := w) (g := g) (tp := tp) (bt := bt) (a := a) (b := b) (by omega)
    refine fe_ivV hv2 (by omega) (by rfl) (by rfl) (by rfl) (by rfl) (by rfl) (by rfl) ?_
    rcases z3 with rfl | rfl
    · exact fe_ret ⟨_, Or.inl rfl, rfl⟩ (by rfl) (by rfl) (by rfl)
    · exact fe_ret ⟨_, Or.inr rfl, rfl⟩ (by rfl) (by rfl) (by rfl)
  · refine fe_s 2 (pc' := 33) (lc' := [(2, .int ((nI m) - 1800)), (0, .ref 0), (1, .int (nI (478 + (6 * k))))]) (stk' := [.int 10, .int ((nI m) - 1800)]) (mem' := fm g tp bt a b) (fun _ _ _ => rfl) ?_
    refine fe_s 1 (pc' := cond (fx_cb .ne ((nI m) - 1800) 10) 65 36) (lc' := [(2, .int ((nI m) - 1800)), (0, .ref 0), (1, .int (nI (478 + (6 * k))))]) (stk' := []) (mem' := fm g tp bt a b) (fun _ _ _ => rfl) ?_
    cases h4 : fx_cb .ne ((nI m) - 1800) 10
    · refine fe_s 6 (pc' := 44) (lc' := [(2, .int ((nI m) - 1800)), (0, .ref 0), (1, .int (nI (478 + (6 * k))))]) (stk' := [.int ((nI (478 + (6 * k))) + 1), .ref 1, .ref 0]) (mem' := fm g tp bt a b) (fun _ _ _ => rfl) ?_
      rw [show ((nI (478 + (6 * k))) + 1 : Int32) = nI ((478 + (6 * k)) + 1) from by simp only [show (1 : Int32) = nI 1 from rfl, nI_add, fm_mul]]
      refine fe_ldI (by rfl) (by rfl) (fx_inN (i := (478 + (6 * k)) + 1) (by omega) (by omega)) ?_
      rw [show Int32.toNatClampNeg (nI ((478 + (6 * k)) + 1)) = (478 + (6 * k)) + 1 from nI_clamp (by omega)]
      rw [show a 1 ((478 + (6 * k)) + 1) = a0 1 (479 + 6 * k) from by rw [show (478 + (6 * k)) + 1 = 479 + 6 * k by omega]; exact fm_D_hi hD (by omega)]
      rw [ew]
      have hm10 := fm_sub1800 (c := 10) hm hm18 (by omega) h4
      refine fe_ivV (fr_whereOf (W := w) (g := g) (tp := tp) (bt := bt) (a := a) (b := b) (by omega)) (by omega) (by rfl) (by rfl) (by rfl) (by rfl) (by rfl) (by rfl) ?_
      obtain ⟨l5, hl5, el5⟩ := fm_D_w1 hD (W := w) (by omega)
      rw [el5]
      refine fe_s 5 (pc' := 55) (lc' := [(2, .int ((nI m) - 1800)), (0, .ref 0), (1, .int (nI (478 + (6 * k))))]) (stk' := [.int ((nI (478 + (6 * k))) + 2), .ref 1, .int (nI l5)]) (mem' := fm g tp bt a b) (fun _ _ _ => rfl) ?_
      rw [show ((nI (478 + (6 * k))) + 2 : Int32) = nI ((478 + (6 * k)) + 2) from by simp only [show (2 : Int32) = nI 2 from rfl, nI_add, fm_mul]]
      refine fe_ldI (by rfl) (by rfl) (fx_inN (i := (478 + (6 * k)) + 2) (by omega) (by omega)) ?_
      rw [show Int32.toNatClampNeg (nI ((478 + (6 * k)) + 2)) = (478 + (6 * k)) + 2 from nI_clamp (by omega)]
      refine fe_s 1 (pc' := cond (fx_cb .ne (nI l5) (a 1 ((478 + (6 * k)) + 2))) 63 59) (lc' := [(2, .int ((nI m) - 1800)), (0, .ref 0), (1, .int (nI (478 + (6 * k))))]) (stk' := []) (mem' := fm g tp bt a b) (fun _ _ _ => rfl) ?_
      cases h6 : fx_cb .ne (nI l5) (a 1 ((478 + (6 * k)) + 2))
      · refine fe_s 2 (pc' := 64) (lc' := [(2, .int ((nI m) - 1800)), (0, .ref 0), (1, .int (nI (478 + (6 * k))))]) (stk' := [.int 1]) (mem' := fm g tp bt a b) (fun _ _ _ => rfl) ?_
        exact fe_ret ⟨_, Or.inr rfl, rfl⟩ (by rfl) (by rfl) (by rfl)
      · refine fe_s 1 (pc' := 64) (lc' := [(2, .int ((nI m) - 1800)), (0, .ref 0), (1, .int (nI (478 + (6 * k))))]) (stk' := [.int 0]) (mem' := fm g tp bt a b) (fun _ _ _ => rfl) ?_
        exact fe_ret ⟨_, Or.inl rfl, rfl⟩ (by rfl) (by rfl) (by rfl)
    · refine fe_s 6 (pc' := 73) (lc' := [(2, .int ((nI m) - 1800)), (0, .ref 0), (1, .int (nI (478 + (6 * k))))]) (stk' := [.int ((nI (478 + (6 * k))) + 1), .ref 1, .ref 0]) (mem' := fm g tp bt a b) (fun _ _ _ => rfl) ?_
      rw [show ((nI (478 + (6 * k))) + 1 : Int32) = nI ((478 + (6 * k)) + 1) from by simp only [show (1 : Int32) = nI 1 from rfl, nI_add, fm_mul]]
      refine fe_ldI (by rfl) (by rfl) (fx_inN (i := (478 + (6 * k)) + 1) (by omega) (by omega)) ?_
      rw [show Int32.toNatClampNeg (nI ((478 + (6 * k)) + 1)) = (478 + (6 * k)) + 1 from nI_clamp (by omega)]
      rw [show a 1 ((478 + (6 * k)) + 1) = a0 1 (479 + 6 * k) from by rw [show (478 + (6 * k)) + 1 = 479 + 6 * k by omega]; exact fm_D_hi hD (by omega)]
      rw [ew]
      obtain ⟨v7, hv7⟩ := fq_strengthOf (C := w) (g := g) (tp := tp) (bt := bt) (a := a) (b := b) (fm_D_t hB hD) (by omega)
      refine fe_ivV hv7 (by omega) (by rfl) (by rfl) (by rfl) (by rfl) (by rfl) (by rfl) ?_
      refine fe_s 6 (pc' := 85) (lc' := [(3, .int v7), (2, .int ((nI m) - 1800)), (0, .ref 0), (1, .int (nI (478 + (6 * k))))]) (stk' := [.int ((nI (478 + (6 * k))) + 5), .ref 1]) (mem' := fm g tp bt a b) (fun _ _ _ => rfl) ?_
      rw [show ((nI (478 + (6 * k))) + 5 : Int32) = nI ((478 + (6 * k)) + 5) from by simp only [show (5 : Int32) = nI 5 from rfl, nI_add, fm_mul]]
      refine fe_ldI (by rfl) (by rfl) (fx_inN (i := (478 + (6 * k)) + 5) (by omega) (by omega)) ?_
      rw [show Int32.toNatClampNeg (nI ((478 + (6 * k)) + 5)) = (478 + (6 * k)) + 5 from nI_clamp (by omega)]
      refine fe_s 1 (pc' := 88) (lc' := [(3, .int v7), (2, .int ((nI m) - 1800)), (0, .ref 0), (1, .int (nI (478 + (6 * k))))]) (stk' := [.int 60, .int (a 1 ((478 + (6 * k)) + 5))]) (mem' := fm g tp bt a b) (fun _ _ _ => rfl) ?_
      refine fe_s 1 (pc' := cond (fx_cb .ne (a 1 ((478 + (6 * k)) + 5)) 60) 111 91) (lc' := [(3, .int v7), (2, .int ((nI m) - 1800)), (0, .ref 0), (1, .int (nI (478 + (6 * k))))]) (stk' := []) (mem' := fm g tp bt a b) (fun _ _ _ => rfl) ?_
      cases h8 : fx_cb .ne (a 1 ((478 + (6 * k)) + 5)) 60
      · refine fe_s 6 (pc' := 99) (lc' := [(3, .int v7), (2, .int ((nI m) - 1800)), (0, .ref 0), (1, .int (nI (478 + (6 * k))))]) (stk' := [.int ((nI (478 + (6 * k))) + 2), .ref 1, .int v7]) (mem' := fm g tp bt a b) (fun _ _ _ => rfl) ?_
        rw [show ((nI (478 + (6 * k))) + 2 : Int32) = nI ((478 + (6 * k)) + 2) from by simp only [show (2 : Int32) = nI 2 from rfl, nI_add, fm_mul]]
        refine fe_ldI (by rfl) (by rfl) (fx_inN (i := (478 + (6 * k)) + 2) (by omega) (by omega)) ?_
        rw [show Int32.toNatClampNeg (nI ((478 + (6 * k)) + 2)) = (478 + (6 * k)) + 2 from nI_clamp (by omega)]
        refine fe_s 1 (pc' := cond (fx_cb .ge v7 (a 1 ((478 + (6 * k)) + 2))) 107 103) (lc' := [(3, .int v7), (2, .int ((nI m) - 1800)), (0, .ref 0), (1, .int (nI (478 + (6 * k))))]) (stk' := []) (mem' := fm g tp bt a b) (fun _ _ _ => rfl) ?_
        cases h9 : fx_cb .ge v7 (a 1 ((478 + (6 * k)) + 2))
        · refine fe_s 2 (pc' := 161) (lc' := [(3, .int v7), (2, .int ((nI m) - 1800)), (0, .ref 0), (1, .int (nI (478 + (6 * k))))]) (stk' := [.int 1]) (mem' := fm g tp bt a b) (fun _ _ _ => rfl) ?_
          exact fe_ret ⟨_, Or.inr rfl, rfl⟩ (by rfl) (by rfl) (by rfl)
        · refine fe_s 2 (pc' := 161) (lc' := [(3, .int v7), (2, .int ((nI m) - 1800)), (0, .ref 0), (1, .int (nI (478 + (6 * k))))]) (stk' := [.int 0]) (mem' := fm g tp bt a b) (fun _ _ _ => rfl) ?_
          exact fe_ret ⟨_, Or.inl rfl, rfl⟩ (by rfl) (by rfl) (by rfl)
      · refine fe_s 5 (pc' := 118) (lc' := [(3, .int v7), (2, .int ((nI m) - 1800)), (0, .ref 0), (1, .int (nI (478 + (6 * k))))]) (stk' := [.int ((nI (478 + (6 * k))) + 5), .ref 1]) (mem' := fm g tp bt a b) (fun _ _ _ => rfl) ?_
        rw [show ((nI (478 + (6 * k))) + 5 : Int32) = nI ((478 + (6 * k)) + 5) from by simp only [show (5 : Int32) = nI 5 from rfl, nI_add, fm_mul]]
        refine fe_ldI (by rfl) (by rfl) (fx_inN (i := (478 + (6 * k)) + 5) (by omega) (by omega)) ?_
        rw [show Int32.toNatClampNeg (nI ((478 + (6 * k)) + 5)) = (478 + (6 * k)) + 5 from nI_clamp (by omega)]
        refine fe_s 1 (pc' := 121) (lc' := [(3, .int v7), (2, .int ((nI m) - 1800)), (0, .ref 0), (1, .int (nI (478 + (6 * k))))]) (stk' := [.int 62, .int (a 1 ((478 + (6 * k)) + 5))]) (mem' := fm g tp bt a b) (fun _ _ _ => rfl) ?_
        refine fe_s 1 (pc' := cond (fx_cb .ne (a 1 ((478 + (6 * k)) + 5)) 62) 144 124) (lc' := [(3, .int v7), (2, .int ((nI m) - 1800)), (0, .ref 0), (1, .int (nI (478 + (6 * k))))]) (stk' := []) (mem' := fm g tp bt a b) (fun _ _ _ => rfl) ?_
        cases h10 : fx_cb .ne (a 1 ((478 + (6 * k)) + 5)) 62
        · refine fe_s 6 (pc' := 132) (lc' := [(3, .int v7), (2, .int ((nI m) - 1800)), (0, .ref 0), (1, .int (nI (478 + (6 * k))))]) (stk' := [.int ((nI (478 + (6 * k))) + 2), .ref 1, .int v7]) (mem' := fm g tp bt a b) (fun _ _ _ => rfl) ?_
          rw [show ((nI (478 + (6 * k))) + 2 : Int32) = nI ((478 + (6 * k)) + 2) from by simp only [show (2 : Int32) = nI 2 from rfl, nI_add, fm_mul]]
          refine fe_ldI (by rfl) (by rfl) (fx_inN (i := (478 + (6 * k)) + 2) (by omega) (by omega)) ?_
          rw [show Int32.toNatClampNeg (nI ((478 + (6 * k)) + 2)) = (478 + (6 * k)) + 2 from nI_clamp (by omega)]
          refine fe_s 1 (pc' := cond (fx_cb .le v7 (a 1 ((478 + (6 * k)) + 2))) 140 136) (lc' := [(3, .int v7), (2, .int ((nI m) - 1800)), (0, .ref 0), (1, .int (nI (478 + (6 * k))))]) (stk' := []) (mem' := fm g tp bt a b) (fun _ _ _ => rfl) ?_
          cases h11 : fx_cb .le v7 (a 1 ((478 + (6 * k)) + 2))
          · refine fe_s 2 (pc' := 161) (lc' := [(3, .int v7), (2, .int ((nI m) - 1800)), (0, .ref 0), (1, .int (nI (478 + (6 * k))))]) (stk' := [.int 1]) (mem' := fm g tp bt a b) (fun _ _ _ => rfl) ?_
            exact fe_ret ⟨_, Or.inr rfl, rfl⟩ (by rfl) (by rfl) (by rfl)
          · refine fe_s 2 (pc' := 161) (lc' := [(3, .int v7), (2, .int ((nI m) - 1800)), (0, .ref 0), (1, .int (nI (478 + (6 * k))))]) (stk' := [.int 0]) (mem' := fm g tp bt a b) (fun _ _ _ => rfl) ?_
            exact fe_ret ⟨_, Or.inl rfl, rfl⟩ (by rfl) (by rfl) (by rfl)
        · refine fe_s 6 (pc' := 152) (lc' := [(3, .int v7), (2, .int ((nI m) - 1800)), (0, .ref 0), (1, .int (nI (478 + (6 * k))))]) (stk' := [.int ((nI (478 + (6 * k))) + 2), .ref 1, .int v7]) (mem' := fm g tp bt a b) (fun _ _ _ => rfl) ?_
          rw [show ((nI (478 + (6 * k))) + 2 : Int32) = nI ((478 + (6 * k)) + 2) from by simp only [show (2 : Int32) = nI 2 from rfl, nI_add, fm_mul]]
          refine fe_ldI (by rfl) (by rfl) (fx_inN (i := (478 + (6 * k)) + 2) (by omega) (by omega)) ?_
          rw [show Int32.toNatClampNeg (nI ((478 + (6 * k)) + 2)) = (478 + (6 * k)) + 2 from nI_clamp (by omega)]
          refine fe_s 1 (pc' := cond (fx_cb .ne v7 (a 1 ((478 + (6 * k)) + 2))) 160 156) (lc' := [(3, .int v7), (2, .int ((nI m) - 1800)), (0, .ref 0), (1, .int (nI (478 + (6 * k))))]) (stk' := []) (mem' := fm g tp bt a b) (fun _ _ _ => rfl) ?_
          cases h12 : fx_cb .ne v7 (a 1 ((478 + (6 * k)) + 2))
          · refine fe_s 2 (pc' := 161) (lc' := [(3, .int v7), (2, .int ((nI m) - 1800)), (0, .ref 0), (1, .int (nI (478 + (6 * k))))]) (stk' := [.int 1]) (mem' := fm g tp bt a b) (fun _ _ _ => rfl) ?_
            exact fe_ret ⟨_, Or.inr rfl, rfl⟩ (by rfl) (by rfl) (by rfl)
          · refine fe_s 1 (pc' := 161) (lc' := [(3, .int v7), (2, .int ((nI m) - 1800)), (0, .ref 0), (1, .int (nI (478 + (6 * k))))]) (stk' := [.int 0]) (mem' := fm g tp bt a b) (fun _ _ _ => rfl) ?_
            exact fe_ret ⟨_, Or.inl rfl, rfl⟩ (by rfl) (by rfl) (by rfl)
end FLV
