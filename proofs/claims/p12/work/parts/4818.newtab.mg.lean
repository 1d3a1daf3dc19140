section MH2_0
/-! ===== fx: the NEW table while a LAKE is read ===== -/
theorem fr_det {k1 k2 f : Nat} {as : List Value} {m m1 m2 : fx_M} {r1 r2 : Option Value} (h1 : fr_T k1 f as m r1 m1) (h2 : fr_T k2 f as m r2 m2) : r1 = r2 ∧ m1 = m2 := by
  obtain ⟨N1, h1⟩ := h1
  obtain ⟨N2, h2⟩ := h2
  have a1 := h1 N2 k2
  have a2 := h2 N1 k1
  rw [show N1 + N2 + 100 = N2 + N1 + 100 by omega, show k1 + k2 = k2 + k1 by omega, a1] at a2
  have := Option.some.inj a2
  exact ⟨congrArg Prod.fst this, congrArg Prod.snd this⟩
theorem fm_u1 {a : Nat → Nat → Int32} {T i : Nat} {x : Int32} : (fm_u a 1 T x) 1 i = if i = T then x else a 1 i := by
  unfold fm_u
  rw [if_pos rfl]
  by_cases h : i = T
  · subst h; rw [pk_us, if_pos rfl]
  · rw [pk_un h, if_neg h]
theorem fm_ut {a : Nat → Nat → Int32} {T t : Nat} {x : Int32} (h : t ≠ 1) : (fm_u a 1 T x) t = a t := by
  unfold fm_u
  rw [if_neg h]
theorem fm_b_nat : ∀ n, n < 1024 → ∀ d, d < 10 → fm_b (nI n) (nI d) = if n.testBit d then 1 else 0 := by decide +kernel
theorem fm_or_nat : ∀ n, n < 1024 → ∀ t, t < 10 → nI n ||| ((1 : Int32) <<< (nI t &&& 31)) = nI (n ||| 2 ^ t) := by decide +kernel
theorem fm_xor_nat : ∀ n, n < 1024 → ∀ t, t < 10 → nI n ^^^ ((1 : Int32) <<< (nI t &&& 31)) = nI (n ^^^ 2 ^ t) := by decide +kernel
theorem fm_or_lt {n t : Nat} (h : n < 1024) (ht : t < 10) : n ||| 2 ^ t < 1024 := by
  have : (2 : Nat) ^ t < 2 ^ 10 := Nat.pow_lt_pow_right (by omega) ht
  exact Nat.or_lt_two_pow (n := 10) h this
theorem fm_xor_lt {n t : Nat} (h : n < 1024) (ht : t < 10) : n ^^^ 2 ^ t < 1024 := by
  have : (2 : Nat) ^ t < 2 ^ 10 := Nat.pow_lt_pow_right (by omega) ht
  exact Nat.xor_lt_two_pow (n := 10) h this
/-- the ways of a slot are of both -/
def fm_sy (a : Nat → Nat → Int32) (s : Nat) : Prop := ∀ c d, c < 10 → d < 10 → fm_b (a 1 (s + 10 + 6 * c)) (nI d) = fm_b (a 1 (s + 10 + 6 * d)) (nI c)
/-- the NEW table, while it is filled -/
def fm_N (a0 a : Nat → Nat → Int32) (NC NW : Nat) : Prop := (∀ t, t ≠ 1 → a t = a0 t) ∧ (∀ i, ¬ (3368 ≤ i ∧ i < 4210) → a 1 i = a0 1 i) ∧ fm_tn a NC NW ∧ (∀ i, 3368 ≤ i → i < 4210 → (gm_at i).1 ≤ (a 1 i).toInt ∧ (a 1 i).toInt ≤ (gm_at i).2) ∧ fm_sy a 3368 ∧ a 1 3374 = -1
def fm_NW (a : Nat → Nat → Int32) : Prop := ∀ w, w < 8 → 0 ≤ (a 1 (3647 + 5 * w)).toInt
theorem fm_NW_u {a : Nat → Nat → Int32} {T : Nat} {x : Int32} (h : fm_NW a) (hT : 0 ≤ x.toInt ∨ ∀ w, w < 8 → T ≠ 3647 + 5 * w) : fm_NW (fm_u a 1 T x) := fun w hw => by
  rw [fm_u1]
  split
  · next e =>
    rcases hT with q | q
    · exact q
    · exact absurd e.symm (q w hw)
  · exact h w hw
theorem fm_N_u {a0 a : Nat → Nat → Int32} {NC NW T : Nat} {x : Int32} (h : fm_N a0 a NC NW) (h1 : 3370 ≤ T ∧ T ≠ 3374) (h2 : T < 4210) (h3 : ∀ c, c < 10 → T ≠ 3378 + 6 * c) (h4 : (gm_at T).1 ≤ x.toInt ∧ x.toInt ≤ (gm_at T).2) : fm_N a0 (fm_u a 1 T x) NC NW := by
  obtain ⟨e1, e2, ⟨n1, n2, n3, n4⟩, e4, e5, e6⟩ := h
  refine ⟨fun t ht => by rw [fm_ut ht]; exact e1 t ht, fun i hi => ?_, ⟨?_, n2, ?_, n4⟩, fun i h5 h6 => ?_, fun c d hc hd => ?_, ?_⟩
  · rw [fm_u1, if_neg (by omega)]; exact e2 i hi
  · rw [fm_u1, if_neg (by omega)]; exact n1
  · rw [fm_u1, if_neg (by omega)]; exact n3
  · rw [fm_u1]
    split
    · next e => rw [e]; exact h4
    · exact e4 i h5 h6
  · rw [fm_u1, fm_u1, if_neg (by have := h3 c hc; omega), if_neg (by have := h3 d hd; omega)]
    exact e5 c d hc hd
  · rw [fm_u1, if_neg (by omega)]; exact e6
theorem fm_N_nc {a0 a : Nat → Nat → Int32} {NC NW : Nat} (h : fm_N a0 a NC NW) (hc : NC < 10) : fm_N a0 (fm_u a 1 3368 (nI (NC + 1))) (NC + 1) NW := by
  obtain ⟨e1, e2, ⟨n1, n2, n3, n4⟩, e4, e5, e6⟩ := h
  refine ⟨fun t ht => by rw [fm_ut ht]; exact e1 t ht, fun i hi => ?_, ⟨?_, by omega, ?_, n4⟩, fun i h5 h6 => ?_, fun c d hc hd => ?_, ?_⟩
  · rw [fm_u1, if_neg (by omega)]; exact e2 i hi
  · rw [fm_u1, if_pos rfl]
  · rw [fm_u1, if_neg (by omega)]; exact n3
  · rw [fm_u1]
    split
    · next e => rw [e, nI_i32 (by omega)]; exact ⟨by show (0 : Int) ≤ _; omega, by show _ ≤ (10 : Int); omega⟩
    · exact e4 i h5 h6
  · rw [fm_u1, fm_u1, if_neg (by omega), if_neg (by omega)]
    exact e5 c d hc hd
  · rw [fm_u1, if_neg (by omega)]; exact e6
theorem fm_N_nw {a0 a : Nat → Nat → Int32} {NC NW : Nat} (h : fm_N a0 a NC NW) (hc : NW < 8) : fm_N a0 (fm_u a 1 3369 (nI (NW + 1))) NC (NW + 1) := by
  obtain ⟨e1, e2, ⟨n1, n2, n3, n4⟩, e4, e5, e6⟩ := h
  refine ⟨fun t ht => by rw [fm_ut ht]; exact e1 t ht, fun i hi => ?_, ⟨?_, n2, ?_, by omega⟩, fun i h5 h6 => ?_, fun c d hc hd => ?_, ?_⟩
  · rw [fm_u1, if_neg (by omega)]; exact e2 i hi
  · rw [fm_u1, if_neg (by omega)]; exact n1
  · rw [fm_u1, if_pos rfl]
  · rw [fm_u1]
    split
    · next e => rw [e, nI_i32 (by omega)]; exact ⟨by show (0 : Int) ≤ _; omega, by show _ ≤ (8 : Int); omega⟩
    · exact e4 i h5 h6
  · rw [fm_u1, fm_u1, if_neg (by omega), if_neg (by omega)]
    exact e5 c d hc hd
  · rw [fm_u1, if_neg (by omega)]; exact e6
theorem gm_at_c0 : ∀ c, c < 10 → gm_at (3376 + 6 * c) = (0, 1) := by decide
theorem gm_at_c1 : ∀ c, c < 10 → gm_at (3377 + 6 * c) = (-2147483648, 2147483647) := by decide
theorem gm_at_c2 : ∀ c, c < 10 → gm_at (3378 + 6 * c) = (0, 1023) := by decide
theorem gm_at_c3 : ∀ c, c < 10 → gm_at (3379 + 6 * c) = (0, 1023) := by decide
theorem gm_at_w0 : ∀ c, c < 8 → gm_at (3646 + 5 * c) = (-2147483648, 2147483647) := by decide
theorem gm_at_w1 : ∀ c, c < 8 → gm_at (3647 + 5 * c) = (-1, 9) := by decide
theorem fm_full {T : Nat} {x : Int32} (h : gm_at T = (-2147483648, 2147483647)) : (gm_at T).1 ≤ x.toInt ∧ x.toInt ≤ (gm_at T).2 := by
  rw [h]
  have h1 := x.le_toInt
  have h2 := x.toInt_lt
  exact ⟨by show (-2147483648 : Int) ≤ _; omega, by show _ ≤ (2147483647 : Int); omega⟩
theorem fm_bdI {T : Nat} {x : Int32} {lo hi : Int} (h : gm_at T = (lo, hi)) (h1 : lo ≤ x.toInt) (h2 : x.toInt ≤ hi) : (gm_at T).1 ≤ x.toInt ∧ x.toInt ≤ (gm_at T).2 := by
  rw [h]
  exact ⟨h1, h2⟩
theorem fm_tb {n t d : Nat} : (n ||| 2 ^ t).testBit d = (n.testBit d || decide (t = d)) := by
  rw [Nat.testBit_or, Nat.testBit_two_pow]
theorem fm_N_c3 {a0 a : Nat → Nat → Int32} {NC NW o t : Nat} (h : fm_N a0 a NC NW) (ho : o < 10) (ht : t < 10) : fm_N a0 (fm_u a 1 (3379 + 6 * o) (a 1 (3379 + 6 * o) ||| ((1 : Int32) <<< (nI t &&& 31)))) NC NW := by
  obtain ⟨q1, q2⟩ := h.2.2.2.1 (3379 + 6 * o) (by omega) (by omega)
  rw [gm_at_c3 o ho] at q1 q2
  obtain ⟨m, hm, e⟩ := nI_bd (n := 1023) q1 q2
  refine fm_N_u h (by omega) (by omega) (fun c hc => by omega) (fm_bdI (gm_at_c3 o ho) ?_ ?_) <;> rw [e, fm_or_nat m (by omega) t ht, nI_i32 (by have := fm_or_lt (n := m) (by omega) ht; omega)]
  · omega
  · have := fm_or_lt (n := m) (by omega) ht; omega
theorem fm_N_c2 {a0 a : Nat → Nat → Int32} {NC NW o t : Nat} (h : fm_N a0 a NC NW) (ho : o < 10) (ht : t < 10) : fm_N a0 (fm_u (fm_u a 1 (3378 + 6 * o) (a 1 (3378 + 6 * o) ||| ((1 : Int32) <<< (nI t &&& 31)))) 1 (3378 + 6 * t) ((fm_u a 1 (3378 + 6 * o) (a 1 (3378 + 6 * o) ||| ((1 : Int32) <<< (nI t &&& 31)))) 1 (3378 + 6 * t) ||| ((1 : Int32) <<< (nI o &&& 31)))) NC NW := by
  obtain ⟨e1, e2, ⟨n1, n2, n3, n4⟩, e4, e5, e6⟩ := h
  have hv : ∀ c, c < 10 → ∃ m, m < 1024 ∧ a 1 (3378 + 6 * c) = nI m := fun c hc => by
    obtain ⟨q1, q2⟩ := e4 (3378 + 6 * c) (by omega) (by omega)
    rw [gm_at_c2 c hc] at q1 q2
    obtain ⟨m, hm, e⟩ := nI_bd (n := 1023) q1 q2
    exact ⟨m, by omega, e⟩
  generalize hA1 : fm_u a 1 (3378 + 6 * o) (a 1 (3378 + 6 * o) ||| ((1 : Int32) <<< (nI t &&& 31))) = A1
  have v1 : ∀ i, A1 1 i = if i = 3378 + 6 * o then a 1 (3378 + 6 * o) ||| ((1 : Int32) <<< (nI t &&& 31)) else a 1 i := fun i => by rw [← hA1, fm_u1]
  have hv1 : ∀ c, c < 10 → ∃ m m1, m < 1024 ∧ m1 < 1024 ∧ a 1 (3378 + 6 * c) = nI m ∧ A1 1 (3378 + 6 * c) = nI m1 ∧ ∀ d, d < 10 → m1.testBit d = (m.testBit d || (decide (c = o) && decide (d = t))) := fun c hc => by
    obtain ⟨m, hm, e⟩ := hv c hc
    by_cases hco : c = o
    · subst hco
      refine ⟨m, m ||| 2 ^ t, hm, fm_or_lt hm ht, e, ?_, fun d hd => ?_⟩
      · rw [v1, if_pos rfl, e, fm_or_nat m hm t ht]
      · rw [fm_tb, decide_eq_true (rfl : c = c), Bool.true_and]
        congr 1
        exact decide_eq_decide.mpr ⟨fun z => z.symm, fun z => z.symm⟩
    · refine ⟨m, m, hm, hm, e, ?_, fun d hd => ?_⟩
      · rw [v1, if_neg (by omega), e]
      · rw [decide_eq_false hco, Bool.false_and, Bool.or_false]
  have v2 : ∀ i, (fm_u A1 1 (3378 + 6 * t) (A1 1 (3378 + 6 * t) ||| ((1 : Int32) <<< (nI o &&& 31)))) 1 i = if i = 3378 + 6 * t then A1 1 (3378 + 6 * t) ||| ((1 : Int32) <<< (nI o &&& 31)) else A1 1 i := fun i => by rw [fm_u1]
  have hv2 : ∀ c, c < 10 → ∃ m m2, m < 1024 ∧ m2 < 1024 ∧ a 1 (3378 + 6 * c) = nI m ∧ (fm_u A1 1 (3378 + 6 * t) (A1 1 (3378 + 6 * t) ||| ((1 : Int32) <<< (nI o &&& 31)))) 1 (3378 + 6 * c) = nI m2 ∧ ∀ d, d < 10 → m2.testBit d = (m.testBit d || (decide (c = o) && decide (d = t)) || (decide (c = t) && decide (d = o))) := fun c hc => by
    obtain ⟨m, m1, hm, hm1, e, f1, f2⟩ := hv1 c hc
    by_cases hct : c = t
    · subst hct
      refine ⟨m, m1 ||| 2 ^ o, hm, fm_or_lt hm1 ho, e, ?_, fun d hd => ?_⟩
      · rw [v2, if_pos rfl, f1, fm_or_nat m1 hm1 o ho]
      · rw [fm_tb, f2 d hd, decide_eq_true (rfl : c = c), Bool.true_and]
        congr 1
        exact decide_eq_decide.mpr ⟨fun z => z.symm, fun z => z.symm⟩
    · refine ⟨m, m1, hm, hm1, e, ?_, fun d hd => ?_⟩
      · rw [v2, if_neg (by omega), f1]
      · rw [f2 d hd, decide_eq_false hct, Bool.false_and, Bool.or_false]
  refine ⟨fun t ht => by rw [fm_ut ht, ← hA1, fm_ut ht]; exact e1 t ht, fun i hi => ?_, ⟨?_, n2, ?_, n4⟩, fun i h5 h6 => ?_, fun c d hc hd => ?_, ?_⟩
  · rw [v2, if_neg (by omega), v1, if_neg (by omega)]; exact e2 i hi
  · rw [v2, if_neg (by omega), v1, if_neg (by omega)]; exact n1
  · rw [v2, if_neg (by omega), v1, if_neg (by omega)]; exact n3
  · by_cases hi : ∃ c, c < 10 ∧ i = 3378 + 6 * c
    · obtain ⟨c, hc, rfl⟩ := hi
      obtain ⟨m, m2, -, hm2, -, f1, -⟩ := hv2 c hc
      rw [f1]
      refine fm_bdI (gm_at_c2 c hc) ?_ ?_ <;> rw [nI_i32 (by omega)] <;> omega
    · rw [v2, if_neg (fun z => hi ⟨t, ht, z⟩), v1, if_neg (fun z => hi ⟨o, ho, z⟩)]
      exact e4 i h5 h6
  · obtain ⟨m, m2, hm, hm2, f0, f1, f2⟩ := hv2 c hc
    obtain ⟨k, k2, hk, hk2, g0, g1, g2⟩ := hv2 d hd
    have h9 := e5 c d hc hd
    show fm_b (_ : Int32) _ = fm_b (_ : Int32) _
    rw [show 3368 + 10 + 6 * c = 3378 + 6 * c by omega, show 3368 + 10 + 6 * d = 3378 + 6 * d by omega] at h9 ⊢
    rw [f1, g1, fm_b_nat m2 hm2 d hd, fm_b_nat k2 hk2 c hc, f2 d hd, g2 c hc]
    rw [f0, g0, fm_b_nat m hm d hd, fm_b_nat k hk c hc] at h9
    have h10 : m.testBit d = k.testBit c := by
      cases h1 : m.testBit d <;> cases h2 : k.testBit c <;> first | rfl | (rw [h1, h2] at h9; exact absurd h9 (by decide))
    rw [h10]
    congr 1
    rw [Bool.or_assoc, Bool.or_assoc, Bool.or_comm (decide (c = o) && decide (d = t)), Bool.and_comm (decide (c = t)), Bool.and_comm (decide (c = o))]
  · rw [v2, if_neg (by omega), v1, if_neg (by omega)]; exact e6
/-- the parser has come from one state to another; what a part was told once, may have grown -/
def fm_gx (g g' : Nat → Int32) (S E E' F' : Nat) : Prop := (∀ j, j ≠ 12 → j ≠ 13 → j ≠ 14 → j ≠ 15 → j ≠ 17 → j ≠ 18 → j ≠ 20 → g' j = g j) ∧ fm_xp g' S E' F' ∧ fm_flt g' ∧ E ≤ E'
theorem fm_gx_rf {g : Nat → Int32} {S E F : Nat} (hxp : fm_xp g S E F) (hfl : fm_flt g) : fm_gx g g S E E F := ⟨fun _ _ _ _ _ _ _ _ => rfl, hxp, hfl, Nat.le_refl _⟩
theorem fm_gx_tr {g g1 g2 : Nat → Int32} {S E E1 F1 E2 F2 : Nat} (h : fm_gx g g1 S E E1 F1) (h2 : fm_go g1 g2 S E1 E2 F2) : fm_gx g g2 S E E2 F2 := ⟨fun j q1 q2 q3 q4 q5 q6 q7 => (h2.1 j q1 q2 q3 q4 q5 q6).trans (h.1 j q1 q2 q3 q4 q5 q6 q7), h2.2.1, h2.2.2.1, Nat.le_trans h.2.2.2 h2.2.2.2⟩
theorem fm_gx_tx {g g1 g2 : Nat → Int32} {S E E1 F1 E2 F2 : Nat} (h : fm_gx g g1 S E E1 F1) (h2 : fm_gx g1 g2 S E1 E2 F2) : fm_gx g g2 S E E2 F2 := ⟨fun j q1 q2 q3 q4 q5 q6 q7 => (h2.1 j q1 q2 q3 q4 q5 q6 q7).trans (h.1 j q1 q2 q3 q4 q5 q6 q7), h2.2.1, h2.2.2.1, Nat.le_trans h.2.2.2 h2.2.2.2⟩
theorem fm_xfu {g1 : Nat → Int32} {S E1 F1 k : Nat} {x : Int32} (h2 : fm_xp g1 S E1 F1) (h3 : fm_flt g1) (hk : k = 20 ∨ k = 22 ∨ k = 23) : fm_xp (upd g1 k x) S E1 F1 ∧ fm_flt (upd g1 k x) := by
  constructor
  · unfold fm_xp at h2 ⊢
    rw [pk_un (by omega), pk_un (by omega), pk_un (by omega), pk_un (by omega), pk_un (by omega)]
    exact h2
  · unfold fm_flt at h3 ⊢
    rw [pk_un (by omega), pk_un (by omega)]
    exact h3
theorem fm_gx_up {g g1 : Nat → Int32} {S E E1 F1 k : Nat} {x : Int32} (h : fm_gx g g1 S E E1 F1) (hk : k = 20) : fm_gx g (upd g1 k x) S E E1 F1 := by
  obtain ⟨h1, h2, h3, h4⟩ := h
  obtain ⟨h5, h6⟩ := fm_xfu (x := x) h2 h3 (Or.inl hk)
  exact ⟨fun j q1 q2 q3 q4 q5 q6 q7 => by rw [pk_un (by omega)]; exact h1 j q1 q2 q3 q4 q5 q6 q7, h5, h6, h4⟩
/-- the same, for TALES -/
def fm_gy (g g' : Nat → Int32) (S E E' F' : Nat) : Prop := (∀ j, j ≠ 12 → j ≠ 13 → j ≠ 14 → j ≠ 15 → j ≠ 17 → j ≠ 18 → j ≠ 22 → j ≠ 23 → g' j = g j) ∧ fm_xp g' S E' F' ∧ fm_flt g' ∧ E ≤ E'
theorem fm_gy_rf {g : Nat → Int32} {S E F : Nat} (hxp : fm_xp g S E F) (hfl : fm_flt g) : fm_gy g g S E E F := ⟨fun _ _ _ _ _ _ _ _ _ => rfl, hxp, hfl, Nat.le_refl _⟩
theorem fm_gy_tr {g g1 g2 : Nat → Int32} {S E E1 F1 E2 F2 : Nat} (h : fm_gy g g1 S E E1 F1) (h2 : fm_go g1 g2 S E1 E2 F2) : fm_gy g g2 S E E2 F2 := ⟨fun j q1 q2 q3 q4 q5 q6 q7 q8 => (h2.1 j q1 q2 q3 q4 q5 q6).trans (h.1 j q1 q2 q3 q4 q5 q6 q7 q8), h2.2.1, h2.2.2.1, Nat.le_trans h.2.2.2 h2.2.2.2⟩
theorem fm_gy_tx {g g1 g2 : Nat → Int32} {S E E1 F1 E2 F2 : Nat} (h : fm_gy g g1 S E E1 F1) (h2 : fm_gy g1 g2 S E1 E2 F2) : fm_gy g g2 S E E2 F2 := ⟨fun j q1 q2 q3 q4 q5 q6 q7 q8 => (h2.1 j q1 q2 q3 q4 q5 q6 q7 q8).trans (h.1 j q1 q2 q3 q4 q5 q6 q7 q8), h2.2.1, h2.2.2.1, Nat.le_trans h.2.2.2 h2.2.2.2⟩
theorem fm_gy_up {g g1 : Nat → Int32} {S E E1 F1 k : Nat} {x : Int32} (h : fm_gy g g1 S E E1 F1) (hk : k = 22 ∨ k = 23) : fm_gy g (upd g1 k x) S E E1 F1 := by
  obtain ⟨h1, h2, h3, h4⟩ := h
  obtain ⟨h5, h6⟩ := fm_xfu (x := x) (k := k) h2 h3 (by omega)
  exact ⟨fun j q1 q2 q3 q4 q5 q6 q7 q8 => by rw [pk_un (by omega)]; exact h1 j q1 q2 q3 q4 q5 q6 q7 q8, h5, h6, h4⟩
/-- what a part of a LAKE leaves behind -/
def fm_GL (a0 : Nat → Nat → Int32) (g : Nat → Int32) (tp bt : Int64) (b : Nat → Nat → Int64) (S E : Nat) (R : Option Value × fx_M) : Prop := ∃ (v : Int32) (g' : Nat → Int32) (E' F' : Nat) (a' : Nat → Nat → Int32) (b' : Nat → Nat → Int64) (NC' NW' : Nat), fm_gx g g' S E E' F' ∧ (∀ t, t ≠ 2 → b' t = b t) ∧ fm_N a0 a' NC' NW' ∧ (v = 0 ∧ ¬ g' 18 = 0 ∨ v = 1 ∧ g' 18 = g 18 ∧ (g' 12 = 0 ∨ E < E') ∧ fm_NW a') ∧ R = (some (.int v), fm g' tp bt a' b')
theorem fm_uL_t {b : Nat → Nat → Int64} {i t : Nat} {v : Int64} (h : t ≠ 2) : fm_uL b 2 i v t = b t := by
  unfold fm_uL
  rw [if_neg h]
end MH2_0
section MH2_1
/-! ===== fx: the parts of a LAKE, whole ===== -/
section F482_cell
variable {g : Nat → Int32} {tp bt : Int64} {a0 a : Nat → Nat → Int32} {b : Nat → Nat → Int64}
theorem fm_ch {b : Nat → Nat → Int64} {q v : Int32} {NC : Nat} {nm : Int64} {p : Prop} (h : q = 0 ∧ v = -1 ∨ q = 1 ∧ p ∧ fm_is b 72 NC nm v) : (v = -1 ∧ (q = 0 ∨ fm_is b 72 NC nm (-1))) ∨ ∃ k, k < NC ∧ v = nI k := by
  rcases h with ⟨h1, h2⟩ | ⟨h1, -, h3⟩
  · exact Or.inl ⟨h2, Or.inl h1⟩
  · rcases id h3 with ⟨h4, -⟩ | ⟨k, hk, h4, -⟩
    · exact Or.inl ⟨h4, Or.inr (h4 ▸ h3)⟩
    · exact Or.inr ⟨k, hk, h4⟩
theorem fm_chx {b : Nat → Nat → Int64} {q : Int32} {NC k : Nat} {nm : Int64} (h : q = 0 ∨ fm_is b 72 NC nm (-1)) (hq : some (Value.int q) = some (Value.int 1)) (hk9 : k < 10) (hk : fm_is b 72 NC nm (nI k)) : False := by
  have e : q = 1 := by cases hq; rfl
  rcases h with h | h
  · rw [h] at e; exact absurd e (by decide)
  · have e2 := congrArg Int32.toInt (fm_is_eq h hk)
    rw [nI_i32 (by omega), show ((-1 : Int32).toInt) = -1 from rfl] at e2
    omega
theorem fm_24 {x : Int32} (h : x = -1 ∨ ∃ n, n < 24 ∧ x = nI n) : x = -1 ∨ x = 0 ∨ x = 1 ∨ x = 2 ∨ x = 3 ∨ x = 4 ∨ x = 5 ∨ x = 6 ∨ x = 7 ∨ x = 8 ∨ x = 9 ∨ x = 10 ∨ x = 11 ∨ x = 12 ∨ x = 13 ∨ x = 14 ∨ x = 15 ∨ x = 16 ∨ x = 17 ∨ x = 18 ∨ x = 19 ∨ x = 20 ∨ x = 21 ∨ x = 22 ∨ x = 23 := by
  rcases h with h | ⟨n, hn, rfl⟩
  · exact Or.inl h
  · have h2 : ∀ n, n < 24 → nI n = 0 ∨ nI n = 1 ∨ nI n = 2 ∨ nI n = 3 ∨ nI n = 4 ∨ nI n = 5 ∨ nI n = 6 ∨ nI n = 7 ∨ nI n = 8 ∨ nI n = 9 ∨ nI n = 10 ∨ nI n = 11 ∨ nI n = 12 ∨ nI n = 13 ∨ nI n = 14 ∨ nI n = 15 ∨ nI n = 16 ∨ nI n = 17 ∨ nI n = 18 ∨ nI n = 19 ∨ nI n = 20 ∨ nI n = 21 ∨ nI n = 22 ∨ nI n = 23 := by decide
    exact Or.inr (h2 n hn)
theorem fr_isNewShore {C : Nat} (hC : C < 10) : ∃ (v : Option Value) (mem' : fx_M), (fun R => ∃ v : Int32, (v = 0 ∨ v = 1) ∧ R = (some (.int v), fm g tp bt a b)) (v, mem') ∧ fr_T 2 241 [.ref 0, .int (nI C)] (fm g tp bt a b) v mem' := by
  refine fe_meth (F := fun R => ∃ v : Int32, (v = 0 ∨ v = 1) ∧ R = (some (.int v), fm g tp bt a b)) (M := gk_m241) (by rfl) (by rfl) ?_
  refine fe_s 7 (pc' := 12) (lc' := [(0, .ref 0), (1, .int (nI C))]) (stk' := [.int (3376 + (6 * (nI C))), .ref 1]) (mem' := fm g tp bt a b) (by intro _ _ _; eq_refl) ?_
  rw [show (3376 + (6 * (nI C)) : Int32) = nI (3376 + (6 * C)) from by simp only [show (3376 : Int32) = nI 3376 from rfl, show (6 : Int32) = nI 6 from rfl, nI_add, fm_mul]]
  refine fe_ldI (by rfl) (by rfl) (fx_inN (i := 3376 + (6 * C)) (by omega) (by omega)) ?_
  rw [show Int32.toNatClampNeg (nI (3376 + (6 * C))) = 3376 + (6 * C) from nI_clamp (by omega)]
  refine fe_s 1 (pc' := 14) (lc' := [(0, .ref 0), (1, .int (nI C))]) (stk' := [.int 1, .int (a 1 (3376 + (6 * C)))]) (mem' := fm g tp bt a b) (by intro _ _ _; eq_refl) ?_
  refine fe_s 1 (pc' := cond (fx_cb .ne (a 1 (3376 + (6 * C))) 1) 21 17) (lc' := [(0, .ref 0), (1, .int (nI C))]) (stk' := []) (mem' := fm g tp bt a b) (by intro _ _ _; eq_refl) ?_
  cases h1 : fx_cb .ne (a 1 (3376 + (6 * C))) 1
  · refine fe_s 2 (pc' := 22) (lc' := [(0, .ref 0), (1, .int (nI C))]) (stk' := [.int 1]) (mem' := fm g tp bt a b) (by intro _ _ _; eq_refl) ?_
    exact fe_ret ⟨_, Or.inr rfl, rfl⟩ (by rfl) (by rfl) (by rfl)
  · refine fe_s 1 (pc' := 22) (lc' := [(0, .ref 0), (1, .int (nI C))]) (stk' := [.int 0]) (mem' := fm g tp bt a b) (by intro _ _ _; eq_refl) ?_
    exact fe_ret ⟨_, Or.inl rfl, rfl⟩ (by rfl) (by rfl) (by rfl)
set_option maxHeartbeats 4000000 in
theorem fr_aCell0 {S E F NC NW : Nat} (hxp : fm_xp g S E F) (hfl : fm_flt g) (hN : fm_N a0 a NC NW) (hW : fm_NW a) : ∃ (v : Option Value) (mem' : fx_M), (fm_GL a0 g tp bt b S E) (v, mem') ∧ fr_T 8 239 [.ref 0, .int 0] (fm g tp bt a b) v mem' := by
  have hNC := hN.2.2.1.2.1
  have hNW := hN.2.2.1.2.2.2
  refine fe_meth (F := fm_GL a0 g tp bt b S E) (M := gk_m239) (by rfl) (by rfl) ?_
  refine fe_s 5 (pc' := 12) (lc' := [(0, .ref 0), (1, .int 0)]) (stk' := [.int 3368, .ref 1, .int 6, .int 3376]) (mem' := fm g tp bt a b) (by intro _ _ _; eq_refl) ?_
  refine fe_ldI (by rfl) (by rfl) (fx_inN (i := 3368) (by omega) (by omega)) ?_
  rw [show Int32.toNatClampNeg (3368) = 3368 from rfl]
  rw [hN.2.2.1.1]
  refine fe_s 7 (pc' := 21) (lc' := [(2, .int (3376 + (6 * (nI NC)))), (0, .ref 0), (1, .int 0)]) (stk' := [.int 0, .int 10, .int 0, .ref 0]) (mem' := fm g tp bt a b) (by intro _ _ _; eq_refl) ?_
  rw [show (3376 + (6 * (nI NC)) : Int32) = nI (3376 + (6 * NC)) from by simp only [show (3376 : Int32) = nI 3376 from rfl, show (6 : Int32) = nI 6 from rfl, nI_add, fm_mul]]
  obtain ⟨vn1, memn1, ⟨xn1, gn1, En1, Fn1, bn1, hon1, hvn1, hRn1⟩, hfrn1⟩ := fr_newOne0 (g := g) (tp := tp) (bt := bt) (a := a) (b := b) (fm_gx_rf hxp hfl).2.1 (fm_gx_rf hxp hfl).2.2.1 hN.2.2.1
  cases hRn1
  have gon1 := fm_gx_tr (fm_gx_rf hxp hfl) hon1
  refine fe_ivV hfrn1 (by omega) (by rfl) (by rfl) (by rfl) (by rfl) (by rfl) (by rfl) ?_
  rcases hvn1 with ⟨rfl, hzn1, hbn1⟩ | ⟨rfl, hen1, hpn1, hin1, nmn1, hbn1⟩
  · have bNn1 : ∀ t, t ≠ 2 → bn1 t = b t := fun t ht => (congrFun hbn1 t).trans ((fun _ _ => rfl) t ht)
    refine fe_s 1 (pc' := cond (fx_cb .ne 0 0) 29 27) (lc' := [(2, .int (nI (3376 + (6 * NC)))), (0, .ref 0), (1, .int 0)]) (stk' := []) (mem' := fm gn1 tp bt a bn1) (by intro _ _ _; eq_refl) ?_
    rw [show (fx_cb .ne 0 0) = false from by decide]
    dsimp only [cond]
    refine fe_s 1 (pc' := 28) (lc' := [(2, .int (nI (3376 + (6 * NC)))), (0, .ref 0), (1, .int 0)]) (stk' := [.int 0]) (mem' := fm gn1 tp bt a bn1) (by intro _ _ _; eq_refl) ?_
    exact fe_ret ⟨_, _, _, _, _, _, _, _, gon1, bNn1, hN, Or.inl ⟨rfl, hzn1⟩, rfl⟩ (by rfl) (by rfl) (by rfl)
  · have e18n1 : gn1 18 = g 18 := hen1.trans rfl
    have prn1 : gn1 12 = 0 ∨ E < En1 := hpn1.imp id (fun z => by have := (fm_gx_rf hxp hfl).2.2.2; omega)
    have bNn1 : ∀ t, t ≠ 2 → bn1 t = b t := fun t ht => (congrFun hbn1 t).trans ((fm_uL_t ht).trans ((fun _ _ => rfl) t ht))
    have hcn1 : NC < 10 := by have := hN.2.2.1.2.1; have := hN.2.2.1.2.2.2; omega
    refine fe_s 1 (pc' := cond (fx_cb .ne 1 0) 29 27) (lc' := [(2, .int (nI (3376 + (6 * NC)))), (0, .ref 0), (1, .int 0)]) (stk' := []) (mem' := fm gn1 tp bt a bn1) (by intro _ _ _; eq_refl) ?_
    rw [show (fx_cb .ne 1 0) = true from by decide]
    dsimp only [cond]
    refine fe_s 4 (pc' := 35) (lc' := [(2, .int (nI (3376 + (6 * NC)))), (0, .ref 0), (1, .int 0)]) (stk' := [.int 0, .int (nI (3376 + (6 * NC))), .ref 1]) (mem' := fm gn1 tp bt a bn1) (by intro _ _ _; eq_refl) ?_
    refine fe_s 1 (pc' := cond (fx_cb .eq 0 0) 42 38) (lc' := [(2, .int (nI (3376 + (6 * NC)))), (0, .ref 0), (1, .int 0)]) (stk' := [.int (nI (3376 + (6 * NC))), .ref 1]) (mem' := fm gn1 tp bt a bn1) (by intro _ _ _; eq_refl) ?_
    rw [show (fx_cb .eq 0 0) = true from by decide]
    dsimp only [cond]
    refine fe_s 1 (pc' := 43) (lc' := [(2, .int (nI (3376 + (6 * NC)))), (0, .ref 0), (1, .int 0)]) (stk' := [.int 0, .int (nI (3376 + (6 * NC))), .ref 1]) (mem' := fm gn1 tp bt a bn1) (by intro _ _ _; eq_refl) ?_
    refine fe_stI (mem' := fm gn1 tp bt (fm_u a 1 (nI (3376 + (6 * NC)) : Int32).toNatClampNeg 0) bn1) (by rfl) (by rfl) (fx_inN (i := 3376 + (6 * NC)) (by omega) (by omega)) fm_si1 ?_
    rw [show Int32.toNatClampNeg (nI (3376 + (6 * NC))) = 3376 + (6 * NC) from nI_clamp (by omega)]
    obtain ⟨at2, hat2⟩ : ∃ z, z = fm_u a 1 (3376 + (6 * NC)) 0 := ⟨_, rfl⟩
    rw [← hat2]
    have hNt2 : fm_N a0 at2 NC NW := by rw [hat2]; exact fm_N_u hN (by omega) (by omega) (fun c hc => by omega) (fm_bdI (show gm_at (3376 + (6 * NC)) = (0, 1) from by rw [show 3376 + (6 * NC) = 3376 + 6 * NC by omega]; exact gm_at_c0 NC (by omega)) (by decide) (by decide))
    have hWt2 : fm_NW at2 := by rw [hat2]; exact fm_NW_u hW (Or.inr (fun w hw => by omega))
    refine fe_s 1 (pc' := 45) (lc' := [(2, .int (nI (3376 + (6 * NC)))), (0, .ref 0), (1, .int 0)]) (stk' := [.int 0]) (mem' := fm gn1 tp bt at2 bn1) (by intro _ _ _; eq_refl) ?_
    refine fe_s 1 (pc' := cond (fx_cb .ne 0 0) 75 48) (lc' := [(2, .int (nI (3376 + (6 * NC)))), (0, .ref 0), (1, .int 0)]) (stk' := []) (mem' := fm gn1 tp bt at2 bn1) (by intro _ _ _; eq_refl) ?_
    rw [show (fx_cb .ne 0 0) = false from by decide]
    dsimp only [cond]
    refine fe_s 3 (pc' := 53) (lc' := [(2, .int (nI (3376 + (6 * NC)))), (0, .ref 0), (1, .int 0)]) (stk' := [.int 8, .ref 22, .ref 0]) (mem' := fm gn1 tp bt at2 bn1) (by intro _ _ _; eq_refl) ?_
    obtain ⟨xc3, gc3, Ec3, Fc3, hfrc3, hoc3, hvc3⟩ := fr_wantWordq (k := 8) (g := gn1) (tp := tp) (bt := bt) (a := at2) (b := bn1) gon1.2.1 gon1.2.2.1
    have goc3 := fm_gx_tr gon1 hoc3
    refine fe_ivV hfrc3 (by omega) (by rfl) (by rfl) (by rfl) (by rfl) (by rfl) (by rfl) ?_
    rcases hvc3 with ⟨rfl, hzc3⟩ | ⟨rfl, hec3, hpc3⟩
    · refine fe_s 1 (pc' := cond (fx_cb .eq 0 0) 73 59) (lc' := [(2, .int (nI (3376 + (6 * NC)))), (0, .ref 0), (1, .int 0)]) (stk' := []) (mem' := fm gc3 tp bt at2 bn1) (by intro _ _ _; eq_refl) ?_
      rw [show (fx_cb .eq 0 0) = true from by decide]
      dsimp only [cond]
      refine fe_s 1 (pc' := 74) (lc' := [(2, .int (nI (3376 + (6 * NC)))), (0, .ref 0), (1, .int 0)]) (stk' := [.int 0]) (mem' := fm gc3 tp bt at2 bn1) (by intro _ _ _; eq_refl) ?_
      exact fe_ret ⟨_, _, _, _, _, _, _, _, goc3, bNn1, hNt2, Or.inl ⟨rfl, hzc3⟩, rfl⟩ (by rfl) (by rfl) (by rfl)
    · have e18c3 : gc3 18 = g 18 := hec3.trans e18n1
      have prc3 : gc3 12 = 0 ∨ E < Ec3 := hpc3.imp id (fun z => by have := gon1.2.2.2; omega)
      refine fe_s 1 (pc' := cond (fx_cb .eq 1 0) 73 59) (lc' := [(2, .int (nI (3376 + (6 * NC)))), (0, .ref 0), (1, .int 0)]) (stk' := []) (mem' := fm gc3 tp bt at2 bn1) (by intro _ _ _; eq_refl) ?_
      rw [show (fx_cb .eq 1 0) = false from by decide]
      dsimp only [cond]
      refine fe_s 6 (pc' := 67) (lc' := [(2, .int (nI (3376 + (6 * NC)))), (0, .ref 0), (1, .int 0)]) (stk' := [.int 200, .int 0, .int ((nI (3376 + (6 * NC))) + 1), .ref 0]) (mem' := fm gc3 tp bt at2 bn1) (by intro _ _ _; eq_refl) ?_
      rw [show ((nI (3376 + (6 * NC))) + 1 : Int32) = nI ((3376 + (6 * NC)) + 1) from by simp only [show (1 : Int32) = nI 1 from rfl, nI_add, fm_mul]]
      obtain ⟨xm4, gm4, Em4, Fm4, am4, hfrm4, hom4, hvm4⟩ := fr_numberq (T := (3376 + (6 * NC)) + 1) (lo := 0) (hi := 200) (g := gc3) (tp := tp) (bt := bt) (a := at2) (b := bn1) (by omega) goc3.2.1 goc3.2.2.1
      have gom4 := fm_gx_tr goc3 hom4
      refine fe_ivV hfrm4 (by omega) (by rfl) (by rfl) (by rfl) (by rfl) (by rfl) (by rfl) ?_
      rcases hvm4 with ⟨rfl, hzm4, ham4⟩ | ⟨rfl, hem4, hpm4, ym4, hlm4, hum4, ham4⟩
      · have hNm4 : fm_N a0 am4 NC NW := by rw [ham4]; exact hNt2
        refine fe_s 1 (pc' := cond (fx_cb .ne 0 0) 75 73) (lc' := [(2, .int (nI (3376 + (6 * NC)))), (0, .ref 0), (1, .int 0)]) (stk' := []) (mem' := fm gm4 tp bt am4 bn1) (by intro _ _ _; eq_refl) ?_
        rw [show (fx_cb .ne 0 0) = false from by decide]
        dsimp only [cond]
        refine fe_s 1 (pc' := 74) (lc' := [(2, .int (nI (3376 + (6 * NC)))), (0, .ref 0), (1, .int 0)]) (stk' := [.int 0]) (mem' := fm gm4 tp bt am4 bn1) (by intro _ _ _; eq_refl) ?_
        exact fe_ret ⟨_, _, _, _, _, _, _, _, gom4, bNn1, hNm4, Or.inl ⟨rfl, hzm4⟩, rfl⟩ (by rfl) (by rfl) (by rfl)
      · have e18m4 : gm4 18 = g 18 := hem4.trans e18c3
        have prm4 : gm4 12 = 0 ∨ E < Em4 := hpm4.imp id (fun z => by have := goc3.2.2.2; omega)
        have hNm4 : fm_N a0 am4 NC NW := by rw [ham4]; exact fm_N_u hNt2 (by omega) (by omega) (fun c hc => by omega) (fm_full (show gm_at ((3376 + (6 * NC)) + 1) = (-2147483648, 2147483647) from by rw [show (3376 + (6 * NC)) + 1 = 3377 + 6 * NC by omega]; exact gm_at_c1 NC (by omega)))
        have hWm4 : fm_NW am4 := by rw [ham4]; exact fm_NW_u hWt2 (Or.inr (fun w hw => by omega))
        refine fe_s 1 (pc' := cond (fx_cb .ne 1 0) 75 73) (lc' := [(2, .int (nI (3376 + (6 * NC)))), (0, .ref 0), (1, .int 0)]) (stk' := []) (mem' := fm gm4 tp bt am4 bn1) (by intro _ _ _; eq_refl) ?_
        rw [show (fx_cb .ne 1 0) = true from by decide]
        dsimp only [cond]
        refine fe_s 4 (pc' := 83) (lc' := [(2, .int (nI (3376 + (6 * NC)))), (0, .ref 0), (1, .int 0)]) (stk' := [.int 3368, .ref 1, .int 3368, .ref 1]) (mem' := fm gm4 tp bt am4 bn1) (by intro _ _ _; eq_refl) ?_
        refine fe_ldI (by rfl) (by rfl) (fx_inN (i := 3368) (by omega) (by omega)) ?_
        rw [show Int32.toNatClampNeg (3368) = 3368 from rfl]
        rw [hNm4.2.2.1.1]
        refine fe_s 2 (pc' := 86) (lc' := [(2, .int (nI (3376 + (6 * NC)))), (0, .ref 0), (1, .int 0)]) (stk' := [.int ((nI NC) + 1), .int 3368, .ref 1]) (mem' := fm gm4 tp bt am4 bn1) (by intro _ _ _; eq_refl) ?_
        rw [show ((nI NC) + 1 : Int32) = nI (NC + 1) from by simp only [show (1 : Int32) = nI 1 from rfl, nI_add, fm_mul]]
        refine fe_stI (mem' := fm gm4 tp bt (fm_u am4 1 (3368 : Int32).toNatClampNeg (nI (NC + 1))) bn1) (by rfl) (by rfl) (fx_inN (i := 3368) (by omega) (by omega)) fm_si1 ?_
        rw [show Int32.toNatClampNeg (3368) = 3368 from rfl]
        obtain ⟨at5, hat5⟩ : ∃ z, z = fm_u am4 1 (3368) (nI (NC + 1)) := ⟨_, rfl⟩
        rw [← hat5]
        have hNt5 : fm_N a0 at5 (NC + 1) NW := by rw [hat5]; exact fm_N_nc hNm4 (by omega)
        have hWt5 : fm_NW at5 := by rw [hat5]; exact fm_NW_u hWm4 (Or.inr (fun w hw => by omega))
        refine fe_s 1 (pc' := 88) (lc' := [(2, .int (nI (3376 + (6 * NC)))), (0, .ref 0), (1, .int 0)]) (stk' := [.int 1]) (mem' := fm gm4 tp bt at5 bn1) (by intro _ _ _; eq_refl) ?_
        exact fe_ret ⟨_, _, _, _, _, _, _, _, gom4, bNn1, hNt5, Or.inr ⟨rfl, e18m4, prm4, hWt5⟩, rfl⟩ (by rfl) (by rfl) (by rfl)
set_option maxHeartbeats 4000000 in
theorem fr_aCell1 {S E F NC NW : Nat} (hxp : fm_xp g S E F) (hfl : fm_flt g) (hN : fm_N a0 a NC NW) (hW : fm_NW a) : ∃ (v : Option Value) (mem' : fx_M), (fm_GL a0 g tp bt b S E) (v, mem') ∧ fr_T 8 239 [.ref 0, .int 1] (fm g tp bt a b) v mem' := by
  have hNC := hN.2.2.1.2.1
  have hNW := hN.2.2.1.2.2.2
  refine fe_meth (F := fm_GL a0 g tp bt b S E) (M := gk_m239) (by rfl) (by rfl) ?_
  refine fe_s 5 (pc' := 12) (lc' := [(0, .ref 0), (1, .int 1)]) (stk' := [.int 3368, .ref 1, .int 6, .int 3376]) (mem' := fm g tp bt a b) (by intro _ _ _; eq_refl) ?_
  refine fe_ldI (by rfl) (by rfl) (fx_inN (i := 3368) (by omega) (by omega)) ?_
  rw [show Int32.toNatClampNeg (3368) = 3368 from rfl]
  rw [hN.2.2.1.1]
  refine fe_s 7 (pc' := 21) (lc' := [(2, .int (3376 + (6 * (nI NC)))), (0, .ref 0), (1, .int 1)]) (stk' := [.int 0, .int 10, .int 0, .ref 0]) (mem' := fm g tp bt a b) (by intro _ _ _; eq_refl) ?_
  rw [show (3376 + (6 * (nI NC)) : Int32) = nI (3376 + (6 * NC)) from by simp only [show (3376 : Int32) = nI 3376 from rfl, show (6 : Int32) = nI 6 from rfl, nI_add, fm_mul]]
  obtain ⟨vn1, memn1, ⟨xn1, gn1, En1, Fn1, bn1, hon1, hvn1, hRn1⟩, hfrn1⟩ := fr_newOne0 (g := g) (tp := tp) (bt := bt) (a := a) (b := b) (fm_gx_rf hxp hfl).2.1 (fm_gx_rf hxp hfl).2.2.1 hN.2.2.1
  cases hRn1
  have gon1 := fm_gx_tr (fm_gx_rf hxp hfl) hon1
  refine fe_ivV hfrn1 (by omega) (by rfl) (by rfl) (by rfl) (by rfl) (by rfl) (by rfl) ?_
  rcases hvn1 with ⟨rfl, hzn1, hbn1⟩ | ⟨rfl, hen1, hpn1, hin1, nmn1, hbn1⟩
  · have bNn1 : ∀ t, t ≠ 2 → bn1 t = b t := fun t ht => (congrFun hbn1 t).trans ((fun _ _ => rfl) t ht)
    refine fe_s 1 (pc' := cond (fx_cb .ne 0 0) 29 27) (lc' := [(2, .int (nI (3376 + (6 * NC)))), (0, .ref 0), (1, .int 1)]) (stk' := []) (mem' := fm gn1 tp bt a bn1) (by intro _ _ _; eq_refl) ?_
    rw [show (fx_cb .ne 0 0) = false from by decide]
    dsimp only [cond]
    refine fe_s 1 (pc' := 28) (lc' := [(2, .int (nI (3376 + (6 * NC)))), (0, .ref 0), (1, .int 1)]) (stk' := [.int 0]) (mem' := fm gn1 tp bt a bn1) (by intro _ _ _; eq_refl) ?_
    exact fe_ret ⟨_, _, _, _, _, _, _, _, gon1, bNn1, hN, Or.inl ⟨rfl, hzn1⟩, rfl⟩ (by rfl) (by rfl) (by rfl)
  · have e18n1 : gn1 18 = g 18 := hen1.trans rfl
    have prn1 : gn1 12 = 0 ∨ E < En1 := hpn1.imp id (fun z => by have := (fm_gx_rf hxp hfl).2.2.2; omega)
    have bNn1 : ∀ t, t ≠ 2 → bn1 t = b t := fun t ht => (congrFun hbn1 t).trans ((fm_uL_t ht).trans ((fun _ _ => rfl) t ht))
    have hcn1 : NC < 10 := by have := hN.2.2.1.2.1; have := hN.2.2.1.2.2.2; omega
    refine fe_s 1 (pc' := cond (fx_cb .ne 1 0) 29 27) (lc' := [(2, .int (nI (3376 + (6 * NC)))), (0, .ref 0), (1, .int 1)]) (stk' := []) (mem' := fm gn1 tp bt a bn1) (by intro _ _ _; eq_refl) ?_
    rw [show (fx_cb .ne 1 0) = true from by decide]
    dsimp only [cond]
    refine fe_s 4 (pc' := 35) (lc' := [(2, .int (nI (3376 + (6 * NC)))), (0, .ref 0), (1, .int 1)]) (stk' := [.int 1, .int (nI (3376 + (6 * NC))), .ref 1]) (mem' := fm gn1 tp bt a bn1) (by intro _ _ _; eq_refl) ?_
    refine fe_s 1 (pc' := cond (fx_cb .eq 1 0) 42 38) (lc' := [(2, .int (nI (3376 + (6 * NC)))), (0, .ref 0), (1, .int 1)]) (stk' := [.int (nI (3376 + (6 * NC))), .ref 1]) (mem' := fm gn1 tp bt a bn1) (by intro _ _ _; eq_refl) ?_
    rw [show (fx_cb .eq 1 0) = false from by decide]
    dsimp only [cond]
    refine fe_s 2 (pc' := 43) (lc' := [(2, .int (nI (3376 + (6 * NC)))), (0, .ref 0), (1, .int 1)]) (stk' := [.int 1, .int (nI (3376 + (6 * NC))), .ref 1]) (mem' := fm gn1 tp bt a bn1) (by intro _ _ _; eq_refl) ?_
    refine fe_stI (mem' := fm gn1 tp bt (fm_u a 1 (nI (3376 + (6 * NC)) : Int32).toNatClampNeg 1) bn1) (by rfl) (by rfl) (fx_inN (i := 3376 + (6 * NC)) (by omega) (by omega)) fm_si1 ?_
    rw [show Int32.toNatClampNeg (nI (3376 + (6 * NC))) = 3376 + (6 * NC) from nI_clamp (by omega)]
    obtain ⟨at2, hat2⟩ : ∃ z, z = fm_u a 1 (3376 + (6 * NC)) 1 := ⟨_, rfl⟩
    rw [← hat2]
    have hNt2 : fm_N a0 at2 NC NW := by rw [hat2]; exact fm_N_u hN (by omega) (by omega) (fun c hc => by omega) (fm_bdI (show gm_at (3376 + (6 * NC)) = (0, 1) from by rw [show 3376 + (6 * NC) = 3376 + 6 * NC by omega]; exact gm_at_c0 NC (by omega)) (by decide) (by decide))
    have hWt2 : fm_NW at2 := by rw [hat2]; exact fm_NW_u hW (Or.inr (fun w hw => by omega))
    refine fe_s 1 (pc' := 45) (lc' := [(2, .int (nI (3376 + (6 * NC)))), (0, .ref 0), (1, .int 1)]) (stk' := [.int 1]) (mem' := fm gn1 tp bt at2 bn1) (by intro _ _ _; eq_refl) ?_
    refine fe_s 1 (pc' := cond (fx_cb .ne 1 0) 75 48) (lc' := [(2, .int (nI (3376 + (6 * NC)))), (0, .ref 0), (1, .int 1)]) (stk' := []) (mem' := fm gn1 tp bt at2 bn1) (by intro _ _ _; eq_refl) ?_
    rw [show (fx_cb .ne 1 0) = true from by decide]
    dsimp only [cond]
    refine fe_s 4 (pc' := 83) (lc' := [(2, .int (nI (3376 + (6 * NC)))), (0, .ref 0), (1, .int 1)]) (stk' := [.int 3368, .ref 1, .int 3368, .ref 1]) (mem' := fm gn1 tp bt at2 bn1) (by intro _ _ _; eq_refl) ?_
    refine fe_ldI (by rfl) (by rfl) (fx_inN (i := 3368) (by omega) (by omega)) ?_
    rw [show Int32.toNatClampNeg (3368) = 3368 from rfl]
    rw [hNt2.2.2.1.1]
    refine fe_s 2 (pc' := 86) (lc' := [(2, .int (nI (3376 + (6 * NC)))), (0, .ref 0), (1, .int 1)]) (stk' := [.int ((nI NC) + 1), .int 3368, .ref 1]) (mem' := fm gn1 tp bt at2 bn1) (by intro _ _ _; eq_refl) ?_
    rw [show ((nI NC) + 1 : Int32) = nI (NC + 1) from by simp only [show (1 : Int32) = nI 1 from rfl, nI_add, fm_mul]]
    refine fe_stI (mem' := fm gn1 tp bt (fm_u at2 1 (3368 : Int32).toNatClampNeg (nI (NC + 1))) bn1) (by rfl) (by rfl) (fx_inN (i := 3368) (by omega) (by omega)) fm_si1 ?_
    rw [show Int32.toNatClampNeg (3368) = 3368 from rfl]
    obtain ⟨at3, hat3⟩ : ∃ z, z = fm_u at2 1 (3368) (nI (NC + 1)) := ⟨_, rfl⟩
    rw [← hat3]
    have hNt3 : fm_N a0 at3 (NC + 1) NW := by rw [hat3]; exact fm_N_nc hNt2 (by omega)
    have hWt3 : fm_NW at3 := by rw [hat3]; exact fm_NW_u hWt2 (Or.inr (fun w hw => by omega))
    refine fe_s 1 (pc' := 88) (lc' := [(2, .int (nI (3376 + (6 * NC)))), (0, .ref 0), (1, .int 1)]) (stk' := [.int 1]) (mem' := fm gn1 tp bt at3 bn1) (by intro _ _ _; eq_refl) ?_
    exact fe_ret ⟨_, _, _, _, _, _, _, _, gon1, bNn1, hNt3, Or.inr ⟨rfl, e18n1, prn1, hWt3⟩, rfl⟩ (by rfl) (by rfl) (by rfl)
set_option maxHeartbeats 8000000 in
theorem fr_aCouple2 {S E F NC NW : Nat} (hxp : fm_xp g S E F) (hfl : fm_flt g) (hN : fm_N a0 a NC NW) (hW : fm_NW a) : ∃ (v : Option Value) (mem' : fx_M), (fm_GL a0 g tp bt b S E) (v, mem') ∧ fr_T 8 242 [.ref 0, .int 2] (fm g tp bt a b) v mem' := by
  have hNC := hN.2.2.1.2.1
  have hNW := hN.2.2.1.2.2.2
  refine fe_meth (F := fm_GL a0 g tp bt b S E) (M := gk_m242) (by rfl) (by rfl) ?_
  refine fe_s 3 (pc' := 5) (lc' := [(2, .int 4206), (0, .ref 0), (1, .int 2)]) (stk' := [.ref 0]) (mem' := fm g tp bt a b) (by intro _ _ _; eq_refl) ?_
  obtain ⟨gk1, Ek1, Fk1, hfrk1, hok1, hek1, hpk1⟩ := fr_aheadq (g := g) (tp := tp) (bt := bt) (a := a) (b := b) (fm_gx_rf hxp hfl).2.1 (fm_gx_rf hxp hfl).2.2.1
  have gok1 := fm_gx_tr (fm_gx_rf hxp hfl) hok1
  have e18k1 : gk1 18 = g 18 := hek1.trans rfl
  have prk1 : gk1 12 = 0 ∨ E < Ek1 := hpk1.imp id (fun z => by have := (fm_gx_rf hxp hfl).2.2.2; omega)
  refine fe_ivV hfrk1 (by omega) (by rfl) (by rfl) (by rfl) (by rfl) (by rfl) (by rfl) ?_
  refine fe_s 1 (pc' := 9) (lc' := [(2, .int 4206), (0, .ref 0), (1, .int 2)]) (stk' := [.ref 0]) (mem' := fm gk1 tp bt a b) (by intro _ _ _; eq_refl) ?_
  obtain ⟨vh2, memh2, ⟨qh2, xh2, hqh2, hvh2, hRh2⟩, hfrh2⟩ := fr_cellHere (g := gk1) (tp := tp) (bt := bt) (a := a) (b := b) gok1.2.1 hN.2.2.1
  cases hRh2
  refine fe_ivV hfrh2 (by omega) (by rfl) (by rfl) (by rfl) (by rfl) (by rfl) (by rfl) ?_
  rcases fm_ch hvh2 with ⟨rfl, hmh2⟩ | ⟨kh2, hkh2, rfl⟩
  · refine fe_s 3 (pc' := 15) (lc' := [(3, .int (-1)), (2, .int 4206), (0, .ref 0), (1, .int 2)]) (stk' := [.int 3, .int 2]) (mem' := fm gk1 tp bt a b) (by intro _ _ _; eq_refl) ?_
    refine fe_s 1 (pc' := cond (fx_cb .ne 2 3) 37 18) (lc' := [(3, .int (-1)), (2, .int 4206), (0, .ref 0), (1, .int 2)]) (stk' := []) (mem' := fm gk1 tp bt a b) (by intro _ _ _; eq_refl) ?_
    rw [show (fx_cb .ne 2 3) = true from by decide]
    dsimp only [cond]
    refine fe_s 5 (pc' := 47) (lc' := [(3, .int (-1)), (2, .int 4206), (0, .ref 0), (1, .int 2)]) (stk' := [.int 3368, .ref 1, .int 72, .ref 0]) (mem' := fm gk1 tp bt a b) (by intro _ _ _; eq_refl) ?_
    refine fe_ldI (by rfl) (by rfl) (fx_inN (i := 3368) (by omega) (by omega)) ?_
    rw [show Int32.toNatClampNeg (3368) = 3368 from rfl]
    rw [hN.2.2.1.1]
    refine fe_s 1 (pc' := 49) (lc' := [(3, .int (-1)), (2, .int 4206), (0, .ref 0), (1, .int 2)]) (stk' := [.int 4206, .int (nI NC), .int 72, .ref 0]) (mem' := fm gk1 tp bt a b) (by intro _ _ _; eq_refl) ?_
    obtain ⟨xo3, go3, Eo3, Fo3, ao3, hfro3, hoo3, hvo3⟩ := fr_oldOneq (T := 4206) (base := 72) (many := NC) (g := gk1) (tp := tp) (bt := bt) (a := a) (b := b) (by omega) (by have := hN.2.2.1.2.1; omega) gok1.2.1 gok1.2.2.1
    have goo3 := fm_gx_tr gok1 hoo3
    refine fe_ivV hfro3 (by omega) (by rfl) (by rfl) (by rfl) (by rfl) (by rfl) (by rfl) ?_
    rcases hvo3 with ⟨rfl, hzo3, hao3⟩ | ⟨rfl, heo3, hpo3, hso3, ko3, hko3, hio3, hao3⟩
    · have hNo3 : fm_N a0 ao3 NC NW := by
        rcases hao3 with e | ⟨y, hy, e⟩
        · rw [e]; exact hN
        · rw [e, hy]; exact fm_N_u hN (by omega) (by omega) (fun c hc => by omega) (fm_bdI (show gm_at 4206 = (-1, 9) from rfl) (by decide) (by decide))
      refine fe_s 1 (pc' := cond (fx_cb .ne 0 0) 57 55) (lc' := [(3, .int (-1)), (2, .int 4206), (0, .ref 0), (1, .int 2)]) (stk' := []) (mem' := fm go3 tp bt ao3 b) (by intro _ _ _; eq_refl) ?_
      rw [show (fx_cb .ne 0 0) = false from by decide]
      dsimp only [cond]
      refine fe_s 1 (pc' := 56) (lc' := [(3, .int (-1)), (2, .int 4206), (0, .ref 0), (1, .int 2)]) (stk' := [.int 0]) (mem' := fm go3 tp bt ao3 b) (by intro _ _ _; eq_refl) ?_
      exact fe_ret ⟨_, _, _, _, _, _, _, _, goo3, (fun _ _ => rfl), hNo3, Or.inl ⟨rfl, hzo3⟩, rfl⟩ (by rfl) (by rfl) (by rfl)
    · exact absurd (fm_chx hmh2 (fr_det hqh2 hso3).1 (by have := hN.2.2.1.2.1; omega) hio3) id
  · have hk9h2 : kh2 < 10 := by have := hN.2.2.1.2.1; omega
    refine fe_s 3 (pc' := 15) (lc' := [(3, .int (nI kh2)), (2, .int 4206), (0, .ref 0), (1, .int 2)]) (stk' := [.int 3, .int 2]) (mem' := fm gk1 tp bt a b) (by intro _ _ _; eq_refl) ?_
    refine fe_s 1 (pc' := cond (fx_cb .ne 2 3) 37 18) (lc' := [(3, .int (nI kh2)), (2, .int 4206), (0, .ref 0), (1, .int 2)]) (stk' := []) (mem' := fm gk1 tp bt a b) (by intro _ _ _; eq_refl) ?_
    rw [show (fx_cb .ne 2 3) = true from by decide]
    dsimp only [cond]
    refine fe_s 5 (pc' := 47) (lc' := [(3, .int (nI kh2)), (2, .int 4206), (0, .ref 0), (1, .int 2)]) (stk' := [.int 3368, .ref 1, .int 72, .ref 0]) (mem' := fm gk1 tp bt a b) (by intro _ _ _; eq_refl) ?_
    refine fe_ldI (by rfl) (by rfl) (fx_inN (i := 3368) (by omega) (by omega)) ?_
    rw [show Int32.toNatClampNeg (3368) = 3368 from rfl]
    rw [hN.2.2.1.1]
    refine fe_s 1 (pc' := 49) (lc' := [(3, .int (nI kh2)), (2, .int 4206), (0, .ref 0), (1, .int 2)]) (stk' := [.int 4206, .int (nI NC), .int 72, .ref 0]) (mem' := fm gk1 tp bt a b) (by intro _ _ _; eq_refl) ?_
    obtain ⟨xo4, go4, Eo4, Fo4, ao4, hfro4, hoo4, hvo4⟩ := fr_oldOneq (T := 4206) (base := 72) (many := NC) (g := gk1) (tp := tp) (bt := bt) (a := a) (b := b) (by omega) (by have := hN.2.2.1.2.1; omega) gok1.2.1 gok1.2.2.1
    have goo4 := fm_gx_tr gok1 hoo4
    refine fe_ivV hfro4 (by omega) (by rfl) (by rfl) (by rfl) (by rfl) (by rfl) (by rfl) ?_
    rcases hvo4 with ⟨rfl, hzo4, hao4⟩ | ⟨rfl, heo4, hpo4, hso4, ko4, hko4, hio4, hao4⟩
    · have hNo4 : fm_N a0 ao4 NC NW := by
        rcases hao4 with e | ⟨y, hy, e⟩
        · rw [e]; exact hN
        · rw [e, hy]; exact fm_N_u hN (by omega) (by omega) (fun c hc => by omega) (fm_bdI (show gm_at 4206 = (-1, 9) from rfl) (by decide) (by decide))
      refine fe_s 1 (pc' := cond (fx_cb .ne 0 0) 57 55) (lc' := [(3, .int (nI kh2)), (2, .int 4206), (0, .ref 0), (1, .int 2)]) (stk' := []) (mem' := fm go4 tp bt ao4 b) (by intro _ _ _; eq_refl) ?_
      rw [show (fx_cb .ne 0 0) = false from by decide]
      dsimp only [cond]
      refine fe_s 1 (pc' := 56) (lc' := [(3, .int (nI kh2)), (2, .int 4206), (0, .ref 0), (1, .int 2)]) (stk' := [.int 0]) (mem' := fm go4 tp bt ao4 b) (by intro _ _ _; eq_refl) ?_
      exact fe_ret ⟨_, _, _, _, _, _, _, _, goo4, (fun _ _ => rfl), hNo4, Or.inl ⟨rfl, hzo4⟩, rfl⟩ (by rfl) (by rfl) (by rfl)
    · have e18o4 : go4 18 = g 18 := heo4.trans e18k1
      have pro4 : go4 12 = 0 ∨ E < Eo4 := hpo4.imp id (fun z => by have := gok1.2.2.2; omega)
      have hk9o4 : ko4 < 10 := by have := hN.2.2.1.2.1; omega
      have hNo4 : fm_N a0 ao4 NC NW := by rw [hao4]; exact fm_N_u hN (by omega) (by omega) (fun c hc => by omega) (fm_bdI (show gm_at 4206 = (-1, 9) from rfl) (by rw [nI_i32 (by omega)]; omega) (by rw [nI_i32 (by omega)]; omega))
      have hWo4 : fm_NW ao4 := by rw [hao4]; exact fm_NW_u hW (Or.inr (fun w hw => by omega))
      refine fe_s 1 (pc' := cond (fx_cb .ne 1 0) 57 55) (lc' := [(3, .int (nI kh2)), (2, .int 4206), (0, .ref 0), (1, .int 2)]) (stk' := []) (mem' := fm go4 tp bt ao4 b) (by intro _ _ _; eq_refl) ?_
      rw [show (fx_cb .ne 1 0) = true from by decide]
      dsimp only [cond]
      refine fe_s 1 (pc' := 58) (lc' := [(3, .int (nI kh2)), (2, .int 4206), (0, .ref 0), (1, .int 2)]) (stk' := [.ref 0]) (mem' := fm go4 tp bt ao4 b) (by intro _ _ _; eq_refl) ?_
      obtain ⟨vh5, memh5, ⟨qh5, xh5, hqh5, hvh5, hRh5⟩, hfrh5⟩ := fr_cellHere (g := go4) (tp := tp) (bt := bt) (a := ao4) (b := b) goo4.2.1 hNo4.2.2.1
      cases hRh5
      refine fe_ivV hfrh5 (by omega) (by rfl) (by rfl) (by rfl) (by rfl) (by rfl) (by rfl) ?_
      rcases fm_ch hvh5 with ⟨rfl, hmh5⟩ | ⟨kh5, hkh5, rfl⟩
      · refine fe_s 3 (pc' := 66) (lc' := [(4, .int (-1)), (3, .int (nI kh2)), (2, .int 4206), (0, .ref 0), (1, .int 2)]) (stk' := [.int (-1), .int (-1)]) (mem' := fm go4 tp bt ao4 b) (by intro _ _ _; eq_refl) ?_
        refine fe_s 1 (pc' := cond (fx_cb .eq (-1) (-1)) 95 69) (lc' := [(4, .int (-1)), (3, .int (nI kh2)), (2, .int 4206), (0, .ref 0), (1, .int 2)]) (stk' := []) (mem' := fm go4 tp bt ao4 b) (by intro _ _ _; eq_refl) ?_
        rw [show (fx_cb .eq (-1) (-1)) = true from by decide]
        dsimp only [cond]
        refine fe_s 5 (pc' := 105) (lc' := [(4, .int (-1)), (3, .int (nI kh2)), (2, .int 4206), (0, .ref 0), (1, .int 2)]) (stk' := [.int 3368, .ref 1, .int 72, .ref 0]) (mem' := fm go4 tp bt ao4 b) (by intro _ _ _; eq_refl) ?_
        refine fe_ldI (by rfl) (by rfl) (fx_inN (i := 3368) (by omega) (by omega)) ?_
        rw [show Int32.toNatClampNeg (3368) = 3368 from rfl]
        rw [hNo4.2.2.1.1]
        refine fe_s 3 (pc' := 109) (lc' := [(4, .int (-1)), (3, .int (nI kh2)), (2, .int 4206), (0, .ref 0), (1, .int 2)]) (stk' := [.int (4206 + 1), .int (nI NC), .int 72, .ref 0]) (mem' := fm go4 tp bt ao4 b) (by intro _ _ _; eq_refl) ?_
        rw [show (4206 + 1 : Int32) = 4207 from rfl]
        obtain ⟨xo6, go6, Eo6, Fo6, ao6, hfro6, hoo6, hvo6⟩ := fr_oldOneq (T := 4207) (base := 72) (many := NC) (g := go4) (tp := tp) (bt := bt) (a := ao4) (b := b) (by omega) (by have := hNo4.2.2.1.2.1; omega) goo4.2.1 goo4.2.2.1
        have goo6 := fm_gx_tr goo4 hoo6
        refine fe_ivV hfro6 (by omega) (by rfl) (by rfl) (by rfl) (by rfl) (by rfl) (by rfl) ?_
        rcases hvo6 with ⟨rfl, hzo6, hao6⟩ | ⟨rfl, heo6, hpo6, hso6, ko6, hko6, hio6, hao6⟩
        · have hNo6 : fm_N a0 ao6 NC NW := by
            rcases hao6 with e | ⟨y, hy, e⟩
            · rw [e]; exact hNo4
            · rw [e, hy]; exact fm_N_u hNo4 (by omega) (by omega) (fun c hc => by omega) (fm_bdI (show gm_at 4207 = (-1, 9) from rfl) (by decide) (by decide))
          refine fe_s 1 (pc' := cond (fx_cb .ne 0 0) 117 115) (lc' := [(4, .int (-1)), (3, .int (nI kh2)), (2, .int 4206), (0, .ref 0), (1, .int 2)]) (stk' := []) (mem' := fm go6 tp bt ao6 b) (by intro _ _ _; eq_refl) ?_
          rw [show (fx_cb .ne 0 0) = false from by decide]
          dsimp only [cond]
          refine fe_s 1 (pc' := 116) (lc' := [(4, .int (-1)), (3, .int (nI kh2)), (2, .int 4206), (0, .ref 0), (1, .int 2)]) (stk' := [.int 0]) (mem' := fm go6 tp bt ao6 b) (by intro _ _ _; eq_refl) ?_
          exact fe_ret ⟨_, _, _, _, _, _, _, _, goo6, (fun _ _ => rfl), hNo6, Or.inl ⟨rfl, hzo6⟩, rfl⟩ (by rfl) (by rfl) (by rfl)
        · exact absurd (fm_chx hmh5 (fr_det hqh5 hso6).1 (by have := hNo4.2.2.1.2.1; omega) hio6) id
      · have hk9h5 : kh5 < 10 := by have := hNo4.2.2.1.2.1; omega
        refine fe_s 3 (pc' := 66) (lc' := [(4, .int (nI kh5)), (3, .int (nI kh2)), (2, .int 4206), (0, .ref 0), (1, .int 2)]) (stk' := [.int (-1), .int (nI kh5)]) (mem' := fm go4 tp bt ao4 b) (by intro _ _ _; eq_refl) ?_
        refine fe_s 1 (pc' := cond (fx_cb .eq (nI kh5) (-1)) 95 69) (lc' := [(4, .int (nI kh5)), (3, .int (nI kh2)), (2, .int 4206), (0, .ref 0), (1, .int 2)]) (stk' := []) (mem' := fm go4 tp bt ao4 b) (by intro _ _ _; eq_refl) ?_
        rw [show (fx_cb .eq (nI kh5) (-1)) = false from cb_n_eq (by omega) (by decide)]
        dsimp only [cond]
        refine fe_s 2 (pc' := 72) (lc' := [(4, .int (nI kh5)), (3, .int (nI kh2)), (2, .int 4206), (0, .ref 0), (1, .int 2)]) (stk' := [.int (nI kh2), .int (nI kh5)]) (mem' := fm go4 tp bt ao4 b) (by intro _ _ _; eq_refl) ?_
        refine fe_s 1 (pc' := cond (fx_cb .eq (nI kh5) (nI kh2)) 89 75) (lc' := [(4, .int (nI kh5)), (3, .int (nI kh2)), (2, .int 4206), (0, .ref 0), (1, .int 2)]) (stk' := []) (mem' := fm go4 tp bt ao4 b) (by intro _ _ _; eq_refl) ?_
        by_cases h7 : kh5 = kh2
        · rw [show (fx_cb .eq (nI kh5) (nI kh2)) = true from cb_eqT (a := kh5) (b := kh2) (by omega) (by omega) (by omega)]
          dsimp only [cond]
          refine fe_s 2 (pc' := 91) (lc' := [(4, .int (nI kh5)), (3, .int (nI kh2)), (2, .int 4206), (0, .ref 0), (1, .int 2)]) (stk' := [.int 5, .ref 0]) (mem' := fm go4 tp bt ao4 b) (by intro _ _ _; eq_refl) ?_
          obtain ⟨gf8, hfrf8, hof8, hzf8⟩ := fr_failsq (x := 5) (g := go4) (tp := tp) (bt := bt) (a := ao4) (b := b) (by omega) (by omega) goo4.2.1 goo4.2.2.1
          have gof8 := fm_gx_tr goo4 hof8
          refine fe_ivV hfrf8 (by omega) (by rfl) (by rfl) (by rfl) (by rfl) (by rfl) (by rfl) ?_
          exact fe_ret ⟨_, _, _, _, _, _, _, _, gof8, (fun _ _ => rfl), hNo4, Or.inl ⟨rfl, hzf8⟩, rfl⟩ (by rfl) (by rfl) (by rfl)
        · rw [show (fx_cb .eq (nI kh5) (nI kh2)) = false from cb_eqF (a := kh5) (b := kh2) (by omega) (by omega) (by omega)]
          dsimp only [cond]
          refine fe_s 2 (pc' := 77) (lc' := [(4, .int (nI kh5)), (3, .int (nI kh2)), (2, .int 4206), (0, .ref 0), (1, .int 2)]) (stk' := [.int 3, .int 2]) (mem' := fm go4 tp bt ao4 b) (by intro _ _ _; eq_refl) ?_
          refine fe_s 1 (pc' := cond (fx_cb .ne 2 3) 95 80) (lc' := [(4, .int (nI kh5)), (3, .int (nI kh2)), (2, .int 4206), (0, .ref 0), (1, .int 2)]) (stk' := []) (mem' := fm go4 tp bt ao4 b) (by intro _ _ _; eq_refl) ?_
          rw [show (fx_cb .ne 2 3) = true from by decide]
          dsimp only [cond]
          refine fe_s 5 (pc' := 105) (lc' := [(4, .int (nI kh5)), (3, .int (nI kh2)), (2, .int 4206), (0, .ref 0), (1, .int 2)]) (stk' := [.int 3368, .ref 1, .int 72, .ref 0]) (mem' := fm go4 tp bt ao4 b) (by intro _ _ _; eq_refl) ?_
          refine fe_ldI (by rfl) (by rfl) (fx_inN (i := 3368) (by omega) (by omega)) ?_
          rw [show Int32.toNatClampNeg (3368) = 3368 from rfl]
          rw [hNo4.2.2.1.1]
          refine fe_s 3 (pc' := 109) (lc' := [(4, .int (nI kh5)), (3, .int (nI kh2)), (2, .int 4206), (0, .ref 0), (1, .int 2)]) (stk' := [.int (4206 + 1), .int (nI NC), .int 72, .ref 0]) (mem' := fm go4 tp bt ao4 b) (by intro _ _ _; eq_refl) ?_
          rw [show (4206 + 1 : Int32) = 4207 from rfl]
          obtain ⟨xo9, go9, Eo9, Fo9, ao9, hfro9, hoo9, hvo9⟩ := fr_oldOneq (T := 4207) (base := 72) (many := NC) (g := go4) (tp := tp) (bt := bt) (a := ao4) (b := b) (by omega) (by have := hNo4.2.2.1.2.1; omega) goo4.2.1 goo4.2.2.1
          have goo9 := fm_gx_tr goo4 hoo9
          refine fe_ivV hfro9 (by omega) (by rfl) (by rfl) (by rfl) (by rfl) (by rfl) (by rfl) ?_
          rcases hvo9 with ⟨rfl, hzo9, hao9⟩ | ⟨rfl, heo9, hpo9, hso9, ko9, hko9, hio9, hao9⟩
          · have hNo9 : fm_N a0 ao9 NC NW := by
              rcases hao9 with e | ⟨y, hy, e⟩
              · rw [e]; exact hNo4
              · rw [e, hy]; exact fm_N_u hNo4 (by omega) (by omega) (fun c hc => by omega) (fm_bdI (show gm_at 4207 = (-1, 9) from rfl) (by decide) (by decide))
            refine fe_s 1 (pc' := cond (fx_cb .ne 0 0) 117 115) (lc' := [(4, .int (nI kh5)), (3, .int (nI kh2)), (2, .int 4206), (0, .ref 0), (1, .int 2)]) (stk' := []) (mem' := fm go9 tp bt ao9 b) (by intro _ _ _; eq_refl) ?_
            rw [show (fx_cb .ne 0 0) = false from by decide]
            dsimp only [cond]
            refine fe_s 1 (pc' := 116) (lc' := [(4, .int (nI kh5)), (3, .int (nI kh2)), (2, .int 4206), (0, .ref 0), (1, .int 2)]) (stk' := [.int 0]) (mem' := fm go9 tp bt ao9 b) (by intro _ _ _; eq_refl) ?_
            exact fe_ret ⟨_, _, _, _, _, _, _, _, goo9, (fun _ _ => rfl), hNo9, Or.inl ⟨rfl, hzo9⟩, rfl⟩ (by rfl) (by rfl) (by rfl)
          · have e18o9 : go9 18 = g 18 := heo9.trans e18o4
            have pro9 : go9 12 = 0 ∨ E < Eo9 := hpo9.imp id (fun z => by have := goo4.2.2.2; omega)
            have hk9o9 : ko9 < 10 := by have := hNo4.2.2.1.2.1; omega
            have hNo9 : fm_N a0 ao9 NC NW := by rw [hao9]; exact fm_N_u hNo4 (by omega) (by omega) (fun c hc => by omega) (fm_bdI (show gm_at 4207 = (-1, 9) from rfl) (by rw [nI_i32 (by omega)]; omega) (by rw [nI_i32 (by omega)]; omega))
            have hWo9 : fm_NW ao9 := by rw [hao9]; exact fm_NW_u hWo4 (Or.inr (fun w hw => by omega))
            refine fe_s 1 (pc' := cond (fx_cb .ne 1 0) 117 115) (lc' := [(4, .int (nI kh5)), (3, .int (nI kh2)), (2, .int 4206), (0, .ref 0), (1, .int 2)]) (stk' := []) (mem' := fm go9 tp bt ao9 b) (by intro _ _ _; eq_refl) ?_
            rw [show (fx_cb .ne 1 0) = true from by decide]
            dsimp only [cond]
            refine fe_s 10 (pc' := 132) (lc' := [(4, .int (nI kh5)), (3, .int (nI kh2)), (2, .int 4206), (0, .ref 0), (1, .int 2)]) (stk' := [.int ((3376 + (6 * (nI kh2))) + 2), .ref 1, .int ((3376 + (6 * (nI kh2))) + 2), .ref 1]) (mem' := fm go9 tp bt ao9 b) (by intro _ _ _; eq_refl) ?_
            rw [show ((3376 + (6 * (nI kh2))) + 2 : Int32) = nI ((3376 + (6 * kh2)) + 2) from by simp only [show (3376 : Int32) = nI 3376 from rfl, show (6 : Int32) = nI 6 from rfl, show (2 : Int32) = nI 2 from rfl, nI_add, fm_mul]]
            refine fe_ldI (by rfl) (by rfl) (fx_inN (i := (3376 + (6 * kh2)) + 2) (by omega) (by omega)) ?_
            rw [show Int32.toNatClampNeg (nI ((3376 + (6 * kh2)) + 2)) = (3376 + (6 * kh2)) + 2 from nI_clamp (by omega)]
            refine fe_s 4 (pc' := 138) (lc' := [(4, .int (nI kh5)), (3, .int (nI kh2)), (2, .int 4206), (0, .ref 0), (1, .int 2)]) (stk' := [.int ((ao9 1 ((3376 + (6 * kh2)) + 2)) ||| ((1 : Int32) <<< ((nI kh5) &&& 31))), .int (nI ((3376 + (6 * kh2)) + 2)), .ref 1]) (mem' := fm go9 tp bt ao9 b) (by intro _ _ _; eq_refl) ?_
            refine fe_stI (mem' := fm go9 tp bt (fm_u ao9 1 (nI ((3376 + (6 * kh2)) + 2) : Int32).toNatClampNeg ((ao9 1 ((3376 + (6 * kh2)) + 2)) ||| ((1 : Int32) <<< ((nI kh5) &&& 31)))) b) (by rfl) (by rfl) (fx_inN (i := (3376 + (6 * kh2)) + 2) (by omega) (by omega)) fm_si1 ?_
            rw [show Int32.toNatClampNeg (nI ((3376 + (6 * kh2)) + 2)) = (3376 + (6 * kh2)) + 2 from nI_clamp (by omega)]
            refine fe_s 10 (pc' := 155) (lc' := [(4, .int (nI kh5)), (3, .int (nI kh2)), (2, .int 4206), (0, .ref 0), (1, .int 2)]) (stk' := [.int ((3376 + (6 * (nI kh5))) + 2), .ref 1, .int ((3376 + (6 * (nI kh5))) + 2), .ref 1]) (mem' := fm go9 tp bt (fm_u ao9 1 ((3376 + (6 * kh2)) + 2) ((ao9 1 ((3376 + (6 * kh2)) + 2)) ||| ((1 : Int32) <<< ((nI kh5) &&& 31)))) b) (by intro _ _ _; eq_refl) ?_
            rw [show ((3376 + (6 * (nI kh5))) + 2 : Int32) = nI ((3376 + (6 * kh5)) + 2) from by simp only [show (3376 : Int32) = nI 3376 from rfl, show (6 : Int32) = nI 6 from rfl, show (2 : Int32) = nI 2 from rfl, nI_add, fm_mul]]
            refine fe_ldI (by rfl) (by rfl) (fx_inN (i := (3376 + (6 * kh5)) + 2) (by omega) (by omega)) ?_
            rw [show Int32.toNatClampNeg (nI ((3376 + (6 * kh5)) + 2)) = (3376 + (6 * kh5)) + 2 from nI_clamp (by omega)]
            refine fe_s 4 (pc' := 160) (lc' := [(4, .int (nI kh5)), (3, .int (nI kh2)), (2, .int 4206), (0, .ref 0), (1, .int 2)]) (stk' := [.int (((fm_u ao9 1 ((3376 + (6 * kh2)) + 2) ((ao9 1 ((3376 + (6 * kh2)) + 2)) ||| ((1 : Int32) <<< ((nI kh5) &&& 31)))) 1 ((3376 + (6 * kh5)) + 2)) ||| ((1 : Int32) <<< ((nI kh2) &&& 31))), .int (nI ((3376 + (6 * kh5)) + 2)), .ref 1]) (mem' := fm go9 tp bt (fm_u ao9 1 ((3376 + (6 * kh2)) + 2) ((ao9 1 ((3376 + (6 * kh2)) + 2)) ||| ((1 : Int32) <<< ((nI kh5) &&& 31)))) b) (by intro _ _ _; eq_refl) ?_
            refine fe_stI (mem' := fm go9 tp bt (fm_u (fm_u ao9 1 ((3376 + (6 * kh2)) + 2) ((ao9 1 ((3376 + (6 * kh2)) + 2)) ||| ((1 : Int32) <<< ((nI kh5) &&& 31)))) 1 (nI ((3376 + (6 * kh5)) + 2) : Int32).toNatClampNeg (((fm_u ao9 1 ((3376 + (6 * kh2)) + 2) ((ao9 1 ((3376 + (6 * kh2)) + 2)) ||| ((1 : Int32) <<< ((nI kh5) &&& 31)))) 1 ((3376 + (6 * kh5)) + 2)) ||| ((1 : Int32) <<< ((nI kh2) &&& 31)))) b) (by rfl) (by rfl) (fx_inN (i := (3376 + (6 * kh5)) + 2) (by omega) (by omega)) fm_si1 ?_
            rw [show Int32.toNatClampNeg (nI ((3376 + (6 * kh5)) + 2)) = (3376 + (6 * kh5)) + 2 from nI_clamp (by omega)]
            have hNt11 : fm_N a0 (fm_u (fm_u ao9 1 ((3376 + (6 * kh2)) + 2) ((ao9 1 ((3376 + (6 * kh2)) + 2)) ||| ((1 : Int32) <<< ((nI kh5) &&& 31)))) 1 ((3376 + (6 * kh5)) + 2) (((fm_u ao9 1 ((3376 + (6 * kh2)) + 2) ((ao9 1 ((3376 + (6 * kh2)) + 2)) ||| ((1 : Int32) <<< ((nI kh5) &&& 31)))) 1 ((3376 + (6 * kh5)) + 2)) ||| ((1 : Int32) <<< ((nI kh2) &&& 31)))) NC NW := by rw [show (3376 + (6 * kh2)) + 2 = 3378 + 6 * kh2 by omega, show (3376 + (6 * kh5)) + 2 = 3378 + 6 * kh5 by omega]; exact fm_N_c2 hNo9 (by omega) (by omega)
            have hWt11 : fm_NW (fm_u (fm_u ao9 1 ((3376 + (6 * kh2)) + 2) ((ao9 1 ((3376 + (6 * kh2)) + 2)) ||| ((1 : Int32) <<< ((nI kh5) &&& 31)))) 1 ((3376 + (6 * kh5)) + 2) (((fm_u ao9 1 ((3376 + (6 * kh2)) + 2) ((ao9 1 ((3376 + (6 * kh2)) + 2)) ||| ((1 : Int32) <<< ((nI kh5) &&& 31)))) 1 ((3376 + (6 * kh5)) + 2)) ||| ((1 : Int32) <<< ((nI kh2) &&& 31)))) := fm_NW_u (fm_NW_u hWo9 (Or.inr (fun w hw => by omega))) (Or.inr (fun w hw => by omega))
            refine fe_s 1 (pc' := 162) (lc' := [(4, .int (nI kh5)), (3, .int (nI kh2)), (2, .int 4206), (0, .ref 0), (1, .int 2)]) (stk' := [.int 1]) (mem' := fm go9 tp bt (fm_u (fm_u ao9 1 ((3376 + (6 * kh2)) + 2) ((ao9 1 ((3376 + (6 * kh2)) + 2)) ||| ((1 : Int32) <<< ((nI kh5) &&& 31)))) 1 ((3376 + (6 * kh5)) + 2) (((fm_u ao9 1 ((3376 + (6 * kh2)) + 2) ((ao9 1 ((3376 + (6 * kh2)) + 2)) ||| ((1 : Int32) <<< ((nI kh5) &&& 31)))) 1 ((3376 + (6 * kh5)) + 2)) ||| ((1 : Int32) <<< ((nI kh2) &&& 31)))) b) (by intro _ _ _; eq_refl) ?_
            exact fe_ret ⟨_, _, _, _, _, _, _, _, goo9, (fun _ _ => rfl), hNt11, Or.inr ⟨rfl, e18o9, pro9, hWt11⟩, rfl⟩ (by rfl) (by rfl) (by rfl)
set_option maxHeartbeats 8000000 in
theorem fr_aCouple3 {S E F NC NW : Nat} (hxp : fm_xp g S E F) (hfl : fm_flt g) (hN : fm_N a0 a NC NW) (hW : fm_NW a) : ∃ (v : Option Value) (mem' : fx_M), (fm_GL a0 g tp bt b S E) (v, mem') ∧ fr_T 8 242 [.ref 0, .int 3] (fm g tp bt a b) v mem' := by
  have hNC := hN.2.2.1.2.1
  have hNW := hN.2.2.1.2.2.2
  refine fe_meth (F := fm_GL a0 g tp bt b S E) (M := gk_m242) (by rfl) (by rfl) ?_
  refine fe_s 3 (pc' := 5) (lc' := [(2, .int 4206), (0, .ref 0), (1, .int 3)]) (stk' := [.ref 0]) (mem' := fm g tp bt a b) (by intro _ _ _; eq_refl) ?_
  obtain ⟨gk1, Ek1, Fk1, hfrk1, hok1, hek1, hpk1⟩ := fr_aheadq (g := g) (tp := tp) (bt := bt) (a := a) (b := b) (fm_gx_rf hxp hfl).2.1 (fm_gx_rf hxp hfl).2.2.1
  have gok1 := fm_gx_tr (fm_gx_rf hxp hfl) hok1
  have e18k1 : gk1 18 = g 18 := hek1.trans rfl
  have prk1 : gk1 12 = 0 ∨ E < Ek1 := hpk1.imp id (fun z => by have := (fm_gx_rf hxp hfl).2.2.2; omega)
  refine fe_ivV hfrk1 (by omega) (by rfl) (by rfl) (by rfl) (by rfl) (by rfl) (by rfl) ?_
  refine fe_s 1 (pc' := 9) (lc' := [(2, .int 4206), (0, .ref 0), (1, .int 3)]) (stk' := [.ref 0]) (mem' := fm gk1 tp bt a b) (by intro _ _ _; eq_refl) ?_
  obtain ⟨vh2, memh2, ⟨qh2, xh2, hqh2, hvh2, hRh2⟩, hfrh2⟩ := fr_cellHere (g := gk1) (tp := tp) (bt := bt) (a := a) (b := b) gok1.2.1 hN.2.2.1
  cases hRh2
  refine fe_ivV hfrh2 (by omega) (by rfl) (by rfl) (by rfl) (by rfl) (by rfl) (by rfl) ?_
  rcases fm_ch hvh2 with ⟨rfl, hmh2⟩ | ⟨kh2, hkh2, rfl⟩
  · refine fe_s 3 (pc' := 15) (lc' := [(3, .int (-1)), (2, .int 4206), (0, .ref 0), (1, .int 3)]) (stk' := [.int 3, .int 3]) (mem' := fm gk1 tp bt a b) (by intro _ _ _; eq_refl) ?_
    refine fe_s 1 (pc' := cond (fx_cb .ne 3 3) 37 18) (lc' := [(3, .int (-1)), (2, .int 4206), (0, .ref 0), (1, .int 3)]) (stk' := []) (mem' := fm gk1 tp bt a b) (by intro _ _ _; eq_refl) ?_
    rw [show (fx_cb .ne 3 3) = false from by decide]
    dsimp only [cond]
    refine fe_s 2 (pc' := 20) (lc' := [(3, .int (-1)), (2, .int 4206), (0, .ref 0), (1, .int 3)]) (stk' := [.int (-1), .int (-1)]) (mem' := fm gk1 tp bt a b) (by intro _ _ _; eq_refl) ?_
    refine fe_s 1 (pc' := cond (fx_cb .eq (-1) (-1)) 37 23) (lc' := [(3, .int (-1)), (2, .int 4206), (0, .ref 0), (1, .int 3)]) (stk' := []) (mem' := fm gk1 tp bt a b) (by intro _ _ _; eq_refl) ?_
    rw [show (fx_cb .eq (-1) (-1)) = true from by decide]
    dsimp only [cond]
    refine fe_s 5 (pc' := 47) (lc' := [(3, .int (-1)), (2, .int 4206), (0, .ref 0), (1, .int 3)]) (stk' := [.int 3368, .ref 1, .int 72, .ref 0]) (mem' := fm gk1 tp bt a b) (by intro _ _ _; eq_refl) ?_
    refine fe_ldI (by rfl) (by rfl) (fx_inN (i := 3368) (by omega) (by omega)) ?_
    rw [show Int32.toNatClampNeg (3368) = 3368 from rfl]
    rw [hN.2.2.1.1]
    refine fe_s 1 (pc' := 49) (lc' := [(3, .int (-1)), (2, .int 4206), (0, .ref 0), (1, .int 3)]) (stk' := [.int 4206, .int (nI NC), .int 72, .ref 0]) (mem' := fm gk1 tp bt a b) (by intro _ _ _; eq_refl) ?_
    obtain ⟨xo3, go3, Eo3, Fo3, ao3, hfro3, hoo3, hvo3⟩ := fr_oldOneq (T := 4206) (base := 72) (many := NC) (g := gk1) (tp := tp) (bt := bt) (a := a) (b := b) (by omega) (by have := hN.2.2.1.2.1; omega) gok1.2.1 gok1.2.2.1
    have goo3 := fm_gx_tr gok1 hoo3
    refine fe_ivV hfro3 (by omega) (by rfl) (by rfl) (by rfl) (by rfl) (by rfl) (by rfl) ?_
    rcases hvo3 with ⟨rfl, hzo3, hao3⟩ | ⟨rfl, heo3, hpo3, hso3, ko3, hko3, hio3, hao3⟩
    · have hNo3 : fm_N a0 ao3 NC NW := by
        rcases hao3 with e | ⟨y, hy, e⟩
        · rw [e]; exact hN
        · rw [e, hy]; exact fm_N_u hN (by omega) (by omega) (fun c hc => by omega) (fm_bdI (show gm_at 4206 = (-1, 9) from rfl) (by decide) (by decide))
      refine fe_s 1 (pc' := cond (fx_cb .ne 0 0) 57 55) (lc' := [(3, .int (-1)), (2, .int 4206), (0, .ref 0), (1, .int 3)]) (stk' := []) (mem' := fm go3 tp bt ao3 b) (by intro _ _ _; eq_refl) ?_
      rw [show (fx_cb .ne 0 0) = false from by decide]
      dsimp only [cond]
      refine fe_s 1 (pc' := 56) (lc' := [(3, .int (-1)), (2, .int 4206), (0, .ref 0), (1, .int 3)]) (stk' := [.int 0]) (mem' := fm go3 tp bt ao3 b) (by intro _ _ _; eq_refl) ?_
      exact fe_ret ⟨_, _, _, _, _, _, _, _, goo3, (fun _ _ => rfl), hNo3, Or.inl ⟨rfl, hzo3⟩, rfl⟩ (by rfl) (by rfl) (by rfl)
    · exact absurd (fm_chx hmh2 (fr_det hqh2 hso3).1 (by have := hN.2.2.1.2.1; omega) hio3) id
  · have hk9h2 : kh2 < 10 := by have := hN.2.2.1.2.1; omega
    refine fe_s 3 (pc' := 15) (lc' := [(3, .int (nI kh2)), (2, .int 4206), (0, .ref 0), (1, .int 3)]) (stk' := [.int 3, .int 3]) (mem' := fm gk1 tp bt a b) (by intro _ _ _; eq_refl) ?_
    refine fe_s 1 (pc' := cond (fx_cb .ne 3 3) 37 18) (lc' := [(3, .int (nI kh2)), (2, .int 4206), (0, .ref 0), (1, .int 3)]) (stk' := []) (mem' := fm gk1 tp bt a b) (by intro _ _ _; eq_refl) ?_
    rw [show (fx_cb .ne 3 3) = false from by decide]
    dsimp only [cond]
    refine fe_s 2 (pc' := 20) (lc' := [(3, .int (nI kh2)), (2, .int 4206), (0, .ref 0), (1, .int 3)]) (stk' := [.int (-1), .int (nI kh2)]) (mem' := fm gk1 tp bt a b) (by intro _ _ _; eq_refl) ?_
    refine fe_s 1 (pc' := cond (fx_cb .eq (nI kh2) (-1)) 37 23) (lc' := [(3, .int (nI kh2)), (2, .int 4206), (0, .ref 0), (1, .int 3)]) (stk' := []) (mem' := fm gk1 tp bt a b) (by intro _ _ _; eq_refl) ?_
    rw [show (fx_cb .eq (nI kh2) (-1)) = false from cb_n_eq (by omega) (by decide)]
    dsimp only [cond]
    refine fe_s 2 (pc' := 25) (lc' := [(3, .int (nI kh2)), (2, .int 4206), (0, .ref 0), (1, .int 3)]) (stk' := [.int (nI kh2), .ref 0]) (mem' := fm gk1 tp bt a b) (by intro _ _ _; eq_refl) ?_
    obtain ⟨vs4, mems4, ⟨xs4, hxs4, hRs4⟩, hfrs4⟩ := fr_isNewShore (C := kh2) (g := gk1) (tp := tp) (bt := bt) (a := a) (b := b) (by omega)
    cases hRs4
    refine fe_ivV hfrs4 (by omega) (by rfl) (by rfl) (by rfl) (by rfl) (by rfl) (by rfl) ?_
    rcases hxs4 with rfl | rfl
    · refine fe_s 1 (pc' := cond (fx_cb .eq 0 0) 37 31) (lc' := [(3, .int (nI kh2)), (2, .int 4206), (0, .ref 0), (1, .int 3)]) (stk' := []) (mem' := fm gk1 tp bt a b) (by intro _ _ _; eq_refl) ?_
      rw [show (fx_cb .eq 0 0) = true from by decide]
      dsimp only [cond]
      refine fe_s 5 (pc' := 47) (lc' := [(3, .int (nI kh2)), (2, .int 4206), (0, .ref 0), (1, .int 3)]) (stk' := [.int 3368, .ref 1, .int 72, .ref 0]) (mem' := fm gk1 tp bt a b) (by intro _ _ _; eq_refl) ?_
      refine fe_ldI (by rfl) (by rfl) (fx_inN (i := 3368) (by omega) (by omega)) ?_
      rw [show Int32.toNatClampNeg (3368) = 3368 from rfl]
      rw [hN.2.2.1.1]
      refine fe_s 1 (pc' := 49) (lc' := [(3, .int (nI kh2)), (2, .int 4206), (0, .ref 0), (1, .int 3)]) (stk' := [.int 4206, .int (nI NC), .int 72, .ref 0]) (mem' := fm gk1 tp bt a b) (by intro _ _ _; eq_refl) ?_
      obtain ⟨xo5, go5, Eo5, Fo5, ao5, hfro5, hoo5, hvo5⟩ := fr_oldOneq (T := 4206) (base := 72) (many := NC) (g := gk1) (tp := tp) (bt := bt) (a := a) (b := b) (by omega) (by have := hN.2.2.1.2.1; omega) gok1.2.1 gok1.2.2.1
      have goo5 := fm_gx_tr gok1 hoo5
      refine fe_ivV hfro5 (by omega) (by rfl) (by rfl) (by rfl) (by rfl) (by rfl) (by rfl) ?_
      rcases hvo5 with ⟨rfl, hzo5, hao5⟩ | ⟨rfl, heo5, hpo5, hso5, ko5, hko5, hio5, hao5⟩
      · have hNo5 : fm_N a0 ao5 NC NW := by
          rcases hao5 with e | ⟨y, hy, e⟩
          · rw [e]; exact hN
          · rw [e, hy]; exact fm_N_u hN (by omega) (by omega) (fun c hc => by omega) (fm_bdI (show gm_at 4206 = (-1, 9) from rfl) (by decide) (by decide))
        refine fe_s 1 (pc' := cond (fx_cb .ne 0 0) 57 55) (lc' := [(3, .int (nI kh2)), (2, .int 4206), (0, .ref 0), (1, .int 3)]) (stk' := []) (mem' := fm go5 tp bt ao5 b) (by intro _ _ _; eq_refl) ?_
        rw [show (fx_cb .ne 0 0) = false from by decide]
        dsimp only [cond]
        refine fe_s 1 (pc' := 56) (lc' := [(3, .int (nI kh2)), (2, .int 4206), (0, .ref 0), (1, .int 3)]) (stk' := [.int 0]) (mem' := fm go5 tp bt ao5 b) (by intro _ _ _; eq_refl) ?_
        exact fe_ret ⟨_, _, _, _, _, _, _, _, goo5, (fun _ _ => rfl), hNo5, Or.inl ⟨rfl, hzo5⟩, rfl⟩ (by rfl) (by rfl) (by rfl)
      · have e18o5 : go5 18 = g 18 := heo5.trans e18k1
        have pro5 : go5 12 = 0 ∨ E < Eo5 := hpo5.imp id (fun z => by have := gok1.2.2.2; omega)
        have hk9o5 : ko5 < 10 := by have := hN.2.2.1.2.1; omega
        have hNo5 : fm_N a0 ao5 NC NW := by rw [hao5]; exact fm_N_u hN (by omega) (by omega) (fun c hc => by omega) (fm_bdI (show gm_at 4206 = (-1, 9) from rfl) (by rw [nI_i32 (by omega)]; omega) (by rw [nI_i32 (by omega)]; omega))
        have hWo5 : fm_NW ao5 := by rw [hao5]; exact fm_NW_u hW (Or.inr (fun w hw => by omega))
        refine fe_s 1 (pc' := cond (fx_cb .ne 1 0) 57 55) (lc' := [(3, .int (nI kh2)), (2, .int 4206), (0, .ref 0), (1, .int 3)]) (stk' := []) (mem' := fm go5 tp bt ao5 b) (by intro _ _ _; eq_refl) ?_
        rw [show (fx_cb .ne 1 0) = true from by decide]
        dsimp only [cond]
        refine fe_s 1 (pc' := 58) (lc' := [(3, .int (nI kh2)), (2, .int 4206), (0, .ref 0), (1, .int 3)]) (stk' := [.ref 0]) (mem' := fm go5 tp bt ao5 b) (by intro _ _ _; eq_refl) ?_
        obtain ⟨vh6, memh6, ⟨qh6, xh6, hqh6, hvh6, hRh6⟩, hfrh6⟩ := fr_cellHere (g := go5) (tp := tp) (bt := bt) (a := ao5) (b := b) goo5.2.1 hNo5.2.2.1
        cases hRh6
        refine fe_ivV hfrh6 (by omega) (by rfl) (by rfl) (by rfl) (by rfl) (by rfl) (by rfl) ?_
        rcases fm_ch hvh6 with ⟨rfl, hmh6⟩ | ⟨kh6, hkh6, rfl⟩
        · refine fe_s 3 (pc' := 66) (lc' := [(4, .int (-1)), (3, .int (nI kh2)), (2, .int 4206), (0, .ref 0), (1, .int 3)]) (stk' := [.int (-1), .int (-1)]) (mem' := fm go5 tp bt ao5 b) (by intro _ _ _; eq_refl) ?_
          refine fe_s 1 (pc' := cond (fx_cb .eq (-1) (-1)) 95 69) (lc' := [(4, .int (-1)), (3, .int (nI kh2)), (2, .int 4206), (0, .ref 0), (1, .int 3)]) (stk' := []) (mem' := fm go5 tp bt ao5 b) (by intro _ _ _; eq_refl) ?_
          rw [show (fx_cb .eq (-1) (-1)) = true from by decide]
          dsimp only [cond]
          refine fe_s 5 (pc' := 105) (lc' := [(4, .int (-1)), (3, .int (nI kh2)), (2, .int 4206), (0, .ref 0), (1, .int 3)]) (stk' := [.int 3368, .ref 1, .int 72, .ref 0]) (mem' := fm go5 tp bt ao5 b) (by intro _ _ _; eq_refl) ?_
          refine fe_ldI (by rfl) (by rfl) (fx_inN (i := 3368) (by omega) (by omega)) ?_
          rw [show Int32.toNatClampNeg (3368) = 3368 from rfl]
          rw [hNo5.2.2.1.1]
          refine fe_s 3 (pc' := 109) (lc' := [(4, .int (-1)), (3, .int (nI kh2)), (2, .int 4206), (0, .ref 0), (1, .int 3)]) (stk' := [.int (4206 + 1), .int (nI NC), .int 72, .ref 0]) (mem' := fm go5 tp bt ao5 b) (by intro _ _ _; eq_refl) ?_
          rw [show (4206 + 1 : Int32) = 4207 from rfl]
          obtain ⟨xo7, go7, Eo7, Fo7, ao7, hfro7, hoo7, hvo7⟩ := fr_oldOneq (T := 4207) (base := 72) (many := NC) (g := go5) (tp := tp) (bt := bt) (a := ao5) (b := b) (by omega) (by have := hNo5.2.2.1.2.1; omega) goo5.2.1 goo5.2.2.1
          have goo7 := fm_gx_tr goo5 hoo7
          refine fe_ivV hfro7 (by omega) (by rfl) (by rfl) (by rfl) (by rfl) (by rfl) (by rfl) ?_
          rcases hvo7 with ⟨rfl, hzo7, hao7⟩ | ⟨rfl, heo7, hpo7, hso7, ko7, hko7, hio7, hao7⟩
          · have hNo7 : fm_N a0 ao7 NC NW := by
              rcases hao7 with e | ⟨y, hy, e⟩
              · rw [e]; exact hNo5
              · rw [e, hy]; exact fm_N_u hNo5 (by omega) (by omega) (fun c hc => by omega) (fm_bdI (show gm_at 4207 = (-1, 9) from rfl) (by decide) (by decide))
            refine fe_s 1 (pc' := cond (fx_cb .ne 0 0) 117 115) (lc' := [(4, .int (-1)), (3, .int (nI kh2)), (2, .int 4206), (0, .ref 0), (1, .int 3)]) (stk' := []) (mem' := fm go7 tp bt ao7 b) (by intro _ _ _; eq_refl) ?_
            rw [show (fx_cb .ne 0 0) = false from by decide]
            dsimp only [cond]
            refine fe_s 1 (pc' := 116) (lc' := [(4, .int (-1)), (3, .int (nI kh2)), (2, .int 4206), (0, .ref 0), (1, .int 3)]) (stk' := [.int 0]) (mem' := fm go7 tp bt ao7 b) (by intro _ _ _; eq_refl) ?_
            exact fe_ret ⟨_, _, _, _, _, _, _, _, goo7, (fun _ _ => rfl), hNo7, Or.inl ⟨rfl, hzo7⟩, rfl⟩ (by rfl) (by rfl) (by rfl)
          · exact absurd (fm_chx hmh6 (fr_det hqh6 hso7).1 (by have := hNo5.2.2.1.2.1; omega) hio7) id
        · have hk9h6 : kh6 < 10 := by have := hNo5.2.2.1.2.1; omega
          refine fe_s 3 (pc' := 66) (lc' := [(4, .int (nI kh6)), (3, .int (nI kh2)), (2, .int 4206), (0, .ref 0), (1, .int 3)]) (stk' := [.int (-1), .int (nI kh6)]) (mem' := fm go5 tp bt ao5 b) (by intro _ _ _; eq_refl) ?_
          refine fe_s 1 (pc' := cond (fx_cb .eq (nI kh6) (-1)) 95 69) (lc' := [(4, .int (nI kh6)), (3, .int (nI kh2)), (2, .int 4206), (0, .ref 0), (1, .int 3)]) (stk' := []) (mem' := fm go5 tp bt ao5 b) (by intro _ _ _; eq_refl) ?_
          rw [show (fx_cb .eq (nI kh6) (-1)) = false from cb_n_eq (by omega) (by decide)]
          dsimp only [cond]
          refine fe_s 2 (pc' := 72) (lc' := [(4, .int (nI kh6)), (3, .int (nI kh2)), (2, .int 4206), (0, .ref 0), (1, .int 3)]) (stk' := [.int (nI kh2), .int (nI kh6)]) (mem' := fm go5 tp bt ao5 b) (by intro _ _ _; eq_refl) ?_
          refine fe_s 1 (pc' := cond (fx_cb .eq (nI kh6) (nI kh2)) 89 75) (lc' := [(4, .int (nI kh6)), (3, .int (nI kh2)), (2, .int 4206), (0, .ref 0), (1, .int 3)]) (stk' := []) (mem' := fm go5 tp bt ao5 b) (by intro _ _ _; eq_refl) ?_
          by_cases h8 : kh6 = kh2
          · rw [show (fx_cb .eq (nI kh6) (nI kh2)) = true from cb_eqT (a := kh6) (b := kh2) (by omega) (by omega) (by omega)]
            dsimp only [cond]
            refine fe_s 2 (pc' := 91) (lc' := [(4, .int (nI kh6)), (3, .int (nI kh2)), (2, .int 4206), (0, .ref 0), (1, .int 3)]) (stk' := [.int 5, .ref 0]) (mem' := fm go5 tp bt ao5 b) (by intro _ _ _; eq_refl) ?_
            obtain ⟨gf9, hfrf9, hof9, hzf9⟩ := fr_failsq (x := 5) (g := go5) (tp := tp) (bt := bt) (a := ao5) (b := b) (by omega) (by omega) goo5.2.1 goo5.2.2.1
            have gof9 := fm_gx_tr goo5 hof9
            refine fe_ivV hfrf9 (by omega) (by rfl) (by rfl) (by rfl) (by rfl) (by rfl) (by rfl) ?_
            exact fe_ret ⟨_, _, _, _, _, _, _, _, gof9, (fun _ _ => rfl), hNo5, Or.inl ⟨rfl, hzf9⟩, rfl⟩ (by rfl) (by rfl) (by rfl)
          · rw [show (fx_cb .eq (nI kh6) (nI kh2)) = false from cb_eqF (a := kh6) (b := kh2) (by omega) (by omega) (by omega)]
            dsimp only [cond]
            refine fe_s 2 (pc' := 77) (lc' := [(4, .int (nI kh6)), (3, .int (nI kh2)), (2, .int 4206), (0, .ref 0), (1, .int 3)]) (stk' := [.int 3, .int 3]) (mem' := fm go5 tp bt ao5 b) (by intro _ _ _; eq_refl) ?_
            refine fe_s 1 (pc' := cond (fx_cb .ne 3 3) 95 80) (lc' := [(4, .int (nI kh6)), (3, .int (nI kh2)), (2, .int 4206), (0, .ref 0), (1, .int 3)]) (stk' := []) (mem' := fm go5 tp bt ao5 b) (by intro _ _ _; eq_refl) ?_
            rw [show (fx_cb .ne 3 3) = false from by decide]
            dsimp only [cond]
            refine fe_s 2 (pc' := 83) (lc' := [(4, .int (nI kh6)), (3, .int (nI kh2)), (2, .int 4206), (0, .ref 0), (1, .int 3)]) (stk' := [.int (nI kh6), .ref 0]) (mem' := fm go5 tp bt ao5 b) (by intro _ _ _; eq_refl) ?_
            obtain ⟨vs10, mems10, ⟨xs10, hxs10, hRs10⟩, hfrs10⟩ := fr_isNewShore (C := kh6) (g := go5) (tp := tp) (bt := bt) (a := ao5) (b := b) (by omega)
            cases hRs10
            refine fe_ivV hfrs10 (by omega) (by rfl) (by rfl) (by rfl) (by rfl) (by rfl) (by rfl) ?_
            rcases hxs10 with rfl | rfl
            · refine fe_s 1 (pc' := cond (fx_cb .eq 0 0) 95 89) (lc' := [(4, .int (nI kh6)), (3, .int (nI kh2)), (2, .int 4206), (0, .ref 0), (1, .int 3)]) (stk' := []) (mem' := fm go5 tp bt ao5 b) (by intro _ _ _; eq_refl) ?_
              rw [show (fx_cb .eq 0 0) = true from by decide]
              dsimp only [cond]
              refine fe_s 5 (pc' := 105) (lc' := [(4, .int (nI kh6)), (3, .int (nI kh2)), (2, .int 4206), (0, .ref 0), (1, .int 3)]) (stk' := [.int 3368, .ref 1, .int 72, .ref 0]) (mem' := fm go5 tp bt ao5 b) (by intro _ _ _; eq_refl) ?_
              refine fe_ldI (by rfl) (by rfl) (fx_inN (i := 3368) (by omega) (by omega)) ?_
              rw [show Int32.toNatClampNeg (3368) = 3368 from rfl]
              rw [hNo5.2.2.1.1]
              refine fe_s 3 (pc' := 109) (lc' := [(4, .int (nI kh6)), (3, .int (nI kh2)), (2, .int 4206), (0, .ref 0), (1, .int 3)]) (stk' := [.int (4206 + 1), .int (nI NC), .int 72, .ref 0]) (mem' := fm go5 tp bt ao5 b) (by intro _ _ _; eq_refl) ?_
              rw [show (4206 + 1 : Int32) = 4207 from rfl]
              obtain ⟨xo11, go11, Eo11, Fo11, ao11, hfro11, hoo11, hvo11⟩ := fr_oldOneq (T := 4207) (base := 72) (many := NC) (g := go5) (tp := tp) (bt := bt) (a := ao5) (b := b) (by omega) (by have := hNo5.2.2.1.2.1; omega) goo5.2.1 goo5.2.2.1
              have goo11 := fm_gx_tr goo5 hoo11
              refine fe_ivV hfro11 (by omega) (by rfl) (by rfl) (by rfl) (by rfl) (by rfl) (by rfl) ?_
              rcases hvo11 with ⟨rfl, hzo11, hao11⟩ | ⟨rfl, heo11, hpo11, hso11, ko11, hko11, hio11, hao11⟩
              · have hNo11 : fm_N a0 ao11 NC NW := by
                  rcases hao11 with e | ⟨y, hy, e⟩
                  · rw [e]; exact hNo5
                  · rw [e, hy]; exact fm_N_u hNo5 (by omega) (by omega) (fun c hc => by omega) (fm_bdI (show gm_at 4207 = (-1, 9) from rfl) (by decide) (by decide))
                refine fe_s 1 (pc' := cond (fx_cb .ne 0 0) 117 115) (lc' := [(4, .int (nI kh6)), (3, .int (nI kh2)), (2, .int 4206), (0, .ref 0), (1, .int 3)]) (stk' := []) (mem' := fm go11 tp bt ao11 b) (by intro _ _ _; eq_refl) ?_
                rw [show (fx_cb .ne 0 0) = false from by decide]
                dsimp only [cond]
                refine fe_s 1 (pc' := 116) (lc' := [(4, .int (nI kh6)), (3, .int (nI kh2)), (2, .int 4206), (0, .ref 0), (1, .int 3)]) (stk' := [.int 0]) (mem' := fm go11 tp bt ao11 b) (by intro _ _ _; eq_refl) ?_
                exact fe_ret ⟨_, _, _, _, _, _, _, _, goo11, (fun _ _ => rfl), hNo11, Or.inl ⟨rfl, hzo11⟩, rfl⟩ (by rfl) (by rfl) (by rfl)
              · have e18o11 : go11 18 = g 18 := heo11.trans e18o5
                have pro11 : go11 12 = 0 ∨ E < Eo11 := hpo11.imp id (fun z => by have := goo5.2.2.2; omega)
                have hk9o11 : ko11 < 10 := by have := hNo5.2.2.1.2.1; omega
                have hNo11 : fm_N a0 ao11 NC NW := by rw [hao11]; exact fm_N_u hNo5 (by omega) (by omega) (fun c hc => by omega) (fm_bdI (show gm_at 4207 = (-1, 9) from rfl) (by rw [nI_i32 (by omega)]; omega) (by rw [nI_i32 (by omega)]; omega))
                have hWo11 : fm_NW ao11 := by rw [hao11]; exact fm_NW_u hWo5 (Or.inr (fun w hw => by omega))
                refine fe_s 1 (pc' := cond (fx_cb .ne 1 0) 117 115) (lc' := [(4, .int (nI kh6)), (3, .int (nI kh2)), (2, .int 4206), (0, .ref 0), (1, .int 3)]) (stk' := []) (mem' := fm go11 tp bt ao11 b) (by intro _ _ _; eq_refl) ?_
                rw [show (fx_cb .ne 1 0) = true from by decide]
                dsimp only [cond]
                refine fe_s 10 (pc' := 132) (lc' := [(4, .int (nI kh6)), (3, .int (nI kh2)), (2, .int 4206), (0, .ref 0), (1, .int 3)]) (stk' := [.int ((3376 + (6 * (nI kh2))) + 3), .ref 1, .int ((3376 + (6 * (nI kh2))) + 3), .ref 1]) (mem' := fm go11 tp bt ao11 b) (by intro _ _ _; eq_refl) ?_
                rw [show ((3376 + (6 * (nI kh2))) + 3 : Int32) = nI ((3376 + (6 * kh2)) + 3) from by simp only [show (3376 : Int32) = nI 3376 from rfl, show (6 : Int32) = nI 6 from rfl, show (3 : Int32) = nI 3 from rfl, nI_add, fm_mul]]
                refine fe_ldI (by rfl) (by rfl) (fx_inN (i := (3376 + (6 * kh2)) + 3) (by omega) (by omega)) ?_
                rw [show Int32.toNatClampNeg (nI ((3376 + (6 * kh2)) + 3)) = (3376 + (6 * kh2)) + 3 from nI_clamp (by omega)]
                refine fe_s 4 (pc' := 138) (lc' := [(4, .int (nI kh6)), (3, .int (nI kh2)), (2, .int 4206), (0, .ref 0), (1, .int 3)]) (stk' := [.int ((ao11 1 ((3376 + (6 * kh2)) + 3)) ||| ((1 : Int32) <<< ((nI kh6) &&& 31))), .int (nI ((3376 + (6 * kh2)) + 3)), .ref 1]) (mem' := fm go11 tp bt ao11 b) (by intro _ _ _; eq_refl) ?_
                refine fe_stI (mem' := fm go11 tp bt (fm_u ao11 1 (nI ((3376 + (6 * kh2)) + 3) : Int32).toNatClampNeg ((ao11 1 ((3376 + (6 * kh2)) + 3)) ||| ((1 : Int32) <<< ((nI kh6) &&& 31)))) b) (by rfl) (by rfl) (fx_inN (i := (3376 + (6 * kh2)) + 3) (by omega) (by omega)) fm_si1 ?_
                rw [show Int32.toNatClampNeg (nI ((3376 + (6 * kh2)) + 3)) = (3376 + (6 * kh2)) + 3 from nI_clamp (by omega)]
                obtain ⟨at12, hat12⟩ : ∃ z, z = fm_u ao11 1 ((3376 + (6 * kh2)) + 3) ((ao11 1 ((3376 + (6 * kh2)) + 3)) ||| ((1 : Int32) <<< ((nI kh6) &&& 31))) := ⟨_, rfl⟩
                rw [← hat12]
                have hNt12 : fm_N a0 at12 NC NW := by rw [hat12]; rw [show (3376 + (6 * kh2)) + 3 = 3379 + 6 * kh2 by omega]; exact fm_N_c3 hNo11 (by omega) (by omega)
                have hWt12 : fm_NW at12 := by rw [hat12]; exact fm_NW_u hWo11 (Or.inr (fun w hw => by omega))
                refine fe_s 10 (pc' := 155) (lc' := [(4, .int (nI kh6)), (3, .int (nI kh2)), (2, .int 4206), (0, .ref 0), (1, .int 3)]) (stk' := [.int ((3376 + (6 * (nI kh6))) + 3), .ref 1, .int ((3376 + (6 * (nI kh6))) + 3), .ref 1]) (mem' := fm go11 tp bt at12 b) (by intro _ _ _; eq_refl) ?_
                rw [show ((3376 + (6 * (nI kh6))) + 3 : Int32) = nI ((3376 + (6 * kh6)) + 3) from by simp only [show (3376 : Int32) = nI 3376 from rfl, show (6 : Int32) = nI 6 from rfl, show (3 : Int32) = nI 3 from rfl, nI_add, fm_mul]]
                refine fe_ldI (by rfl) (by rfl) (fx_inN (i := (3376 + (6 * kh6)) + 3) (by omega) (by omega)) ?_
                rw [show Int32.toNatClampNeg (nI ((3376 + (6 * kh6)) + 3)) = (3376 + (6 * kh6)) + 3 from nI_clamp (by omega)]
                refine fe_s 4 (pc' := 160) (lc' := [(4, .int (nI kh6)), (3, .int (nI kh2)), (2, .int 4206), (0, .ref 0), (1, .int 3)]) (stk' := [.int ((at12 1 ((3376 + (6 * kh6)) + 3)) ||| ((1 : Int32) <<< ((nI kh2) &&& 31))), .int (nI ((3376 + (6 * kh6)) + 3)), .ref 1]) (mem' := fm go11 tp bt at12 b) (by intro _ _ _; eq_refl) ?_
                refine fe_stI (mem' := fm go11 tp bt (fm_u at12 1 (nI ((3376 + (6 * kh6)) + 3) : Int32).toNatClampNeg ((at12 1 ((3376 + (6 * kh6)) + 3)) ||| ((1 : Int32) <<< ((nI kh2) &&& 31)))) b) (by rfl) (by rfl) (fx_inN (i := (3376 + (6 * kh6)) + 3) (by omega) (by omega)) fm_si1 ?_
                rw [show Int32.toNatClampNeg (nI ((3376 + (6 * kh6)) + 3)) = (3376 + (6 * kh6)) + 3 from nI_clamp (by omega)]
                obtain ⟨at13, hat13⟩ : ∃ z, z = fm_u at12 1 ((3376 + (6 * kh6)) + 3) ((at12 1 ((3376 + (6 * kh6)) + 3)) ||| ((1 : Int32) <<< ((nI kh2) &&& 31))) := ⟨_, rfl⟩
                rw [← hat13]
                have hNt13 : fm_N a0 at13 NC NW := by rw [hat13]; rw [show (3376 + (6 * kh6)) + 3 = 3379 + 6 * kh6 by omega]; exact fm_N_c3 hNt12 (by omega) (by omega)
                have hWt13 : fm_NW at13 := by rw [hat13]; exact fm_NW_u hWt12 (Or.inr (fun w hw => by omega))
                refine fe_s 1 (pc' := 162) (lc' := [(4, .int (nI kh6)), (3, .int (nI kh2)), (2, .int 4206), (0, .ref 0), (1, .int 3)]) (stk' := [.int 1]) (mem' := fm go11 tp bt at13 b) (by intro _ _ _; eq_refl) ?_
                exact fe_ret ⟨_, _, _, _, _, _, _, _, goo11, (fun _ _ => rfl), hNt13, Or.inr ⟨rfl, e18o11, pro11, hWt13⟩, rfl⟩ (by rfl) (by rfl) (by rfl)
            · refine fe_s 1 (pc' := cond (fx_cb .eq 1 0) 95 89) (lc' := [(4, .int (nI kh6)), (3, .int (nI kh2)), (2, .int 4206), (0, .ref 0), (1, .int 3)]) (stk' := []) (mem' := fm go5 tp bt ao5 b) (by intro _ _ _; eq_refl) ?_
              rw [show (fx_cb .eq 1 0) = false from by decide]
              dsimp only [cond]
              refine fe_s 2 (pc' := 91) (lc' := [(4, .int (nI kh6)), (3, .int (nI kh2)), (2, .int 4206), (0, .ref 0), (1, .int 3)]) (stk' := [.int 5, .ref 0]) (mem' := fm go5 tp bt ao5 b) (by intro _ _ _; eq_refl) ?_
              obtain ⟨gf14, hfrf14, hof14, hzf14⟩ := fr_failsq (x := 5) (g := go5) (tp := tp) (bt := bt) (a := ao5) (b := b) (by omega) (by omega) goo5.2.1 goo5.2.2.1
              have gof14 := fm_gx_tr goo5 hof14
              refine fe_ivV hfrf14 (by omega) (by rfl) (by rfl) (by rfl) (by rfl) (by rfl) (by rfl) ?_
              exact fe_ret ⟨_, _, _, _, _, _, _, _, gof14, (fun _ _ => rfl), hNo5, Or.inl ⟨rfl, hzf14⟩, rfl⟩ (by rfl) (by rfl) (by rfl)
    · refine fe_s 1 (pc' := cond (fx_cb .eq 1 0) 37 31) (lc' := [(3, .int (nI kh2)), (2, .int 4206), (0, .ref 0), (1, .int 3)]) (stk' := []) (mem' := fm gk1 tp bt a b) (by intro _ _ _; eq_refl) ?_
      rw [show (fx_cb .eq 1 0) = false from by decide]
      dsimp only [cond]
      refine fe_s 2 (pc' := 33) (lc' := [(3, .int (nI kh2)), (2, .int 4206), (0, .ref 0), (1, .int 3)]) (stk' := [.int 5, .ref 0]) (mem' := fm gk1 tp bt a b) (by intro _ _ _; eq_refl) ?_
      obtain ⟨gf15, hfrf15, hof15, hzf15⟩ := fr_failsq (x := 5) (g := gk1) (tp := tp) (bt := bt) (a := a) (b := b) (by omega) (by omega) gok1.2.1 gok1.2.2.1
      have gof15 := fm_gx_tr gok1 hof15
      refine fe_ivV hfrf15 (by omega) (by rfl) (by rfl) (by rfl) (by rfl) (by rfl) (by rfl) ?_
      exact fe_ret ⟨_, _, _, _, _, _, _, _, gof15, (fun _ _ => rfl), hN, Or.inl ⟨rfl, hzf15⟩, rfl⟩ (by rfl) (by rfl) (by rfl)
end F482_cell
end MH2_1
