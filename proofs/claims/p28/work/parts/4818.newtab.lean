/-! ===== fx: the NEW table while a LAKE is read ===== -/
theorem fr_det {k1 k2 f : Nat} {as : List Value} {m m1 m2 : fx_M} {r1 r2 : Option Value} (h1 : fr_T k1 f as m r1 m1) (h2 : fr_T k2 f as m r2 m2) : r1 = r2 ∧ m1 = m2 := by
  obtain ⟨N1, h1⟩ := h1
  obtain ⟨N2, h2⟩ := h2
  have a1 := h1 N2 k2
  have a2 := h2 N1 k1
  rw [show N1 + N2 + 100 = N2 + N1 + 100 by omega, show k1 + k2 = k2 + k1 by omega, a1] at a2
  have := Option.some.inj a2
  exact ⟨congrArg Prod.fst this, congrArg Prod.snd this⟩
theorem fm_u1 {a : Nat → Nat → Int32} {T i : Nat} {x : Int32} : (fm_u a 1 T x) 1 i = if i = T then x else a 1 i := by
  unfold fm_u
  rw [if_pos rfl]
  by_cases h : i = T
  · subst h; rw [pk_us, if_pos rfl]
  · rw [pk_un h, if_neg h]
theorem fm_ut {a : Nat → Nat → Int32} {T t : Nat} {x : Int32} (h : t ≠ 1) : (fm_u a 1 T x) t = a t := by
  unfold fm_u
  rw [if_neg h]
theorem fm_b_nat : ∀ n, n < 1024 → ∀ d, d < 10 → fm_b (nI n) (nI d) = if n.testBit d then 1 else 0 := by decide +kernel
theorem fm_or_nat : ∀ n, n < 1024 → ∀ t, t < 10 → nI n ||| ((1 : Int32) <<< (nI t &&& 31)) = nI (n ||| 2 ^ t) := by decide +kernel
theorem fm_xor_nat : ∀ n, n < 1024 → ∀ t, t < 10 → nI n ^^^ ((1 : Int32) <<< (nI t &&& 31)) = nI (n ^^^ 2 ^ t) := by decide +kernel
theorem fm_or_lt {n t : Nat} (h : n < 1024) (ht : t < 10) : n ||| 2 ^ t < 1024 := by
  have : (2 : Nat) ^ t < 2 ^ 10 := Nat.pow_lt_pow_right (by omega) ht
  exact Nat.or_lt_two_pow (n := 10) h this
theorem fm_xor_lt {n t : Nat} (h : n < 1024) (ht : t < 10) : n ^^^ 2 ^ t < 1024 := by
  have : (2 : Nat) ^ t < 2 ^ 10 := Nat.pow_lt_pow_right (by omega) ht
  exact Nat.xor_lt_two_pow (n := 10) h this
/-- the ways of a slot are of both -/
def fm_sy (a : Nat → Nat → Int32) (s : Nat) : Prop := ∀ c d, c < 10 → d < 10 → fm_b (a 1 (s + 10 + 6 * c)) (nI d) = fm_b (a 1 (s + 10 + 6 * d)) (nI c)
/-- the NEW table, while it is filled -/
def fm_N (a0 a : Nat → Nat → Int32) (NC NW : Nat) : Prop := (∀ t, t ≠ 1 → a t = a0 t) ∧ (∀ i, ¬ (3368 ≤ i ∧ i < 4210) → a 1 i = a0 1 i) ∧ fm_tn a NC NW ∧ (∀ i, 3368 ≤ i → i < 4210 → (gm_at i).1 ≤ (a 1 i).toInt ∧ (a 1 i).toInt ≤ (gm_at i).2) ∧ fm_sy a 3368 ∧ a 1 3374 = -1
def fm_NW (a : Nat → Nat → Int32) : Prop := ∀ w, w < 8 → 0 ≤ (a 1 (3647 + 5 * w)).toInt
theorem fm_NW_u {a : Nat → Nat → Int32} {T : Nat} {x : Int32} (h : fm_NW a) (hT : 0 ≤ x.toInt ∨ ∀ w, w < 8 → T ≠ 3647 + 5 * w) : fm_NW (fm_u a 1 T x) := fun w hw => by
  rw [fm_u1]
  split
  · next e =>
    rcases hT with q | q
    · exact q
    · exact absurd e.symm (q w hw)
  · exact h w hw
theorem fm_N_u {a0 a : Nat → Nat → Int32} {NC NW T : Nat} {x : Int32} (h : fm_N a0 a NC NW) (h1 : 3370 ≤ T ∧ T ≠ 3374) (h2 : T < 4210) (h3 : ∀ c, c < 10 → T ≠ 3378 + 6 * c) (h4 : (gm_at T).1 ≤ x.toInt ∧ x.toInt ≤ (gm_at T).2) : fm_N a0 (fm_u a 1 T x) NC NW := by
  obtain ⟨e1, e2, ⟨n1, n2, n3, n4⟩, e4, e5, e6⟩ := h
  refine ⟨fun t ht => by rw [fm_ut ht]; exact e1 t ht, fun i hi => ?_, ⟨?_, n2, ?_, n4⟩, fun i h5 h6 => ?_, fun c d hc hd => ?_, ?_⟩
  · rw [fm_u1, if_neg (by omega)]; exact e2 i hi
  · rw [fm_u1, if_neg (by omega)]; exact n1
  · rw [fm_u1, if_neg (by omega)]; exact n3
  · rw [fm_u1]
    split
    · next e => rw [e]; exact h4
    · exact e4 i h5 h6
  · rw [fm_u1, fm_u1, if_neg (by have := h3 c hc; omega), if_neg (by have := h3 d hd; omega)]
    exact e5 c d hc hd
  · rw [fm_u1, if_neg (by omega)]; exact e6
theorem fm_N_nc {a0 a : Nat → Nat → Int32} {NC NW : Nat} (h : fm_N a0 a NC NW) (hc : NC < 10) : fm_N a0 (fm_u a 1 3368 (nI (NC + 1))) (NC + 1) NW := by
  obtain ⟨e1, e2, ⟨n1, n2, n3, n4⟩, e4, e5, e6⟩ := h
  refine ⟨fun t ht => by rw [fm_ut ht]; exact e1 t ht, fun i hi => ?_, ⟨?_, by omega, ?_, n4⟩, fun i h5 h6 => ?_, fun c d hc hd => ?_, ?_⟩
  · rw [fm_u1, if_neg (by omega)]; exact e2 i hi
  · rw [fm_u1, if_pos rfl]
  · rw [fm_u1, if_neg (by omega)]; exact n3
  · rw [fm_u1]
    split
    · next e => rw [e, nI_i32 (by omega)]; exact ⟨by show (0 : Int) ≤ _; omega, by show _ ≤ (10 : Int); omega⟩
    · exact e4 i h5 h6
  · rw [fm_u1, fm_u1, if_neg (by omega), if_neg (by omega)]
    exact e5 c d hc hd
  · rw [fm_u1, if_neg (by omega)]; exact e6
theorem fm_N_nw {a0 a : Nat → Nat → Int32} {NC NW : Nat} (h : fm_N a0 a NC NW) (hc : NW < 8) : fm_N a0 (fm_u a 1 3369 (nI (NW + 1))) NC (NW + 1) := by
  obtain ⟨e1, e2, ⟨n1, n2, n3, n4⟩, e4, e5, e6⟩ := h
  refine ⟨fun t ht => by rw [fm_ut ht]; exact e1 t ht, fun i hi => ?_, ⟨?_, n2, ?_, by omega⟩, fun i h5 h6 => ?_, fun c d hc hd => ?_, ?_⟩
  · rw [fm_u1, if_neg (by omega)]; exact e2 i hi
  · rw [fm_u1, if_neg (by omega)]; exact n1
  · rw [fm_u1, if_pos rfl]
  · rw [fm_u1]
    split
    · next e => rw [e, nI_i32 (by omega)]; exact ⟨by show (0 : Int) ≤ _; omega, by show _ ≤ (8 : Int); omega⟩
    · exact e4 i h5 h6
  · rw [fm_u1, fm_u1, if_neg (by omega), if_neg (by omega)]
    exact e5 c d hc hd
  · rw [fm_u1, if_neg (by omega)]; exact e6
theorem gm_at_c0 : ∀ c, c < 10 → gm_at (3376 + 6 * c) = (0, 1) := by decide
theorem gm_at_c1 : ∀ c, c < 10 → gm_at (3377 + 6 * c) = (-2147483648, 2147483647) := by decide
theorem gm_at_c2 : ∀ c, c < 10 → gm_at (3378 + 6 * c) = (0, 1023) := by decide
theorem gm_at_c3 : ∀ c, c < 10 → gm_at (3379 + 6 * c) = (0, 1023) := by decide
theorem gm_at_w0 : ∀ c, c < 8 → gm_at (3646 + 5 * c) = (-2147483648, 2147483647) := by decide
theorem gm_at_w1 : ∀ c, c < 8 → gm_at (3647 + 5 * c) = (-1, 9) := by decide
theorem fm_full {T : Nat} {x : Int32} (h : gm_at T = (-2147483648, 2147483647)) : (gm_at T).1 ≤ x.toInt ∧ x.toInt ≤ (gm_at T).2 := by
  rw [h]
  have h1 := x.le_toInt
  have h2 := x.toInt_lt
  exact ⟨by show (-2147483648 : Int) ≤ _; omega, by show _ ≤ (2147483647 : Int); omega⟩
theorem fm_bdI {T : Nat} {x : Int32} {lo hi : Int} (h : gm_at T = (lo, hi)) (h1 : lo ≤ x.toInt) (h2 : x.toInt ≤ hi) : (gm_at T).1 ≤ x.toInt ∧ x.toInt ≤ (gm_at T).2 := by
  rw [h]
  exact ⟨h1, h2⟩
theorem fm_tb {n t d : Nat} : (n ||| 2 ^ t).testBit d = (n.testBit d || decide (t = d)) := by
  rw [Nat.testBit_or, Nat.testBit_two_pow]
theorem fm_N_c3 {a0 a : Nat → Nat → Int32} {NC NW o t : Nat} (h : fm_N a0 a NC NW) (ho : o < 10) (ht : t < 10) : fm_N a0 (fm_u a 1 (3379 + 6 * o) (a 1 (3379 + 6 * o) ||| ((1 : Int32) <<< (nI t &&& 31)))) NC NW := by
  obtain ⟨q1, q2⟩ := h.2.2.2.1 (3379 + 6 * o) (by omega) (by omega)
  rw [gm_at_c3 o ho] at q1 q2
  obtain ⟨m, hm, e⟩ := nI_bd (n := 1023) q1 q2
  refine fm_N_u h (by omega) (by omega) (fun c hc => by omega) (fm_bdI (gm_at_c3 o ho) ?_ ?_) <;> rw [e, fm_or_nat m (by omega) t ht, nI_i32 (by have := fm_or_lt (n := m) (by omega) ht; omega)]
  · omega
  · have := fm_or_lt (n := m) (by omega) ht; omega
theorem fm_N_c2 {a0 a : Nat → Nat → Int32} {NC NW o t : Nat} (h : fm_N a0 a NC NW) (ho : o < 10) (ht : t < 10) : fm_N a0 (fm_u (fm_u a 1 (3378 + 6 * o) (a 1 (3378 + 6 * o) ||| ((1 : Int32) <<< (nI t &&& 31)))) 1 (3378 + 6 * t) ((fm_u a 1 (3378 + 6 * o) (a 1 (3378 + 6 * o) ||| ((1 : Int32) <<< (nI t &&& 31)))) 1 (3378 + 6 * t) ||| ((1 : Int32) <<< (nI o &&& 31)))) NC NW := by
  obtain ⟨e1, e2, ⟨n1, n2, n3, n4⟩, e4, e5, e6⟩ := h
  have hv : ∀ c, c < 10 → ∃ m, m < 1024 ∧ a 1 (3378 + 6 * c) = nI m := fun c hc => by
    obtain ⟨q1, q2⟩ := e4 (3378 + 6 * c) (by omega) (by omega)
    rw [gm_at_c2 c hc] at q1 q2
    obtain ⟨m, hm, e⟩ := nI_bd (n := 1023) q1 q2
    exact ⟨m, by omega, e⟩
  generalize hA1 : fm_u a 1 (3378 + 6 * o) (a 1 (3378 + 6 * o) ||| ((1 : Int32) <<< (nI t &&& 31))) = A1
  have v1 : ∀ i, A1 1 i = if i = 3378 + 6 * o then a 1 (3378 + 6 * o) ||| ((1 : Int32) <<< (nI t &&& 31)) else a 1 i := fun i => by rw [← hA1, fm_u1]
  have hv1 : ∀ c, c < 10 → ∃ m m1, m < 1024 ∧ m1 < 1024 ∧ a 1 (3378 + 6 * c) = nI m ∧ A1 1 (3378 + 6 * c) = nI m1 ∧ ∀ d, d < 10 → m1.testBit d = (m.testBit d || (decide (c = o) && decide (d = t))) := fun c hc => by
    obtain ⟨m, hm, e⟩ := hv c hc
    by_cases hco : c = o
    · subst hco
      refine ⟨m, m ||| 2 ^ t, hm, fm_or_lt hm ht, e, ?_, fun d hd => ?_⟩
      · rw [v1, if_pos rfl, e, fm_or_nat m hm t ht]
      · rw [fm_tb, decide_eq_true (rfl : c = c), Bool.true_and]
        congr 1
        exact decide_eq_decide.mpr ⟨fun z => z.symm, fun z => z.symm⟩
    · refine ⟨m, m, hm, hm, e, ?_, fun d hd => ?_⟩
      · rw [v1, if_neg (by omega), e]
      · rw [decide_eq_false hco, Bool.false_and, Bool.or_false]
  have v2 : ∀ i, (fm_u A1 1 (3378 + 6 * t) (A1 1 (3378 + 6 * t) ||| ((1 : Int32) <<< (nI o &&& 31)))) 1 i = if i = 3378 + 6 * t then A1 1 (3378 + 6 * t) ||| ((1 : Int32) <<< (nI o &&& 31)) else A1 1 i := fun i => by rw [fm_u1]
  have hv2 : ∀ c, c < 10 → ∃ m m2, m < 1024 ∧ m2 < 1024 ∧ a 1 (3378 + 6 * c) = nI m ∧ (fm_u A1 1 (3378 + 6 * t) (A1 1 (3378 + 6 * t) ||| ((1 : Int32) <<< (nI o &&& 31)))) 1 (3378 + 6 * c) = nI m2 ∧ ∀ d, d < 10 → m2.testBit d = (m.testBit d || (decide (c = o) && decide (d = t)) || (decide (c = t) && decide (d = o))) := fun c hc => by
    obtain ⟨m, m1, hm, hm1, e, f1, f2⟩ := hv1 c hc
    by_cases hct : c = t
    · subst hct
      refine ⟨m, m1 ||| 2 ^ o, hm, fm_or_lt hm1 ho, e, ?_, fun d hd => ?_⟩
      · rw [v2, if_pos rfl, f1, fm_or_nat m1 hm1 o ho]
      · rw [fm_tb, f2 d hd, decide_eq_true (rfl : c = c), Bool.true_and]
        congr 1
        exact decide_eq_decide.mpr ⟨fun z => z.symm, fun z => z.symm⟩
    · refine ⟨m, m1, hm, hm1, e, ?_, fun d hd => ?_⟩
      · rw [v2, if_neg (by omega), f1]
      · rw [f2 d hd, decide_eq_false hct, Bool.false_and, Bool.or_false]
  refine ⟨fun t ht => by rw [fm_ut ht, ← hA1, fm_ut ht]; exact e1 t ht, fun i hi => ?_, ⟨?_, n2, ?_, n4⟩, fun i h5 h6 => ?_, fun c d hc hd => ?_, ?_⟩
  · rw [v2, if_neg (by omega), v1, if_neg (by omega)]; exact e2 i hi
  · rw [v2, if_neg (by omega), v1, if_neg (by omega)]; exact n1
  · rw [v2, if_neg (by omega), v1, if_neg (by omega)]; exact n3
  · by_cases hi : ∃ c, c < 10 ∧ i = 3378 + 6 * c
    · obtain ⟨c, hc, rfl⟩ := hi
      obtain ⟨m, m2, -, hm2, -, f1, -⟩ := hv2 c hc
      rw [f1]
      refine fm_bdI (gm_at_c2 c hc) ?_ ?_ <;> rw [nI_i32 (by omega)] <;> omega
    · rw [v2, if_neg (fun z => hi ⟨t, ht, z⟩), v1, if_neg (fun z => hi ⟨o, ho, z⟩)]
      exact e4 i h5 h6
  · obtain ⟨m, m2, hm, hm2, f0, f1, f2⟩ := hv2 c hc
    obtain ⟨k, k2, hk, hk2, g0, g1, g2⟩ := hv2 d hd
    have h9 := e5 c d hc hd
    show fm_b (_ : Int32) _ = fm_b (_ : Int32) _
    rw [show 3368 + 10 + 6 * c = 3378 + 6 * c by omega, show 3368 + 10 + 6 * d = 3378 + 6 * d by omega] at h9 ⊢
    rw [f1, g1, fm_b_nat m2 hm2 d hd, fm_b_nat k2 hk2 c hc, f2 d hd, g2 c hc]
    rw [f0, g0, fm_b_nat m hm d hd, fm_b_nat k hk c hc] at h9
    have h10 : m.testBit d = k.testBit c := by
      cases h1 : m.testBit d <;> cases h2 : k.testBit c <;> first | rfl | (rw [h1, h2] at h9; exact absurd h9 (by decide))
    rw [h10]
    congr 1
    rw [Bool.or_assoc, Bool.or_assoc, Bool.or_comm (decide (c = o) && decide (d = t)), Bool.and_comm (decide (c = t)), Bool.and_comm (decide (c = o))]
  · rw [v2, if_neg (by omega), v1, if_neg (by omega)]; exact e6
/-- the parser has come from one state to another; what a part was told once, may have grown -/
def fm_gx (g g' : Nat → Int32) (S E E' F' : Nat) : Prop := (∀ j, j ≠ 12 → j ≠ 13 → j ≠ 14 → j ≠ 15 → j ≠ 17 → j ≠ 18 → j ≠ 20 → g' j = g j) ∧ fm_xp g' S E' F' ∧ fm_flt g' ∧ E ≤ E'
theorem fm_gx_rf {g : Nat → Int32} {S E F : Nat} (hxp : fm_xp g S E F) (hfl : fm_flt g) : fm_gx g g S E E F := ⟨fun _ _ _ _ _ _ _ _ => rfl, hxp, hfl, Nat.le_refl _⟩
theorem fm_gx_tr {g g1 g2 : Nat → Int32} {S E E1 F1 E2 F2 : Nat} (h : fm_gx g g1 S E E1 F1) (h2 : fm_go g1 g2 S E1 E2 F2) : fm_gx g g2 S E E2 F2 := ⟨fun j q1 q2 q3 q4 q5 q6 q7 => (h2.1 j q1 q2 q3 q4 q5 q6).trans (h.1 j q1 q2 q3 q4 q5 q6 q7), h2.2.1, h2.2.2.1, Nat.le_trans h.2.2.2 h2.2.2.2⟩
theorem fm_gx_tx {g g1 g2 : Nat → Int32} {S E E1 F1 E2 F2 : Nat} (h : fm_gx g g1 S E E1 F1) (h2 : fm_gx g1 g2 S E1 E2 F2) : fm_gx g g2 S E E2 F2 := ⟨fun j q1 q2 q3 q4 q5 q6 q7 => (h2.1 j q1 q2 q3 q4 q5 q6 q7).trans (h.1 j q1 q2 q3 q4 q5 q6 q7), h2.2.1, h2.2.2.1, Nat.le_trans h.2.2.2 h2.2.2.2⟩
theorem fm_xfu {g1 : Nat → Int32} {S E1 F1 k : Nat} {x : Int32} (h2 : fm_xp g1 S E1 F1) (h3 : fm_flt g1) (hk : k = 20 ∨ k = 22 ∨ k = 23) : fm_xp (upd g1 k x) S E1 F1 ∧ fm_flt (upd g1 k x) := by
  constructor
  · unfold fm_xp at h2 ⊢
    rw [pk_un (by omega), pk_un (by omega), pk_un (by omega), pk_un (by omega), pk_un (by omega)]
    exact h2
  · unfold fm_flt at h3 ⊢
    rw [pk_un (by omega), pk_un (by omega)]
    exact h3
theorem fm_gx_up {g g1 : Nat → Int32} {S E E1 F1 k : Nat} {x : Int32} (h : fm_gx g g1 S E E1 F1) (hk : k = 20) : fm_gx g (upd g1 k x) S E E1 F1 := by
  obtain ⟨h1, h2, h3, h4⟩ := h
  obtain ⟨h5, h6⟩ := fm_xfu (x := x) h2 h3 (Or.inl hk)
  exact ⟨fun j q1 q2 q3 q4 q5 q6 q7 => by rw [pk_un (by omega)]; exact h1 j q1 q2 q3 q4 q5 q6 q7, h5, h6, h4⟩
/-- the same, for TALES -/
def fm_gy (g g' : Nat → Int32) (S E E' F' : Nat) : Prop := (∀ j, j ≠ 12 → j ≠ 13 → j ≠ 14 → j ≠ 15 → j ≠ 17 → j ≠ 18 → j ≠ 22 → j ≠ 23 → g' j = g j) ∧ fm_xp g' S E' F' ∧ fm_flt g' ∧ E ≤ E'
theorem fm_gy_rf {g : Nat → Int32} {S E F : Nat} (hxp : fm_xp g S E F) (hfl : fm_flt g) : fm_gy g g S E E F := ⟨fun _ _ _ _ _ _ _ _ _ => rfl, hxp, hfl, Nat.le_refl _⟩
theorem fm_gy_tr {g g1 g2 : Nat → Int32} {S E E1 F1 E2 F2 : Nat} (h : fm_gy g g1 S E E1 F1) (h2 : fm_go g1 g2 S E1 E2 F2) : fm_gy g g2 S E E2 F2 := ⟨fun j q1 q2 q3 q4 q5 q6 q7 q8 => (h2.1 j q1 q2 q3 q4 q5 q6).trans (h.1 j q1 q2 q3 q4 q5 q6 q7 q8), h2.2.1, h2.2.2.1, Nat.le_trans h.2.2.2 h2.2.2.2⟩
theorem fm_gy_tx {g g1 g2 : Nat → Int32} {S E E1 F1 E2 F2 : Nat} (h : fm_gy g g1 S E E1 F1) (h2 : fm_gy g1 g2 S E1 E2 F2) : fm_gy g g2 S E E2 F2 := ⟨fun j q1 q2 q3 q4 q5 q6 q7 q8 => (h2.1 j q1 q2 q3 q4 q5 q6 q7 q8).trans (h.1 j q1 q2 q3 q4 q5 q6 q7 q8), h2.2.1, h2.2.2.1, Nat.le_trans h.2.2.2 h2.2.2.2⟩
theorem fm_gy_up {g g1 : Nat → Int32} {S E E1 F1 k : Nat} {x : Int32} (h : fm_gy g g1 S E E1 F1) (hk : k = 22 ∨ k = 23) : fm_gy g (upd g1 k x) S E E1 F1 := by
  obtain ⟨h1, h2, h3, h4⟩ := h
  obtain ⟨h5, h6⟩ := fm_xfu (x := x) (k := k) h2 h3 (by omega)
  exact ⟨fun j q1 q2 q3 q4 q5 q6 q7 q8 => by rw [pk_un (by omega)]; exact h1 j q1 q2 q3 q4 q5 q6 q7 q8, h5, h6, h4⟩
/-- what a part of a LAKE leaves behind -/
def fm_GL (a0 : Nat → Nat → Int32) (g : Nat → Int32) (tp bt : Int64) (b : Nat → Nat → Int64) (S E : Nat) (R : Option Value × fx_M) : Prop := ∃ (v : Int32) (g' : Nat → Int32) (E' F' : Nat) (a' : Nat → Nat → Int32) (b' : Nat → Nat → Int64) (NC' NW' : Nat), fm_gx g g' S E E' F' ∧ (∀ t, t ≠ 2 → b' t = b t) ∧ fm_N a0 a' NC' NW' ∧ (v = 0 ∧ ¬ g' 18 = 0 ∨ v = 1 ∧ g' 18 = g 18 ∧ (g' 12 = 0 ∨ E < E') ∧ fm_NW a') ∧ R = (some (.int v), fm g' tp bt a' b')
theorem fm_uL_t {b : Nat → Nat → Int64} {i t : Nat} {v : Int64} (h : t ≠ 2) : fm_uL b 2 i v t = b t := by
  unfold fm_uL
  rw [if_neg h]
