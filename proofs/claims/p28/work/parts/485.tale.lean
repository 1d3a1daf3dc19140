/-! ===== fx: the NEW table while TALES are read ===== -/
/-- a row of TALES, its first number -/
def fm_ro (x y : Int32) : Prop := ((x = 11 ∨ x = 1810 ∨ x = 1822) → 0 ≤ y.toInt ∧ y.toInt ≤ 7) ∧ (1800 ≤ x.toInt → 0 ≤ y.toInt ∧ y.toInt ≤ 9) ∧ (x = 12 → 0 ≤ y.toInt ∧ y.toInt ≤ 20)
def fm_TR (a : Nat → Nat → Int32) (n : Nat) : Prop := ∀ m, m < n → fm_ro (a 1 (3846 + 6 * m)) (a 1 (3847 + 6 * m))
/-- the arrays while a row is read: the row n has x and y first -/
def fm_TC (a0 a : Nat → Nat → Int32) (n : Nat) (x y : Int32) : Prop := (∀ t, t ≠ 1 → t ≠ 8 → a t = a0 t) ∧ (∀ i, ¬ (3368 ≤ i ∧ i < 4210) → a 1 i = a0 1 i) ∧ (∀ i, 3368 ≤ i → i < 4210 → (gm_at i).1 ≤ (a 1 i).toInt ∧ (a 1 i).toInt ≤ (gm_at i).2) ∧ fm_sy a 3368 ∧ fm_TR a n ∧ a 1 (3846 + 6 * n) = x ∧ a 1 (3847 + 6 * n) = y ∧ n < 60 ∧ a 1 3374 = nI (n + 1)
def fm_TS (a0 : Nat → Nat → Int32) (g : Nat → Int32) (a : Nat → Nat → Int32) (n D K : Nat) : Prop := (∀ t, t ≠ 1 → t ≠ 8 → a t = a0 t) ∧ (∀ i, ¬ (3368 ≤ i ∧ i < 4210) → a 1 i = a0 1 i) ∧ (∀ i, 3368 ≤ i → i < 4210 → (gm_at i).1 ≤ (a 1 i).toInt ∧ (a 1 i).toInt ≤ (gm_at i).2) ∧ fm_sy a 3368 ∧ a 1 3374 = nI n ∧ (g 22 = nI D ∧ D ≤ 3 ∧ g 23 = nI K ∧ K ≤ 30 ∧ n + D ≤ 2 * K) ∧ (∀ d, d < D → ∃ o, o < n ∧ a 8 d = nI o) ∧ ∀ d, d < 3 → ∃ o, o ≤ 59 ∧ a 8 d = nI o
/-- the heads of the LAKE that is there -/
def fm_th (a0 : Nat → Nat → Int32) (C W : Nat) : Prop := a0 1 0 = nI C ∧ C ≤ 10 ∧ a0 1 1 = nI W ∧ W ≤ 8
theorem gm_at_s0 : ∀ n, n < 60 → gm_at (3846 + 6 * n) = (0, 1922) := by decide
theorem gm_at_s1 : ∀ n, n < 60 → gm_at (3847 + 6 * n) = (-1, 99) := by decide
theorem gm_at_s2 : ∀ n, n < 60 → gm_at (3848 + 6 * n) = (-1, 999) := by decide
theorem gm_at_s3 : ∀ n, n < 60 → gm_at (3849 + 6 * n) = (0, 0) := by decide
theorem gm_at_s4 : ∀ n, n < 60 → gm_at (3850 + 6 * n) = (0, 59) := by decide
theorem gm_at_s5 : ∀ n, n < 60 → gm_at (3851 + 6 * n) = (-2147483648, 2147483647) := by decide
theorem fm_TC_u {a0 a : Nat → Nat → Int32} {n T : Nat} {x y v : Int32} (h : fm_TC a0 a n x y) (h1 : 3846 + 6 * n ≤ T ∧ T < 3852 + 6 * n ∨ ∃ m, m < 60 ∧ T = 3850 + 6 * m) (h2 : (gm_at T).1 ≤ v.toInt ∧ v.toInt ≤ (gm_at T).2) : fm_TC a0 (fm_u a 1 T v) n (if 3846 + 6 * n = T then v else x) (if 3847 + 6 * n = T then v else y) := by
  obtain ⟨e1, e2, e3, e4, e5, e6, e7, e8, e9⟩ := h
  have hT : 3846 ≤ T ∧ T < 4206 := by
    rcases h1 with z | ⟨m, z1, z2⟩ <;> omega
  refine ⟨fun t t1 t8 => by rw [fm_ut t1]; exact e1 t t1 t8, fun i hi => ?_, fun i h5 h6 => ?_, fun c d hc hd => ?_, fun m hm => ?_, ?_, ?_, e8, ?_⟩
  · rw [fm_u1, if_neg (by omega)]; exact e2 i hi
  · rw [fm_u1]
    split
    · next e => rw [e]; exact h2
    · exact e3 i h5 h6
  · rw [fm_u1, fm_u1, if_neg (by omega), if_neg (by omega)]; exact e4 c d hc hd
  · have q1 : ¬ 3846 + 6 * m = T := by rcases h1 with z | ⟨m, z1, z2⟩ <;> omega
    have q2 : ¬ 3847 + 6 * m = T := by rcases h1 with z | ⟨m, z1, z2⟩ <;> omega
    rw [fm_u1, fm_u1, if_neg q1, if_neg q2]; exact e5 m hm
  · rw [fm_u1, e6]
  · rw [fm_u1, e7]
  · rw [fm_u1, if_neg (by omega)]; exact e9
theorem fm_TC_0 {a0 a : Nat → Nat → Int32} {n : Nat} {x y v : Int32} (h : fm_TC a0 a n x y) (h1 : 0 ≤ v.toInt) (h2 : v.toInt ≤ 1922) : fm_TC a0 (fm_u a 1 (3846 + 6 * n) v) n v y := by
  have := fm_TC_u h (Or.inl ⟨Nat.le_refl _, by omega⟩) (fm_bdI (gm_at_s0 n h.2.2.2.2.2.2.2.1) h1 h2)
  rw [if_pos rfl, if_neg (by omega)] at this
  exact this
theorem fm_TC_1 {a0 a : Nat → Nat → Int32} {n : Nat} {x y v : Int32} (h : fm_TC a0 a n x y) (h1 : -1 ≤ v.toInt) (h2 : v.toInt ≤ 99) : fm_TC a0 (fm_u a 1 (3847 + 6 * n) v) n x v := by
  have := fm_TC_u h (Or.inl ⟨by omega, by omega⟩) (fm_bdI (gm_at_s1 n h.2.2.2.2.2.2.2.1) h1 h2)
  rw [if_pos rfl, if_neg (by omega)] at this
  exact this
theorem fm_TC_2 {a0 a : Nat → Nat → Int32} {n : Nat} {x y v : Int32} (h : fm_TC a0 a n x y) (h1 : -1 ≤ v.toInt) (h2 : v.toInt ≤ 999) : fm_TC a0 (fm_u a 1 (3848 + 6 * n) v) n x y := by
  have := fm_TC_u h (Or.inl ⟨by omega, by omega⟩) (fm_bdI (gm_at_s2 n h.2.2.2.2.2.2.2.1) h1 h2)
  rw [if_neg (by omega), if_neg (by omega)] at this
  exact this
theorem fm_TC_5 {a0 a : Nat → Nat → Int32} {n : Nat} {x y v : Int32} (h : fm_TC a0 a n x y) : fm_TC a0 (fm_u a 1 (3851 + 6 * n) v) n x y := by
  have := fm_TC_u h (v := v) (Or.inl ⟨by omega, by omega⟩) (fm_full (gm_at_s5 n h.2.2.2.2.2.2.2.1))
  rw [if_neg (by omega), if_neg (by omega)] at this
  exact this
theorem fm_TC_4 {a0 a : Nat → Nat → Int32} {n m : Nat} {x y v : Int32} (h : fm_TC a0 a n x y) (hm : m < 60) (h1 : 0 ≤ v.toInt) (h2 : v.toInt ≤ 59) : fm_TC a0 (fm_u a 1 (3850 + 6 * m) v) n x y := by
  have := fm_TC_u h (Or.inr ⟨m, hm, rfl⟩) (fm_bdI (gm_at_s4 m hm) h1 h2)
  rw [if_neg (by omega), if_neg (by omega)] at this
  exact this
theorem fm_TC_8 {a0 a : Nat → Nat → Int32} {n d : Nat} {x y v : Int32} (h : fm_TC a0 a n x y) : fm_TC a0 (fm_u a 8 d v) n x y := by
  obtain ⟨e1, e2, e3, e4, e5, e6, e7, e8, e9⟩ := h
  have e : (fm_u a 8 d v) 1 = a 1 := fm_utt (by decide)
  exact ⟨fun t t1 t8 => by rw [fm_utt t8]; exact e1 t t1 t8, by rw [e]; exact e2, by rw [e]; exact e3, fun c d hc hd => by rw [e]; exact e4 c d hc hd, fun m hm => by rw [e]; exact e5 m hm, by rw [e]; exact e6, by rw [e]; exact e7, e8, by rw [e]; exact e9⟩
/-- a row is begun -/
def fm_row (a : Nat → Nat → Int32) (n r : Nat) (k : Int32) : Nat → Nat → Int32 := fm_u (fm_u (fm_u (fm_u (fm_u (fm_u (fm_u a 1 r k) 1 (r + 1) 0) 1 (r + 2) 0) 1 (r + 3) 0) 1 (r + 4) 0) 1 (r + 5) 0) 1 3374 (nI (n + 1))
theorem fm_row_1 {a : Nat → Nat → Int32} {n r i : Nat} {k : Int32} : fm_row a n r k 1 i = if i = 3374 then nI (n + 1) else if r + 1 ≤ i ∧ i ≤ r + 5 then 0 else if i = r then k else a 1 i := by
  unfold fm_row
  rw [fm_u1]
  by_cases h0 : i = 3374
  · rw [if_pos h0, if_pos h0]
  · rw [if_neg h0, if_neg h0, fm_u1, fm_u1, fm_u1, fm_u1, fm_u1, fm_u1]
    by_cases h1 : i = r + 5
    · rw [if_pos h1, if_pos (by omega)]
    rw [if_neg h1]
    by_cases h2 : i = r + 4
    · rw [if_pos h2, if_pos (by omega)]
    rw [if_neg h2]
    by_cases h3 : i = r + 3
    · rw [if_pos h3, if_pos (by omega)]
    rw [if_neg h3]
    by_cases h4 : i = r + 2
    · rw [if_pos h4, if_pos (by omega)]
    rw [if_neg h4]
    by_cases h5 : i = r + 1
    · rw [if_pos h5, if_pos (by omega)]
    rw [if_neg h5, if_neg (show ¬ (r + 1 ≤ i ∧ i ≤ r + 5) by omega)]
theorem fm_row_t {a : Nat → Nat → Int32} {n r t : Nat} {k : Int32} (ht : t ≠ 1) : fm_row a n r k t = a t := by
  unfold fm_row
  rw [fm_ut ht, fm_ut ht, fm_ut ht, fm_ut ht, fm_ut ht, fm_ut ht, fm_ut ht]
theorem fm_TC_new {a0 a : Nat → Nat → Int32} {g : Nat → Int32} {n D K : Nat} {k : Int32} (h : fm_TS a0 g a n D K) (hR : fm_TR a n) (hn : n < 60) (h1 : 0 ≤ k.toInt) (h2 : k.toInt ≤ 1922) : fm_TC a0 (fm_row a n (3846 + 6 * n) k) n k 0 := by
  obtain ⟨e1, e2, e3, e4, e5, -, -, -⟩ := h
  refine ⟨fun t t1 t8 => by rw [fm_row_t t1]; exact e1 t t1 t8, fun i hi => ?_, fun i h5 h6 => ?_, fun c d hc hd => ?_, fun m hm => ?_, ?_, ?_, hn, ?_⟩
  · rw [fm_row_1, if_neg (by omega), if_neg (by omega), if_neg (by omega)]; exact e2 i hi
  · rw [fm_row_1]
    by_cases q0 : i = 3374
    · rw [if_pos q0, q0, nI_i32 (by omega)]
      rw [show gm_at 3374 = (-1, 60) from rfl]
      exact ⟨by show (-1 : Int) ≤ _; omega, by show _ ≤ (60 : Int); omega⟩
    · rw [if_neg q0]
      by_cases q1 : 3846 + 6 * n + 1 ≤ i ∧ i ≤ 3846 + 6 * n + 5
      · rw [if_pos q1]
        have q2 : i = 3847 + 6 * n ∨ i = 3848 + 6 * n ∨ i = 3849 + 6 * n ∨ i = 3850 + 6 * n ∨ i = 3851 + 6 * n := by omega
        rcases q2 with rfl | rfl | rfl | rfl | rfl
        · rw [gm_at_s1 n hn]; decide
        · rw [gm_at_s2 n hn]; decide
        · rw [gm_at_s3 n hn]; decide
        · rw [gm_at_s4 n hn]; decide
        · rw [gm_at_s5 n hn]; decide
      · rw [if_neg q1]
        by_cases q2 : i = 3846 + 6 * n
        · rw [if_pos q2, q2, gm_at_s0 n hn]; exact ⟨h1, h2⟩
        · rw [if_neg q2]; exact e3 i h5 h6
  · rw [fm_row_1, fm_row_1, if_neg (by omega), if_neg (by omega), if_neg (by omega), if_neg (by omega), if_neg (by omega), if_neg (by omega)]; exact e4 c d hc hd
  · rw [fm_row_1, fm_row_1, if_neg (by omega), if_neg (by omega), if_neg (by omega), if_neg (by omega), if_neg (by omega), if_neg (by omega)]; exact hR m hm
  · rw [fm_row_1, if_neg (by omega), if_neg (by omega), if_pos rfl]
  · rw [fm_row_1, if_neg (by omega), if_pos (by omega)]
  · rw [fm_row_1, if_pos rfl]
theorem fm_TS_of {a0 a : Nat → Nat → Int32} {g : Nat → Int32} {n D K : Nat} {x y : Int32} (h : fm_TC a0 a n x y) (hg : g 22 = nI D ∧ D ≤ 3 ∧ g 23 = nI K ∧ K ≤ 30 ∧ n + 1 + D ≤ 2 * K) (h8 : ∀ d, d < D → ∃ o, o < n + 1 ∧ a 8 d = nI o) (h9 : ∀ d, d < 3 → ∃ o, o ≤ 59 ∧ a 8 d = nI o) : fm_TS a0 g a (n + 1) D K := ⟨h.1, h.2.1, h.2.2.1, h.2.2.2.1, h.2.2.2.2.2.2.2.2, hg, h8, h9⟩
theorem fm_TR_of {a0 a : Nat → Nat → Int32} {n : Nat} {x y : Int32} (h : fm_TC a0 a n x y) (hr : fm_ro x y) : fm_TR a (n + 1) := fun m hm => by
  rcases Nat.lt_or_ge m n with z | z
  · exact h.2.2.2.2.1 m z
  · obtain rfl : n = m := by omega
    rw [h.2.2.2.2.2.1, h.2.2.2.2.2.2.1]
    exact hr
theorem fm_ro_n {x y : Int32} (h1 : ¬ x = 11) (h2 : ¬ x = 1810) (h3 : ¬ x = 1822) (h4 : ¬ 1800 ≤ x.toInt) (h5 : ¬ x = 12) : fm_ro x y := ⟨fun z => by rcases z with z | z | z; exact absurd z h1; exact absurd z h2; exact absurd z h3, fun z => absurd z h4, fun z => absurd z h5⟩
theorem fm_ro_w {x y : Int32} (h1 : 0 ≤ y.toInt) (h2 : y.toInt ≤ 7) : fm_ro x y := ⟨fun _ => ⟨h1, h2⟩, fun _ => ⟨h1, by omega⟩, fun _ => ⟨h1, by omega⟩⟩
theorem fm_ro_c {x y : Int32} (h1 : 0 ≤ y.toInt) (h2 : y.toInt ≤ 9) (hx : ¬ (x = 11 ∨ x = 1810 ∨ x = 1822)) : fm_ro x y := ⟨fun z => absurd z hx, fun _ => ⟨h1, h2⟩, fun _ => ⟨h1, by omega⟩⟩
theorem fm_ro_s {x y : Int32} (h1 : 0 ≤ y.toInt) (h2 : y.toInt ≤ 20) (hx : ¬ (x = 11 ∨ x = 1810 ∨ x = 1822)) (h8 : ¬ 1800 ≤ x.toInt) : fm_ro x y := ⟨fun z => absurd z hx, fun z => absurd z h8, fun _ => ⟨h1, h2⟩⟩
/-- what an order of a STEP leaves behind -/
def fm_FTO (a0 a : Nat → Nat → Int32) (g : Nat → Int32) (tp bt : Int64) (b : Nat → Nat → Int64) (S E n : Nat) (R : Option Value × fx_M) : Prop := ∃ (v : Int32) (g' : Nat → Int32) (E' F' : Nat) (a' : Nat → Nat → Int32) (x y : Int32), fm_go g g' S E E' F' ∧ fm_TC a0 a' n x y ∧ a' 8 = a 8 ∧ (v = 0 ∧ ¬ g' 18 = 0 ∨ v = 1 ∧ g' 18 = g 18 ∧ fm_ro x y) ∧ R = (some (.int v), fm g' tp bt a' b)
def fm_FTS (a0 : Nat → Nat → Int32) (g : Nat → Int32) (tp bt : Int64) (b : Nat → Nat → Int64) (S E : Nat) (R : Option Value × fx_M) : Prop := ∃ (v : Int32) (g' : Nat → Int32) (E' F' : Nat) (a' : Nat → Nat → Int32) (n D K : Nat), fm_gy g g' S E E' F' ∧ fm_TS a0 g' a' n D K ∧ (v = 0 ∧ ¬ g' 18 = 0 ∨ v = 1 ∧ g' 18 = g 18 ∧ (g' 12 = 0 ∨ E < E') ∧ fm_TR a' n) ∧ R = (some (.int v), fm g' tp bt a' b)
