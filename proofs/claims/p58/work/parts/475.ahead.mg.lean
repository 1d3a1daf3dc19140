section MH0_0
/-! ===== fx: ahead ===== -/
section FAH
variable {g : Nat → Int32} {tp bt : Int64} {a : Nat → Nat → Int32} {b : Nat → Nat → Int64}
/-- but for the token nothing is changed -/
def fm_txt (g g' : Nat → Int32) : Prop := ∀ j, j ≠ 12 → j ≠ 13 → j ≠ 14 → j ≠ 15 → g' j = g j
theorem fm_txt_rf : fm_txt g g := fun _ _ _ _ _ => rfl
theorem fm_txt_tr {g1 g2 : Nat → Int32} (h : fm_txt g g1) (h2 : fm_txt g1 g2) : fm_txt g g2 := fun j q1 q2 q3 q4 => (h2 j q1 q2 q3 q4).trans (h j q1 q2 q3 q4)
theorem fm_txt_12 {g1 : Nat → Int32} {x : Int32} (h : fm_txt g g1) : fm_txt g (upd g1 12 x) := fun j q1 q2 q3 q4 => by rw [pk_un q1]; exact h j q1 q2 q3 q4
theorem fm_txt_13 {g1 : Nat → Int32} {x : Int32} (h : fm_txt g g1) : fm_txt g (upd g1 13 x) := fun j q1 q2 q3 q4 => by rw [pk_un q2]; exact h j q1 q2 q3 q4
theorem fm_txt_14 {g1 : Nat → Int32} {x : Int32} (h : fm_txt g g1) : fm_txt g (upd g1 14 x) := fun j q1 q2 q3 q4 => by rw [pk_un q3]; exact h j q1 q2 q3 q4
theorem fm_txt_15 {g1 : Nat → Int32} {x : Int32} (h : fm_txt g g1) : fm_txt g (upd g1 15 x) := fun j q1 q2 q3 q4 => by rw [pk_un q4]; exact h j q1 q2 q3 q4
/-- the text's state -/
def fm_xp (g : Nat → Int32) (S E F : Nat) : Prop := g 11 = nI S ∧ S ≤ 900 ∧ g 14 = nI E ∧ E ≤ S ∧ g 13 = nI F ∧ F ≤ E ∧ (∃ t, t ≤ 4 ∧ g 12 = nI t) ∧ -1 ≤ (g 15).toInt ∧ (g 15).toInt ≤ 100000
def fm_FA (g : Nat → Int32) (tp bt : Int64) (a : Nat → Nat → Int32) (b : Nat → Nat → Int64) (S E : Nat) (R : Option Value × fx_M) : Prop := ∃ (g' : Nat → Int32) (E' F' : Nat), fm_txt g g' ∧ fm_xp g' S E' F' ∧ E ≤ F' ∧ (g' 12 = 0 ∨ E < E') ∧ R = (none, fm g' tp bt a b)
theorem fa_81 {S E F2 : Nat} {c : Int32} (hS9 : S ≤ 900) (hEF : E ≤ F2) : ∀ (r E2 : Nat), E2 + r = S → ∀ (g2 : Nat → Int32), fm_txt g g2 → g2 11 = nI S → g2 14 = nI E2 → g2 13 = nI F2 → F2 ≤ E2 → E < E2 → -1 ≤ (g2 15).toInt ∧ (g2 15).toInt ≤ 100000 → fe_R 1 gk_m224 81 [(1, .int c), (0, .ref 0)] [] (fm g2 tp bt a b) (fm_FA g tp bt a b S E) := by
  intro r
  induction r with
  | zero =>
    intro E2 hr g2 hx h11 h14 h13 hFE hEE h15
    refine fe_s 3 (pc' := 86) (lc' := [(1, .int c), (0, .ref 0)]) (stk' := [.int (g2 14), .ref 0]) (mem' := fm g2 tp bt a b) (by intro _ _ _; eq_refl) ?_
    try rw [h14]
    refine fe_ivV (fr_byteAt (S := S) (k := E2) (g := g2) (tp := tp) (bt := bt) (a := a) (b := b) h11 (by omega) (by omega)) (by omega) (by rfl) (by rfl) (by rfl) (by rfl) (by rfl) (by rfl) ?_
    rcases fm_byte_or a S E2 with ⟨e2, q3⟩ | ⟨q3, n1, qn1, e2⟩
    · rw [e2]
      refine fe_ivS fr_isSmallN (by omega) (by rfl) (by rfl) (by rfl) (by rfl) (by rfl) ?_
      refine fe_s 1 (pc' := cond (fx_cb .eq 0 0) 108 95) (lc' := [(1, .int c), (0, .ref 0)]) (stk' := []) (mem' := fm g2 tp bt a b) (by intro _ _ _; eq_refl) ?_
      rw [show (fx_cb .eq 0 0) = true from by decide]
      dsimp only [cond]
      refine fe_s 4 (pc' := 251) (lc' := [(1, .int c), (0, .ref 0)]) (stk' := []) (mem' := fm (upd g2 12 2) tp bt a b) (by intro _ _ _; eq_refl) ?_
      exact fe_ret ⟨_, E2, F2, (fm_txt_12 hx), ⟨h11, by omega, h14, by omega, h13, by omega, ⟨2, by omega, rfl⟩, h15.1, h15.2⟩, by omega, Or.inr (by omega), rfl⟩ (by rfl) (by rfl) (by rfl)
    · rw [e2]
      by_cases s4 : 97 ≤ n1 ∧ n1 ≤ 122
      · refine fe_ivS (fr_isSmall1 (n := n1) s4.1 s4.2) (by omega) (by rfl) (by rfl) (by rfl) (by rfl) (by rfl) ?_
        refine fe_s 1 (pc' := cond (fx_cb .eq 1 0) 108 95) (lc' := [(1, .int c), (0, .ref 0)]) (stk' := []) (mem' := fm g2 tp bt a b) (by intro _ _ _; eq_refl) ?_
        rw [show (fx_cb .eq 1 0) = false from by decide]
        dsimp only [cond]
        refine fe_s 7 (pc' := 81) (lc' := [(1, .int c), (0, .ref 0)]) (stk' := []) (mem' := fm (upd g2 14 ((g2 14) + 1)) tp bt a b) (by intro _ _ _; eq_refl) ?_
        try rw [h14]
        rw [show ((nI E2) + 1 : Int32) = nI (E2 + 1) from by simp only [show (1 : Int32) = nI 1 from rfl, nI_add, fm_mul]]
        omega
      · refine fe_ivS (fr_isSmall0 (n := n1) (by omega) s4) (by omega) (by rfl) (by rfl) (by rfl) (by rfl) (by rfl) ?_
        refine fe_s 1 (pc' := cond (fx_cb .eq 0 0) 108 95) (lc' := [(1, .int c), (0, .ref 0)]) (stk' := []) (mem' := fm g2 tp bt a b) (by intro _ _ _; eq_refl) ?_
        rw [show (fx_cb .eq 0 0) = true from by decide]
        dsimp only [cond]
        refine fe_s 4 (pc' := 251) (lc' := [(1, .int c), (0, .ref 0)]) (stk' := []) (mem' := fm (upd g2 12 2) tp bt a b) (by intro _ _ _; eq_refl) ?_
        exact fe_ret ⟨_, E2, F2, (fm_txt_12 hx), ⟨h11, by omega, h14, by omega, h13, by omega, ⟨2, by omega, rfl⟩, h15.1, h15.2⟩, by omega, Or.inr (by omega), rfl⟩ (by rfl) (by rfl) (by rfl)
  | succ r ih =>
    intro E2 hr g2 hx h11 h14 h13 hFE hEE h15
    refine fe_s 3 (pc' := 86) (lc' := [(1, .int c), (0, .ref 0)]) (stk' := [.int (g2 14), .ref 0]) (mem' := fm g2 tp bt a b) (by intro _ _ _; eq_refl) ?_
    try rw [h14]
    refine fe_ivV (fr_byteAt (S := S) (k := E2) (g := g2) (tp := tp) (bt := bt) (a := a) (b := b) h11 (by omega) (by omega)) (by omega) (by rfl) (by rfl) (by rfl) (by rfl) (by rfl) (by rfl) ?_
    rcases fm_byte_or a S E2 with ⟨e6, q7⟩ | ⟨q7, n5, qn5, e6⟩
    · rw [e6]
      refine fe_ivS fr_isSmallN (by omega) (by rfl) (by rfl) (by rfl) (by rfl) (by rfl) ?_
      refine fe_s 1 (pc' := cond (fx_cb .eq 0 0) 108 95) (lc' := [(1, .int c), (0, .ref 0)]) (stk' := []) (mem' := fm g2 tp bt a b) (by intro _ _ _; eq_refl) ?_
      rw [show (fx_cb .eq 0 0) = true from by decide]
      dsimp only [cond]
      refine fe_s 4 (pc' := 251) (lc' := [(1, .int c), (0, .ref 0)]) (stk' := []) (mem' := fm (upd g2 12 2) tp bt a b) (by intro _ _ _; eq_refl) ?_
      exact fe_ret ⟨_, E2, F2, (fm_txt_12 hx), ⟨h11, by omega, h14, by omega, h13, by omega, ⟨2, by omega, rfl⟩, h15.1, h15.2⟩, by omega, Or.inr (by omega), rfl⟩ (by rfl) (by rfl) (by rfl)
    · rw [e6]
      by_cases s8 : 97 ≤ n5 ∧ n5 ≤ 122
      · refine fe_ivS (fr_isSmall1 (n := n5) s8.1 s8.2) (by omega) (by rfl) (by rfl) (by rfl) (by rfl) (by rfl) ?_
        refine fe_s 1 (pc' := cond (fx_cb .eq 1 0) 108 95) (lc' := [(1, .int c), (0, .ref 0)]) (stk' := []) (mem' := fm g2 tp bt a b) (by intro _ _ _; eq_refl) ?_
        rw [show (fx_cb .eq 1 0) = false from by decide]
        dsimp only [cond]
        refine fe_s 7 (pc' := 81) (lc' := [(1, .int c), (0, .ref 0)]) (stk' := []) (mem' := fm (upd g2 14 ((g2 14) + 1)) tp bt a b) (by intro _ _ _; eq_refl) ?_
        try rw [h14]
        rw [show ((nI E2) + 1 : Int32) = nI (E2 + 1) from by simp only [show (1 : Int32) = nI 1 from rfl, nI_add, fm_mul]]
        exact ih (E2 + 1) (by omega) _ (fm_txt_14 hx) h11 rfl h13 (by omega) (by omega) h15
      · refine fe_ivS (fr_isSmall0 (n := n5) (by omega) s8) (by omega) (by rfl) (by rfl) (by rfl) (by rfl) (by rfl) ?_
        refine fe_s 1 (pc' := cond (fx_cb .eq 0 0) 108 95) (lc' := [(1, .int c), (0, .ref 0)]) (stk' := []) (mem' := fm g2 tp bt a b) (by intro _ _ _; eq_refl) ?_
        rw [show (fx_cb .eq 0 0) = true from by decide]
        dsimp only [cond]
        refine fe_s 4 (pc' := 251) (lc' := [(1, .int c), (0, .ref 0)]) (stk' := []) (mem' := fm (upd g2 12 2) tp bt a b) (by intro _ _ _; eq_refl) ?_
        exact fe_ret ⟨_, E2, F2, (fm_txt_12 hx), ⟨h11, by omega, h14, by omega, h13, by omega, ⟨2, by omega, rfl⟩, h15.1, h15.2⟩, by omega, Or.inr (by omega), rfl⟩ (by rfl) (by rfl) (by rfl)
theorem fm_minI {a b : Nat} (ha : a < 2147483648) (hb : b < 2147483648) : (if nI a < nI b then nI a else nI b) = nI (min a b) := by
  by_cases h : a < b
  · rw [if_pos ((nI_ltI (by omega) (by omega)).mpr h), Nat.min_eq_left (by omega)]
  · rw [if_neg (fun z => h ((nI_ltI (by omega) (by omega)).mp z)), Nat.min_eq_right (by omega)]
theorem fm_vb {v : Nat} (h : v ≤ 100000) : -1 ≤ (nI v).toInt ∧ (nI v).toInt ≤ 100000 := by
  rw [nI_i32 (by omega)]
  omega
theorem fa_128 {S E F2 : Nat} {c : Int32} (hS9 : S ≤ 900) (hEF : E ≤ F2) : ∀ (r E2 V : Nat), E2 + r = S → ∀ (g2 : Nat → Int32), fm_txt g g2 → g2 11 = nI S → g2 14 = nI E2 → g2 13 = nI F2 → F2 ≤ E2 → E < E2 → g2 15 = nI V → V ≤ 100000 → fe_R 1 gk_m224 128 [(1, .int c), (0, .ref 0)] [] (fm g2 tp bt a b) (fm_FA g tp bt a b S E) := by
  intro r
  induction r with
  | zero =>
    intro E2 V hr g2 hx h11 h14 h13 hFE hEE h15 hV
    have hvb := fm_vb hV
    rw [← h15] at hvb
    refine fe_s 3 (pc' := 133) (lc' := [(1, .int c), (0, .ref 0)]) (stk' := [.int (g2 14), .ref 0]) (mem' := fm g2 tp bt a b) (by intro _ _ _; eq_refl) ?_
    try rw [h14]
    refine fe_ivV (fr_byteAt (S := S) (k := E2) (g := g2) (tp := tp) (bt := bt) (a := a) (b := b) h11 (by omega) (by omega)) (by omega) (by rfl) (by rfl) (by rfl) (by rfl) (by rfl) (by rfl) ?_
    rcases fm_byte_or a S E2 with ⟨e2, q3⟩ | ⟨q3, n1, qn1, e2⟩
    · rw [e2]
      refine fe_ivS fr_isDigitN (by omega) (by rfl) (by rfl) (by rfl) (by rfl) (by rfl) ?_
      refine fe_s 1 (pc' := cond (fx_cb .eq 0 0) 183 142) (lc' := [(1, .int c), (0, .ref 0)]) (stk' := []) (mem' := fm g2 tp bt a b) (by intro _ _ _; eq_refl) ?_
      rw [show (fx_cb .eq 0 0) = true from by decide]
      dsimp only [cond]
      refine fe_s 7 (pc' := 194) (lc' := [(1, .int c), (0, .ref 0)]) (stk' := [.int 4, .int ((g2 14) - (g2 13)), .ref 0]) (mem' := fm g2 tp bt a b) (by intro _ _ _; eq_refl) ?_
      try rw [h14]
      try rw [h13]
      refine fe_s 1 (pc' := cond (fx_cb .le ((nI E2) - (nI F2)) 4) 201 197) (lc' := [(1, .int c), (0, .ref 0)]) (stk' := [.ref 0]) (mem' := fm g2 tp bt a b) (by intro _ _ _; eq_refl) ?_
      cases h4 : fx_cb .le ((nI E2) - (nI F2)) 4
      · refine fe_s 4 (pc' := 251) (lc' := [(1, .int c), (0, .ref 0)]) (stk' := []) (mem' := fm (upd g2 12 1) tp bt a b) (by intro _ _ _; eq_refl) ?_
        exact fe_ret ⟨_, E2, F2, (fm_txt_12 hx), ⟨h11, by omega, h14, by omega, h13, by omega, ⟨1, by omega, rfl⟩, hvb.1, hvb.2⟩, by omega, Or.inr (by omega), rfl⟩ (by rfl) (by rfl) (by rfl)
      · refine fe_s 3 (pc' := 251) (lc' := [(1, .int c), (0, .ref 0)]) (stk' := []) (mem' := fm (upd g2 12 3) tp bt a b) (by intro _ _ _; eq_refl) ?_
        exact fe_ret ⟨_, E2, F2, (fm_txt_12 hx), ⟨h11, by omega, h14, by omega, h13, by omega, ⟨3, by omega, rfl⟩, hvb.1, hvb.2⟩, by omega, Or.inr (by omega), rfl⟩ (by rfl) (by rfl) (by rfl)
    · rw [e2]
      by_cases s5 : 48 ≤ n1 ∧ n1 ≤ 57
      · refine fe_ivS (fr_isDigit1 (n := n1) s5.1 s5.2) (by omega) (by rfl) (by rfl) (by rfl) (by rfl) (by rfl) ?_
        refine fe_s 1 (pc' := cond (fx_cb .eq 1 0) 183 142) (lc' := [(1, .int c), (0, .ref 0)]) (stk' := []) (mem' := fm g2 tp bt a b) (by intro _ _ _; eq_refl) ?_
        rw [show (fx_cb .eq 1 0) = false from by decide]
        dsimp only [cond]
        refine fe_s 9 (pc' := 157) (lc' := [(1, .int c), (0, .ref 0)]) (stk' := [.int (g2 14), .ref 0, .int (10 * (g2 15)), .int 100000, .ref 0]) (mem' := fm g2 tp bt a b) (by intro _ _ _; eq_refl) ?_
        try rw [h15]
        try rw [h14]
        rw [show (10 * (nI V) : Int32) = nI (10 * V) from by simp only [show (10 : Int32) = nI 10 from rfl, nI_add, fm_mul]]
        refine fe_ivV (fr_byteAt (S := S) (k := E2) (g := g2) (tp := tp) (bt := bt) (a := a) (b := b) h11 (by omega) (by omega)) (by omega) (by rfl) (by rfl) (by rfl) (by rfl) (by rfl) (by rfl) ?_
        rw [e2]
        refine fe_s 3 (pc' := 164) (lc' := [(1, .int c), (0, .ref 0)]) (stk' := [.int (((nI (10 * V)) + (nI n1)) - 48), .int 100000, .ref 0]) (mem' := fm g2 tp bt a b) (by intro _ _ _; eq_refl) ?_
        rw [show (((nI (10 * V)) + (nI n1)) - 48 : Int32) = nI (((10 * V) + n1) - 48) from by simp only [show (48 : Int32) = nI 48 from rfl, tg_sub2 (x := (10 * V) + n1) (y := 48) (by omega), nI_add, fm_mul]]
        refine fe_s 1 (pc' := 167) (lc' := [(1, .int c), (0, .ref 0)]) (stk' := [.int (if (nI (((10 * V) + n1) - 48)) < 100000 then (nI (((10 * V) + n1) - 48)) else 100000), .ref 0]) (mem' := fm g2 tp bt a b) (by intro _ _ _; eq_refl) ?_
        rw [show (if (nI (((10 * V) + n1) - 48)) < 100000 then (nI (((10 * V) + n1) - 48)) else 100000 : Int32) = nI (min (((10 * V) + n1) - 48) 100000) from fm_minI (a := ((10 * V) + n1) - 48) (b := 100000) (by omega) (by omega)]
        refine fe_s 8 (pc' := 128) (lc' := [(1, .int c), (0, .ref 0)]) (stk' := []) (mem' := fm (upd (upd g2 15 (nI (min (((10 * V) + n1) - 48) 100000))) 14 ((g2 14) + 1)) tp bt a b) (by intro _ _ _; eq_refl) ?_
        try rw [h14]
        rw [show ((nI E2) + 1 : Int32) = nI (E2 + 1) from by simp only [show (1 : Int32) = nI 1 from rfl, nI_add, fm_mul]]
        omega
      · refine fe_ivS (fr_isDigit0 (n := n1) (by omega) s5) (by omega) (by rfl) (by rfl) (by rfl) (by rfl) (by rfl) ?_
        refine fe_s 1 (pc' := cond (fx_cb .eq 0 0) 183 142) (lc' := [(1, .int c), (0, .ref 0)]) (stk' := []) (mem' := fm g2 tp bt a b) (by intro _ _ _; eq_refl) ?_
        rw [show (fx_cb .eq 0 0) = true from by decide]
        dsimp only [cond]
        refine fe_s 7 (pc' := 194) (lc' := [(1, .int c), (0, .ref 0)]) (stk' := [.int 4, .int ((g2 14) - (g2 13)), .ref 0]) (mem' := fm g2 tp bt a b) (by intro _ _ _; eq_refl) ?_
        try rw [h14]
        try rw [h13]
        refine fe_s 1 (pc' := cond (fx_cb .le ((nI E2) - (nI F2)) 4) 201 197) (lc' := [(1, .int c), (0, .ref 0)]) (stk' := [.ref 0]) (mem' := fm g2 tp bt a b) (by intro _ _ _; eq_refl) ?_
        cases h6 : fx_cb .le ((nI E2) - (nI F2)) 4
        · refine fe_s 4 (pc' := 251) (lc' := [(1, .int c), (0, .ref 0)]) (stk' := []) (mem' := fm (upd g2 12 1) tp bt a b) (by intro _ _ _; eq_refl) ?_
          exact fe_ret ⟨_, E2, F2, (fm_txt_12 hx), ⟨h11, by omega, h14, by omega, h13, by omega, ⟨1, by omega, rfl⟩, hvb.1, hvb.2⟩, by omega, Or.inr (by omega), rfl⟩ (by rfl) (by rfl) (by rfl)
        · refine fe_s 3 (pc' := 251) (lc' := [(1, .int c), (0, .ref 0)]) (stk' := []) (mem' := fm (upd g2 12 3) tp bt a b) (by intro _ _ _; eq_refl) ?_
          exact fe_ret ⟨_, E2, F2, (fm_txt_12 hx), ⟨h11, by omega, h14, by omega, h13, by omega, ⟨3, by omega, rfl⟩, hvb.1, hvb.2⟩, by omega, Or.inr (by omega), rfl⟩ (by rfl) (by rfl) (by rfl)
  | succ r ih =>
    intro E2 V hr g2 hx h11 h14 h13 hFE hEE h15 hV
    have hvb := fm_vb hV
    rw [← h15] at hvb
    refine fe_s 3 (pc' := 133) (lc' := [(1, .int c), (0, .ref 0)]) (stk' := [.int (g2 14), .ref 0]) (mem' := fm g2 tp bt a b) (by intro _ _ _; eq_refl) ?_
    try rw [h14]
    refine fe_ivV (fr_byteAt (S := S) (k := E2) (g := g2) (tp := tp) (bt := bt) (a := a) (b := b) h11 (by omega) (by omega)) (by omega) (by rfl) (by rfl) (by rfl) (by rfl) (by rfl) (by rfl) ?_
    rcases fm_byte_or a S E2 with ⟨e8, q9⟩ | ⟨q9, n7, qn7, e8⟩
    · rw [e8]
      refine fe_ivS fr_isDigitN (by omega) (by rfl) (by rfl) (by rfl) (by rfl) (by rfl) ?_
      refine fe_s 1 (pc' := cond (fx_cb .eq 0 0) 183 142) (lc' := [(1, .int c), (0, .ref 0)]) (stk' := []) (mem' := fm g2 tp bt a b) (by intro _ _ _; eq_refl) ?_
      rw [show (fx_cb .eq 0 0) = true from by decide]
      dsimp only [cond]
      refine fe_s 7 (pc' := 194) (lc' := [(1, .int c), (0, .ref 0)]) (stk' := [.int 4, .int ((g2 14) - (g2 13)), .ref 0]) (mem' := fm g2 tp bt a b) (by intro _ _ _; eq_refl) ?_
      try rw [h14]
      try rw [h13]
      refine fe_s 1 (pc' := cond (fx_cb .le ((nI E2) - (nI F2)) 4) 201 197) (lc' := [(1, .int c), (0, .ref 0)]) (stk' := [.ref 0]) (mem' := fm g2 tp bt a b) (by intro _ _ _; eq_refl) ?_
      cases h10 : fx_cb .le ((nI E2) - (nI F2)) 4
      · refine fe_s 4 (pc' := 251) (lc' := [(1, .int c), (0, .ref 0)]) (stk' := []) (mem' := fm (upd g2 12 1) tp bt a b) (by intro _ _ _; eq_refl) ?_
        exact fe_ret ⟨_, E2, F2, (fm_txt_12 hx), ⟨h11, by omega, h14, by omega, h13, by omega, ⟨1, by omega, rfl⟩, hvb.1, hvb.2⟩, by omega, Or.inr (by omega), rfl⟩ (by rfl) (by rfl) (by rfl)
      · refine fe_s 3 (pc' := 251) (lc' := [(1, .int c), (0, .ref 0)]) (stk' := []) (mem' := fm (upd g2 12 3) tp bt a b) (by intro _ _ _; eq_refl) ?_
        exact fe_ret ⟨_, E2, F2, (fm_txt_12 hx), ⟨h11, by omega, h14, by omega, h13, by omega, ⟨3, by omega, rfl⟩, hvb.1, hvb.2⟩, by omega, Or.inr (by omega), rfl⟩ (by rfl) (by rfl) (by rfl)
    · rw [e8]
      by_cases s11 : 48 ≤ n7 ∧ n7 ≤ 57
      · refine fe_ivS (fr_isDigit1 (n := n7) s11.1 s11.2) (by omega) (by rfl) (by rfl) (by rfl) (by rfl) (by rfl) ?_
        refine fe_s 1 (pc' := cond (fx_cb .eq 1 0) 183 142) (lc' := [(1, .int c), (0, .ref 0)]) (stk' := []) (mem' := fm g2 tp bt a b) (by intro _ _ _; eq_refl) ?_
        rw [show (fx_cb .eq 1 0) = false from by decide]
        dsimp only [cond]
        refine fe_s 9 (pc' := 157) (lc' := [(1, .int c), (0, .ref 0)]) (stk' := [.int (g2 14), .ref 0, .int (10 * (g2 15)), .int 100000, .ref 0]) (mem' := fm g2 tp bt a b) (by intro _ _ _; eq_refl) ?_
        try rw [h15]
        try rw [h14]
        rw [show (10 * (nI V) : Int32) = nI (10 * V) from by simp only [show (10 : Int32) = nI 10 from rfl, nI_add, fm_mul]]
        refine fe_ivV (fr_byteAt (S := S) (k := E2) (g := g2) (tp := tp) (bt := bt) (a := a) (b := b) h11 (by omega) (by omega)) (by omega) (by rfl) (by rfl) (by rfl) (by rfl) (by rfl) (by rfl) ?_
        rw [e8]
        refine fe_s 3 (pc' := 164) (lc' := [(1, .int c), (0, .ref 0)]) (stk' := [.int (((nI (10 * V)) + (nI n7)) - 48), .int 100000, .ref 0]) (mem' := fm g2 tp bt a b) (by intro _ _ _; eq_refl) ?_
        rw [show (((nI (10 * V)) + (nI n7)) - 48 : Int32) = nI (((10 * V) + n7) - 48) from by simp only [show (48 : Int32) = nI 48 from rfl, tg_sub2 (x := (10 * V) + n7) (y := 48) (by omega), nI_add, fm_mul]]
        refine fe_s 1 (pc' := 167) (lc' := [(1, .int c), (0, .ref 0)]) (stk' := [.int (if (nI (((10 * V) + n7) - 48)) < 100000 then (nI (((10 * V) + n7) - 48)) else 100000), .ref 0]) (mem' := fm g2 tp bt a b) (by intro _ _ _; eq_refl) ?_
        rw [show (if (nI (((10 * V) + n7) - 48)) < 100000 then (nI (((10 * V) + n7) - 48)) else 100000 : Int32) = nI (min (((10 * V) + n7) - 48) 100000) from fm_minI (a := ((10 * V) + n7) - 48) (b := 100000) (by omega) (by omega)]
        refine fe_s 8 (pc' := 128) (lc' := [(1, .int c), (0, .ref 0)]) (stk' := []) (mem' := fm (upd (upd g2 15 (nI (min (((10 * V) + n7) - 48) 100000))) 14 ((g2 14) + 1)) tp bt a b) (by intro _ _ _; eq_refl) ?_
        try rw [h14]
        rw [show ((nI E2) + 1 : Int32) = nI (E2 + 1) from by simp only [show (1 : Int32) = nI 1 from rfl, nI_add, fm_mul]]
        exact ih (E2 + 1) (min (((10 * V) + n7) - 48) 100000) (by omega) _ (fm_txt_14 (fm_txt_15 hx)) h11 rfl h13 (by omega) (by omega) rfl (by omega)
      · refine fe_ivS (fr_isDigit0 (n := n7) (by omega) s11) (by omega) (by rfl) (by rfl) (by rfl) (by rfl) (by rfl) ?_
        refine fe_s 1 (pc' := cond (fx_cb .eq 0 0) 183 142) (lc' := [(1, .int c), (0, .ref 0)]) (stk' := []) (mem' := fm g2 tp bt a b) (by intro _ _ _; eq_refl) ?_
        rw [show (fx_cb .eq 0 0) = true from by decide]
        dsimp only [cond]
        refine fe_s 7 (pc' := 194) (lc' := [(1, .int c), (0, .ref 0)]) (stk' := [.int 4, .int ((g2 14) - (g2 13)), .ref 0]) (mem' := fm g2 tp bt a b) (by intro _ _ _; eq_refl) ?_
        try rw [h14]
        try rw [h13]
        refine fe_s 1 (pc' := cond (fx_cb .le ((nI E2) - (nI F2)) 4) 201 197) (lc' := [(1, .int c), (0, .ref 0)]) (stk' := [.ref 0]) (mem' := fm g2 tp bt a b) (by intro _ _ _; eq_refl) ?_
        cases h12 : fx_cb .le ((nI E2) - (nI F2)) 4
        · refine fe_s 4 (pc' := 251) (lc' := [(1, .int c), (0, .ref 0)]) (stk' := []) (mem' := fm (upd g2 12 1) tp bt a b) (by intro _ _ _; eq_refl) ?_
          exact fe_ret ⟨_, E2, F2, (fm_txt_12 hx), ⟨h11, by omega, h14, by omega, h13, by omega, ⟨1, by omega, rfl⟩, hvb.1, hvb.2⟩, by omega, Or.inr (by omega), rfl⟩ (by rfl) (by rfl) (by rfl)
        · refine fe_s 3 (pc' := 251) (lc' := [(1, .int c), (0, .ref 0)]) (stk' := []) (mem' := fm (upd g2 12 3) tp bt a b) (by intro _ _ _; eq_refl) ?_
          exact fe_ret ⟨_, E2, F2, (fm_txt_12 hx), ⟨h11, by omega, h14, by omega, h13, by omega, ⟨3, by omega, rfl⟩, hvb.1, hvb.2⟩, by omega, Or.inr (by omega), rfl⟩ (by rfl) (by rfl) (by rfl)
theorem fa_39 {S E E1 : Nat} (hS9 : S ≤ 900) (hE : E ≤ E1) (hES : E1 ≤ S) {g2 : Nat → Int32} (hx : fm_txt g g2) (h11 : g2 11 = nI S) (h14 : g2 14 = nI E1) : fe_R 1 gk_m224 39 [(0, .ref 0)] [] (fm g2 tp bt a b) (fm_FA g tp bt a b S E) := by
  refine fe_s 7 (pc' := 52) (lc' := [(0, .ref 0)]) (stk' := [.int (g2 14), .ref 0]) (mem' := fm (upd g2 13 (g2 14)) tp bt a b) (by intro _ _ _; eq_refl) ?_
  try rw [h14]
  refine fe_ivV (fr_byteAt (S := S) (k := E1) (g := (upd g2 13 (nI E1))) (tp := tp) (bt := bt) (a := a) (b := b) h11 (by omega) (by omega)) (by omega) (by rfl) (by rfl) (by rfl) (by rfl) (by rfl) (by rfl) ?_
  rcases fm_byte_or a S E1 with ⟨e2, q3⟩ | ⟨q3, n1, qn1, e2⟩
  · rw [e2]
    refine fe_s 6 (pc' := 63) (lc' := [(1, .int (-1)), (0, .ref 0)]) (stk' := [.int (-1), .int (-1)]) (mem' := fm (upd (upd g2 13 (nI E1)) 15 (-1)) tp bt a b) (by intro _ _ _; eq_refl) ?_
    refine fe_s 1 (pc' := cond (fx_cb .ne (-1) (-1)) 74 66) (lc' := [(1, .int (-1)), (0, .ref 0)]) (stk' := []) (mem' := fm (upd (upd g2 13 (nI E1)) 15 (-1)) tp bt a b) (by intro _ _ _; eq_refl) ?_
    rw [show (fx_cb .ne (-1) (-1)) = false from by decide]
    dsimp only [cond]
    refine fe_s 4 (pc' := 251) (lc' := [(1, .int (-1)), (0, .ref 0)]) (stk' := []) (mem' := fm (upd (upd (upd g2 13 (nI E1)) 15 (-1)) 12 0) tp bt a b) (by intro _ _ _; eq_refl) ?_
    exact fe_ret ⟨_, E1, E1, (fm_txt_12 (fm_txt_15 (fm_txt_13 hx))), ⟨h11, by omega, h14, by omega, rfl, by omega, ⟨0, by omega, rfl⟩, (show -1 ≤ ((-1) : Int32).toInt by decide), (show ((-1) : Int32).toInt ≤ 100000 by decide)⟩, by omega, Or.inl rfl, rfl⟩ (by rfl) (by rfl) (by rfl)
  · rw [e2]
    refine fe_s 6 (pc' := 63) (lc' := [(1, .int (nI n1)), (0, .ref 0)]) (stk' := [.int (-1), .int (nI n1)]) (mem' := fm (upd (upd g2 13 (nI E1)) 15 (nI n1)) tp bt a b) (by intro _ _ _; eq_refl) ?_
    refine fe_s 1 (pc' := cond (fx_cb .ne (nI n1) (-1)) 74 66) (lc' := [(1, .int (nI n1)), (0, .ref 0)]) (stk' := []) (mem' := fm (upd (upd g2 13 (nI E1)) 15 (nI n1)) tp bt a b) (by intro _ _ _; eq_refl) ?_
    rw [show (fx_cb .ne (nI n1) (-1)) = true from cb_n_ne (by omega) (by decide)]
    dsimp only [cond]
    refine fe_s 1 (pc' := 75) (lc' := [(1, .int (nI n1)), (0, .ref 0)]) (stk' := [.int (nI n1)]) (mem' := fm (upd (upd g2 13 (nI E1)) 15 (nI n1)) tp bt a b) (by intro _ _ _; eq_refl) ?_
    by_cases s4 : 97 ≤ n1 ∧ n1 ≤ 122
    · refine fe_ivS (fr_isSmall1 (n := n1) s4.1 s4.2) (by omega) (by rfl) (by rfl) (by rfl) (by rfl) (by rfl) ?_
      refine fe_s 1 (pc' := cond (fx_cb .eq 1 0) 116 81) (lc' := [(1, .int (nI n1)), (0, .ref 0)]) (stk' := []) (mem' := fm (upd (upd g2 13 (nI E1)) 15 (nI n1)) tp bt a b) (by intro _ _ _; eq_refl) ?_
      rw [show (fx_cb .eq 1 0) = false from by decide]
      dsimp only [cond]
      refine fe_s 3 (pc' := 86) (lc' := [(1, .int (nI n1)), (0, .ref 0)]) (stk' := [.int (g2 14), .ref 0]) (mem' := fm (upd (upd g2 13 (nI E1)) 15 (nI n1)) tp bt a b) (by intro _ _ _; eq_refl) ?_
      try rw [h14]
      refine fe_ivV (fr_byteAt (S := S) (k := E1) (g := (upd (upd g2 13 (nI E1)) 15 (nI n1))) (tp := tp) (bt := bt) (a := a) (b := b) h11 (by omega) (by omega)) (by omega) (by rfl) (by rfl) (by rfl) (by rfl) (by rfl) (by rfl) ?_
      rw [e2]
      refine fe_ivS (fr_isSmall1 (n := n1) s4.1 s4.2) (by omega) (by rfl) (by rfl) (by rfl) (by rfl) (by rfl) ?_
      refine fe_s 1 (pc' := cond (fx_cb .eq 1 0) 108 95) (lc' := [(1, .int (nI n1)), (0, .ref 0)]) (stk' := []) (mem' := fm (upd (upd g2 13 (nI E1)) 15 (nI n1)) tp bt a b) (by intro _ _ _; eq_refl) ?_
      rw [show (fx_cb .eq 1 0) = false from by decide]
      dsimp only [cond]
      refine fe_s 7 (pc' := 81) (lc' := [(1, .int (nI n1)), (0, .ref 0)]) (stk' := []) (mem' := fm (upd (upd (upd g2 13 (nI E1)) 15 (nI n1)) 14 ((g2 14) + 1)) tp bt a b) (by intro _ _ _; eq_refl) ?_
      try rw [h14]
      rw [show ((nI E1) + 1 : Int32) = nI (E1 + 1) from by simp only [show (1 : Int32) = nI 1 from rfl, nI_add, fm_mul]]
      exact fa_81 hS9 (F2 := E1) (by omega) (S - (E1 + 1)) (E1 + 1) (by omega) _ (fm_txt_14 (fm_txt_15 (fm_txt_13 hx))) h11 rfl rfl (by omega) (by omega) (fm_vb (v := n1) (by omega))
    · refine fe_ivS (fr_isSmall0 (n := n1) (by omega) s4) (by omega) (by rfl) (by rfl) (by rfl) (by rfl) (by rfl) ?_
      refine fe_s 1 (pc' := cond (fx_cb .eq 0 0) 116 81) (lc' := [(1, .int (nI n1)), (0, .ref 0)]) (stk' := []) (mem' := fm (upd (upd g2 13 (nI E1)) 15 (nI n1)) tp bt a b) (by intro _ _ _; eq_refl) ?_
      rw [show (fx_cb .eq 0 0) = true from by decide]
      dsimp only [cond]
      refine fe_s 1 (pc' := 117) (lc' := [(1, .int (nI n1)), (0, .ref 0)]) (stk' := [.int (nI n1)]) (mem' := fm (upd (upd g2 13 (nI E1)) 15 (nI n1)) tp bt a b) (by intro _ _ _; eq_refl) ?_
      by_cases s5 : 48 ≤ n1 ∧ n1 ≤ 57
      · refine fe_ivS (fr_isDigit1 (n := n1) s5.1 s5.2) (by omega) (by rfl) (by rfl) (by rfl) (by rfl) (by rfl) ?_
        refine fe_s 1 (pc' := cond (fx_cb .eq 1 0) 208 123) (lc' := [(1, .int (nI n1)), (0, .ref 0)]) (stk' := []) (mem' := fm (upd (upd g2 13 (nI E1)) 15 (nI n1)) tp bt a b) (by intro _ _ _; eq_refl) ?_
        rw [show (fx_cb .eq 1 0) = false from by decide]
        dsimp only [cond]
        refine fe_s 3 (pc' := 128) (lc' := [(1, .int (nI n1)), (0, .ref 0)]) (stk' := []) (mem' := fm (upd (upd (upd g2 13 (nI E1)) 15 (nI n1)) 15 0) tp bt a b) (by intro _ _ _; eq_refl) ?_
        refine fe_s 3 (pc' := 133) (lc' := [(1, .int (nI n1)), (0, .ref 0)]) (stk' := [.int (g2 14), .ref 0]) (mem' := fm (upd (upd (upd g2 13 (nI E1)) 15 (nI n1)) 15 0) tp bt a b) (by intro _ _ _; eq_refl) ?_
        try rw [h14]
        refine fe_ivV (fr_byteAt (S := S) (k := E1) (g := (upd (upd (upd g2 13 (nI E1)) 15 (nI n1)) 15 0)) (tp := tp) (bt := bt) (a := a) (b := b) h11 (by omega) (by omega)) (by omega) (by rfl) (by rfl) (by rfl) (by rfl) (by rfl) (by rfl) ?_
        rw [e2]
        refine fe_ivS (fr_isDigit1 (n := n1) s5.1 s5.2) (by omega) (by rfl) (by rfl) (by rfl) (by rfl) (by rfl) ?_
        refine fe_s 1 (pc' := cond (fx_cb .eq 1 0) 183 142) (lc' := [(1, .int (nI n1)), (0, .ref 0)]) (stk' := []) (mem' := fm (upd (upd (upd g2 13 (nI E1)) 15 (nI n1)) 15 0) tp bt a b) (by intro _ _ _; eq_refl) ?_
        rw [show (fx_cb .eq 1 0) = false from by decide]
        dsimp only [cond]
        refine fe_s 9 (pc' := 157) (lc' := [(1, .int (nI n1)), (0, .ref 0)]) (stk' := [.int (g2 14), .ref 0, .int (10 * 0), .int 100000, .ref 0]) (mem' := fm (upd (upd (upd g2 13 (nI E1)) 15 (nI n1)) 15 0) tp bt a b) (by intro _ _ _; eq_refl) ?_
        try rw [h14]
        rw [show (10 * 0 : Int32) = nI (10 * 0) from by simp only [show (10 : Int32) = nI 10 from rfl, show (0 : Int32) = nI 0 from rfl, nI_add, fm_mul]]
        refine fe_ivV (fr_byteAt (S := S) (k := E1) (g := (upd (upd (upd g2 13 (nI E1)) 15 (nI n1)) 15 0)) (tp := tp) (bt := bt) (a := a) (b := b) h11 (by omega) (by omega)) (by omega) (by rfl) (by rfl) (by rfl) (by rfl) (by rfl) (by rfl) ?_
        rw [e2]
        refine fe_s 3 (pc' := 164) (lc' := [(1, .int (nI n1)), (0, .ref 0)]) (stk' := [.int (((nI (10 * 0)) + (nI n1)) - 48), .int 100000, .ref 0]) (mem' := fm (upd (upd (upd g2 13 (nI E1)) 15 (nI n1)) 15 0) tp bt a b) (by intro _ _ _; eq_refl) ?_
        rw [show (((nI (10 * 0)) + (nI n1)) - 48 : Int32) = nI (((10 * 0) + n1) - 48) from by simp only [show (48 : Int32) = nI 48 from rfl, tg_sub2 (x := (10 * 0) + n1) (y := 48) (by omega), nI_add, fm_mul]]
        refine fe_s 1 (pc' := 167) (lc' := [(1, .int (nI n1)), (0, .ref 0)]) (stk' := [.int (if (nI (((10 * 0) + n1) - 48)) < 100000 then (nI (((10 * 0) + n1) - 48)) else 100000), .ref 0]) (mem' := fm (upd (upd (upd g2 13 (nI E1)) 15 (nI n1)) 15 0) tp bt a b) (by intro _ _ _; eq_refl) ?_
        rw [show (if (nI (((10 * 0) + n1) - 48)) < 100000 then (nI (((10 * 0) + n1) - 48)) else 100000 : Int32) = nI (min (((10 * 0) + n1) - 48) 100000) from fm_minI (a := ((10 * 0) + n1) - 48) (b := 100000) (by omega) (by omega)]
        refine fe_s 8 (pc' := 128) (lc' := [(1, .int (nI n1)), (0, .ref 0)]) (stk' := []) (mem' := fm (upd (upd (upd (upd (upd g2 13 (nI E1)) 15 (nI n1)) 15 0) 15 (nI (min (((10 * 0) + n1) - 48) 100000))) 14 ((g2 14) + 1)) tp bt a b) (by intro _ _ _; eq_refl) ?_
        try rw [h14]
        rw [show ((nI E1) + 1 : Int32) = nI (E1 + 1) from by simp only [show (1 : Int32) = nI 1 from rfl, nI_add, fm_mul]]
        exact fa_128 hS9 (F2 := E1) (by omega) (S - (E1 + 1)) (E1 + 1) (min (((10 * 0) + n1) - 48) 100000) (by omega) _ (fm_txt_14 (fm_txt_15 (fm_txt_15 (fm_txt_15 (fm_txt_13 hx))))) h11 rfl rfl (by omega) (by omega) rfl (by omega)
      · refine fe_ivS (fr_isDigit0 (n := n1) (by omega) s5) (by omega) (by rfl) (by rfl) (by rfl) (by rfl) (by rfl) ?_
        refine fe_s 1 (pc' := cond (fx_cb .eq 0 0) 208 123) (lc' := [(1, .int (nI n1)), (0, .ref 0)]) (stk' := []) (mem' := fm (upd (upd g2 13 (nI E1)) 15 (nI n1)) tp bt a b) (by intro _ _ _; eq_refl) ?_
        rw [show (fx_cb .eq 0 0) = true from by decide]
        dsimp only [cond]
        refine fe_s 9 (pc' := 222) (lc' := [(1, .int (nI n1)), (0, .ref 0)]) (stk' := [.int 59, .int (nI n1), .ref 0]) (mem' := fm (upd (upd (upd g2 13 (nI E1)) 15 (nI n1)) 14 ((g2 14) + 1)) tp bt a b) (by intro _ _ _; eq_refl) ?_
        try rw [h14]
        rw [show ((nI E1) + 1 : Int32) = nI (E1 + 1) from by simp only [show (1 : Int32) = nI 1 from rfl, nI_add, fm_mul]]
        refine fe_s 1 (pc' := cond (fx_cb .eq (nI n1) 59) 243 225) (lc' := [(1, .int (nI n1)), (0, .ref 0)]) (stk' := [.ref 0]) (mem' := fm (upd (upd (upd g2 13 (nI E1)) 15 (nI n1)) 14 (nI (E1 + 1))) tp bt a b) (by intro _ _ _; eq_refl) ?_
        by_cases h6 : n1 = 59
        · rw [show (fx_cb .eq (nI n1) 59) = true from cb_eqT (a := n1) (b := 59) (by omega) (by omega) (by omega)]
          dsimp only [cond]
          refine fe_s 3 (pc' := 251) (lc' := [(1, .int (nI n1)), (0, .ref 0)]) (stk' := []) (mem' := fm (upd (upd (upd (upd g2 13 (nI E1)) 15 (nI n1)) 14 (nI (E1 + 1))) 12 4) tp bt a b) (by intro _ _ _; eq_refl) ?_
          exact fe_ret ⟨_, E1 + 1, E1, (fm_txt_12 (fm_txt_14 (fm_txt_15 (fm_txt_13 hx)))), ⟨h11, by omega, rfl, by omega, rfl, by omega, ⟨4, by omega, rfl⟩, (by show -1 ≤ (nI n1).toInt; rw [nI_i32 (by omega)]; omega), (by show (nI n1).toInt ≤ 100000; rw [nI_i32 (by omega)]; omega)⟩, by omega, Or.inr (by omega), rfl⟩ (by rfl) (by rfl) (by rfl)
        · rw [show (fx_cb .eq (nI n1) 59) = false from cb_eqF (a := n1) (b := 59) (by omega) (by omega) (by omega)]
          dsimp only [cond]
          refine fe_s 2 (pc' := 228) (lc' := [(1, .int (nI n1)), (0, .ref 0)]) (stk' := [.int 60, .int (nI n1), .ref 0]) (mem' := fm (upd (upd (upd g2 13 (nI E1)) 15 (nI n1)) 14 (nI (E1 + 1))) tp bt a b) (by intro _ _ _; eq_refl) ?_
          refine fe_s 1 (pc' := cond (fx_cb .eq (nI n1) 60) 243 231) (lc' := [(1, .int (nI n1)), (0, .ref 0)]) (stk' := [.ref 0]) (mem' := fm (upd (upd (upd g2 13 (nI E1)) 15 (nI n1)) 14 (nI (E1 + 1))) tp bt a b) (by intro _ _ _; eq_refl) ?_
          by_cases h7 : n1 = 60
          · rw [show (fx_cb .eq (nI n1) 60) = true from cb_eqT (a := n1) (b := 60) (by omega) (by omega) (by omega)]
            dsimp only [cond]
            refine fe_s 3 (pc' := 251) (lc' := [(1, .int (nI n1)), (0, .ref 0)]) (stk' := []) (mem' := fm (upd (upd (upd (upd g2 13 (nI E1)) 15 (nI n1)) 14 (nI (E1 + 1))) 12 4) tp bt a b) (by intro _ _ _; eq_refl) ?_
            exact fe_ret ⟨_, E1 + 1, E1, (fm_txt_12 (fm_txt_14 (fm_txt_15 (fm_txt_13 hx)))), ⟨h11, by omega, rfl, by omega, rfl, by omega, ⟨4, by omega, rfl⟩, (by show -1 ≤ (nI n1).toInt; rw [nI_i32 (by omega)]; omega), (by show (nI n1).toInt ≤ 100000; rw [nI_i32 (by omega)]; omega)⟩, by omega, Or.inr (by omega), rfl⟩ (by rfl) (by rfl) (by rfl)
          · rw [show (fx_cb .eq (nI n1) 60) = false from cb_eqF (a := n1) (b := 60) (by omega) (by omega) (by omega)]
            dsimp only [cond]
            refine fe_s 2 (pc' := 234) (lc' := [(1, .int (nI n1)), (0, .ref 0)]) (stk' := [.int 62, .int (nI n1), .ref 0]) (mem' := fm (upd (upd (upd g2 13 (nI E1)) 15 (nI n1)) 14 (nI (E1 + 1))) tp bt a b) (by intro _ _ _; eq_refl) ?_
            refine fe_s 1 (pc' := cond (fx_cb .eq (nI n1) 62) 243 237) (lc' := [(1, .int (nI n1)), (0, .ref 0)]) (stk' := [.ref 0]) (mem' := fm (upd (upd (upd g2 13 (nI E1)) 15 (nI n1)) 14 (nI (E1 + 1))) tp bt a b) (by intro _ _ _; eq_refl) ?_
            by_cases h8 : n1 = 62
            · rw [show (fx_cb .eq (nI n1) 62) = true from cb_eqT (a := n1) (b := 62) (by omega) (by omega) (by omega)]
              dsimp only [cond]
              refine fe_s 3 (pc' := 251) (lc' := [(1, .int (nI n1)), (0, .ref 0)]) (stk' := []) (mem' := fm (upd (upd (upd (upd g2 13 (nI E1)) 15 (nI n1)) 14 (nI (E1 + 1))) 12 4) tp bt a b) (by intro _ _ _; eq_refl) ?_
              exact fe_ret ⟨_, E1 + 1, E1, (fm_txt_12 (fm_txt_14 (fm_txt_15 (fm_txt_13 hx)))), ⟨h11, by omega, rfl, by omega, rfl, by omega, ⟨4, by omega, rfl⟩, (by show -1 ≤ (nI n1).toInt; rw [nI_i32 (by omega)]; omega), (by show (nI n1).toInt ≤ 100000; rw [nI_i32 (by omega)]; omega)⟩, by omega, Or.inr (by omega), rfl⟩ (by rfl) (by rfl) (by rfl)
            · rw [show (fx_cb .eq (nI n1) 62) = false from cb_eqF (a := n1) (b := 62) (by omega) (by omega) (by omega)]
              dsimp only [cond]
              refine fe_s 2 (pc' := 240) (lc' := [(1, .int (nI n1)), (0, .ref 0)]) (stk' := [.int 61, .int (nI n1), .ref 0]) (mem' := fm (upd (upd (upd g2 13 (nI E1)) 15 (nI n1)) 14 (nI (E1 + 1))) tp bt a b) (by intro _ _ _; eq_refl) ?_
              refine fe_s 1 (pc' := cond (fx_cb .ne (nI n1) 61) 247 243) (lc' := [(1, .int (nI n1)), (0, .ref 0)]) (stk' := [.ref 0]) (mem' := fm (upd (upd (upd g2 13 (nI E1)) 15 (nI n1)) 14 (nI (E1 + 1))) tp bt a b) (by intro _ _ _; eq_refl) ?_
              by_cases h9 : n1 = 61
              · rw [show (fx_cb .ne (nI n1) 61) = false from cb_neF (a := n1) (b := 61) (by omega) (by omega) (by omega)]
                dsimp only [cond]
                refine fe_s 3 (pc' := 251) (lc' := [(1, .int (nI n1)), (0, .ref 0)]) (stk' := []) (mem' := fm (upd (upd (upd (upd g2 13 (nI E1)) 15 (nI n1)) 14 (nI (E1 + 1))) 12 4) tp bt a b) (by intro _ _ _; eq_refl) ?_
                exact fe_ret ⟨_, E1 + 1, E1, (fm_txt_12 (fm_txt_14 (fm_txt_15 (fm_txt_13 hx)))), ⟨h11, by omega, rfl, by omega, rfl, by omega, ⟨4, by omega, rfl⟩, (by show -1 ≤ (nI n1).toInt; rw [nI_i32 (by omega)]; omega), (by show (nI n1).toInt ≤ 100000; rw [nI_i32 (by omega)]; omega)⟩, by omega, Or.inr (by omega), rfl⟩ (by rfl) (by rfl) (by rfl)
              · rw [show (fx_cb .ne (nI n1) 61) = true from cb_neT (a := n1) (b := 61) (by omega) (by omega) (by omega)]
                dsimp only [cond]
                refine fe_s 2 (pc' := 251) (lc' := [(1, .int (nI n1)), (0, .ref 0)]) (stk' := []) (mem' := fm (upd (upd (upd (upd g2 13 (nI E1)) 15 (nI n1)) 14 (nI (E1 + 1))) 12 1) tp bt a b) (by intro _ _ _; eq_refl) ?_
                exact fe_ret ⟨_, E1 + 1, E1, (fm_txt_12 (fm_txt_14 (fm_txt_15 (fm_txt_13 hx)))), ⟨h11, by omega, rfl, by omega, rfl, by omega, ⟨1, by omega, rfl⟩, (by show -1 ≤ (nI n1).toInt; rw [nI_i32 (by omega)]; omega), (by show (nI n1).toInt ≤ 100000; rw [nI_i32 (by omega)]; omega)⟩, by omega, Or.inr (by omega), rfl⟩ (by rfl) (by rfl) (by rfl)
theorem fa_0 {S E : Nat} (hS9 : S ≤ 900) : ∀ (r E1 : Nat), E1 + r = S → ∀ (g2 : Nat → Int32), fm_txt g g2 → g2 11 = nI S → g2 14 = nI E1 → E ≤ E1 → fe_R 1 gk_m224 0 [(0, .ref 0)] [] (fm g2 tp bt a b) (fm_FA g tp bt a b S E) := by
  intro r
  induction r with
  | zero =>
    intro E1 hr g2 hx h11 h14 hE
    refine fe_s 3 (pc' := 5) (lc' := [(0, .ref 0)]) (stk' := [.int (g2 14), .ref 0]) (mem' := fm g2 tp bt a b) (by intro _ _ _; eq_refl) ?_
    try rw [h14]
    refine fe_ivV (fr_byteAt (S := S) (k := E1) (g := g2) (tp := tp) (bt := bt) (a := a) (b := b) h11 (by omega) (by omega)) (by omega) (by rfl) (by rfl) (by rfl) (by rfl) (by rfl) (by rfl) ?_
    rcases fm_byte_or a S E1 with ⟨e2, q3⟩ | ⟨q3, n1, qn1, e2⟩
    · rw [e2]
      refine fe_s 1 (pc' := 10) (lc' := [(0, .ref 0)]) (stk' := [.int 32, .int (-1)]) (mem' := fm g2 tp bt a b) (by intro _ _ _; eq_refl) ?_
      refine fe_s 1 (pc' := cond (fx_cb .eq (-1) 32) 26 13) (lc' := [(0, .ref 0)]) (stk' := []) (mem' := fm g2 tp bt a b) (by intro _ _ _; eq_refl) ?_
      rw [show (fx_cb .eq (-1) 32) = false from by decide]
      dsimp only [cond]
      refine fe_s 3 (pc' := 18) (lc' := [(0, .ref 0)]) (stk' := [.int (g2 14), .ref 0]) (mem' := fm g2 tp bt a b) (by intro _ _ _; eq_refl) ?_
      try rw [h14]
      refine fe_ivV (fr_byteAt (S := S) (k := E1) (g := g2) (tp := tp) (bt := bt) (a := a) (b := b) h11 (by omega) (by omega)) (by omega) (by rfl) (by rfl) (by rfl) (by rfl) (by rfl) (by rfl) ?_
      rw [e2]
      refine fe_s 1 (pc' := 23) (lc' := [(0, .ref 0)]) (stk' := [.int 10, .int (-1)]) (mem' := fm g2 tp bt a b) (by intro _ _ _; eq_refl) ?_
      refine fe_s 1 (pc' := cond (fx_cb .ne (-1) 10) 39 26) (lc' := [(0, .ref 0)]) (stk' := []) (mem' := fm g2 tp bt a b) (by intro _ _ _; eq_refl) ?_
      rw [show (fx_cb .ne (-1) 10) = true from by decide]
      dsimp only [cond]
      exact fa_39 hS9 hE (by omega) hx h11 h14
    · rw [e2]
      refine fe_s 1 (pc' := 10) (lc' := [(0, .ref 0)]) (stk' := [.int 32, .int (nI n1)]) (mem' := fm g2 tp bt a b) (by intro _ _ _; eq_refl) ?_
      refine fe_s 1 (pc' := cond (fx_cb .eq (nI n1) 32) 26 13) (lc' := [(0, .ref 0)]) (stk' := []) (mem' := fm g2 tp bt a b) (by intro _ _ _; eq_refl) ?_
      by_cases h4 : n1 = 32
      · rw [show (fx_cb .eq (nI n1) 32) = true from cb_eqT (a := n1) (b := 32) (by omega) (by omega) (by omega)]
        dsimp only [cond]
        refine fe_s 7 (pc' := 0) (lc' := [(0, .ref 0)]) (stk' := []) (mem' := fm (upd g2 14 ((g2 14) + 1)) tp bt a b) (by intro _ _ _; eq_refl) ?_
        try rw [h14]
        rw [show ((nI E1) + 1 : Int32) = nI (E1 + 1) from by simp only [show (1 : Int32) = nI 1 from rfl, nI_add, fm_mul]]
        omega
      · rw [show (fx_cb .eq (nI n1) 32) = false from cb_eqF (a := n1) (b := 32) (by omega) (by omega) (by omega)]
        dsimp only [cond]
        refine fe_s 3 (pc' := 18) (lc' := [(0, .ref 0)]) (stk' := [.int (g2 14), .ref 0]) (mem' := fm g2 tp bt a b) (by intro _ _ _; eq_refl) ?_
        try rw [h14]
        refine fe_ivV (fr_byteAt (S := S) (k := E1) (g := g2) (tp := tp) (bt := bt) (a := a) (b := b) h11 (by omega) (by omega)) (by omega) (by rfl) (by rfl) (by rfl) (by rfl) (by rfl) (by rfl) ?_
        rw [e2]
        refine fe_s 1 (pc' := 23) (lc' := [(0, .ref 0)]) (stk' := [.int 10, .int (nI n1)]) (mem' := fm g2 tp bt a b) (by intro _ _ _; eq_refl) ?_
        refine fe_s 1 (pc' := cond (fx_cb .ne (nI n1) 10) 39 26) (lc' := [(0, .ref 0)]) (stk' := []) (mem' := fm g2 tp bt a b) (by intro _ _ _; eq_refl) ?_
        by_cases h5 : n1 = 10
        · rw [show (fx_cb .ne (nI n1) 10) = false from cb_neF (a := n1) (b := 10) (by omega) (by omega) (by omega)]
          dsimp only [cond]
          refine fe_s 7 (pc' := 0) (lc' := [(0, .ref 0)]) (stk' := []) (mem' := fm (upd g2 14 ((g2 14) + 1)) tp bt a b) (by intro _ _ _; eq_refl) ?_
          try rw [h14]
          rw [show ((nI E1) + 1 : Int32) = nI (E1 + 1) from by simp only [show (1 : Int32) = nI 1 from rfl, nI_add, fm_mul]]
          omega
        · rw [show (fx_cb .ne (nI n1) 10) = true from cb_neT (a := n1) (b := 10) (by omega) (by omega) (by omega)]
          dsimp only [cond]
          exact fa_39 hS9 hE (by omega) hx h11 h14
  | succ r ih =>
    intro E1 hr g2 hx h11 h14 hE
    refine fe_s 3 (pc' := 5) (lc' := [(0, .ref 0)]) (stk' := [.int (g2 14), .ref 0]) (mem' := fm g2 tp bt a b) (by intro _ _ _; eq_refl) ?_
    try rw [h14]
    refine fe_ivV (fr_byteAt (S := S) (k := E1) (g := g2) (tp := tp) (bt := bt) (a := a) (b := b) h11 (by omega) (by omega)) (by omega) (by rfl) (by rfl) (by rfl) (by rfl) (by rfl) (by rfl) ?_
    rcases fm_byte_or a S E1 with ⟨e7, q8⟩ | ⟨q8, n6, qn6, e7⟩
    · rw [e7]
      refine fe_s 1 (pc' := 10) (lc' := [(0, .ref 0)]) (stk' := [.int 32, .int (-1)]) (mem' := fm g2 tp bt a b) (by intro _ _ _; eq_refl) ?_
      refine fe_s 1 (pc' := cond (fx_cb .eq (-1) 32) 26 13) (lc' := [(0, .ref 0)]) (stk' := []) (mem' := fm g2 tp bt a b) (by intro _ _ _; eq_refl) ?_
      rw [show (fx_cb .eq (-1) 32) = false from by decide]
      dsimp only [cond]
      refine fe_s 3 (pc' := 18) (lc' := [(0, .ref 0)]) (stk' := [.int (g2 14), .ref 0]) (mem' := fm g2 tp bt a b) (by intro _ _ _; eq_refl) ?_
      try rw [h14]
      refine fe_ivV (fr_byteAt (S := S) (k := E1) (g := g2) (tp := tp) (bt := bt) (a := a) (b := b) h11 (by omega) (by omega)) (by omega) (by rfl) (by rfl) (by rfl) (by rfl) (by rfl) (by rfl) ?_
      rw [e7]
      refine fe_s 1 (pc' := 23) (lc' := [(0, .ref 0)]) (stk' := [.int 10, .int (-1)]) (mem' := fm g2 tp bt a b) (by intro _ _ _; eq_refl) ?_
      refine fe_s 1 (pc' := cond (fx_cb .ne (-1) 10) 39 26) (lc' := [(0, .ref 0)]) (stk' := []) (mem' := fm g2 tp bt a b) (by intro _ _ _; eq_refl) ?_
      rw [show (fx_cb .ne (-1) 10) = true from by decide]
      dsimp only [cond]
      exact fa_39 hS9 hE (by omega) hx h11 h14
    · rw [e7]
      refine fe_s 1 (pc' := 10) (lc' := [(0, .ref 0)]) (stk' := [.int 32, .int (nI n6)]) (mem' := fm g2 tp bt a b) (by intro _ _ _; eq_refl) ?_
      refine fe_s 1 (pc' := cond (fx_cb .eq (nI n6) 32) 26 13) (lc' := [(0, .ref 0)]) (stk' := []) (mem' := fm g2 tp bt a b) (by intro _ _ _; eq_refl) ?_
      by_cases h9 : n6 = 32
      · rw [show (fx_cb .eq (nI n6) 32) = true from cb_eqT (a := n6) (b := 32) (by omega) (by omega) (by omega)]
        dsimp only [cond]
        refine fe_s 7 (pc' := 0) (lc' := [(0, .ref 0)]) (stk' := []) (mem' := fm (upd g2 14 ((g2 14) + 1)) tp bt a b) (by intro _ _ _; eq_refl) ?_
        try rw [h14]
        rw [show ((nI E1) + 1 : Int32) = nI (E1 + 1) from by simp only [show (1 : Int32) = nI 1 from rfl, nI_add, fm_mul]]
        exact ih (E1 + 1) (by omega) _ (fm_txt_14 hx) h11 rfl (by omega)
      · rw [show (fx_cb .eq (nI n6) 32) = false from cb_eqF (a := n6) (b := 32) (by omega) (by omega) (by omega)]
        dsimp only [cond]
        refine fe_s 3 (pc' := 18) (lc' := [(0, .ref 0)]) (stk' := [.int (g2 14), .ref 0]) (mem' := fm g2 tp bt a b) (by intro _ _ _; eq_refl) ?_
        try rw [h14]
        refine fe_ivV (fr_byteAt (S := S) (k := E1) (g := g2) (tp := tp) (bt := bt) (a := a) (b := b) h11 (by omega) (by omega)) (by omega) (by rfl) (by rfl) (by rfl) (by rfl) (by rfl) (by rfl) ?_
        rw [e7]
        refine fe_s 1 (pc' := 23) (lc' := [(0, .ref 0)]) (stk' := [.int 10, .int (nI n6)]) (mem' := fm g2 tp bt a b) (by intro _ _ _; eq_refl) ?_
        refine fe_s 1 (pc' := cond (fx_cb .ne (nI n6) 10) 39 26) (lc' := [(0, .ref 0)]) (stk' := []) (mem' := fm g2 tp bt a b) (by intro _ _ _; eq_refl) ?_
        by_cases h10 : n6 = 10
        · rw [show (fx_cb .ne (nI n6) 10) = false from cb_neF (a := n6) (b := 10) (by omega) (by omega) (by omega)]
          dsimp only [cond]
          refine fe_s 7 (pc' := 0) (lc' := [(0, .ref 0)]) (stk' := []) (mem' := fm (upd g2 14 ((g2 14) + 1)) tp bt a b) (by intro _ _ _; eq_refl) ?_
          try rw [h14]
          rw [show ((nI E1) + 1 : Int32) = nI (E1 + 1) from by simp only [show (1 : Int32) = nI 1 from rfl, nI_add, fm_mul]]
          exact ih (E1 + 1) (by omega) _ (fm_txt_14 hx) h11 rfl (by omega)
        · rw [show (fx_cb .ne (nI n6) 10) = true from cb_neT (a := n6) (b := 10) (by omega) (by omega) (by omega)]
          dsimp only [cond]
          exact fa_39 hS9 hE (by omega) hx h11 h14
/-- the next token -/
theorem fr_ahead {S E : Nat} (h11 : g 11 = nI S) (hS9 : S ≤ 900) (h14 : g 14 = nI E) (hES : E ≤ S) : ∃ (v : Option Value) (mem' : fx_M), fm_FA g tp bt a b S E (v, mem') ∧ fr_T 2 224 [.ref 0] (fm g tp bt a b) v mem' := by
  refine fe_meth (F := fm_FA g tp bt a b S E) (M := gk_m224) (by rfl) (by rfl) ?_
  exact fa_0 hS9 (S - E) E (by omega) g fm_txt_rf h11 h14 (Nat.le_refl _)
end FAH
end MH0_0
section MH0_1
/-! ===== fx: what the parser wants: a sign, a number, a name ===== -/
section FWT
variable {g : Nat → Int32} {tp bt : Int64} {a : Nat → Nat → Int32} {b : Nat → Nat → Int64}
/-- the parser's part of the state but for faults -/
def fm_tx8 (g g' : Nat → Int32) : Prop := ∀ j, j ≠ 12 → j ≠ 13 → j ≠ 14 → j ≠ 15 → j ≠ 17 → j ≠ 18 → g' j = g j
theorem fm_tx8_of {g g' : Nat → Int32} (h : fm_txt g g') : fm_tx8 g g' := fun j q1 q2 q3 q4 _ _ => h j q1 q2 q3 q4
theorem fm_tx8_rf : fm_tx8 g g := fun _ _ _ _ _ _ _ => rfl
theorem fm_tx8_tr {g1 g2 : Nat → Int32} (h : fm_tx8 g g1) (h2 : fm_tx8 g1 g2) : fm_tx8 g g2 := fun j q1 q2 q3 q4 q5 q6 => (h2 j q1 q2 q3 q4 q5 q6).trans (h j q1 q2 q3 q4 q5 q6)
theorem fm_tx8_17 {g1 : Nat → Int32} {x : Int32} (h : fm_tx8 g g1) : fm_tx8 g (upd g1 17 x) := fun j q1 q2 q3 q4 q5 q6 => by rw [pk_un q5]; exact h j q1 q2 q3 q4 q5 q6
theorem fm_tx8_18 {g1 : Nat → Int32} {x : Int32} (h : fm_tx8 g g1) : fm_tx8 g (upd g1 18 x) := fun j q1 q2 q3 q4 q5 q6 => by rw [pk_un q6]; exact h j q1 q2 q3 q4 q5 q6
/-- faults and where: within -/
def fm_flt (g : Nat → Int32) : Prop := (∃ n, n ≤ 7 ∧ g 18 = nI n) ∧ -1 ≤ (g 17).toInt ∧ (g 17).toInt ≤ 900
/-- fails: nothing but faults and where is changed; faults are then not 0 -/
def fm_FF (g : Nat → Int32) (tp bt : Int64) (a : Nat → Nat → Int32) (b : Nat → Nat → Int64) (R : Option Value × fx_M) : Prop := ∃ g', (∀ j, j ≠ 17 → j ≠ 18 → g' j = g j) ∧ fm_flt g' ∧ ¬ g' 18 = 0 ∧ R = (some (.int 0), fm g' tp bt a b)
theorem cb_ne0 {x : Int32} (h : fx_cb .ne x 0 = true) : ¬ x = 0 := by
  have h2 : (!decide (x = 0)) = true := h
  rw [Bool.not_eq_true'] at h2
  exact of_decide_eq_false h2
theorem fr_fails {x F : Nat} (hx : x ≤ 7) (hx0 : 0 < x) (hF : g 13 = nI F) (hF9 : F ≤ 900) (hfl : fm_flt g) : ∃ (v : Option Value) (mem' : fx_M), (fm_FF g tp bt a b) (v, mem') ∧ fr_T 2 227 [.ref 0, .int (nI x)] (fm g tp bt a b) v mem' := by
  refine fe_meth (F := fm_FF g tp bt a b) (M := gk_m227) (by rfl) (by rfl) ?_
  refine fe_s 2 (pc' := 4) (lc' := [(0, .ref 0), (1, .int (nI x))]) (stk' := [.int (g 18)]) (mem' := fm g tp bt a b) (by intro _ _ _; eq_refl) ?_
  refine fe_s 1 (pc' := cond (fx_cb .ne (g 18) 0) 32 7) (lc' := [(0, .ref 0), (1, .int (nI x))]) (stk' := []) (mem' := fm g tp bt a b) (by intro _ _ _; eq_refl) ?_
  cases h1 : fx_cb .ne (g 18) 0
  · refine fe_s 4 (pc' := 13) (lc' := [(0, .ref 0), (1, .int (nI x))]) (stk' := [.int 1, .int (g 12), .ref 0]) (mem' := fm g tp bt a b) (by intro _ _ _; eq_refl) ?_
    refine fe_s 1 (pc' := cond (fx_cb .ne (g 12) 1) 20 16) (lc' := [(0, .ref 0), (1, .int (nI x))]) (stk' := [.ref 0]) (mem' := fm g tp bt a b) (by intro _ _ _; eq_refl) ?_
    cases h2 : fx_cb .ne (g 12) 1
    · refine fe_s 8 (pc' := 33) (lc' := [(0, .ref 0), (1, .int (nI x))]) (stk' := [.int 0]) (mem' := fm (upd (upd g 18 1) 17 (g 13)) tp bt a b) (by intro _ _ _; eq_refl) ?_
      exact fe_ret ⟨(upd (upd g 18 1) 17 (g 13)), fun j q5 q6 => by rw [pk_un q5, pk_un q6], ⟨⟨1, by omega, rfl⟩, (by show -1 ≤ (g 13).toInt; rw [hF, nI_i32 (by omega)]; omega), (by show (g 13).toInt ≤ 900; rw [hF, nI_i32 (by omega)]; omega)⟩, (show ¬ (1 : Int32) = 0 by decide), rfl⟩ (by rfl) (by rfl) (by rfl)
    · refine fe_s 7 (pc' := 33) (lc' := [(0, .ref 0), (1, .int (nI x))]) (stk' := [.int 0]) (mem' := fm (upd (upd g 18 (nI x)) 17 (g 13)) tp bt a b) (by intro _ _ _; eq_refl) ?_
      exact fe_ret ⟨(upd (upd g 18 (nI x)) 17 (g 13)), fun j q5 q6 => by rw [pk_un q5, pk_un q6], ⟨⟨x, hx, rfl⟩, (by show -1 ≤ (g 13).toInt; rw [hF, nI_i32 (by omega)]; omega), (by show (g 13).toInt ≤ 900; rw [hF, nI_i32 (by omega)]; omega)⟩, (nI_ne0 (by omega) (by omega)), rfl⟩ (by rfl) (by rfl) (by rfl)
  · refine fe_s 1 (pc' := 33) (lc' := [(0, .ref 0), (1, .int (nI x))]) (stk' := [.int 0]) (mem' := fm g tp bt a b) (by intro _ _ _; eq_refl) ?_
    exact fe_ret ⟨g, fun _ _ _ => rfl, hfl, cb_ne0 h1, rfl⟩ (by rfl) (by rfl) (by rfl)
theorem fr_isSign {c : Int32}  : ∃ (v : Option Value) (mem' : fx_M), (fun R => ∃ v : Int32, (v = 0 ∨ v = 1 ∧ g 12 = 4) ∧ R = (some (.int v), fm g tp bt a b)) (v, mem') ∧ fr_T 2 225 [.ref 0, .int c] (fm g tp bt a b) v mem' := by
  refine fe_meth (F := fun R => ∃ v : Int32, (v = 0 ∨ v = 1 ∧ g 12 = 4) ∧ R = (some (.int v), fm g tp bt a b)) (M := gk_m225) (by rfl) (by rfl) ?_
  refine fe_s 3 (pc' := 5) (lc' := [(0, .ref 0), (1, .int c)]) (stk' := [.int 4, .int (g 12)]) (mem' := fm g tp bt a b) (by intro _ _ _; eq_refl) ?_
  refine fe_s 1 (pc' := cond (fx_cb .ne (g 12) 4) 20 8) (lc' := [(0, .ref 0), (1, .int c)]) (stk' := []) (mem' := fm g tp bt a b) (by intro _ _ _; eq_refl) ?_
  cases h1 : fx_cb .ne (g 12) 4
  · refine fe_s 3 (pc' := 13) (lc' := [(0, .ref 0), (1, .int c)]) (stk' := [.int c, .int (g 15)]) (mem' := fm g tp bt a b) (by intro _ _ _; eq_refl) ?_
    refine fe_s 1 (pc' := cond (fx_cb .ne (g 15) c) 20 16) (lc' := [(0, .ref 0), (1, .int c)]) (stk' := []) (mem' := fm g tp bt a b) (by intro _ _ _; eq_refl) ?_
    cases h2 : fx_cb .ne (g 15) c
    · refine fe_s 2 (pc' := 21) (lc' := [(0, .ref 0), (1, .int c)]) (stk' := [.int 1]) (mem' := fm g tp bt a b) (by intro _ _ _; eq_refl) ?_
      exact fe_ret ⟨_, Or.inr ⟨rfl, fm_ne h1⟩, rfl⟩ (by rfl) (by rfl) (by rfl)
    · refine fe_s 1 (pc' := 21) (lc' := [(0, .ref 0), (1, .int c)]) (stk' := [.int 0]) (mem' := fm g tp bt a b) (by intro _ _ _; eq_refl) ?_
      exact fe_ret ⟨_, Or.inl rfl, rfl⟩ (by rfl) (by rfl) (by rfl)
  · refine fe_s 1 (pc' := 21) (lc' := [(0, .ref 0), (1, .int c)]) (stk' := [.int 0]) (mem' := fm g tp bt a b) (by intro _ _ _; eq_refl) ?_
    exact fe_ret ⟨_, Or.inl rfl, rfl⟩ (by rfl) (by rfl) (by rfl)
/-- the parser has gone on, or has failed -/
def fm_FT (g : Nat → Int32) (tp bt : Int64) (a : Nat → Nat → Int32) (b : Nat → Nat → Int64) (S E : Nat) (R : Option Value × fx_M) : Prop := ∃ (v : Int32) (g' : Nat → Int32) (E' F' : Nat), (v = 0 ∨ v = 1 ∧ g' 18 = g 18 ∧ (g' 12 = 0 ∨ E < E')) ∧ fm_tx8 g g' ∧ fm_xp g' S E' F' ∧ fm_flt g' ∧ E ≤ E' ∧ R = (some (.int v), fm g' tp bt a b)
theorem fm_xp_ff {g g' : Nat → Int32} {S E F : Nat} (h : fm_xp g S E F) (hg : ∀ j, j ≠ 17 → j ≠ 18 → g' j = g j) : fm_xp g' S E F := by
  unfold fm_xp at h ⊢
  rw [hg 11 (by decide) (by decide), hg 12 (by decide) (by decide), hg 13 (by decide) (by decide), hg 14 (by decide) (by decide), hg 15 (by decide) (by decide)]
  exact h
theorem fm_flt_tx {g g' : Nat → Int32} (h : fm_flt g) (hg : fm_txt g g') : fm_flt g' := by
  unfold fm_flt at h ⊢
  rw [hg 17 (by decide) (by decide) (by decide) (by decide), hg 18 (by decide) (by decide) (by decide) (by decide)]
  exact h
theorem fm_tx8_ff {g g' : Nat → Int32} (hg : ∀ j, j ≠ 17 → j ≠ 18 → g' j = g j) : fm_tx8 g g' := fun j _ _ _ _ q5 q6 => hg j q5 q6
theorem fr_wantSign {c : Int32} {S E F : Nat} (hxp : fm_xp g S E F) (hfl : fm_flt g) : ∃ (v : Option Value) (mem' : fx_M), (fm_FT g tp bt a b S E) (v, mem') ∧ fr_T 3 229 [.ref 0, .int c] (fm g tp bt a b) v mem' := by
  refine fe_meth (F := fm_FT g tp bt a b S E) (M := gk_m229) (by rfl) (by rfl) ?_
  refine fe_s 2 (pc' := 2) (lc' := [(0, .ref 0), (1, .int c)]) (stk' := [.int c, .ref 0]) (mem' := fm g tp bt a b) (by intro _ _ _; eq_refl) ?_
  obtain ⟨v9, mem9, ⟨x9, hx9, hR9⟩, hfr9⟩ := fr_isSign (c := c) (g := g) (tp := tp) (bt := bt) (a := a) (b := b)
  cases hR9
  refine fe_ivV hfr9 (by omega) (by rfl) (by rfl) (by rfl) (by rfl) (by rfl) (by rfl) ?_
  rcases hx9 with rfl | ⟨rfl, hs9⟩
  · refine fe_s 1 (pc' := cond (fx_cb .ne 0 0) 14 8) (lc' := [(0, .ref 0), (1, .int c)]) (stk' := []) (mem' := fm g tp bt a b) (by intro _ _ _; eq_refl) ?_
    rw [show (fx_cb .ne 0 0) = false from by decide]
    dsimp only [cond]
    refine fe_s 2 (pc' := 10) (lc' := [(0, .ref 0), (1, .int c)]) (stk' := [.int 2, .ref 0]) (mem' := fm g tp bt a b) (by intro _ _ _; eq_refl) ?_
    obtain ⟨vf1, memf1, ⟨gf1, hgf1, hlf1, hzf1, hRf1⟩, hfrf1⟩ := fr_fails (x := 2) (F := F) (g := g) (tp := tp) (bt := bt) (a := a) (b := b) (by omega) (by omega) hxp.2.2.2.2.1 (by have := hxp.2.2.2.2.2.1; have := hxp.2.2.2.1; have := hxp.2.1; omega) hfl
    cases hRf1
    refine fe_ivV hfrf1 (by omega) (by rfl) (by rfl) (by rfl) (by rfl) (by rfl) (by rfl) ?_
    exact fe_ret ⟨_, gf1, E, F, Or.inl rfl, fm_tx8_ff hgf1, fm_xp_ff hxp hgf1, hlf1, Nat.le_refl _, rfl⟩ (by rfl) (by rfl) (by rfl)
  · refine fe_s 1 (pc' := cond (fx_cb .ne 1 0) 14 8) (lc' := [(0, .ref 0), (1, .int c)]) (stk' := []) (mem' := fm g tp bt a b) (by intro _ _ _; eq_refl) ?_
    rw [show (fx_cb .ne 1 0) = true from by decide]
    dsimp only [cond]
    refine fe_s 1 (pc' := 15) (lc' := [(0, .ref 0), (1, .int c)]) (stk' := [.ref 0]) (mem' := fm g tp bt a b) (by intro _ _ _; eq_refl) ?_
    obtain ⟨vk2, memk2, ⟨gk2, Ek2, Fk2, htk2, hxk2, hEk2, hpk2, hRk2⟩, hfrk2⟩ := fr_ahead (S := S) (E := E) (g := g) (tp := tp) (bt := bt) (a := a) (b := b) hxp.1 hxp.2.1 hxp.2.2.1 hxp.2.2.2.1
    cases hRk2
    refine fe_ivV hfrk2 (by omega) (by rfl) (by rfl) (by rfl) (by rfl) (by rfl) (by rfl) ?_
    refine fe_s 1 (pc' := 19) (lc' := [(0, .ref 0), (1, .int c)]) (stk' := [.int 1]) (mem' := fm gk2 tp bt a b) (by intro _ _ _; eq_refl) ?_
    exact fe_ret ⟨_, gk2, Ek2, Fk2, Or.inr ⟨rfl, htk2 18 (by decide) (by decide) (by decide) (by decide), hpk2⟩, fm_tx8_of htk2, hxk2, fm_flt_tx hfl htk2, by have := hxk2.2.2.2.2.2.1; omega, rfl⟩ (by rfl) (by rfl) (by rfl)
end FWT
end MH0_1
section MH0_2
/-! ===== fx: a part of a whole, in lowest terms ===== -/
section FTB
variable {g : Nat → Int32} {tp bt : Int64} {a : Nat → Nat → Int32} {b : Nat → Nat → Int64}
theorem fe_lrem {k : Nat} {M : rk_M2} {pc : Nat} {x y : Int64} {lc : fx_L} {r : List Value} {mem : fx_M} {F : Option Value × fx_M → Prop} (hat : tk_at M.1 pc = some (pc, .lrem, 1)) (hy : ¬ y = 0) (kk : fe_R k M (pc + 1) lc (.long (x - x / y * y) :: r) mem F) : fe_R k M pc lc (.long y :: .long x :: r) mem F := by
  refine fe_s 1 (pc' := pc + 1) (lc' := lc) (stk' := .long (x - x / y * y) :: r) (mem' := mem) (fun N d n => ?_) kk
  refine fx_one (z := (pc + 1, lc, .long (x - x / y * y) :: r, mem)) hat rfl rfl ?_
  show (match (if y = 0 then none else some (pc + 1, lc, Value.long (x - x / y * y) :: r) : fx_R) with
    | some z => some (z.1, z.2.1, z.2.2, mem)
    | none => none) = _
  rw [if_neg hy]
theorem fe_ldiv {k : Nat} {M : rk_M2} {pc : Nat} {x y : Int64} {lc : fx_L} {r : List Value} {mem : fx_M} {F : Option Value × fx_M → Prop} (hat : tk_at M.1 pc = some (pc, .ldiv, 1)) (hy : ¬ y = 0) (kk : fe_R k M (pc + 1) lc (.long (x / y) :: r) mem F) : fe_R k M pc lc (.long y :: .long x :: r) mem F := by
  refine fe_s 1 (pc' := pc + 1) (lc' := lc) (stk' := .long (x / y) :: r) (mem' := mem) (fun N d n => ?_) kk
  refine fx_one (z := (pc + 1, lc, .long (x / y) :: r, mem)) hat rfl rfl ?_
  show (match (if y = 0 then none else some (pc + 1, lc, Value.long (x / y) :: r) : fx_R) with
    | some z => some (z.1, z.2.1, z.2.2, mem)
    | none => none) = _
  rw [if_neg hy]
theorem fm_div_nn {x y : Int64} (hx : 0 ≤ x.toInt) (hy : 0 < y.toInt) : 0 ≤ (x / y).toInt := by
  rw [Int64.toInt_div, Int.tdiv_eq_ediv_of_nonneg hx]
  have h1 : 0 ≤ x.toInt / y.toInt := Int.ediv_nonneg hx (by omega)
  have h2 : x.toInt / y.toInt ≤ x.toInt := Int.ediv_le_self _ hx
  have h3 := x.toInt_lt
  rw [Int.bmod_eq_of_le (by omega) (by omega)]
  exact h1
theorem fr_is0 {g : Nat → Int32} {tp bt : Int64} {a : Nat → Nat → Int32} {b : Nat → Nat → Int64} : fr_T 1 206 [.ref 0, .int 0] (fm g tp bt a b) (some (.int 1)) (fm (upd g 2 0) tp bt a b) := by
  refine fr_meth (by rfl) (by rfl) ?_
  refine fr_s 4 (pc' := 6) (lc' := [(0, .ref 0), (1, .int 0)]) (stk' := [.int 0]) (mem' := fm (upd g 2 0) tp bt a b) (by intro _ _ _; eq_refl) ?_
  refine fr_s 1 (pc' := cond (fx_cb .ne 0 0) 13 9) (lc' := [(0, .ref 0), (1, .int 0)]) (stk' := []) (mem' := fm (upd g 2 0) tp bt a b) (by intro _ _ _; eq_refl) ?_
  rw [show (fx_cb .ne 0 0) = false from by decide]
  dsimp only [cond]
  refine fr_s 2 (pc' := 14) (lc' := [(0, .ref 0), (1, .int 0)]) (stk' := [.int 1]) (mem' := fm (upd g 2 0) tp bt a b) (by intro _ _ _; eq_refl) ?_
  exact fr_ret (by rfl) (by rfl) (by rfl)
theorem fm_i64 {x : Int64} (h : fx_cb .eq (lg_cmp x 0) 0 = false) : ¬ x = 0 := by
  rintro rfl
  exact absurd h (by decide)
theorem fm_i64e {x : Int64} (h : fx_cb .eq (lg_cmp x 0) 0 = true) : x = 0 := by
  have e : lg_cmp x 0 = 0 := of_decide_eq_true h
  rcases rk_lgc x 0 with ⟨z, -⟩ | ⟨-, z⟩ | ⟨z, -⟩
  · rw [z] at e; exact absurd e (by decide)
  · exact Int64.toInt_inj.mp z
  · rw [z] at e; exact absurd e (by decide)
theorem fr_tellsBy {n d : Int64} (hn : 0 ≤ n.toInt) (hd : 0 < d.toInt) : ∃ (v : Option Value) (mem' : fx_M), (fun R => ∃ t u : Int64, 0 ≤ t.toInt ∧ R = (some (.int 1), fm (upd g 2 0) t u a b)) (v, mem') ∧ fr_T 3 210 [.ref 0, .long n, .long d] (fm g tp bt a b) v mem' := by
  refine fe_meth (F := fun R => ∃ t u : Int64, 0 ≤ t.toInt ∧ R = (some (.int 1), fm (upd g 2 0) t u a b)) (M := gk_m210) (by rfl) (by rfl) ?_
  have h0 : (0 : Int64).toInt = 0 := rfl
  have loop : ∀ (r : Nat) (x y : Int64), y.toInt.toNat < r → 0 ≤ x.toInt → 0 ≤ y.toInt → (0 < x.toInt ∨ 0 < y.toInt) → fe_R 2 gk_m210 6 [(7, .long y), (5, .long x), (0, .ref 0), (1, .long n), (3, .long d)] [] (fm g tp bt a b) (fun R => ∃ t u : Int64, 0 ≤ t.toInt ∧ R = (some (.int 1), fm (upd g 2 0) t u a b)) := by
    intro r
    induction r with
    | zero => intro x y h; exact absurd h (Nat.not_lt_zero _)
    | succ r ih =>
      intro x y hr hx hy hxy
      refine fe_s 3 (pc' := 10) (lc' := [(7, .long y), (5, .long x), (0, .ref 0), (1, .long n), (3, .long d)]) (stk' := [.int (lg_cmp y 0)]) (mem' := fm g tp bt a b) (by intro _ _ _; eq_refl) ?_
      refine fe_s 1 (pc' := cond (fx_cb .eq (lg_cmp y 0) 0) 31 13) (lc' := [(7, .long y), (5, .long x), (0, .ref 0), (1, .long n), (3, .long d)]) (stk' := []) (mem' := fm g tp bt a b) (by intro _ _ _; eq_refl) ?_
      cases h1 : fx_cb .eq (lg_cmp y 0) 0
      · refine fe_s 2 (pc' := 17) (lc' := [(7, .long y), (5, .long x), (0, .ref 0), (1, .long n), (3, .long d)]) (stk' := [.long y, .long x]) (mem' := fm g tp bt a b) (by intro _ _ _; eq_refl) ?_
        have hy0 := fm_i64 h1
        have hy1 : 0 < y.toInt := by have : ¬ y.toInt = 0 := fun z => hy0 (Int64.toInt_inj.mp (by rw [z]; rfl)); omega
        have hm := tk_lrem_nn (x := x) (y := y) hx hy1
        have hm1 := Int.emod_nonneg x.toInt (show y.toInt ≠ 0 by omega)
        have hm2 := Int.emod_lt_of_pos x.toInt hy1
        refine fe_lrem (by rfl) hy0 ?_
        refine fe_s 6 (pc' := 6) (lc' := [(7, .long (x - x / y * y)), (5, .long y), (9, .long (x - x / y * y)), (0, .ref 0), (1, .long n), (3, .long d)]) (stk' := []) (mem' := fm g tp bt a b) (by intro _ _ _; eq_refl) ?_
        refine fe_w (lc' := [(7, .long (x - x / y * y)), (5, .long y), (0, .ref 0), (1, .long n), (3, .long d)]) ⟨rfl, rfl, rfl, rfl, rfl, trivial⟩ (by show List.Nodup [7, 5, 0, 1, 3]; decide) (by show List.Nodup [7, 5, 9, 0, 1, 3]; decide) ?_
        exact ih y (x - x / y * y) (by omega) hy (by omega) (Or.inl hy1)
      · obtain rfl := fm_i64e h1
        have hx1 : 0 < x.toInt := by omega
        have hx0 : ¬ x = 0 := by rintro rfl; omega
        refine fe_s 3 (pc' := 35) (lc' := [(7, .long 0), (5, .long x), (0, .ref 0), (1, .long n), (3, .long d)]) (stk' := [.long x, .long n, .ref 0]) (mem' := fm g tp bt a b) (by intro _ _ _; eq_refl) ?_
        refine fe_ldiv (by rfl) hx0 ?_
        refine fe_s 4 (pc' := 43) (lc' := [(7, .long 0), (5, .long x), (0, .ref 0), (1, .long n), (3, .long d)]) (stk' := [.long x, .long d, .ref 0]) (mem' := fm g (n / x) bt a b) (by intro _ _ _; eq_refl) ?_
        refine fe_ldiv (by rfl) hx0 ?_
        refine fe_s 3 (pc' := 49) (lc' := [(7, .long 0), (5, .long x), (0, .ref 0), (1, .long n), (3, .long d)]) (stk' := [.int 0, .ref 0]) (mem' := fm g (n / x) (d / x) a b) (by intro _ _ _; eq_refl) ?_
        refine fe_ivV fr_is0 (by omega) (by rfl) (by rfl) (by rfl) (by rfl) (by rfl) (by rfl) ?_
        exact fe_ret ⟨n / x, d / x, fm_div_nn hn hx1, rfl⟩ (by rfl) (by rfl) (by rfl)
  refine fe_s 4 (pc' := 6) (lc' := [(7, .long d), (5, .long n), (0, .ref 0), (1, .long n), (3, .long d)]) (stk' := []) (mem' := fm g tp bt a b) (by intro _ _ _; eq_refl) ?_
  exact loop (d.toInt.toNat + 1) n d (by omega) hn (by omega) (Or.inr hd)
end FTB
end MH0_2
section MH0_3
/-! ===== fx: which word it is ===== -/
/-- where the model's words begin -/
def mw_s : List Nat := [1, 5, 11, 15, 22, 29, 35, 40, 47, 53, 60, 63, 68, 73, 79, 84, 88, 91, 94, 99, 104, 108, 113, 117]
theorem mv_ok : ∀ j, j < 23 → mw_s.getD j 0 < mw_s.getD (j + 1) 0 - 1 ∧ mw_s.getD (j + 1) 0 ≤ 117 ∧ sk_b.getD (mw_s.getD (j + 1) 0 - 1) 0 = 32 := by decide +kernel
theorem mw_sp : ∀ j, j < 23 → ∀ i, i < 117 → mw_s.getD j 0 ≤ i → i < mw_s.getD (j + 1) 0 - 1 → sk_b.getD i 0 ≠ 32 := by decide +kernel
section FIW
variable {g : Nat → Int32} {tp bt : Int64} {a : Nat → Nat → Int32} {b : Nat → Nat → Int64} {n : Nat}
theorem fe_chr {k : Nat} {M : rk_M2} {pc idx i : Nat} {lc : fx_L} {r : List Value} {mem : fx_M} {F : Option Value × fx_M → Prop} (hi : i < 117) (hat : tk_at M.1 pc = some (pc, .invokevirtual idx, 3)) (hlk : rk_lk M.2.2.1 idx = some (5, 378, 1)) (hm : mem[22]? = none ∧ mem.length = 22) (hsum : Nat.ble (fx_sum r) 8 = true) (kk : fe_R k M (pc + 3) lc (.int (sk_b.getD i 0) :: r) mem F) : fe_R k M pc lc (.int (nI i) :: .ref 22 :: r) mem F := by
  refine fe_s 1 (pc' := pc + 3) (lc' := lc) (stk' := .int (sk_b.getD i 0) :: r) (mem' := mem) (fun N d n => ?_) kk
  refine fx_one (z := (pc + 3, lc, .int (sk_b.getD i 0) :: r, mem)) hat rfl rfl ?_
  show (match rk_lk M.2.2.1 idx with
    | some q => cond (Nat.beq q.1 5 || Nat.beq q.1 6) (fx_cv gk_mci (fm_call (N + 100) (d + k)) (pc + 3) q.2.1 q.2.2 lc (.int (nI i) :: .ref 22 :: r) mem) none
    | none => none) = _
  rw [hlk]
  show fx_cv gk_mci (fm_call (N + 100) (d + k)) (pc + 3) 378 1 lc (.int (nI i) :: .ref 22 :: r) mem = _
  show (match mem[22]? with
    | some (.inl o) => cond (Nat.ble (fx_sum r) 8 && decide (gk_mci[378]? = some o.1)) (fx_aft (pc + 3) lc r (fm_call (N + 100) (d + k) 378 (.ref 22 :: [.int (nI i)]) mem)) none
    | none => fx_sv (pc + 3) 378 22 [.int (nI i)] r lc mem
    | _ => none) = _
  rw [hm.1]
  show fx_sv (pc + 3) 378 22 [.int (nI i)] r lc mem = _
  unfold fx_sv
  rw [show fx_sc 378 [.int (nI i)] = some (.int (sk_b.getD i 0)) from by
    show cond (Nat.beq 378 378 && fx_in (nI i) sk_n) (some (Value.int (sk_b.getD (nI i).toNatClampNeg 0))) none = _
    rw [show fx_in (nI i) sk_n = true from fx_inN hi (by decide), nI_clamp (by omega)]
    rfl]
  show cond (Nat.ble (fx_sum r) 8 && Nat.beq 22 mem.length) _ none = _
  rw [hsum, hm.2]
  rfl
def fm_FI (mem : fx_M) (R : Option Value × fx_M) : Prop := ∃ v : Int32, (v = -1 ∨ ∃ n, n < 24 ∧ v = nI n) ∧ R = (some (.int v), mem)
/-- the letters of a word against the token's -/
def mw_eq (a : Nat → Nat → Int32) (n s k e : Nat) : Prop := ∀ i, i < e - k → sk_b.getD (k + i) 0 = fm_byte a n (s + i)
theorem mw_like {s k e m : Nat} {F : Option Value × fx_M → Prop} (h11 : g 11 = nI n) (hn : n ≤ 900) (h13 : g 13 = nI s) (hs : s ≤ n) (hk : k ≤ e) (he : e < 117) (hyes : mw_eq a n s k e → fe_R 1 gk_m226 115 [(6, .int (nI e)), (5, .int 1), (4, .int (nI e)), (3, .int (nI k)), (2, .int (nI m)), (0, .ref 0), (1, .ref 22)] [] (fm g tp bt a b) F) (hno : ∀ i, ¬ mw_eq a n s k e → fe_R 1 gk_m226 115 [(6, .int (nI i)), (5, .int 0), (4, .int (nI e)), (3, .int (nI k)), (2, .int (nI m)), (0, .ref 0), (1, .ref 22)] [] (fm g tp bt a b) F) : ∀ (r i : Nat), i + r = e → k ≤ i → (∀ j, j < i - k → sk_b.getD (k + j) 0 = fm_byte a n (s + j)) → fe_R 1 gk_m226 68 [(6, .int (nI i)), (5, .int 1), (4, .int (nI e)), (3, .int (nI k)), (2, .int (nI m)), (0, .ref 0), (1, .ref 22)] [] (fm g tp bt a b) F := by
  intro r
  induction r with
  | zero =>
    intro i hr hki hall
    obtain rfl : i = e := by omega
    refine fe_s 3 (pc' := cond (fx_cb .ge (nI i) (nI i)) 115 75) (lc' := [(6, .int (nI i)), (5, .int 1), (4, .int (nI i)), (3, .int (nI k)), (2, .int (nI m)), (0, .ref 0), (1, .ref 22)]) (stk' := []) (mem' := fm g tp bt a b) (by intro _ _ _; eq_refl) ?_
    rw [show fx_cb .ge (nI i) (nI i) = true from cb_geT (a := i) (b := i) (by omega) (by omega) (by omega)]
    exact hyes hall
  | succ r ih =>
    intro i hr hki hall
    refine fe_s 3 (pc' := cond (fx_cb .ge (nI i) (nI e)) 115 75) (lc' := [(6, .int (nI i)), (5, .int 1), (4, .int (nI e)), (3, .int (nI k)), (2, .int (nI m)), (0, .ref 0), (1, .ref 22)]) (stk' := []) (mem' := fm g tp bt a b) (by intro _ _ _; eq_refl) ?_
    rw [show fx_cb .ge (nI i) (nI e) = false from cb_geF (a := i) (b := e) (by omega) (by omega) (by omega)]
    dsimp only [cond]
    refine fe_s 4 (pc' := 83) (lc' := [(6, .int (nI i)), (5, .int 1), (4, .int (nI e)), (3, .int (nI k)), (2, .int (nI m)), (0, .ref 0), (1, .ref 22)]) (stk' := [.int (nI i), .ref 22]) (mem' := fm g tp bt a b) (by intro _ _ _; eq_refl) ?_
    refine fe_chr (i := i) (by omega) (by rfl) (by rfl) ⟨by rfl, by rfl⟩ (by rfl) ?_
    refine fe_s 7 (pc' := 96) (lc' := [(6, .int (nI i)), (5, .int 1), (4, .int (nI e)), (3, .int (nI k)), (2, .int (nI m)), (0, .ref 0), (1, .ref 22)]) (stk' := [.int (g 13 + nI i - nI k), .ref 0, .int (sk_b.getD i 0)]) (mem' := fm g tp bt a b) (by intro _ _ _; eq_refl) ?_
    rw [h13, nI_add, tg_sub2 (x := s + i) (y := k) (by omega)]
    refine fe_ivV (fr_byteAt (S := n) (k := s + i - k) (g := g) (tp := tp) (bt := bt) (a := a) (b := b) h11 hn (by omega)) (by omega) (by rfl) (by rfl) (by rfl) (by rfl) (by rfl) (by rfl) ?_
    have ei : sk_b.getD i 0 = sk_b.getD (k + (i - k)) 0 := by rw [show k + (i - k) = i by omega]
    have eb : fm_byte a n (s + i - k) = fm_byte a n (s + (i - k)) := by rw [show s + i - k = s + (i - k) by omega]
    refine fe_s 1 (pc' := cond (fx_cb .ne (sk_b.getD i 0) (fm_byte a n (s + i - k))) 106 102) (lc' := [(6, .int (nI i)), (5, .int 1), (4, .int (nI e)), (3, .int (nI k)), (2, .int (nI m)), (0, .ref 0), (1, .ref 22)]) (stk' := []) (mem' := fm g tp bt a b) (by intro _ _ _; eq_refl) ?_
    by_cases hq : sk_b.getD i 0 = fm_byte a n (s + i - k)
    · rw [show fx_cb .ne (sk_b.getD i 0) (fm_byte a n (s + i - k)) = false from by show (!decide (sk_b.getD i 0 = fm_byte a n (s + i - k))) = false; rw [decide_eq_true hq]; rfl]
      dsimp only [cond]
      refine fe_s 5 (pc' := 68) (lc' := [(6, .int (nI i + 1)), (5, .int 1), (4, .int (nI e)), (3, .int (nI k)), (2, .int (nI m)), (0, .ref 0), (1, .ref 22)]) (stk' := []) (mem' := fm g tp bt a b) (by intro _ _ _; eq_refl) ?_
      rw [show nI i + 1 = nI (i + 1) from nI_add i 1]
      refine ih (i + 1) (by omega) (by omega) (fun j hj => ?_)
      by_cases ej : j = i - k
      · rw [ej, ← ei, ← eb]; exact hq
      · exact hall j (by omega)
    · rw [show fx_cb .ne (sk_b.getD i 0) (fm_byte a n (s + i - k)) = true from by show (!decide (sk_b.getD i 0 = fm_byte a n (s + i - k))) = true; rw [decide_eq_false hq]; rfl]
      dsimp only [cond]
      have hne : ¬ mw_eq a n s k e := fun z => hq (by rw [ei, eb]; exact z (i - k) (by omega))
      refine fe_s 4 (pc' := 68) (lc' := [(6, .int (nI i + 1)), (5, .int 0), (4, .int (nI e)), (3, .int (nI k)), (2, .int (nI m)), (0, .ref 0), (1, .ref 22)]) (stk' := []) (mem' := fm g tp bt a b) (by intro _ _ _; eq_refl) ?_
      rw [show nI i + 1 = nI (i + 1) from nI_add i 1]
      refine fe_s 3 (pc' := cond (fx_cb .ge (nI (i + 1)) (nI e)) 115 75) (lc' := [(6, .int (nI (i + 1))), (5, .int 0), (4, .int (nI e)), (3, .int (nI k)), (2, .int (nI m)), (0, .ref 0), (1, .ref 22)]) (stk' := []) (mem' := fm g tp bt a b) (by intro _ _ _; eq_refl) ?_
      by_cases h9 : e ≤ i + 1
      · rw [show fx_cb .ge (nI (i + 1)) (nI e) = true from cb_geT (a := i + 1) (b := e) (by omega) (by omega) h9]
        exact hno (i + 1) hne
      · rw [show fx_cb .ge (nI (i + 1)) (nI e) = false from cb_geF (a := i + 1) (b := e) (by omega) (by omega) h9]
        dsimp only [cond]
        refine fe_s 2 (pc' := 115) (lc' := [(6, .int (nI (i + 1))), (5, .int 0), (4, .int (nI e)), (3, .int (nI k)), (2, .int (nI m)), (0, .ref 0), (1, .ref 22)]) (stk' := []) (mem' := fm g tp bt a b) (by intro _ _ _; eq_refl) ?_
        exact hno (i + 1) hne
/-- where a word ends -/
theorem mw_end {k e m : Nat} {F : Option Value × fx_M → Prop} (he : e < 117) (h32 : sk_b.getD e 0 = 32) (hall : ∀ i, i < 117 → k ≤ i → i < e → sk_b.getD i 0 ≠ 32) (kk : fe_R 1 gk_m226 42 [(4, .int (nI e)), (3, .int (nI k)), (2, .int (nI m)), (0, .ref 0), (1, .ref 22)] [] (fm g tp bt a b) F) : ∀ (r i : Nat), i + r = e → k ≤ i → fe_R 1 gk_m226 25 [(4, .int (nI i)), (3, .int (nI k)), (2, .int (nI m)), (0, .ref 0), (1, .ref 22)] [] (fm g tp bt a b) F := by
  intro r
  induction r with
  | zero =>
    intro i hr hki
    obtain rfl : i = e := by omega
    refine fe_s 2 (pc' := 28) (lc' := [(4, .int (nI i)), (3, .int (nI k)), (2, .int (nI m)), (0, .ref 0), (1, .ref 22)]) (stk' := [.int (nI i), .ref 22]) (mem' := fm g tp bt a b) (by intro _ _ _; eq_refl) ?_
    refine fe_chr (i := i) (by omega) (by rfl) (by rfl) ⟨by rfl, by rfl⟩ (by rfl) ?_
    rw [h32]
    refine fe_s 2 (pc' := 42) (lc' := [(4, .int (nI i)), (3, .int (nI k)), (2, .int (nI m)), (0, .ref 0), (1, .ref 22)]) (stk' := []) (mem' := fm g tp bt a b) (fun _ _ _ => rfl) kk
  | succ r ih =>
    intro i hr hki
    refine fe_s 2 (pc' := 28) (lc' := [(4, .int (nI i)), (3, .int (nI k)), (2, .int (nI m)), (0, .ref 0), (1, .ref 22)]) (stk' := [.int (nI i), .ref 22]) (mem' := fm g tp bt a b) (by intro _ _ _; eq_refl) ?_
    refine fe_chr (i := i) (by omega) (by rfl) (by rfl) ⟨by rfl, by rfl⟩ (by rfl) ?_
    refine fe_s 2 (pc' := cond (fx_cb .eq (sk_b.getD i 0) 32) 42 36) (lc' := [(4, .int (nI i)), (3, .int (nI k)), (2, .int (nI m)), (0, .ref 0), (1, .ref 22)]) (stk' := []) (mem' := fm g tp bt a b) (by intro _ _ _; eq_refl) ?_
    rw [show fx_cb .eq (sk_b.getD i 0) 32 = false from decide_eq_false (hall i (by omega) hki (by omega))]
    dsimp only [cond]
    refine fe_s 2 (pc' := 25) (lc' := [(4, .int (nI i + 1)), (3, .int (nI k)), (2, .int (nI m)), (0, .ref 0), (1, .ref 22)]) (stk' := []) (mem' := fm g tp bt a b) (by intro _ _ _; eq_refl) ?_
    rw [show nI i + 1 = nI (i + 1) from nI_add i 1]
    exact ih (i + 1) (by omega) (by omega)
/-- one word -/
theorem mw_one {s z k e m : Nat} {F : Option Value × fx_M → Prop} (h11 : g 11 = nI n) (hn : n ≤ 900) (h13 : g 13 = nI s) (h14 : g 14 = nI z) (hsz : s ≤ z) (hz : z ≤ n) (hk : k < e) (he : e < 117) (hm : m < 23) (h32 : sk_b.getD e 0 = 32) (hall : ∀ i, i < 117 → k ≤ i → i < e → sk_b.getD i 0 ≠ 32) (hyes : e - k = z - s → mw_eq a n s k e → F (some (.int (nI m)), fm g tp bt a b)) (hno : ¬ (e - k = z - s ∧ mw_eq a n s k e) → fe_R 1 gk_m226 14 [(3, .int (nI (e + 1))), (2, .int (nI (m + 1))), (0, .ref 0), (1, .ref 22)] [] (fm g tp bt a b) F) : fe_R 1 gk_m226 14 [(3, .int (nI k)), (2, .int (nI m)), (0, .ref 0), (1, .ref 22)] [] (fm g tp bt a b) F := by
  have next : ∀ i, ¬ (e - k = z - s ∧ mw_eq a n s k e) → fe_R 1 gk_m226 115 [(6, .int (nI i)), (5, .int 0), (4, .int (nI e)), (3, .int (nI k)), (2, .int (nI m)), (0, .ref 0), (1, .ref 22)] [] (fm g tp bt a b) F := fun i h => by
    refine fe_s 6 (pc' := 129) (lc' := [(2, .int (nI m + 1)), (6, .int (nI i)), (5, .int 0), (4, .int (nI e)), (3, .int (nI k)), (0, .ref 0), (1, .ref 22)]) (stk' := [.int (nI e + 1)]) (mem' := fm g tp bt a b) (by intro _ _ _; eq_refl) ?_
    rw [show nI m + 1 = nI (m + 1) from nI_add m 1, show nI e + 1 = nI (e + 1) from nI_add e 1]
    refine fe_s 1 (pc' := 130) (lc' := [(3, .int (nI (e + 1))), (2, .int (nI (m + 1))), (6, .int (nI i)), (5, .int 0), (4, .int (nI e)), (0, .ref 0), (1, .ref 22)]) (stk' := []) (mem' := fm g tp bt a b) (by intro _ _ _; eq_refl) ?_
    refine fe_s 1 (pc' := fx_to 130 (-116)) (lc' := [(3, .int (nI (e + 1))), (2, .int (nI (m + 1))), (6, .int (nI i)), (5, .int 0), (4, .int (nI e)), (0, .ref 0), (1, .ref 22)]) (stk' := []) (mem' := fm g tp bt a b) (by intro _ _ _; eq_refl) ?_
    rw [show fx_to 130 (-116) = 14 from by decide]
    refine fe_w (lc' := [(3, .int (nI (e + 1))), (2, .int (nI (m + 1))), (0, .ref 0), (1, .ref 22)]) ⟨rfl, rfl, rfl, rfl, trivial⟩ (by show List.Nodup [3, 2, 0, 1]; decide) (by show List.Nodup [3, 2, 6, 5, 4, 0, 1]; decide) ?_
    exact hno h
  refine fe_s 2 (pc' := 16) (lc' := [(3, .int (nI k)), (2, .int (nI m)), (0, .ref 0), (1, .ref 22)]) (stk' := [.ref 22, .int (nI k)]) (mem' := fm g tp bt a b) (by intro _ _ _; eq_refl) ?_
  refine fe_s 1 (pc' := 19) (lc' := [(3, .int (nI k)), (2, .int (nI m)), (0, .ref 0), (1, .ref 22)]) (stk' := [.int 117, .int (nI k)]) (mem' := fm g tp bt a b) (by intro _ _ _; eq_refl) ?_
  refine fe_s 1 (pc' := cond (fx_cb .ge (nI k) 117) 133 22) (lc' := [(3, .int (nI k)), (2, .int (nI m)), (0, .ref 0), (1, .ref 22)]) (stk' := []) (mem' := fm g tp bt a b) (by intro _ _ _; eq_refl) ?_
  rw [show fx_cb .ge (nI k) 117 = false from cb_geF (a := k) (b := 117) (by omega) (by omega) (by omega)]
  dsimp only [cond]
  refine fe_s 2 (pc' := 25) (lc' := [(4, .int (nI k)), (3, .int (nI k)), (2, .int (nI m)), (0, .ref 0), (1, .ref 22)]) (stk' := []) (mem' := fm g tp bt a b) (by intro _ _ _; eq_refl) ?_
  refine mw_end he h32 hall ?_ (e - k) k (by omega) (Nat.le_refl _)
  refine fe_s 3 (pc' := 46) (lc' := [(4, .int (nI e)), (3, .int (nI k)), (2, .int (nI m)), (0, .ref 0), (1, .ref 22)]) (stk' := [.int (nI e - nI k)]) (mem' := fm g tp bt a b) (by intro _ _ _; eq_refl) ?_
  rw [tg_sub2 (x := e) (y := k) (by omega)]
  refine fe_s 5 (pc' := 55) (lc' := [(4, .int (nI e)), (3, .int (nI k)), (2, .int (nI m)), (0, .ref 0), (1, .ref 22)]) (stk' := [.int (g 14 - g 13), .int (nI (e - k))]) (mem' := fm g tp bt a b) (by intro _ _ _; eq_refl) ?_
  rw [h14, h13, tg_sub2 (x := z) (y := s) (by omega)]
  refine fe_s 1 (pc' := cond (fx_cb .ne (nI (e - k)) (nI (z - s))) 62 58) (lc' := [(4, .int (nI e)), (3, .int (nI k)), (2, .int (nI m)), (0, .ref 0), (1, .ref 22)]) (stk' := []) (mem' := fm g tp bt a b) (by intro _ _ _; eq_refl) ?_
  by_cases hl : e - k = z - s
  · rw [show fx_cb .ne (nI (e - k)) (nI (z - s)) = false from cb_neF (a := e - k) (b := z - s) (by omega) (by omega) hl]
    dsimp only [cond]
    refine fe_s 5 (pc' := 68) (lc' := [(6, .int (nI k)), (5, .int 1), (4, .int (nI e)), (3, .int (nI k)), (2, .int (nI m)), (0, .ref 0), (1, .ref 22)]) (stk' := []) (mem' := fm g tp bt a b) (by intro _ _ _; eq_refl) ?_
    refine mw_like h11 hn h13 (by omega) (by omega) he (fun hq => ?_) (fun i hq => next i (fun y => hq y.2)) (e - k) k (by omega) (Nat.le_refl _) (fun j hj => absurd hj (by omega))
    refine fe_s 3 (pc' := 121) (lc' := [(6, .int (nI e)), (5, .int 1), (4, .int (nI e)), (3, .int (nI k)), (2, .int (nI m)), (0, .ref 0), (1, .ref 22)]) (stk' := [.int (nI m)]) (mem' := fm g tp bt a b) (by intro _ _ _; eq_refl) ?_
    exact fe_ret (hyes hl hq) (by rfl) (by rfl) (by rfl)
  · rw [show fx_cb .ne (nI (e - k)) (nI (z - s)) = true from cb_neT (a := e - k) (b := z - s) (by omega) (by omega) hl]
    dsimp only [cond]
    refine fe_s 6 (pc' := 72) (lc' := [(6, .int (nI k)), (5, .int 0), (4, .int (nI e)), (3, .int (nI k)), (2, .int (nI m)), (0, .ref 0), (1, .ref 22)]) (stk' := [.int (nI e), .int (nI k)]) (mem' := fm g tp bt a b) (by intro _ _ _; eq_refl) ?_
    refine fe_s 1 (pc' := cond (fx_cb .ge (nI k) (nI e)) 115 75) (lc' := [(6, .int (nI k)), (5, .int 0), (4, .int (nI e)), (3, .int (nI k)), (2, .int (nI m)), (0, .ref 0), (1, .ref 22)]) (stk' := []) (mem' := fm g tp bt a b) (by intro _ _ _; eq_refl) ?_
    rw [show fx_cb .ge (nI k) (nI e) = false from cb_geF (a := k) (b := e) (by omega) (by omega) (by omega)]
    dsimp only [cond]
    refine fe_s 2 (pc' := 115) (lc' := [(6, .int (nI k)), (5, .int 0), (4, .int (nI e)), (3, .int (nI k)), (2, .int (nI m)), (0, .ref 0), (1, .ref 22)]) (stk' := []) (mem' := fm g tp bt a b) (by intro _ _ _; eq_refl) ?_
    exact next k (fun y => hl y.1)
theorem fr_inWords {S E F : Nat} (hxp : fm_xp g S E F) : ∃ (v : Option Value) (mem' : fx_M), fm_FI (fm g tp bt a b) (v, mem') ∧ fr_T 2 226 [.ref 0, .ref 22] (fm g tp bt a b) v mem' := by
  obtain ⟨h11, hS9, h14, hES, h13, hFE, -, -, -⟩ := id hxp
  refine fe_meth (F := fm_FI (fm g tp bt a b)) (M := gk_m226) (by rfl) (by rfl) ?_
  refine fe_s 3 (pc' := 5) (lc' := [(0, .ref 0), (1, .ref 22)]) (stk' := [.int 2, .int (g 12)]) (mem' := fm g tp bt a b) (by intro _ _ _; eq_refl) ?_
  refine fe_s 1 (pc' := cond (fx_cb .eq (g 12) 2) 10 8) (lc' := [(0, .ref 0), (1, .ref 22)]) (stk' := []) (mem' := fm g tp bt a b) (by intro _ _ _; eq_refl) ?_
  cases h15 : fx_cb .eq (g 12) 2
  · refine fe_s 1 (pc' := 9) (lc' := [(0, .ref 0), (1, .ref 22)]) (stk' := [.int (-1)]) (mem' := fm g tp bt a b) (by intro _ _ _; eq_refl) ?_
    exact fe_ret ⟨_, Or.inl rfl, rfl⟩ (by rfl) (by rfl) (by rfl)
  · refine fe_s 4 (pc' := 14) (lc' := [(3, .int (nI 1)), (2, .int (nI 0)), (0, .ref 0), (1, .ref 22)]) (stk' := []) (mem' := fm g tp bt a b) (by intro _ _ _; eq_refl) ?_
    have main : ∀ (r j : Nat), j + r = 23 → fe_R 1 gk_m226 14 [(3, .int (nI (mw_s.getD j 0))), (2, .int (nI j)), (0, .ref 0), (1, .ref 22)] [] (fm g tp bt a b) (fm_FI (fm g tp bt a b)) := by
      intro r
      induction r with
      | zero =>
        intro j hj
        obtain rfl : j = 23 := by omega
        refine fe_s 2 (pc' := 16) (lc' := [(3, .int (nI 117)), (2, .int (nI 23)), (0, .ref 0), (1, .ref 22)]) (stk' := [.ref 22, .int (nI 117)]) (mem' := fm g tp bt a b) (by intro _ _ _; eq_refl) ?_
        refine fe_s 1 (pc' := 19) (lc' := [(3, .int (nI 117)), (2, .int (nI 23)), (0, .ref 0), (1, .ref 22)]) (stk' := [.int 117, .int (nI 117)]) (mem' := fm g tp bt a b) (by intro _ _ _; eq_refl) ?_
        refine fe_s 1 (pc' := cond (fx_cb .ge (nI 117) 117) 133 22) (lc' := [(3, .int (nI 117)), (2, .int (nI 23)), (0, .ref 0), (1, .ref 22)]) (stk' := []) (mem' := fm g tp bt a b) (by intro _ _ _; eq_refl) ?_
        rw [show fx_cb .ge (nI 117) 117 = true from by decide]
        dsimp only [cond]
        refine fe_s 1 (pc' := 134) (lc' := [(3, .int (nI 117)), (2, .int (nI 23)), (0, .ref 0), (1, .ref 22)]) (stk' := [.int (-1)]) (mem' := fm g tp bt a b) (by intro _ _ _; eq_refl) ?_
        exact fe_ret ⟨_, Or.inl rfl, rfl⟩ (by rfl) (by rfl) (by rfl)
      | succ r ih =>
        intro j hj
        obtain ⟨o1, o2, o3⟩ := mv_ok j (by omega)
        refine mw_one (n := S) (s := F) (z := E) h11 hS9 h13 h14 hFE hES o1 (by omega) (by omega) o3 (mw_sp j (by omega)) (fun _ _ => ⟨_, Or.inr ⟨j, by omega, rfl⟩, rfl⟩) (fun _ => ?_)
        have h := ih (j + 1) (by omega)
        rw [show mw_s.getD (j + 1) 0 - 1 + 1 = mw_s.getD (j + 1) 0 by omega]
        exact h
    exact main 23 0 rfl
end FIW
end MH0_3
section MH0_4
/-! ===== fx: a name, a word that is wanted ===== -/
section FNW
variable {g : Nat → Int32} {tp bt : Int64} {a : Nat → Nat → Int32} {b : Nat → Nat → Int64}
theorem fr_isName {S E F : Nat} (hxp : fm_xp g S E F) : ∃ (v : Option Value) (mem' : fx_M), (fun R => ∃ v : Int32, (v = 0 ∨ v = 1 ∧ g 12 = 2) ∧ R = (some (.int v), fm g tp bt a b)) (v, mem') ∧ fr_T 3 232 [.ref 0, .ref 22] (fm g tp bt a b) v mem' := by
  refine fe_meth (F := fun R => ∃ v : Int32, (v = 0 ∨ v = 1 ∧ g 12 = 2) ∧ R = (some (.int v), fm g tp bt a b)) (M := gk_m232) (by rfl) (by rfl) ?_
  refine fe_s 3 (pc' := 5) (lc' := [(0, .ref 0), (1, .ref 22)]) (stk' := [.int 2, .int (g 12)]) (mem' := fm g tp bt a b) (by intro _ _ _; eq_refl) ?_
  refine fe_s 1 (pc' := cond (fx_cb .ne (g 12) 2) 35 8) (lc' := [(0, .ref 0), (1, .ref 22)]) (stk' := []) (mem' := fm g tp bt a b) (by intro _ _ _; eq_refl) ?_
  cases h1 : fx_cb .ne (g 12) 2
  · refine fe_s 6 (pc' := 19) (lc' := [(0, .ref 0), (1, .ref 22)]) (stk' := [.int 8, .int ((g 14) - (g 13))]) (mem' := fm g tp bt a b) (by intro _ _ _; eq_refl) ?_
    refine fe_s 1 (pc' := cond (fx_cb .gt ((g 14) - (g 13)) 8) 35 22) (lc' := [(0, .ref 0), (1, .ref 22)]) (stk' := []) (mem' := fm g tp bt a b) (by intro _ _ _; eq_refl) ?_
    cases h2 : fx_cb .gt ((g 14) - (g 13)) 8
    · refine fe_s 2 (pc' := 24) (lc' := [(0, .ref 0), (1, .ref 22)]) (stk' := [.ref 22, .ref 0]) (mem' := fm g tp bt a b) (by intro _ _ _; eq_refl) ?_
      obtain ⟨v5, mem5, ⟨x5, hx5, hR5⟩, hfr5⟩ := fr_inWords (g := g) (tp := tp) (bt := bt) (a := a) (b := b) hxp
      cases hR5
      refine fe_ivV hfr5 (by omega) (by rfl) (by rfl) (by rfl) (by rfl) (by rfl) (by rfl) ?_
      rcases hx5 with rfl | ⟨n5, hn5, rfl⟩
      · refine fe_s 1 (pc' := 28) (lc' := [(0, .ref 0), (1, .ref 22)]) (stk' := [.int (-1), .int (-1)]) (mem' := fm g tp bt a b) (by intro _ _ _; eq_refl) ?_
        refine fe_s 1 (pc' := cond (fx_cb .ne (-1) (-1)) 35 31) (lc' := [(0, .ref 0), (1, .ref 22)]) (stk' := []) (mem' := fm g tp bt a b) (by intro _ _ _; eq_refl) ?_
        rw [show (fx_cb .ne (-1) (-1)) = false from by decide]
        dsimp only [cond]
        refine fe_s 2 (pc' := 36) (lc' := [(0, .ref 0), (1, .ref 22)]) (stk' := [.int 1]) (mem' := fm g tp bt a b) (by intro _ _ _; eq_refl) ?_
        exact fe_ret ⟨_, Or.inr ⟨rfl, fm_ne h1⟩, rfl⟩ (by rfl) (by rfl) (by rfl)
      · refine fe_s 1 (pc' := 28) (lc' := [(0, .ref 0), (1, .ref 22)]) (stk' := [.int (-1), .int (nI n5)]) (mem' := fm g tp bt a b) (by intro _ _ _; eq_refl) ?_
        refine fe_s 1 (pc' := cond (fx_cb .ne (nI n5) (-1)) 35 31) (lc' := [(0, .ref 0), (1, .ref 22)]) (stk' := []) (mem' := fm g tp bt a b) (by intro _ _ _; eq_refl) ?_
        rw [show (fx_cb .ne (nI n5) (-1)) = true from cb_n_ne (by omega) (by decide)]
        dsimp only [cond]
        refine fe_s 1 (pc' := 36) (lc' := [(0, .ref 0), (1, .ref 22)]) (stk' := [.int 0]) (mem' := fm g tp bt a b) (by intro _ _ _; eq_refl) ?_
        exact fe_ret ⟨_, Or.inl rfl, rfl⟩ (by rfl) (by rfl) (by rfl)
    · refine fe_s 1 (pc' := 36) (lc' := [(0, .ref 0), (1, .ref 22)]) (stk' := [.int 0]) (mem' := fm g tp bt a b) (by intro _ _ _; eq_refl) ?_
      exact fe_ret ⟨_, Or.inl rfl, rfl⟩ (by rfl) (by rfl) (by rfl)
  · refine fe_s 1 (pc' := 36) (lc' := [(0, .ref 0), (1, .ref 22)]) (stk' := [.int 0]) (mem' := fm g tp bt a b) (by intro _ _ _; eq_refl) ?_
    exact fe_ret ⟨_, Or.inl rfl, rfl⟩ (by rfl) (by rfl) (by rfl)
theorem fr_wantWord {k : Int32} {S E F : Nat} (hxp : fm_xp g S E F) (hfl : fm_flt g) : ∃ (v : Option Value) (mem' : fx_M), (fm_FT g tp bt a b S E) (v, mem') ∧ fr_T 3 230 [.ref 0, .ref 22, .int k] (fm g tp bt a b) v mem' := by
  refine fe_meth (F := fm_FT g tp bt a b S E) (M := gk_m230) (by rfl) (by rfl) ?_
  refine fe_s 2 (pc' := 2) (lc' := [(0, .ref 0), (1, .ref 22), (2, .int k)]) (stk' := [.ref 22, .ref 0]) (mem' := fm g tp bt a b) (by intro _ _ _; eq_refl) ?_
  obtain ⟨v5, mem5, ⟨x5, hx5, hR5⟩, hfr5⟩ := fr_inWords (g := g) (tp := tp) (bt := bt) (a := a) (b := b) hxp
  cases hR5
  refine fe_ivV hfr5 (by omega) (by rfl) (by rfl) (by rfl) (by rfl) (by rfl) (by rfl) ?_
  rcases hx5 with rfl | ⟨n5, hn5, rfl⟩
  · refine fe_s 1 (pc' := 6) (lc' := [(0, .ref 0), (1, .ref 22), (2, .int k)]) (stk' := [.int k, .int (-1)]) (mem' := fm g tp bt a b) (by intro _ _ _; eq_refl) ?_
    refine fe_s 1 (pc' := cond (fx_cb .eq (-1) k) 15 9) (lc' := [(0, .ref 0), (1, .ref 22), (2, .int k)]) (stk' := []) (mem' := fm g tp bt a b) (by intro _ _ _; eq_refl) ?_
    cases h1 : fx_cb .eq (-1) k
    · refine fe_s 2 (pc' := 11) (lc' := [(0, .ref 0), (1, .ref 22), (2, .int k)]) (stk' := [.int 2, .ref 0]) (mem' := fm g tp bt a b) (by intro _ _ _; eq_refl) ?_
      obtain ⟨vf2, memf2, ⟨gf2, hgf2, hlf2, hzf2, hRf2⟩, hfrf2⟩ := fr_fails (x := 2) (F := F) (g := g) (tp := tp) (bt := bt) (a := a) (b := b) (by omega) (by omega) hxp.2.2.2.2.1 (by have := hxp.2.2.2.2.2.1; have := hxp.2.2.2.1; have := hxp.2.1; omega) hfl
      cases hRf2
      refine fe_ivV hfrf2 (by omega) (by rfl) (by rfl) (by rfl) (by rfl) (by rfl) (by rfl) ?_
      exact fe_ret ⟨_, gf2, E, F, Or.inl rfl, fm_tx8_ff hgf2, fm_xp_ff hxp hgf2, hlf2, Nat.le_refl _, rfl⟩ (by rfl) (by rfl) (by rfl)
    · refine fe_s 1 (pc' := 16) (lc' := [(0, .ref 0), (1, .ref 22), (2, .int k)]) (stk' := [.ref 0]) (mem' := fm g tp bt a b) (by intro _ _ _; eq_refl) ?_
      obtain ⟨vk3, memk3, ⟨gk3, Ek3, Fk3, htk3, hxk3, hEk3, hpk3, hRk3⟩, hfrk3⟩ := fr_ahead (S := S) (E := E) (g := g) (tp := tp) (bt := bt) (a := a) (b := b) hxp.1 hxp.2.1 hxp.2.2.1 hxp.2.2.2.1
      cases hRk3
      refine fe_ivV hfrk3 (by omega) (by rfl) (by rfl) (by rfl) (by rfl) (by rfl) (by rfl) ?_
      refine fe_s 1 (pc' := 20) (lc' := [(0, .ref 0), (1, .ref 22), (2, .int k)]) (stk' := [.int 1]) (mem' := fm gk3 tp bt a b) (by intro _ _ _; eq_refl) ?_
      exact fe_ret ⟨_, gk3, Ek3, Fk3, Or.inr ⟨rfl, htk3 18 (by decide) (by decide) (by decide) (by decide), hpk3⟩, fm_tx8_of htk3, hxk3, fm_flt_tx hfl htk3, by have := hxk3.2.2.2.2.2.1; omega, rfl⟩ (by rfl) (by rfl) (by rfl)
  · refine fe_s 1 (pc' := 6) (lc' := [(0, .ref 0), (1, .ref 22), (2, .int k)]) (stk' := [.int k, .int (nI n5)]) (mem' := fm g tp bt a b) (by intro _ _ _; eq_refl) ?_
    refine fe_s 1 (pc' := cond (fx_cb .eq (nI n5) k) 15 9) (lc' := [(0, .ref 0), (1, .ref 22), (2, .int k)]) (stk' := []) (mem' := fm g tp bt a b) (by intro _ _ _; eq_refl) ?_
    cases h4 : fx_cb .eq (nI n5) k
    · refine fe_s 2 (pc' := 11) (lc' := [(0, .ref 0), (1, .ref 22), (2, .int k)]) (stk' := [.int 2, .ref 0]) (mem' := fm g tp bt a b) (by intro _ _ _; eq_refl) ?_
      obtain ⟨vf5, memf5, ⟨gf5, hgf5, hlf5, hzf5, hRf5⟩, hfrf5⟩ := fr_fails (x := 2) (F := F) (g := g) (tp := tp) (bt := bt) (a := a) (b := b) (by omega) (by omega) hxp.2.2.2.2.1 (by have := hxp.2.2.2.2.2.1; have := hxp.2.2.2.1; have := hxp.2.1; omega) hfl
      cases hRf5
      refine fe_ivV hfrf5 (by omega) (by rfl) (by rfl) (by rfl) (by rfl) (by rfl) (by rfl) ?_
      exact fe_ret ⟨_, gf5, E, F, Or.inl rfl, fm_tx8_ff hgf5, fm_xp_ff hxp hgf5, hlf5, Nat.le_refl _, rfl⟩ (by rfl) (by rfl) (by rfl)
    · refine fe_s 1 (pc' := 16) (lc' := [(0, .ref 0), (1, .ref 22), (2, .int k)]) (stk' := [.ref 0]) (mem' := fm g tp bt a b) (by intro _ _ _; eq_refl) ?_
      obtain ⟨vk6, memk6, ⟨gk6, Ek6, Fk6, htk6, hxk6, hEk6, hpk6, hRk6⟩, hfrk6⟩ := fr_ahead (S := S) (E := E) (g := g) (tp := tp) (bt := bt) (a := a) (b := b) hxp.1 hxp.2.1 hxp.2.2.1 hxp.2.2.2.1
      cases hRk6
      refine fe_ivV hfrk6 (by omega) (by rfl) (by rfl) (by rfl) (by rfl) (by rfl) (by rfl) ?_
      refine fe_s 1 (pc' := 20) (lc' := [(0, .ref 0), (1, .ref 22), (2, .int k)]) (stk' := [.int 1]) (mem' := fm gk6 tp bt a b) (by intro _ _ _; eq_refl) ?_
      exact fe_ret ⟨_, gk6, Ek6, Fk6, Or.inr ⟨rfl, htk6 18 (by decide) (by decide) (by decide) (by decide), hpk6⟩, fm_tx8_of htk6, hxk6, fm_flt_tx hfl htk6, by have := hxk6.2.2.2.2.2.1; omega, rfl⟩ (by rfl) (by rfl) (by rfl)
end FNW
end MH0_4
section MH0_5
/-! ===== fx: the name that stands here, a number ===== -/
section FNH
variable {g : Nat → Int32} {tp bt : Int64} {a : Nat → Nat → Int32} {b : Nat → Nat → Int64}
/-- the name of the bytes from k on -/
def fm_nmf (a : Nat → Nat → Int32) (S : Nat) : Nat → Nat → Int64 → Int64
  | 0, _, v => v
  | r + 1, k, v => fm_nmf a S r (k + 1) (v <<< ((8 : Int32).toInt64 &&& 63) ||| (fm_byte a S k).toInt64)
def fm_nm (a : Nat → Nat → Int32) (S F E : Nat) : Int64 := fm_nmf a S (E - F) F 0
theorem fr_nameHere {S E F : Nat} (hxp : fm_xp g S E F) : fr_T 2 233 [.ref 0] (fm g tp bt a b) (some (.long (fm_nm a S F E))) (fm g tp bt a b) := by
  obtain ⟨h11, hS9, h14, hES, h13, hFE, -, -, -⟩ := id hxp
  refine fr_meth (by rfl) (by rfl) ?_
  have loop : ∀ (r k : Nat) (v : Int64), k + r = E → fr_R 1 gk_m233 7 [(3, .int (nI k)), (1, .long v), (0, .ref 0)] [] (fm g tp bt a b) (some (.long (fm_nmf a S r k v)), fm g tp bt a b) := by
    intro r
    induction r with
    | zero =>
      intro k v hk
      obtain rfl : E = k := by omega
      refine fr_s 3 (pc' := 12) (lc' := [(3, .int (nI E)), (1, .long v), (0, .ref 0)]) (stk' := [.int (g 14), .int (nI E)]) (mem' := fm g tp bt a b) (by intro _ _ _; eq_refl) ?_
      try rw [h14]
      refine fr_s 1 (pc' := cond (fx_cb .ge (nI E) (nI E)) 33 15) (lc' := [(3, .int (nI E)), (1, .long v), (0, .ref 0)]) (stk' := []) (mem' := fm g tp bt a b) (by intro _ _ _; eq_refl) ?_
      rw [show (fx_cb .ge (nI E) (nI E)) = true from cb_geT (a := E) (b := E) (by omega) (by omega) (by omega)]
      dsimp only [cond]
      refine fr_s 1 (pc' := 34) (lc' := [(3, .int (nI E)), (1, .long v), (0, .ref 0)]) (stk' := [.long v]) (mem' := fm g tp bt a b) (by intro _ _ _; eq_refl) ?_
      exact fr_ret (by rfl) (by rfl) (by rfl)
    | succ r ih =>
      intro k v hk
      refine fr_s 3 (pc' := 12) (lc' := [(3, .int (nI k)), (1, .long v), (0, .ref 0)]) (stk' := [.int (g 14), .int (nI k)]) (mem' := fm g tp bt a b) (by intro _ _ _; eq_refl) ?_
      try rw [h14]
      refine fr_s 1 (pc' := cond (fx_cb .ge (nI k) (nI E)) 33 15) (lc' := [(3, .int (nI k)), (1, .long v), (0, .ref 0)]) (stk' := []) (mem' := fm g tp bt a b) (by intro _ _ _; eq_refl) ?_
      rw [show (fx_cb .ge (nI k) (nI E)) = false from cb_geF (a := k) (b := E) (by omega) (by omega) (by omega)]
      dsimp only [cond]
      refine fr_s 5 (pc' := 21) (lc' := [(3, .int (nI k)), (1, .long v), (0, .ref 0)]) (stk' := [.int (nI k), .ref 0, .long (v <<< ((8 : Int32).toInt64 &&& 63))]) (mem' := fm g tp bt a b) (by intro _ _ _; eq_refl) ?_
      refine fr_ivV (fr_byteAt (S := S) (k := k) (g := g) (tp := tp) (bt := bt) (a := a) (b := b) h11 (by omega) (by omega)) (by omega) (by rfl) (by rfl) (by rfl) (by rfl) (by rfl) (by rfl) ?_
      refine fr_s 5 (pc' := 7) (lc' := [(3, .int ((nI k) + 1)), (1, .long ((v <<< ((8 : Int32).toInt64 &&& 63)) ||| ((fm_byte a S k).toInt64))), (0, .ref 0)]) (stk' := []) (mem' := fm g tp bt a b) (by intro _ _ _; eq_refl) ?_
      rw [show ((nI k) + 1 : Int32) = nI (k + 1) from by simp only [show (1 : Int32) = nI 1 from rfl, nI_add, fm_mul]]
      refine fr_w (lc' := [(3, .int (nI (k + 1))), (1, .long (v <<< ((8 : Int32).toInt64 &&& 63) ||| (fm_byte a S k).toInt64)), (0, .ref 0)]) ⟨rfl, rfl, rfl, trivial⟩ (by show List.Nodup [3, 1, 0]; decide) (by show List.Nodup [3, 1, 0]; decide) ?_
      exact ih (k + 1) _ (by omega)
  refine fr_s 5 (pc' := 7) (lc' := [(3, .int (g 13)), (1, .long 0), (0, .ref 0)]) (stk' := []) (mem' := fm g tp bt a b) (by intro _ _ _; eq_refl) ?_
  try rw [h13]
  exact loop (E - F) F 0 (by omega)
/-- a number is read to a place -/
def fm_FN (g : Nat → Int32) (tp bt : Int64) (a : Nat → Nat → Int32) (b : Nat → Nat → Int64) (S E T : Nat) (lo hi : Int32) (R : Option Value × fx_M) : Prop := ∃ (v : Int32) (g' : Nat → Int32) (a' : Nat → Nat → Int32) (E' F' : Nat), (v = 0 ∧ ¬ g' 18 = 0 ∧ a' = a ∨ v = 1 ∧ g' 18 = g 18 ∧ (g' 12 = 0 ∨ E < E') ∧ ∃ x : Int32, lo ≤ x ∧ x ≤ hi ∧ a' = fm_u a 1 T x) ∧ fm_tx8 g g' ∧ fm_xp g' S E' F' ∧ fm_flt g' ∧ E ≤ E' ∧ R = (some (.int v), fm g' tp bt a' b)
theorem cb_ltF' {x y : Int32} (h : fx_cb .lt x y = false) : y ≤ x := Int32.not_lt.mp (of_decide_eq_false h)
theorem cb_gtF' {x y : Int32} (h : fx_cb .gt x y = false) : x ≤ y := Int32.not_lt.mp (of_decide_eq_false h)
theorem fr_number {lo hi : Int32} {S E F T : Nat} (hxp : fm_xp g S E F) (hfl : fm_flt g) (hT : T < 5894) : ∃ (v : Option Value) (mem' : fx_M), (fm_FN g tp bt a b S E T lo hi) (v, mem') ∧ fr_T 4 231 [.ref 0, .int (nI T), .int lo, .int hi] (fm g tp bt a b) v mem' := by
  refine fe_meth (F := fm_FN g tp bt a b S E T lo hi) (M := gk_m231) (by rfl) (by rfl) ?_
  refine fe_s 3 (pc' := 5) (lc' := [(0, .ref 0), (1, .int (nI T)), (2, .int lo), (3, .int hi)]) (stk' := [.int 3, .int (g 12)]) (mem' := fm g tp bt a b) (by intro _ _ _; eq_refl) ?_
  refine fe_s 1 (pc' := cond (fx_cb .eq (g 12) 3) 14 8) (lc' := [(0, .ref 0), (1, .int (nI T)), (2, .int lo), (3, .int hi)]) (stk' := []) (mem' := fm g tp bt a b) (by intro _ _ _; eq_refl) ?_
  cases h1 : fx_cb .eq (g 12) 3
  · refine fe_s 2 (pc' := 10) (lc' := [(0, .ref 0), (1, .int (nI T)), (2, .int lo), (3, .int hi)]) (stk' := [.int 2, .ref 0]) (mem' := fm g tp bt a b) (by intro _ _ _; eq_refl) ?_
    obtain ⟨vf2, memf2, ⟨gf2, hgf2, hlf2, hzf2, hRf2⟩, hfrf2⟩ := fr_fails (x := 2) (F := F) (g := g) (tp := tp) (bt := bt) (a := a) (b := b) (by omega) (by omega) hxp.2.2.2.2.1 (by have := hxp.2.2.2.2.2.1; have := hxp.2.2.2.1; have := hxp.2.1; omega) hfl
    cases hRf2
    refine fe_ivV hfrf2 (by omega) (by rfl) (by rfl) (by rfl) (by rfl) (by rfl) (by rfl) ?_
    exact fe_ret ⟨_, gf2, a, E, F, Or.inl ⟨rfl, hzf2, rfl⟩, fm_tx8_ff hgf2, fm_xp_ff hxp hgf2, hlf2, Nat.le_refl _, rfl⟩ (by rfl) (by rfl) (by rfl)
  · refine fe_s 3 (pc' := 19) (lc' := [(0, .ref 0), (1, .int (nI T)), (2, .int lo), (3, .int hi)]) (stk' := [.int lo, .int (g 15)]) (mem' := fm g tp bt a b) (by intro _ _ _; eq_refl) ?_
    refine fe_s 1 (pc' := cond (fx_cb .lt (g 15) lo) 30 22) (lc' := [(0, .ref 0), (1, .int (nI T)), (2, .int lo), (3, .int hi)]) (stk' := []) (mem' := fm g tp bt a b) (by intro _ _ _; eq_refl) ?_
    cases h3 : fx_cb .lt (g 15) lo
    · refine fe_s 3 (pc' := 27) (lc' := [(0, .ref 0), (1, .int (nI T)), (2, .int lo), (3, .int hi)]) (stk' := [.int hi, .int (g 15)]) (mem' := fm g tp bt a b) (by intro _ _ _; eq_refl) ?_
      refine fe_s 1 (pc' := cond (fx_cb .le (g 15) hi) 36 30) (lc' := [(0, .ref 0), (1, .int (nI T)), (2, .int lo), (3, .int hi)]) (stk' := []) (mem' := fm g tp bt a b) (by intro _ _ _; eq_refl) ?_
      cases h4 : fx_cb .le (g 15) hi
      · refine fe_s 2 (pc' := 32) (lc' := [(0, .ref 0), (1, .int (nI T)), (2, .int lo), (3, .int hi)]) (stk' := [.int 4, .ref 0]) (mem' := fm g tp bt a b) (by intro _ _ _; eq_refl) ?_
        obtain ⟨vf5, memf5, ⟨gf5, hgf5, hlf5, hzf5, hRf5⟩, hfrf5⟩ := fr_fails (x := 4) (F := F) (g := g) (tp := tp) (bt := bt) (a := a) (b := b) (by omega) (by omega) hxp.2.2.2.2.1 (by have := hxp.2.2.2.2.2.1; have := hxp.2.2.2.1; have := hxp.2.1; omega) hfl
        cases hRf5
        refine fe_ivV hfrf5 (by omega) (by rfl) (by rfl) (by rfl) (by rfl) (by rfl) (by rfl) ?_
        exact fe_ret ⟨_, gf5, a, E, F, Or.inl ⟨rfl, hzf5, rfl⟩, fm_tx8_ff hgf5, fm_xp_ff hxp hgf5, hlf5, Nat.le_refl _, rfl⟩ (by rfl) (by rfl) (by rfl)
      · refine fe_s 5 (pc' := 45) (lc' := [(0, .ref 0), (1, .int (nI T)), (2, .int lo), (3, .int hi)]) (stk' := [.int (g 15), .int (nI T), .ref 1]) (mem' := fm g tp bt a b) (by intro _ _ _; eq_refl) ?_
        refine fe_stI (mem' := fm g tp bt (fm_u a 1 (nI T).toNatClampNeg (g 15)) b) (by rfl) (by rfl) (fx_inN (i := T) hT (by omega)) fm_si1 ?_
        rw [show Int32.toNatClampNeg (nI T) = T from nI_clamp (by omega)]
        refine fe_s 1 (pc' := 47) (lc' := [(0, .ref 0), (1, .int (nI T)), (2, .int lo), (3, .int hi)]) (stk' := [.ref 0]) (mem' := fm g tp bt (fm_u a 1 T (g 15)) b) (by intro _ _ _; eq_refl) ?_
        obtain ⟨vk6, memk6, ⟨gk6, Ek6, Fk6, htk6, hxk6, hEk6, hpk6, hRk6⟩, hfrk6⟩ := fr_ahead (S := S) (E := E) (g := g) (tp := tp) (bt := bt) (a := (fm_u a 1 T (g 15))) (b := b) hxp.1 hxp.2.1 hxp.2.2.1 hxp.2.2.2.1
        cases hRk6
        refine fe_ivV hfrk6 (by omega) (by rfl) (by rfl) (by rfl) (by rfl) (by rfl) (by rfl) ?_
        refine fe_s 1 (pc' := 51) (lc' := [(0, .ref 0), (1, .int (nI T)), (2, .int lo), (3, .int hi)]) (stk' := [.int 1]) (mem' := fm gk6 tp bt (fm_u a 1 T (g 15)) b) (by intro _ _ _; eq_refl) ?_
        exact fe_ret ⟨_, gk6, _, Ek6, Fk6, Or.inr ⟨rfl, htk6 18 (by decide) (by decide) (by decide) (by decide), hpk6, g 15, cb_ltF' h3, of_decide_eq_true h4, rfl⟩, fm_tx8_of htk6, hxk6, fm_flt_tx hfl htk6, by have := hxk6.2.2.2.2.2.1; omega, rfl⟩ (by rfl) (by rfl) (by rfl)
    · refine fe_s 2 (pc' := 32) (lc' := [(0, .ref 0), (1, .int (nI T)), (2, .int lo), (3, .int hi)]) (stk' := [.int 4, .ref 0]) (mem' := fm g tp bt a b) (by intro _ _ _; eq_refl) ?_
      obtain ⟨vf7, memf7, ⟨gf7, hgf7, hlf7, hzf7, hRf7⟩, hfrf7⟩ := fr_fails (x := 4) (F := F) (g := g) (tp := tp) (bt := bt) (a := a) (b := b) (by omega) (by omega) hxp.2.2.2.2.1 (by have := hxp.2.2.2.2.2.1; have := hxp.2.2.2.1; have := hxp.2.1; omega) hfl
      cases hRf7
      refine fe_ivV hfrf7 (by omega) (by rfl) (by rfl) (by rfl) (by rfl) (by rfl) (by rfl) ?_
      exact fe_ret ⟨_, gf7, a, E, F, Or.inl ⟨rfl, hzf7, rfl⟩, fm_tx8_ff hgf7, fm_xp_ff hxp hgf7, hlf7, Nat.le_refl _, rfl⟩ (by rfl) (by rfl) (by rfl)
/-- where a name stands among those of base -/
def fm_is (b : Nat → Nat → Int64) (base many : Nat) (nm : Int64) (v : Int32) : Prop := (v = -1 ∧ ∀ k, k < many → ¬ b 2 (base + k) = nm) ∨ ∃ k, k < many ∧ v = nI k ∧ b 2 (base + k) = nm ∧ ∀ j, j < k → ¬ b 2 (base + j) = nm
theorem fm_is_eq {base many : Nat} {nm : Int64} {v w : Int32} (h : fm_is b base many nm v) (h2 : fm_is b base many nm w) : v = w := by
  rcases h with ⟨rfl, h⟩ | ⟨k, hk, rfl, e, h⟩ <;> rcases h2 with ⟨rfl, q⟩ | ⟨j, hj, rfl, e2, q⟩
  · rfl
  · exact absurd e2 (h j hj)
  · exact absurd e (q k hk)
  · rcases Nat.lt_trichotomy k j with z | rfl | z
    · exact absurd e (q k z)
    · rfl
    · exact absurd e2 (h j z)
theorem lg_cmp0 {x y : Int64} (h : fx_cb .ne (lg_cmp x y) 0 = false) : x = y := by
  have e := fm_ne h
  rcases rk_lgc x y with ⟨z, -⟩ | ⟨-, z⟩ | ⟨z, -⟩
  · rw [z] at e; exact absurd e (by decide)
  · exact Int64.toInt_inj.mp z
  · rw [z] at e; exact absurd e (by decide)
theorem lg_cmp1 {x y : Int64} (h : fx_cb .ne (lg_cmp x y) 0 = true) : ¬ x = y := by
  rintro rfl
  have e := cb_ne0 h
  rcases rk_lgc x x with ⟨-, z⟩ | ⟨z, -⟩ | ⟨-, z⟩
  · omega
  · exact e z
  · omega
theorem fr_findHere {base many S E F : Nat} (hxp : fm_xp g S E F) (hbm : base + many ≤ 108) : ∃ (v : Option Value) (mem' : fx_M), (fun R => ∃ v : Int32, fm_is b base many (fm_nm a S F E) v ∧ R = (some (.int v), fm g tp bt a b)) (v, mem') ∧ fr_T 4 234 [.ref 0, .int (nI base), .int (nI many)] (fm g tp bt a b) v mem' := by
  refine fe_meth (F := fun R => ∃ v : Int32, fm_is b base many (fm_nm a S F E) v ∧ R = (some (.int v), fm g tp bt a b)) (M := gk_m234) (by rfl) (by rfl) ?_
  have loop : ∀ (r k : Nat), k + r = many → (∀ j, j < k → ¬ b 2 (base + j) = fm_nm a S F E) → fe_R 3 gk_m234 2 [(3, .int (nI k)), (0, .ref 0), (1, .int (nI base)), (2, .int (nI many))] [] (fm g tp bt a b) (fun R => ∃ v : Int32, fm_is b base many (fm_nm a S F E) v ∧ R = (some (.int v), fm g tp bt a b)) := by
    intro r
    induction r with
    | zero =>
      intro k hk hn
      obtain rfl : many = k := by omega
      refine fe_s 2 (pc' := 4) (lc' := [(3, .int (nI many)), (0, .ref 0), (1, .int (nI base)), (2, .int (nI many))]) (stk' := [.int (nI many), .int (nI many)]) (mem' := fm g tp bt a b) (by intro _ _ _; eq_refl) ?_
      refine fe_s 1 (pc' := cond (fx_cb .ge (nI many) (nI many)) 31 7) (lc' := [(3, .int (nI many)), (0, .ref 0), (1, .int (nI base)), (2, .int (nI many))]) (stk' := []) (mem' := fm g tp bt a b) (by intro _ _ _; eq_refl) ?_
      rw [show (fx_cb .ge (nI many) (nI many)) = true from cb_geT (a := many) (b := many) (by omega) (by omega) (by omega)]
      dsimp only [cond]
      refine fe_s 1 (pc' := 32) (lc' := [(3, .int (nI many)), (0, .ref 0), (1, .int (nI base)), (2, .int (nI many))]) (stk' := [.int (-1)]) (mem' := fm g tp bt a b) (by intro _ _ _; eq_refl) ?_
      exact fe_ret ⟨_, Or.inl ⟨rfl, hn⟩, rfl⟩ (by rfl) (by rfl) (by rfl)
    | succ r ih =>
      intro k hk hn
      refine fe_s 2 (pc' := 4) (lc' := [(3, .int (nI k)), (0, .ref 0), (1, .int (nI base)), (2, .int (nI many))]) (stk' := [.int (nI many), .int (nI k)]) (mem' := fm g tp bt a b) (by intro _ _ _; eq_refl) ?_
      refine fe_s 1 (pc' := cond (fx_cb .ge (nI k) (nI many)) 31 7) (lc' := [(3, .int (nI k)), (0, .ref 0), (1, .int (nI base)), (2, .int (nI many))]) (stk' := []) (mem' := fm g tp bt a b) (by intro _ _ _; eq_refl) ?_
      rw [show (fx_cb .ge (nI k) (nI many)) = false from cb_geF (a := k) (b := many) (by omega) (by omega) (by omega)]
      dsimp only [cond]
      refine fe_s 5 (pc' := 14) (lc' := [(3, .int (nI k)), (0, .ref 0), (1, .int (nI base)), (2, .int (nI many))]) (stk' := [.int ((nI base) + (nI k)), .ref 2]) (mem' := fm g tp bt a b) (by intro _ _ _; eq_refl) ?_
      rw [show ((nI base) + (nI k) : Int32) = nI (base + k) from by simp only [nI_add, fm_mul]]
      refine fe_ldL (by rfl) (by rfl) (fx_inN (i := base + k) (by omega) (by omega)) ?_
      rw [show Int32.toNatClampNeg (nI (base + k)) = base + k from nI_clamp (by omega)]
      refine fe_s 1 (pc' := 16) (lc' := [(3, .int (nI k)), (0, .ref 0), (1, .int (nI base)), (2, .int (nI many))]) (stk' := [.ref 0, .long (b 2 (base + k))]) (mem' := fm g tp bt a b) (by intro _ _ _; eq_refl) ?_
      refine fe_ivV (fr_nameHere hxp) (by omega) (by rfl) (by rfl) (by rfl) (by rfl) (by rfl) (by rfl) ?_
      refine fe_s 1 (pc' := 20) (lc' := [(3, .int (nI k)), (0, .ref 0), (1, .int (nI base)), (2, .int (nI many))]) (stk' := [.int (lg_cmp (b 2 (base + k)) (fm_nm a S F E))]) (mem' := fm g tp bt a b) (by intro _ _ _; eq_refl) ?_
      refine fe_s 1 (pc' := cond (fx_cb .ne (lg_cmp (b 2 (base + k)) (fm_nm a S F E)) 0) 25 23) (lc' := [(3, .int (nI k)), (0, .ref 0), (1, .int (nI base)), (2, .int (nI many))]) (stk' := []) (mem' := fm g tp bt a b) (by intro _ _ _; eq_refl) ?_
      cases h1 : fx_cb .ne (lg_cmp (b 2 (base + k)) (fm_nm a S F E)) 0
      · refine fe_s 1 (pc' := 24) (lc' := [(3, .int (nI k)), (0, .ref 0), (1, .int (nI base)), (2, .int (nI many))]) (stk' := [.int (nI k)]) (mem' := fm g tp bt a b) (by intro _ _ _; eq_refl) ?_
        exact fe_ret ⟨_, Or.inr ⟨k, by omega, rfl, lg_cmp0 h1, hn⟩, rfl⟩ (by rfl) (by rfl) (by rfl)
      · refine fe_s 2 (pc' := 2) (lc' := [(3, .int ((nI k) + 1)), (0, .ref 0), (1, .int (nI base)), (2, .int (nI many))]) (stk' := []) (mem' := fm g tp bt a b) (by intro _ _ _; eq_refl) ?_
        rw [show ((nI k) + 1 : Int32) = nI (k + 1) from by simp only [show (1 : Int32) = nI 1 from rfl, nI_add, fm_mul]]
        refine ih (k + 1) (by omega) (fun j hj => ?_)
        by_cases e : j = k
        · subst e; exact lg_cmp1 h1
        · exact hn j (by omega)
  refine fe_s 2 (pc' := 2) (lc' := [(3, .int 0), (0, .ref 0), (1, .int (nI base)), (2, .int (nI many))]) (stk' := []) (mem' := fm g tp bt a b) (by intro _ _ _; eq_refl) ?_
  exact loop many 0 (by omega) (fun j hj => absurd hj (Nat.not_lt_zero j))
end FNH
end MH0_5
section MH0_6
/-! ===== fx: a new name, an old one ===== -/
section FNO
variable {g : Nat → Int32} {tp bt : Int64} {a : Nat → Nat → Int32} {b : Nat → Nat → Int64}
/-- the heads of NEW are within their bounds -/
def fm_tn (a : Nat → Nat → Int32) (NC NW : Nat) : Prop := a 1 3368 = nI NC ∧ NC ≤ 10 ∧ a 1 3369 = nI NW ∧ NW ≤ 8
theorem fr_cellHere {S E F NC NW : Nat} (hxp : fm_xp g S E F) (hn : fm_tn a NC NW) : ∃ (v : Option Value) (mem' : fx_M), (fun R => ∃ q v : Int32, fr_T 3 232 [.ref 0, .ref 22] (fm g tp bt a b) (some (.int q)) (fm g tp bt a b) ∧ (q = 0 ∧ v = -1 ∨ q = 1 ∧ g 12 = 2 ∧ fm_is b 72 NC (fm_nm a S F E) v) ∧ R = (some (.int v), fm g tp bt a b)) (v, mem') ∧ fr_T 5 240 [.ref 0] (fm g tp bt a b) v mem' := by
  have hNC := hn.2.1
  have hNW := hn.2.2.2
  refine fe_meth (F := fun R => ∃ q v : Int32, fr_T 3 232 [.ref 0, .ref 22] (fm g tp bt a b) (some (.int q)) (fm g tp bt a b) ∧ (q = 0 ∧ v = -1 ∨ q = 1 ∧ g 12 = 2 ∧ fm_is b 72 NC (fm_nm a S F E) v) ∧ R = (some (.int v), fm g tp bt a b)) (M := gk_m240) (by rfl) (by rfl) ?_
  refine fe_s 2 (pc' := 3) (lc' := [(0, .ref 0)]) (stk' := [.ref 22, .ref 0]) (mem' := fm g tp bt a b) (by intro _ _ _; eq_refl) ?_
  obtain ⟨v6, mem6, ⟨x6, hx6, hR6⟩, hfr6⟩ := fr_isName (g := g) (tp := tp) (bt := bt) (a := a) (b := b) hxp
  cases hR6
  refine fe_ivV hfr6 (by omega) (by rfl) (by rfl) (by rfl) (by rfl) (by rfl) (by rfl) ?_
  rcases hx6 with rfl | ⟨rfl, hw6⟩
  · refine fe_s 1 (pc' := cond (fx_cb .eq 0 0) 26 9) (lc' := [(0, .ref 0)]) (stk' := []) (mem' := fm g tp bt a b) (by intro _ _ _; eq_refl) ?_
    rw [show (fx_cb .eq 0 0) = true from by decide]
    dsimp only [cond]
    refine fe_s 1 (pc' := 27) (lc' := [(0, .ref 0)]) (stk' := [.int (-1)]) (mem' := fm g tp bt a b) (by intro _ _ _; eq_refl) ?_
    exact fe_ret ⟨_, _, hfr6, Or.inl ⟨rfl, rfl⟩, rfl⟩ (by rfl) (by rfl) (by rfl)
  · refine fe_s 1 (pc' := cond (fx_cb .eq 1 0) 26 9) (lc' := [(0, .ref 0)]) (stk' := []) (mem' := fm g tp bt a b) (by intro _ _ _; eq_refl) ?_
    rw [show (fx_cb .eq 1 0) = false from by decide]
    dsimp only [cond]
    refine fe_s 5 (pc' := 19) (lc' := [(0, .ref 0)]) (stk' := [.int 3368, .ref 1, .int 72, .ref 0]) (mem' := fm g tp bt a b) (by intro _ _ _; eq_refl) ?_
    refine fe_ldI (by rfl) (by rfl) (fx_inN (i := 3368) (by omega) (by omega)) ?_
    rw [show Int32.toNatClampNeg (3368) = 3368 from rfl]
    rw [hn.1]
    obtain ⟨vw1, memw1, ⟨xw1, hxw1, hRw1⟩, hfrw1⟩ := fr_findHere (g := g) (tp := tp) (bt := bt) (a := a) (b := b) (base := 72) (many := NC) hxp (by omega)
    cases hRw1
    refine fe_ivV hfrw1 (by omega) (by rfl) (by rfl) (by rfl) (by rfl) (by rfl) (by rfl) ?_
    refine fe_s 1 (pc' := 27) (lc' := [(0, .ref 0)]) (stk' := [.int xw1]) (mem' := fm g tp bt a b) (by intro _ _ _; eq_refl) ?_
    exact fe_ret ⟨_, _, hfr6, Or.inr ⟨rfl, hw6, hxw1⟩, rfl⟩ (by rfl) (by rfl) (by rfl)
/-- an old name is read: where it stands is written -/
def fm_FO (g : Nat → Int32) (tp bt : Int64) (a : Nat → Nat → Int32) (b : Nat → Nat → Int64) (S E F T base many : Nat) (R : Option Value × fx_M) : Prop := ∃ (v : Int32) (g' : Nat → Int32) (a' : Nat → Nat → Int32) (E' F' : Nat), (v = 0 ∧ (a' = a ∨ ∃ x : Int32, x = -1 ∧ a' = fm_u a 1 T x) ∧ ¬ g' 18 = 0 ∨ v = 1 ∧ g' 18 = g 18 ∧ (g' 12 = 0 ∨ E < E') ∧ fr_T 3 232 [.ref 0, .ref 22] (fm g tp bt a b) (some (.int 1)) (fm g tp bt a b) ∧ ∃ k, k < many ∧ fm_is b base many (fm_nm a S F E) (nI k) ∧ a' = fm_u a 1 T (nI k)) ∧ fm_tx8 g g' ∧ fm_xp g' S E' F' ∧ fm_flt g' ∧ E ≤ E' ∧ R = (some (.int v), fm g' tp bt a' b)
theorem fm_nm_u {a : Nat → Nat → Int32} {T S : Nat} {x : Int32} {F E : Nat} : fm_nm (fm_u a 1 T x) S F E = fm_nm a S F E := by
  have h : ∀ (r k : Nat) (v : Int64), fm_nmf (fm_u a 1 T x) S r k v = fm_nmf a S r k v := by
    intro r
    induction r with
    | zero => intro k v; rfl
    | succ r ih =>
      intro k v
      show fm_nmf (fm_u a 1 T x) S r (k + 1) _ = fm_nmf a S r (k + 1) _
      rw [ih]
      rfl
  exact h _ _ _
theorem fr_oldOne {S E F T base many : Nat} (hxp : fm_xp g S E F) (hfl : fm_flt g) (hT : T < 5894) (hbm : base + many ≤ 108) : ∃ (v : Option Value) (mem' : fx_M), (fm_FO g tp bt a b S E F T base many) (v, mem') ∧ fr_T 6 238 [.ref 0, .int (nI base), .int (nI many), .int (nI T)] (fm g tp bt a b) v mem' := by
  refine fe_meth (F := fm_FO g tp bt a b S E F T base many) (M := gk_m238) (by rfl) (by rfl) ?_
  refine fe_s 2 (pc' := 3) (lc' := [(0, .ref 0), (1, .int (nI base)), (2, .int (nI many)), (3, .int (nI T))]) (stk' := [.ref 22, .ref 0]) (mem' := fm g tp bt a b) (by intro _ _ _; eq_refl) ?_
  obtain ⟨v6, mem6, ⟨x6, hx6, hR6⟩, hfr6⟩ := fr_isName (g := g) (tp := tp) (bt := bt) (a := a) (b := b) hxp
  cases hR6
  refine fe_ivV hfr6 (by omega) (by rfl) (by rfl) (by rfl) (by rfl) (by rfl) (by rfl) ?_
  rcases hx6 with rfl | ⟨rfl, hw6⟩
  · refine fe_s 1 (pc' := cond (fx_cb .ne 0 0) 15 9) (lc' := [(0, .ref 0), (1, .int (nI base)), (2, .int (nI many)), (3, .int (nI T))]) (stk' := []) (mem' := fm g tp bt a b) (by intro _ _ _; eq_refl) ?_
    rw [show (fx_cb .ne 0 0) = false from by decide]
    dsimp only [cond]
    refine fe_s 2 (pc' := 11) (lc' := [(0, .ref 0), (1, .int (nI base)), (2, .int (nI many)), (3, .int (nI T))]) (stk' := [.int 2, .ref 0]) (mem' := fm g tp bt a b) (by intro _ _ _; eq_refl) ?_
    obtain ⟨vf1, memf1, ⟨gf1, hgf1, hlf1, hzf1, hRf1⟩, hfrf1⟩ := fr_fails (x := 2) (F := F) (g := g) (tp := tp) (bt := bt) (a := a) (b := b) (by omega) (by omega) hxp.2.2.2.2.1 (by have := hxp.2.2.2.2.2.1; have := hxp.2.2.2.1; have := hxp.2.1; omega) hfl
    cases hRf1
    refine fe_ivV hfrf1 (by omega) (by rfl) (by rfl) (by rfl) (by rfl) (by rfl) (by rfl) ?_
    exact fe_ret ⟨_, gf1, _, E, F, Or.inl ⟨rfl, Or.inl rfl, hzf1⟩, fm_tx8_ff hgf1, fm_xp_ff hxp hgf1, hlf1, Nat.le_refl _, rfl⟩ (by rfl) (by rfl) (by rfl)
  · refine fe_s 1 (pc' := cond (fx_cb .ne 1 0) 15 9) (lc' := [(0, .ref 0), (1, .int (nI base)), (2, .int (nI many)), (3, .int (nI T))]) (stk' := []) (mem' := fm g tp bt a b) (by intro _ _ _; eq_refl) ?_
    rw [show (fx_cb .ne 1 0) = true from by decide]
    dsimp only [cond]
    refine fe_s 6 (pc' := 23) (lc' := [(0, .ref 0), (1, .int (nI base)), (2, .int (nI many)), (3, .int (nI T))]) (stk' := [.int (nI many), .int (nI base), .ref 0, .int (nI T), .ref 1]) (mem' := fm g tp bt a b) (by intro _ _ _; eq_refl) ?_
    obtain ⟨vw2, memw2, ⟨xw2, hxw2, hRw2⟩, hfrw2⟩ := fr_findHere (g := g) (tp := tp) (bt := bt) (a := a) (b := b) (base := base) (many := many) hxp (by omega)
    cases hRw2
    refine fe_ivV hfrw2 (by omega) (by rfl) (by rfl) (by rfl) (by rfl) (by rfl) (by rfl) ?_
    rcases hxw2 with ⟨rfl, hno⟩ | ⟨k, hk, rfl, hkb, hkm⟩
    · refine fe_stI (mem' := fm g tp bt (fm_u a 1 (nI T).toNatClampNeg (-1)) b) (by rfl) (by rfl) (fx_inN (i := T) hT (by omega)) fm_si1 ?_
      rw [show Int32.toNatClampNeg (nI T) = T from nI_clamp (by omega)]
      refine fe_s 3 (pc' := 32) (lc' := [(0, .ref 0), (1, .int (nI base)), (2, .int (nI many)), (3, .int (nI T))]) (stk' := [.int (nI T), .ref 1]) (mem' := fm g tp bt (fm_u a 1 T (-1)) b) (by intro _ _ _; eq_refl) ?_
      refine fe_ldI (by rfl) (by rfl) (fx_inN (i := T) (by omega) (by omega)) ?_
      rw [show Int32.toNatClampNeg (nI T) = T from nI_clamp (by omega)]
      rw [show fm_u a 1 T (-1) 1 T = (-1) from by unfold fm_u; rw [if_pos rfl, pk_us]]
      refine fe_s 1 (pc' := 34) (lc' := [(0, .ref 0), (1, .int (nI base)), (2, .int (nI many)), (3, .int (nI T))]) (stk' := [.int (-1), .int (-1)]) (mem' := fm g tp bt (fm_u a 1 T (-1)) b) (by intro _ _ _; eq_refl) ?_
      refine fe_s 1 (pc' := cond (fx_cb .ne (-1) (-1)) 43 37) (lc' := [(0, .ref 0), (1, .int (nI base)), (2, .int (nI many)), (3, .int (nI T))]) (stk' := []) (mem' := fm g tp bt (fm_u a 1 T (-1)) b) (by intro _ _ _; eq_refl) ?_
      rw [show (fx_cb .ne (-1) (-1)) = false from by decide]
      dsimp only [cond]
      refine fe_s 2 (pc' := 39) (lc' := [(0, .ref 0), (1, .int (nI base)), (2, .int (nI many)), (3, .int (nI T))]) (stk' := [.int 3, .ref 0]) (mem' := fm g tp bt (fm_u a 1 T (-1)) b) (by intro _ _ _; eq_refl) ?_
      obtain ⟨vf3, memf3, ⟨gf3, hgf3, hlf3, hzf3, hRf3⟩, hfrf3⟩ := fr_fails (x := 3) (F := F) (g := g) (tp := tp) (bt := bt) (a := (fm_u a 1 T (-1))) (b := b) (by omega) (by omega) hxp.2.2.2.2.1 (by have := hxp.2.2.2.2.2.1; have := hxp.2.2.2.1; have := hxp.2.1; omega) hfl
      cases hRf3
      refine fe_ivV hfrf3 (by omega) (by rfl) (by rfl) (by rfl) (by rfl) (by rfl) (by rfl) ?_
      exact fe_ret ⟨_, gf3, _, E, F, Or.inl ⟨rfl, Or.inr ⟨_, rfl, rfl⟩, hzf3⟩, fm_tx8_ff hgf3, fm_xp_ff hxp hgf3, hlf3, Nat.le_refl _, rfl⟩ (by rfl) (by rfl) (by rfl)
    · refine fe_stI (mem' := fm g tp bt (fm_u a 1 (nI T).toNatClampNeg (nI k)) b) (by rfl) (by rfl) (fx_inN (i := T) hT (by omega)) fm_si1 ?_
      rw [show Int32.toNatClampNeg (nI T) = T from nI_clamp (by omega)]
      refine fe_s 3 (pc' := 32) (lc' := [(0, .ref 0), (1, .int (nI base)), (2, .int (nI many)), (3, .int (nI T))]) (stk' := [.int (nI T), .ref 1]) (mem' := fm g tp bt (fm_u a 1 T (nI k)) b) (by intro _ _ _; eq_refl) ?_
      refine fe_ldI (by rfl) (by rfl) (fx_inN (i := T) (by omega) (by omega)) ?_
      rw [show Int32.toNatClampNeg (nI T) = T from nI_clamp (by omega)]
      rw [show fm_u a 1 T (nI k) 1 T = nI k from by unfold fm_u; rw [if_pos rfl, pk_us]]
      refine fe_s 1 (pc' := 34) (lc' := [(0, .ref 0), (1, .int (nI base)), (2, .int (nI many)), (3, .int (nI T))]) (stk' := [.int (-1), .int (nI k)]) (mem' := fm g tp bt (fm_u a 1 T (nI k)) b) (by intro _ _ _; eq_refl) ?_
      refine fe_s 1 (pc' := cond (fx_cb .ne (nI k) (-1)) 43 37) (lc' := [(0, .ref 0), (1, .int (nI base)), (2, .int (nI many)), (3, .int (nI T))]) (stk' := []) (mem' := fm g tp bt (fm_u a 1 T (nI k)) b) (by intro _ _ _; eq_refl) ?_
      rw [show (fx_cb .ne (nI k) (-1)) = true from cb_n_ne (by omega) (by decide)]
      dsimp only [cond]
      refine fe_s 1 (pc' := 44) (lc' := [(0, .ref 0), (1, .int (nI base)), (2, .int (nI many)), (3, .int (nI T))]) (stk' := [.ref 0]) (mem' := fm g tp bt (fm_u a 1 T (nI k)) b) (by intro _ _ _; eq_refl) ?_
      obtain ⟨vk4, memk4, ⟨gk4, Ek4, Fk4, htk4, hxk4, hEk4, hpk4, hRk4⟩, hfrk4⟩ := fr_ahead (S := S) (E := E) (g := g) (tp := tp) (bt := bt) (a := (fm_u a 1 T (nI k))) (b := b) hxp.1 hxp.2.1 hxp.2.2.1 hxp.2.2.2.1
      cases hRk4
      refine fe_ivV hfrk4 (by omega) (by rfl) (by rfl) (by rfl) (by rfl) (by rfl) (by rfl) ?_
      refine fe_s 1 (pc' := 48) (lc' := [(0, .ref 0), (1, .int (nI base)), (2, .int (nI many)), (3, .int (nI T))]) (stk' := [.int 1]) (mem' := fm gk4 tp bt (fm_u a 1 T (nI k)) b) (by intro _ _ _; eq_refl) ?_
      exact fe_ret ⟨_, gk4, _, Ek4, Fk4, Or.inr ⟨rfl, htk4 18 (by decide) (by decide) (by decide) (by decide), hpk4, hfr6, k, hk, Or.inr ⟨k, hk, rfl, hkb, hkm⟩, rfl⟩, fm_tx8_of htk4, hxk4, fm_flt_tx hfl htk4, by have := hxk4.2.2.2.2.2.1; omega, rfl⟩ (by rfl) (by rfl) (by rfl)
end FNO
end MH0_6
section MH0_7
/-! ===== fx: the parts of a LAKE ===== -/
section FLK
variable {g : Nat → Int32} {tp bt : Int64} {a : Nat → Nat → Int32} {b : Nat → Nat → Int64}
/-- the parser has come from one state to another -/
def fm_go (g g' : Nat → Int32) (S E E' F' : Nat) : Prop := fm_tx8 g g' ∧ fm_xp g' S E' F' ∧ fm_flt g' ∧ E ≤ E'
theorem fm_go_tr {g g1 g2 : Nat → Int32} {S E E1 F1 E2 F2 : Nat} (h : fm_go g g1 S E E1 F1) (h2 : fm_go g1 g2 S E1 E2 F2) : fm_go g g2 S E E2 F2 := ⟨fm_tx8_tr h.1 h2.1, h2.2.1, h2.2.2.1, Nat.le_trans h.2.2.2 h2.2.2.2⟩
theorem fm_go_rf {S E F : Nat} (hxp : fm_xp g S E F) (hfl : fm_flt g) : fm_go g g S E E F := ⟨fm_tx8_rf, hxp, hfl, Nat.le_refl _⟩
theorem fm_go_ah {g1 : Nat → Int32} {S E F1 E1 : Nat} (hfl : fm_flt g) (ht : fm_txt g g1) (hx : fm_xp g1 S E1 F1) (hE : E ≤ F1) : fm_go g g1 S E E1 F1 := ⟨fm_tx8_of ht, hx, fm_flt_tx hfl ht, Nat.le_trans hE hx.2.2.2.2.2.1⟩
theorem fm_go_ff {g1 : Nat → Int32} {S E F : Nat} (hxp : fm_xp g S E F) (hg : ∀ j, j ≠ 17 → j ≠ 18 → g1 j = g j) (hl : fm_flt g1) : fm_go g g1 S E E F := ⟨fm_tx8_ff hg, fm_xp_ff hxp hg, hl, Nat.le_refl _⟩
/-- a part is good, or has failed: faults say which -/
def fm_gd (g g' : Nat → Int32) (E E' : Nat) (v : Int32) : Prop := v = 0 ∧ ¬ g' 18 = 0 ∨ v = 1 ∧ g' 18 = g 18 ∧ (g' 12 = 0 ∨ E < E')
theorem fr_aheadq {S E F : Nat} (hxp : fm_xp g S E F) (hfl : fm_flt g) : ∃ (g' : Nat → Int32) (E' F' : Nat), fr_T 2 224 [.ref 0] (fm g tp bt a b) none (fm g' tp bt a b) ∧ fm_go g g' S E E' F' ∧ g' 18 = g 18 ∧ (g' 12 = 0 ∨ E < E') := by
  obtain ⟨v, mem', ⟨g1, E1, F1, h1, h2, h3, h4, hR⟩, hfr⟩ := fr_ahead (S := S) (E := E) (g := g) (tp := tp) (bt := bt) (a := a) (b := b) hxp.1 hxp.2.1 hxp.2.2.1 hxp.2.2.2.1
  cases hR
  exact ⟨g1, E1, F1, hfr, fm_go_ah hfl h1 h2 h3, h1 18 (by decide) (by decide) (by decide) (by decide), h4⟩
theorem fr_failsq {x S E F : Nat} (hx : x ≤ 7) (hx0 : 0 < x) (hxp : fm_xp g S E F) (hfl : fm_flt g) : ∃ g' : Nat → Int32, fr_T 2 227 [.ref 0, .int (nI x)] (fm g tp bt a b) (some (.int 0)) (fm g' tp bt a b) ∧ fm_go g g' S E E F ∧ ¬ g' 18 = 0 := by
  obtain ⟨v, mem', ⟨g1, h1, h2, h3, hR⟩, hfr⟩ := fr_fails (x := x) (F := F) (g := g) (tp := tp) (bt := bt) (a := a) (b := b) hx hx0 hxp.2.2.2.2.1 (by have := hxp.2.2.2.2.2.1; have := hxp.2.2.2.1; have := hxp.2.1; omega) hfl
  cases hR
  exact ⟨g1, hfr, fm_go_ff hxp h1 h2, h3⟩
def fm_FG2 (g : Nat → Int32) (tp bt : Int64) (a : Nat → Nat → Int32) (b : Nat → Nat → Int64) (S E : Nat) (R : Option Value × fx_M) : Prop := ∃ (v : Int32) (g' : Nat → Int32) (E' F' : Nat), fm_go g g' S E E' F' ∧ (v = 0 ∧ ¬ g' 18 = 0 ∨ v = 1 ∧ g' 18 = g 18 ∧ (g' 12 = 0 ∨ E < E')) ∧ R = (some (.int v), fm g' tp bt a b)
theorem fr_wantSign0 {c : Int32} {S E F : Nat} (hxp : fm_xp g S E F) (hfl : fm_flt g) : ∃ (v : Option Value) (mem' : fx_M), (fm_FG2 g tp bt a b S E) (v, mem') ∧ fr_T 3 229 [.ref 0, .int c] (fm g tp bt a b) v mem' := by
  refine fe_meth (F := fm_FG2 g tp bt a b S E) (M := gk_m229) (by rfl) (by rfl) ?_
  refine fe_s 2 (pc' := 2) (lc' := [(0, .ref 0), (1, .int c)]) (stk' := [.int c, .ref 0]) (mem' := fm g tp bt a b) (by intro _ _ _; eq_refl) ?_
  obtain ⟨v9, mem9, ⟨x9, hx9, hR9⟩, hfr9⟩ := fr_isSign (c := c) (g := g) (tp := tp) (bt := bt) (a := a) (b := b)
  cases hR9
  refine fe_ivV hfr9 (by omega) (by rfl) (by rfl) (by rfl) (by rfl) (by rfl) (by rfl) ?_
  rcases hx9 with rfl | ⟨rfl, hs9⟩
  · refine fe_s 1 (pc' := cond (fx_cb .ne 0 0) 14 8) (lc' := [(0, .ref 0), (1, .int c)]) (stk' := []) (mem' := fm g tp bt a b) (by intro _ _ _; eq_refl) ?_
    rw [show (fx_cb .ne 0 0) = false from by decide]
    dsimp only [cond]
    refine fe_s 2 (pc' := 10) (lc' := [(0, .ref 0), (1, .int c)]) (stk' := [.int 2, .ref 0]) (mem' := fm g tp bt a b) (by intro _ _ _; eq_refl) ?_
    obtain ⟨gf1, hfrf1, hof1, hzf1⟩ := fr_failsq (x := 2) (g := g) (tp := tp) (bt := bt) (a := a) (b := b) (by omega) (by omega) (fm_go_rf hxp hfl).2.1 (fm_go_rf hxp hfl).2.2.1
    have gof1 := fm_go_tr (fm_go_rf hxp hfl) hof1
    refine fe_ivV hfrf1 (by omega) (by rfl) (by rfl) (by rfl) (by rfl) (by rfl) (by rfl) ?_
    exact fe_ret ⟨_, gf1, E, F, gof1, Or.inl ⟨rfl, hzf1⟩, rfl⟩ (by rfl) (by rfl) (by rfl)
  · refine fe_s 1 (pc' := cond (fx_cb .ne 1 0) 14 8) (lc' := [(0, .ref 0), (1, .int c)]) (stk' := []) (mem' := fm g tp bt a b) (by intro _ _ _; eq_refl) ?_
    rw [show (fx_cb .ne 1 0) = true from by decide]
    dsimp only [cond]
    refine fe_s 1 (pc' := 15) (lc' := [(0, .ref 0), (1, .int c)]) (stk' := [.ref 0]) (mem' := fm g tp bt a b) (by intro _ _ _; eq_refl) ?_
    obtain ⟨gk2, Ek2, Fk2, hfrk2, hok2, hek2, hpk2⟩ := fr_aheadq (g := g) (tp := tp) (bt := bt) (a := a) (b := b) (fm_go_rf hxp hfl).2.1 (fm_go_rf hxp hfl).2.2.1
    have gok2 := fm_go_tr (fm_go_rf hxp hfl) hok2
    have prk2 : gk2 12 = 0 ∨ E < Ek2 := hpk2.imp id (fun z => by have := (fm_go_rf hxp hfl).2.2.2; omega)
    have e18k2 : gk2 18 = g 18 := hek2.trans rfl
    refine fe_ivV hfrk2 (by omega) (by rfl) (by rfl) (by rfl) (by rfl) (by rfl) (by rfl) ?_
    refine fe_s 1 (pc' := 19) (lc' := [(0, .ref 0), (1, .int c)]) (stk' := [.int 1]) (mem' := fm gk2 tp bt a b) (by intro _ _ _; eq_refl) ?_
    exact fe_ret ⟨_, gk2, Ek2, Fk2, gok2, Or.inr ⟨rfl, e18k2, prk2⟩, rfl⟩ (by rfl) (by rfl) (by rfl)
theorem fr_wantSignq {c : Int32} {S E F : Nat} (hxp : fm_xp g S E F) (hfl : fm_flt g) : ∃ (v : Int32) (g' : Nat → Int32) (E' F' : Nat), fr_T 3 229 [.ref 0, .int c] (fm g tp bt a b) (some (.int v)) (fm g' tp bt a b) ∧ fm_go g g' S E E' F' ∧ (v = 0 ∧ ¬ g' 18 = 0 ∨ v = 1 ∧ g' 18 = g 18 ∧ (g' 12 = 0 ∨ E < E')) := by
  obtain ⟨v, mem', ⟨x, g1, E1, F1, h1, h2, hR⟩, hfr⟩ := fr_wantSign0 (g := g) (tp := tp) (bt := bt) (a := a) (b := b) (c := c) hxp hfl
  cases hR
  exact ⟨x, g1, E1, F1, hfr, h1, h2⟩
theorem fr_wantWord0 {k : Int32} {S E F : Nat} (hxp : fm_xp g S E F) (hfl : fm_flt g) : ∃ (v : Option Value) (mem' : fx_M), (fm_FG2 g tp bt a b S E) (v, mem') ∧ fr_T 3 230 [.ref 0, .ref 22, .int k] (fm g tp bt a b) v mem' := by
  refine fe_meth (F := fm_FG2 g tp bt a b S E) (M := gk_m230) (by rfl) (by rfl) ?_
  refine fe_s 2 (pc' := 2) (lc' := [(0, .ref 0), (1, .ref 22), (2, .int k)]) (stk' := [.ref 22, .ref 0]) (mem' := fm g tp bt a b) (by intro _ _ _; eq_refl) ?_
  obtain ⟨v5, mem5, ⟨x5, hx5, hR5⟩, hfr5⟩ := fr_inWords (g := g) (tp := tp) (bt := bt) (a := a) (b := b) hxp
  cases hR5
  refine fe_ivV hfr5 (by omega) (by rfl) (by rfl) (by rfl) (by rfl) (by rfl) (by rfl) ?_
  rcases hx5 with rfl | ⟨n5, hn5, rfl⟩
  · refine fe_s 1 (pc' := 6) (lc' := [(0, .ref 0), (1, .ref 22), (2, .int k)]) (stk' := [.int k, .int (-1)]) (mem' := fm g tp bt a b) (by intro _ _ _; eq_refl) ?_
    refine fe_s 1 (pc' := cond (fx_cb .eq (-1) k) 15 9) (lc' := [(0, .ref 0), (1, .ref 22), (2, .int k)]) (stk' := []) (mem' := fm g tp bt a b) (by intro _ _ _; eq_refl) ?_
    cases h1 : fx_cb .eq (-1) k
    · refine fe_s 2 (pc' := 11) (lc' := [(0, .ref 0), (1, .ref 22), (2, .int k)]) (stk' := [.int 2, .ref 0]) (mem' := fm g tp bt a b) (by intro _ _ _; eq_refl) ?_
      obtain ⟨gf2, hfrf2, hof2, hzf2⟩ := fr_failsq (x := 2) (g := g) (tp := tp) (bt := bt) (a := a) (b := b) (by omega) (by omega) (fm_go_rf hxp hfl).2.1 (fm_go_rf hxp hfl).2.2.1
      have gof2 := fm_go_tr (fm_go_rf hxp hfl) hof2
      refine fe_ivV hfrf2 (by omega) (by rfl) (by rfl) (by rfl) (by rfl) (by rfl) (by rfl) ?_
      exact fe_ret ⟨_, gf2, E, F, gof2, Or.inl ⟨rfl, hzf2⟩, rfl⟩ (by rfl) (by rfl) (by rfl)
    · refine fe_s 1 (pc' := 16) (lc' := [(0, .ref 0), (1, .ref 22), (2, .int k)]) (stk' := [.ref 0]) (mem' := fm g tp bt a b) (by intro _ _ _; eq_refl) ?_
      obtain ⟨gk3, Ek3, Fk3, hfrk3, hok3, hek3, hpk3⟩ := fr_aheadq (g := g) (tp := tp) (bt := bt) (a := a) (b := b) (fm_go_rf hxp hfl).2.1 (fm_go_rf hxp hfl).2.2.1
      have gok3 := fm_go_tr (fm_go_rf hxp hfl) hok3
      have prk3 : gk3 12 = 0 ∨ E < Ek3 := hpk3.imp id (fun z => by have := (fm_go_rf hxp hfl).2.2.2; omega)
      have e18k3 : gk3 18 = g 18 := hek3.trans rfl
      refine fe_ivV hfrk3 (by omega) (by rfl) (by rfl) (by rfl) (by rfl) (by rfl) (by rfl) ?_
      refine fe_s 1 (pc' := 20) (lc' := [(0, .ref 0), (1, .ref 22), (2, .int k)]) (stk' := [.int 1]) (mem' := fm gk3 tp bt a b) (by intro _ _ _; eq_refl) ?_
      exact fe_ret ⟨_, gk3, Ek3, Fk3, gok3, Or.inr ⟨rfl, e18k3, prk3⟩, rfl⟩ (by rfl) (by rfl) (by rfl)
  · refine fe_s 1 (pc' := 6) (lc' := [(0, .ref 0), (1, .ref 22), (2, .int k)]) (stk' := [.int k, .int (nI n5)]) (mem' := fm g tp bt a b) (by intro _ _ _; eq_refl) ?_
    refine fe_s 1 (pc' := cond (fx_cb .eq (nI n5) k) 15 9) (lc' := [(0, .ref 0), (1, .ref 22), (2, .int k)]) (stk' := []) (mem' := fm g tp bt a b) (by intro _ _ _; eq_refl) ?_
    cases h4 : fx_cb .eq (nI n5) k
    · refine fe_s 2 (pc' := 11) (lc' := [(0, .ref 0), (1, .ref 22), (2, .int k)]) (stk' := [.int 2, .ref 0]) (mem' := fm g tp bt a b) (by intro _ _ _; eq_refl) ?_
      obtain ⟨gf5, hfrf5, hof5, hzf5⟩ := fr_failsq (x := 2) (g := g) (tp := tp) (bt := bt) (a := a) (b := b) (by omega) (by omega) (fm_go_rf hxp hfl).2.1 (fm_go_rf hxp hfl).2.2.1
      have gof5 := fm_go_tr (fm_go_rf hxp hfl) hof5
      refine fe_ivV hfrf5 (by omega) (by rfl) (by rfl) (by rfl) (by rfl) (by rfl) (by rfl) ?_
      exact fe_ret ⟨_, gf5, E, F, gof5, Or.inl ⟨rfl, hzf5⟩, rfl⟩ (by rfl) (by rfl) (by rfl)
    · refine fe_s 1 (pc' := 16) (lc' := [(0, .ref 0), (1, .ref 22), (2, .int k)]) (stk' := [.ref 0]) (mem' := fm g tp bt a b) (by intro _ _ _; eq_refl) ?_
      obtain ⟨gk6, Ek6, Fk6, hfrk6, hok6, hek6, hpk6⟩ := fr_aheadq (g := g) (tp := tp) (bt := bt) (a := a) (b := b) (fm_go_rf hxp hfl).2.1 (fm_go_rf hxp hfl).2.2.1
      have gok6 := fm_go_tr (fm_go_rf hxp hfl) hok6
      have prk6 : gk6 12 = 0 ∨ E < Ek6 := hpk6.imp id (fun z => by have := (fm_go_rf hxp hfl).2.2.2; omega)
      have e18k6 : gk6 18 = g 18 := hek6.trans rfl
      refine fe_ivV hfrk6 (by omega) (by rfl) (by rfl) (by rfl) (by rfl) (by rfl) (by rfl) ?_
      refine fe_s 1 (pc' := 20) (lc' := [(0, .ref 0), (1, .ref 22), (2, .int k)]) (stk' := [.int 1]) (mem' := fm gk6 tp bt a b) (by intro _ _ _; eq_refl) ?_
      exact fe_ret ⟨_, gk6, Ek6, Fk6, gok6, Or.inr ⟨rfl, e18k6, prk6⟩, rfl⟩ (by rfl) (by rfl) (by rfl)
theorem fr_wantWordq {k : Int32} {S E F : Nat} (hxp : fm_xp g S E F) (hfl : fm_flt g) : ∃ (v : Int32) (g' : Nat → Int32) (E' F' : Nat), fr_T 3 230 [.ref 0, .ref 22, .int k] (fm g tp bt a b) (some (.int v)) (fm g' tp bt a b) ∧ fm_go g g' S E E' F' ∧ (v = 0 ∧ ¬ g' 18 = 0 ∨ v = 1 ∧ g' 18 = g 18 ∧ (g' 12 = 0 ∨ E < E')) := by
  obtain ⟨v, mem', ⟨x, g1, E1, F1, h1, h2, hR⟩, hfr⟩ := fr_wantWord0 (g := g) (tp := tp) (bt := bt) (a := a) (b := b) (k := k) hxp hfl
  cases hR
  exact ⟨x, g1, E1, F1, hfr, h1, h2⟩
theorem fr_numberq {lo hi : Int32} {S E F T : Nat} (hT : T < 5894) (hxp : fm_xp g S E F) (hfl : fm_flt g) : ∃ (v : Int32) (g' : Nat → Int32) (E' F' : Nat) (a' : Nat → Nat → Int32), fr_T 4 231 [.ref 0, .int (nI T), .int lo, .int hi] (fm g tp bt a b) (some (.int v)) (fm g' tp bt a' b) ∧ fm_go g g' S E E' F' ∧ (v = 0 ∧ ¬ g' 18 = 0 ∧ a' = a ∨ v = 1 ∧ g' 18 = g 18 ∧ (g' 12 = 0 ∨ E < E') ∧ ∃ x : Int32, lo ≤ x ∧ x ≤ hi ∧ a' = fm_u a 1 T x) := by
  obtain ⟨v, mem', ⟨x, g1, a1, E1, F1, h1, h2, h3, h4, h5, hR⟩, hfr⟩ := fr_number (g := g) (tp := tp) (bt := bt) (a := a) (b := b) (lo := lo) (hi := hi) hxp hfl hT
  cases hR
  exact ⟨x, g1, E1, F1, a1, hfr, ⟨h2, h3, h4, h5⟩, h1⟩
theorem fr_oldOneq {S E F T base many : Nat} (hT : T < 5894) (hbm : base + many ≤ 108) (hxp : fm_xp g S E F) (hfl : fm_flt g) : ∃ (v : Int32) (g' : Nat → Int32) (E' F' : Nat) (a' : Nat → Nat → Int32), fr_T 6 238 [.ref 0, .int (nI base), .int (nI many), .int (nI T)] (fm g tp bt a b) (some (.int v)) (fm g' tp bt a' b) ∧ fm_go g g' S E E' F' ∧ (v = 0 ∧ ¬ g' 18 = 0 ∧ (a' = a ∨ ∃ x : Int32, x = -1 ∧ a' = fm_u a 1 T x) ∨ v = 1 ∧ g' 18 = g 18 ∧ (g' 12 = 0 ∨ E < E') ∧ fr_T 3 232 [.ref 0, .ref 22] (fm g tp bt a b) (some (.int 1)) (fm g tp bt a b) ∧ ∃ k, k < many ∧ fm_is b base many (fm_nm a S F E) (nI k) ∧ a' = fm_u a 1 T (nI k)) := by
  obtain ⟨v, mem', ⟨x, g1, a1, E1, F1, h1, h2, h3, h4, h5, hR⟩, hfr⟩ := fr_oldOne (g := g) (tp := tp) (bt := bt) (a := a) (b := b) hxp hfl hT hbm
  cases hR
  refine ⟨x, g1, E1, F1, a1, hfr, ⟨h2, h3, h4, h5⟩, ?_⟩
  rcases h1 with ⟨q1, q2, q3⟩ | q
  · exact Or.inl ⟨q1, q3, q2⟩
  · exact Or.inr q
end FLK
end MH0_7
