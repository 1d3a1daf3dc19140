/-! ===== fx: ahead ===== -/
section FAH
variable {g : Nat → Int32} {tp bt : Int64} {a : Nat → Nat → Int32} {b : Nat → Nat → Int64}
/-- but for the token nothing is changed -/
def fm_txt (g g' : Nat → Int32) : Prop := ∀ j, j ≠ 12 → j ≠ 13 → j ≠ 14 → j ≠ 15 → g' j = g j
theorem fm_txt_rf : fm_txt g g := fun _ _ _ _ _ => rfl
theorem fm_txt_tr {g1 g2 : Nat → Int32} (h : fm_txt g g1) (h2 : fm_txt g1 g2) : fm_txt g g2 := fun j q1 q2 q3 q4 => (h2 j q1 q2 q3 q4).trans (h j q1 q2 q3 q4)
theorem fm_txt_12 {g1 : Nat → Int32} {x : Int32} (h : fm_txt g g1) : fm_txt g (upd g1 12 x) := fun j q1 q2 q3 q4 => by rw [pk_un q1]; exact h j q1 q2 q3 q4
theorem fm_txt_13 {g1 : Nat → Int32} {x : Int32} (h : fm_txt g g1) : fm_txt g (upd g1 13 x) := fun j q1 q2 q3 q4 => by rw [pk_un q2]; exact h j q1 q2 q3 q4
theorem fm_txt_14 {g1 : Nat → Int32} {x : Int32} (h : fm_txt g g1) : fm_txt g (upd g1 14 x) := fun j q1 q2 q3 q4 => by rw [pk_un q3]; exact h j q1 q2 q3 q4
theorem fm_txt_15 {g1 : Nat → Int32} {x : Int32} (h : fm_txt g g1) : fm_txt g (upd g1 15 x) := fun j q1 q2 q3 q4 => by rw [pk_un q4]; exact h j q1 q2 q3 q4
/-- the text's state -/
def fm_xp (g : Nat → Int32) (S E F : Nat) : Prop := g 11 = nI S ∧ S ≤ 900 ∧ g 14 = nI E ∧ E ≤ S ∧ g 13 = nI F ∧ F ≤ E ∧ (∃ t, t ≤ 4 ∧ g 12 = nI t) ∧ -1 ≤ (g 15).toInt ∧ (g 15).toInt ≤ 100000
def fm_FA (g : Nat → Int32) (tp bt : Int64) (a : Nat → Nat → Int32) (b : Nat → Nat → Int64) (S E : Nat) (R : Option Value × fx_M) : Prop := ∃ (g' : Nat → Int32) (E' F' : Nat), fm_txt g g' ∧ fm_xp g' S E' F' ∧ E ≤ F' ∧ (g' 12 = 0 ∨ E < E') ∧ R = (none, fm g' tp bt a b)
theorem fa_81 {S E F2 : Nat} {c : Int32} (hS9 : S ≤ 900) (hEF : E ≤ F2) : ∀ (r E2 : Nat), E2 + r = S → ∀ (g2 : Nat → Int32), fm_txt g g2 → g2 11 = nI S → g2 14 = nI E2 → g2 13 = nI F2 → F2 ≤ E2 → E < E2 → -1 ≤ (g2 15).toInt ∧ (g2 15).toInt ≤ 100000 → fe_R 1 gk_m224 81 [(1, .int c), (0, .ref 0)] [] (fm g2 tp bt a b) (fm_FA g tp bt a b S E) := by
  intro r
  induction r with
  | zero =>
    intro E2 hr g2 hx h11 h14 h13 hFE hEE h15
    refine fe_s 3 (pc' := 86) (lc' := [(1, .int c), (0, .ref 0)]) (stk' := [.int (g2 14), .ref 0]) (mem' := fm g2 tp bt a b) (fun _ _ _ => rfl) ?_
    try rw [h14]
    refine fe_ivV (fr_byteAt (S := S) (k := E2) (g := g2) (tp := tp) (bt := bt) (a := a) (b := b) h11 (by omega) (by omega)) (by omega) (by rfl) (by rfl) (by rfl) (by rfl) (by rfl) (by rfl) ?_
    rcases fm_byte_or a S E2 with ⟨e2, q3⟩ | ⟨q3, n1, qn1, e2⟩
    · rw [e2]
      refine fe_ivS fr_isSmallN (by omega) (by rfl) (by rfl) (by rfl) (by rfl) (by rfl) ?_
      refine fe_s 1 (pc' := cond (fx_cb .eq 0 0) 108 95) (lc' := [(1, .int c), (0, .ref 0)]) (stk' := []) (mem' := fm g2 tp bt a b) (fun _ _ _ => rfl) ?_
      rw [show (fx_cb .eq 0 0) = true from by decide]
      dsimp only [cond]
      refine fe_s 4 (pc' := 251) (lc' := [(1, .int c), (0, .ref 0)]) (stk' := []) (mem' := fm (upd g2 12 2) tp bt a b) (fun _ _ _ => rfl) ?_
      exact fe_ret ⟨_, E2, F2, (fm_txt_12 hx), ⟨h11, by omega, h14, by omega, h13, by omega, ⟨2, by omega, rfl⟩, h15.1, h15.2⟩, by omega, Or.inr (by omega), rfl⟩ (by rfl) (by rfl) (by rfl)
    · rw [e2]
      by_cases s4 : 97 ≤ n1 ∧ n1 ≤ 122
      · refine fe_ivS (fr_isSmall1 (n := n1) s4.1 s4.2) (by omega) (by rfl) (by rfl) (by rfl) (by rfl) (by rfl) ?_
        refine fe_s 1 (pc' := cond (fx_cb .eq 1 0) 108 95) (lc' := [(1, .int c), (0, .ref 0)]) (stk' := []) (mem' := fm g2 tp bt a b) (fun _ _ _ => rfl) ?_
        rw [show (fx_cb .eq 1 0) = false from by decide]
        dsimp only [cond]
        refine fe_s 7 (pc' := 81) (lc' := [(1, .int c), (0, .ref 0)]) (stk' := []) (mem' := fm (upd g2 14 ((g2 14) + 1)) tp bt a b) (fun _ _ _ => rfl) ?_
        try rw [h14]
        rw [show ((nI E2) + 1 : Int32) = nI (E2 + 1) from by simp only [show (1 : Int32) = nI 1 from rfl, nI_add, fm_mul]]
        omega
      · refine fe_ivS (fr_isSmall0 (n := n1) (by omega) s4) (by omega) (by rfl) (by rfl) (by rfl) (by rfl) (by rfl) ?_
        refine fe_s 1 (pc' := cond (fx_cb .eq 0 0) 108 95) (lc' := [(1, .int c), (0, .ref 0)]) (stk' := []) (mem' := fm g2 tp bt a b) (fun _ _ _ => rfl) ?_
        rw [show (fx_cb .eq 0 0) = true from by decide]
        dsimp only [cond]
        refine fe_s 4 (pc' := 251) (lc' := [(1, .int c), (0, .ref 0)]) (stk' := []) (mem' := fm (upd g2 12 2) tp bt a b) (fun _ _ _ => rfl) ?_
        exact fe_ret ⟨_, E2, F2, (fm_txt_12 hx), ⟨h11, by omega, h14, by omega, h13, by omega, ⟨2, by omega, rfl⟩, h15.1, h15.2⟩, by omega, Or.inr (by omega), rfl⟩ (by rfl) (by rfl) (by rfl)
  | succ r ih =>
    intro E2 hr g2 hx h11 h14 h13 hFE hEE h15
    refine fe_s 3 (pc' := 86) (lc' := [(1, .int c), (0, .ref 0)]) (stk' := [.int (g2 14), .ref 0]) (mem' := fm g2 tp bt a b) (fun _ _ _ => rfl) ?_
    try rw [h14]
    refine fe_ivV (fr_byteAt (S := S) (k := E2) (g := g2) (tp := tp) (bt := bt) (a := a) (b := b) h11 (by omega) (by omega)) (by omega) (by rfl) (by rfl) (by rfl) (by rfl) (by rfl) (by rfl) ?_
    rcases fm_byte_or a S E2 with ⟨e6, q7⟩ | ⟨q7, n5, qn5, e6⟩
    · rw [e6]
      refine fe_ivS fr_isSmallN (by omega) (by rfl) (by rfl) (by rfl) (by rfl) (by rfl) ?_
      refine fe_s 1 (pc' := cond (fx_cb .eq 0 0) 108 95) (lc' := [(1, .int c), (0, .ref 0)]) (stk' := []) (mem' := fm g2 tp bt a b) (fun _ _ _ => rfl) ?_
      rw [show (fx_cb .eq 0 0) = true from by decide]
      dsimp only [cond]
      refine fe_s 4 (pc' := 251) (lc' := [(1, .int c), (0, .ref 0)]) (stk' := []) (mem' := fm (upd g2 12 2) tp bt a b) (fun _ _ _ => rfl) ?_
      exact fe_ret ⟨_, E2, F2, (fm_txt_12 hx), ⟨h11, by omega, h14, by omega, h13, by omega, ⟨2, by omega, rfl⟩, h15.1, h15.2⟩, by omega, Or.inr (by omega), rfl⟩ (by rfl) (by rfl) (by rfl)
    · rw [e6]
      by_cases s8 : 97 ≤ n5 ∧ n5 ≤ 122
      · refine fe_ivS (fr_isSmall1 (n := n5) s8.1 s8.2) (by omega) (by rfl) (by rfl) (by rfl) (by rfl) (by rfl) ?_
        refine fe_s 1 (pc' := cond (fx_cb .eq 1 0) 108 95) (lc' := [(1, .int c), (0, .ref 0)]) (stk' := []) (mem' := fm g2 tp bt a b) (fun _ _ _ => rfl) ?_
        rw [show (fx_cb .eq 1 0) = false from by decide]
        dsimp only [cond]
        refine fe_s 7 (pc' := 81) (lc' := [(1, .int c), (0, .ref 0)]) (stk' := []) (mem' := fm (upd g2 14 ((g2 14) + 1)) tp bt a b) (fun _ _ _ => rfl) ?_
        try rw [h14]
        rw [show ((nI E2) + 1 : Int32) = nI (E2 + 1) from by simp only [show (1 : Int32) = nI 1 from rfl, nI_add, fm_mul]]
        exact ih (E2 + 1) (by omega) _ (fm_txt_14 hx) h11 rfl h13 (by omega) (by omega) h15
      · refine fe_ivS (fr_isSmall0 (n := n5) (by omega) s8) (by omega) (by rfl) (by rfl) (by rfl) (by rfl) (by rfl) ?_
        refine fe_s 1 (pc' := cond (fx_cb .eq 0 0) 108 95) (lc' := [(1, .int c), (0, .ref 0)]) (stk' := []) (mem' := fm g2 tp bt a b) (fun _ _ _ => rfl) ?_
        rw [show (fx_cb .eq 0 0) = true from by decide]
        dsimp only [cond]
        refine fe_s 4 (pc' := 251) (lc' := [(1, .int c), (0, .ref 0)]) (stk' := []) (mem' := fm (upd g2 12 2) tp bt a b) (fun _ _ _ => rfl) ?_
        exact fe_ret ⟨_, E2, F2, (fm_txt_12 hx), ⟨h11, by omega, h14, by omega, h13, by omega, ⟨2, by omega, rfl⟩, h15.1, h15.2⟩, by omega, Or.inr (by omega), rfl⟩ (by rfl) (by rfl) (by rfl)
theorem fm_minI {a b : Nat} (ha : a < 2147483648) (hb : b < 2147483648) : (if nI a < nI b then nI a else nI b) = nI (min a b) := by
  by_cases h : a < b
  · rw [if_pos ((nI_ltI (by omega) (by omega)).mpr h), Nat.min_eq_left (by omega)]
  · rw [if_neg (fun z => h ((nI_ltI (by omega) (by omega)).mp z)), Nat.min_eq_right (by omega)]
theorem fm_vb {v : Nat} (h : v ≤ 100000) : -1 ≤ (nI v).toInt ∧ (nI v).toInt ≤ 100000 := by
  rw [nI_i32 (by omega)]
  omega
theorem fa_128 {S E F2 : Nat} {c : Int32} (hS9 : S ≤ 900) (hEF : E ≤ F2) : ∀ (r E2 V : Nat), E2 + r = S → ∀ (g2 : Nat → Int32), fm_txt g g2 → g2 11 = nI S → g2 14 = nI E2 → g2 13 = nI F2 → F2 ≤ E2 → E < E2 → g2 15 = nI V → V ≤ 100000 → fe_R 1 gk_m224 128 [(1, .int c), (0, .ref 0)] [] (fm g2 tp bt a b) (fm_FA g tp bt a b S E) := by
  intro r
  induction r with
  | zero =>
    intro E2 V hr g2 hx h11 h14 h13 hFE hEE h15 hV
    have hvb := fm_vb hV
    rw [← h15] at hvb
    refine fe_s 3 (pc' := 133) (lc' := [(1, .int c), (0, .ref 0)]) (stk' := [.int (g2 14), .ref 0]) (mem' := fm g2 tp bt a b) (fun _ _ _ => rfl) ?_
    try rw [h14]
    refine fe_ivV (fr_byteAt (S := S) (k := E2) (g := g2) (tp := tp) (bt := bt) (a := a) (b := b) h11 (by omega) (by omega)) (by omega) (by rfl) (by rfl) (by rfl) (by rfl) (by rfl) (by rfl) ?_
    rcases fm_byte_or a S E2 with ⟨e2, q3⟩ | ⟨q3, n1, qn1, e2⟩
    · rw [e2]
      refine fe_ivS fr_isDigitN (by omega) (by rfl) (by rfl) (by rfl) (by rfl) (by rfl) ?_
      refine fe_s 1 (pc' := cond (fx_cb .eq 0 0) 183 142) (lc' := [(1, .int c), (0, .ref 0)]) (stk' := []) (mem' := fm g2 tp bt a b) (fun _ _ _ => rfl) ?_
      rw [show (fx_cb .eq 0 0) = true from by decide]
      dsimp only [cond]
      refine fe_s 7 (pc' := 194) (lc' := [(1, .int c), (0, .ref 0)]) (stk' := [.int 4, .int ((g2 14) - (g2 13)), .ref 0]) (mem' := fm g2 tp bt a b) (fun _ _ _ => rfl) ?_
      try rw [h14]
      try rw [h13]
      refine fe_s 1 (pc' := cond (fx_cb .le ((nI E2) - (nI F2)) 4) 201 197) (lc' := [(1, .int c), (0, .ref 0)]) (stk' := [.ref 0]) (mem' := fm g2 tp bt a b) (fun _ _ _ => rfl) ?_
      cases h4 : fx_cb .le ((nI E2) - (nI F2)) 4
      · refine fe_s 4 (pc' := 251) (lc' := [(1, .int c), (0, .ref 0)]) (stk' := []) (mem' := fm (upd g2 12 1) tp bt a b) (fun _ _ _ => rfl) ?_
        exact fe_ret ⟨_, E2, F2, (fm_txt_12 hx), ⟨h11, by omega, h14, by omega, h13, by omega, ⟨1, by omega, rfl⟩, hvb.1, hvb.2⟩, by omega, Or.inr (by omega), rfl⟩ (by rfl) (by rfl) (by rfl)
      · refine fe_s 3 (pc' := 251) (lc' := [(1, .int c), (0, .ref 0)]) (stk' := []) (mem' := fm (upd g2 12 3) tp bt a b) (fun _ _ _ => rfl) ?_
        exact fe_ret ⟨_, E2, F2, (fm_txt_12 hx), ⟨h11, by omega, h14, by omega, h13, by omega, ⟨3, by omega, rfl⟩, hvb.1, hvb.2⟩, by omega, Or.inr (by omega), rfl⟩ (by rfl) (by rfl) (by rfl)
    · rw [e2]
      by_cases s5 : 48 ≤ n1 ∧ n1 ≤ 57
      · refine fe_ivS (fr_isDigit1 (n := n1) s5.1 s5.2) (by omega) (by rfl) (by rfl) (by rfl) (by rfl) (by rfl) ?_
        refine fe_s 1 (pc' := cond (fx_cb .eq 1 0) 183 142) (lc' := [(1, .int c), (0, .ref 0)]) (stk' := []) (mem' := fm g2 tp bt a b) (fun _ _ _ => rfl) ?_
        rw [show (fx_cb .eq 1 0) = false from by decide]
        dsimp only [cond]
        refine fe_s 9 (pc' := 157) (lc' := [(1, .int c), (0, .ref 0)]) (stk' := [.int (g2 14), .ref 0, .int (10 * (g2 15)), .int 100000, .ref 0]) (mem' := fm g2 tp bt a b) (fun _ _ _ => rfl) ?_
        try rw [h15]
        try rw [h14]
        rw [show (10 * (nI V) : Int32) = nI (10 * V) from by simp only [show (10 : Int32) = nI 10 from rfl, nI_add, fm_mul]]
        refine fe_ivV (fr_byteAt (S := S) (k := E2) (g := g2) (tp := tp) (bt := bt) (a := a) (b := b) h11 (by omega) (by omega)) (by omega) (by rfl) (by rfl) (by rfl) (by rfl) (by rfl) (by rfl) ?_
        rw [e2]
        refine fe_s 3 (pc' := 164) (lc' := [(1, .int c), (0, .ref 0)]) (stk' := [.int (((nI (10 * V)) + (nI n1)) - 48), .int 100000, .ref 0]) (mem' := fm g2 tp bt a b) (fun _ _ _ => rfl) ?_
        rw [show (((nI (10 * V)) + (nI n1)) - 48 : Int32) = nI (((10 * V) + n1) - 48) from by simp only [show (48 : Int32) = nI 48 from rfl, tg_sub2 (x := (10 * V) + n1) (y := 48) (by omega), nI_add, fm_mul]]
        refine fe_s 1 (pc' := 167) (lc' := [(1, .int c), (0, .ref 0)]) (stk' := [.int (if (nI (((10 * V) + n1) - 48)) < 100000 then (nI (((10 * V) + n1) - 48)) else 100000), .ref 0]) (mem' := fm g2 tp bt a b) (fun _ _ _ => rfl) ?_
        rw [show (if (nI (((10 * V) + n1) - 48)) < 100000 then (nI (((10 * V) + n1) - 48)) else 100000 : Int32) = nI (min (((10 * V) + n1) - 48) 100000) from fm_minI (a := ((10 * V) + n1) - 48) (b := 100000) (by omega) (by omega)]
        refine fe_s 8 (pc' := 128) (lc' := [(1, .int c), (0, .ref 0)]) (stk' := []) (mem' := fm (upd (upd g2 15 (nI (min (((10 * V) + n1) - 48) 100000))) 14 ((g2 14) + 1)) tp bt a b) (fun _ _ _ => rfl) ?_
        try rw [h14]
        rw [show ((nI E2) + 1 : Int32) = nI (E2 + 1) from by simp only [show (1 : Int32) = nI 1 from rfl, nI_add, fm_mul]]
        omega
      · refine fe_ivS (fr_isDigit0 (n := n1) (by omega) s5) (by omega) (by rfl) (by rfl) (by rfl) (by rfl) (by rfl) ?_
        refine fe_s 1 (pc' := cond (fx_cb .eq 0 0) 183 142) (lc' := [(1, .int c), (0, .ref 0)]) (stk' := []) (mem' := fm g2 tp bt a b) (fun _ _ _ => rfl) ?_
        rw [show (fx_cb .eq 0 0) = true from by decide]
        dsimp only [cond]
        refine fe_s 7 (pc' := 194) (lc' := [(1, .int c), (0, .ref 0)]) (stk' := [.int 4, .int ((g2 14) - (g2 13)), .ref 0]) (mem' := fm g2 tp bt a b) (fun _ _ _ => rfl) ?_
        try rw [h14]
        try rw [h13]
        refine fe_s 1 (pc' := cond (fx_cb .le ((nI E2) - (nI F2)) 4) 201 197) (lc' := [(1, .int c), (0, .ref 0)]) (stk' := [.ref 0]) (mem' := fm g2 tp bt a b) (fun _ _ _ => rfl) ?_
        cases h6 : fx_cb .le ((nI E2) - (nI F2)) 4
        · refine fe_s 4 (pc' := 251) (lc' := [(1, .int c), (0, .ref 0)]) (stk' := []) (mem' := fm (upd g2 12 1) tp bt a b) (fun _ _ _ => rfl) ?_
          exact fe_ret ⟨_, E2, F2, (fm_txt_12 hx), ⟨h11, by omega, h14, by omega, h13, by omega, ⟨1, by omega, rfl⟩, hvb.1, hvb.2⟩, by omega, Or.inr (by omega), rfl⟩ (by rfl) (by rfl) (by rfl)
        · refine fe_s 3 (pc' := 251) (lc' := [(1, .int c), (0, .ref 0)]) (stk' := []) (mem' := fm (upd g2 12 3) tp bt a b) (fun _ _ _ => rfl) ?_
          exact fe_ret ⟨_, E2, F2, (fm_txt_12 hx), ⟨h11, by omega, h14, by omega, h13, by omega, ⟨3, by omega, rfl⟩, hvb.1, hvb.2⟩, by omega, Or.inr (by omega), rfl⟩ (by rfl) (by rfl) (by rfl)
  | succ r ih =>
    intro E2 V hr g2 hx h11 h14 h13 hFE hEE h15 hV
    have hvb := fm_vb hV
    rw [← h15] at hvb
    refine fe_s 3 (pc' := 133) (lc' := [(1, .int c), (0, .ref 0)]) (stk' := [.int (g2 14), .ref 0]) (mem' := fm g2 tp bt a b) (fun _ _ _ => rfl) ?_
    try rw [h14]
    refine fe_ivV (fr_byteAt (S := S) (k := E2) (g := g2) (tp := tp) (bt := bt) (a := a) (b := b) h11 (by omega) (by omega)) (by omega) (by rfl) (by rfl) (by rfl) (by rfl) (by rfl) (by rfl) ?_
    rcases fm_byte_or a S E2 with ⟨e8, q9⟩ | ⟨q9, n7, qn7, e8⟩
    · rw [e8]
      refine fe_ivS fr_isDigitN (by omega) (by rfl) (by rfl) (by rfl) (by rfl) (by rfl) ?_
      refine fe_s 1 (pc' := cond (fx_cb .eq 0 0) 183 142) (lc' := [(1, .int c), (0, .ref 0)]) (stk' := []) (mem' := fm g2 tp bt a b) (fun _ _ _ => rfl) ?_
      rw [show (fx_cb .eq 0 0) = true from by decide]
      dsimp only [cond]
      refine fe_s 7 (pc' := 194) (lc' := [(1, .int c), (0, .ref 0)]) (stk' := [.int 4, .int ((g2 14) - (g2 13)), .ref 0]) (mem' := fm g2 tp bt a b) (fun _ _ _ => rfl) ?_
      try rw [h14]
      try rw [h13]
      refine fe_s 1 (pc' := cond (fx_cb .le ((nI E2) - (nI F2)) 4) 201 197) (lc' := [(1, .int c), (0, .ref 0)]) (stk' := [.ref 0]) (mem' := fm g2 tp bt a b) (fun _ _ _ => rfl) ?_
      cases h10 : fx_cb .le ((nI E2) - (nI F2)) 4
      · refine fe_s 4 (pc' := 251) (lc' := [(1, .int c), (0, .ref 0)]) (stk' := []) (mem' := fm (upd g2 12 1) tp bt a b) (fun _ _ _ => rfl) ?_
        exact fe_ret ⟨_, E2, F2, (fm_txt_12 hx), ⟨h11, by omega, h14, by omega, h13, by omega, ⟨1, by omega, rfl⟩, hvb.1, hvb.2⟩, by omega, Or.inr (by omega), rfl⟩ (by rfl) (by rfl) (by rfl)
      · refine fe_s 3 (pc' := 251) (lc' := [(1, .int c), (0, .ref 0)]) (stk' := []) (mem' := fm (upd g2 12 3) tp bt a b) (fun _ _ _ => rfl) ?_
        exact fe_ret ⟨_, E2, F2, (fm_txt_12 hx), ⟨h11, by omega, h14, by omega, h13, by omega, ⟨3, by omega, rfl⟩, hvb.1, hvb.2⟩, by omega, Or.inr (by omega), rfl⟩ (by rfl) (by rfl) (by rfl)
    · rw [e8]
      by_cases s11 : 48 ≤ n7 ∧ n7 ≤ 57
      · refine fe_ivS (fr_isDigit1 (n := n7) s11.1 s11.2) (by omega) (by rfl) (by rfl) (by rfl) (by rfl) (by rfl) ?_
        refine fe_s 1 (pc' := cond (fx_cb .eq 1 0) 183 142) (lc' := [(1, .int c), (0, .ref 0)]) (stk' := []) (mem' := fm g2 tp bt a b) (fun _ _ _ => rfl) ?_
        rw [show (fx_cb .eq 1 0) = false from by decide]
        dsimp only [cond]
        refine fe_s 9 (pc' := 157) (lc' := [(1, .int c), (0, .ref 0)]) (stk' := [.int (g2 14), .ref 0, .int (10 * (g2 15)), .int 100000, .ref 0]) (mem' := fm g2 tp bt a b) (fun _ _ _ => rfl) ?_
        try rw [h15]
        try rw [h14]
        rw [show (10 * (nI V) : Int32) = nI (10 * V) from by simp only [show (10 : Int32) = nI 10 from rfl, nI_add, fm_mul]]
        refine fe_ivV (fr_byteAt (S := S) (k := E2) (g := g2) (tp := tp) (bt := bt) (a := a) (b := b) h11 (by omega) (by omega)) (by omega) (by rfl) (by rfl) (by rfl) (by rfl) (by rfl) (by rfl) ?_
        rw [e8]
        refine fe_s 3 (pc' := 164) (lc' := [(1, .int c), (0, .ref 0)]) (stk' := [.int (((nI (10 * V)) + (nI n7)) - 48), .int 100000, .ref 0]) (mem' := fm g2 tp bt a b) (fun _ _ _ => rfl) ?_
        rw [show (((nI (10 * V)) + (nI n7)) - 48 : Int32) = nI (((10 * V) + n7) - 48) from by simp only [show (48 : Int32) = nI 48 from rfl, tg_sub2 (x := (10 * V) + n7) (y := 48) (by omega), nI_add, fm_mul]]
        refine fe_s 1 (pc' := 167) (lc' := [(1, .int c), (0, .ref 0)]) (stk' := [.int (if (nI (((10 * V) + n7) - 48)) < 100000 then (nI (((10 * V) + n7) - 48)) else 100000), .ref 0]) (mem' := fm g2 tp bt a b) (fun _ _ _ => rfl) ?_
        rw [show (if (nI (((10 * V) + n7) - 48)) < 100000 then (nI (((10 * V) + n7) - 48)) else 100000 : Int32) = nI (min (((10 * V) + n7) - 48) 100000) from fm_minI (a := ((10 * V) + n7) - 48) (b := 100000) (by omega) (by omega)]
        refine fe_s 8 (pc' := 128) (lc' := [(1, .int c), (0, .ref 0)]) (stk' := []) (mem' := fm (upd (upd g2 15 (nI (min (((10 * V) + n7) - 48) 100000))) 14 ((g2 14) + 1)) tp bt a b) (fun _ _ _ => rfl) ?_
        try rw [h14]
        rw [show ((nI E2) + 1 : Int32) = nI (E2 + 1) from by simp only [show (1 : Int32) = nI 1 from rfl, nI_add, fm_mul]]
        exact ih (E2 + 1) (min (((10 * V) + n7) - 48) 100000) (by omega) _ (fm_txt_14 (fm_txt_15 hx)) h11 rfl h13 (by omega) (by omega) rfl (by omega)
      · refine fe_ivS (fr_isDigit0 (n := n7) (by omega) s11) (by omega) (by rfl) (by rfl) (by rfl) (by rfl) (by rfl) ?_
        refine fe_s 1 (pc' := cond (fx_cb .eq 0 0) 183 142) (lc' := [(1, .int c), (0, .ref 0)]) (stk' := []) (mem' := fm g2 tp bt a b) (fun _ _ _ => rfl) ?_
        rw [show (fx_cb .eq 0 0) = true from by decide]
        dsimp only [cond]
        refine fe_s 7 (pc' := 194) (lc' := [(1, .int c), (0, .ref 0)]) (stk' := [.int 4, .int ((g2 14) - (g2 13)), .ref 0]) (mem' := fm g2 tp bt a b) (fun _ _ _ => rfl) ?_
        try rw [h14]
        try rw [h13]
        refine fe_s 1 (pc' := cond (fx_cb .le ((nI E2) - (nI F2)) 4) 201 197) (lc' := [(1, .int c), (0, .ref 0)]) (stk' := [.ref 0]) (mem' := fm g2 tp bt a b) (fun _ _ _ => rfl) ?_
        cases h12 : fx_cb .le ((nI E2) - (nI F2)) 4
        · refine fe_s 4 (pc' := 251) (lc' := [(1, .int c), (0, .ref 0)]) (stk' := []) (mem' := fm (upd g2 12 1) tp bt a b) (fun _ _ _ => rfl) ?_
          exact fe_ret ⟨_, E2, F2, (fm_txt_12 hx), ⟨h11, by omega, h14, by omega, h13, by omega, ⟨1, by omega, rfl⟩, hvb.1, hvb.2⟩, by omega, Or.inr (by omega), rfl⟩ (by rfl) (by rfl) (by rfl)
        · refine fe_s 3 (pc' := 251) (lc' := [(1, .int c), (0, .ref 0)]) (stk' := []) (mem' := fm (upd g2 12 3) tp bt a b) (fun _ _ _ => rfl) ?_
          exact fe_ret ⟨_, E2, F2, (fm_txt_12 hx), ⟨h11, by omega, h14, by omega, h13, by omega, ⟨3, by omega, rfl⟩, hvb.1, hvb.2⟩, by omega, Or.inr (by omega), rfl⟩ (by rfl) (by rfl) (by rfl)
theorem fa_39 {S E E1 : Nat} (hS9 : S ≤ 900) (hE : E ≤ E1) (hES : E1 ≤ S) {g2 : Nat → Int32} (hx : fm_txt g g2) (h11 : g2 11 = nI S) (h14 : g2 14 = nI E1) : fe_R 1 gk_m224 39 [(0, .ref 0)] [] (fm g2 tp bt a b) (fm_FA g tp bt a b S E) := by
  refine fe_s 7 (pc' := 52) (lc' := [(0, .ref 0)]) (stk' := [.int (g2 14), .ref 0]) (mem' := fm (upd g2 13 (g2 14)) tp bt a b) (fun _ _ _ => rfl) ?_
  try rw [h14]
  refine fe_ivV (fr_byteAt (S := S) (k := E1) (g := (upd g2 13 (nI E1))) (tp := tp) (bt := bt) (a := a) (b := b) h11 (by omega) (by omega)) (by omega) (by rfl) (by rfl) (by rfl) (by rfl) (by rfl) (by rfl) ?_
  rcases fm_byte_or a S E1 with ⟨e2, q3⟩ | ⟨q3, n1, qn1, e2⟩
  · rw [e2]
    refine fe_s 6 (pc' := 63) (lc' := [(1, .int (-1)), (0, .ref 0)]) (stk' := [.int (-1), .int (-1)]) (mem' := fm (upd (upd g2 13 (nI E1)) 15 (-1)) tp bt a b) (fun _ _ _ => rfl) ?_
    refine fe_s 1 (pc' := cond (fx_cb .ne (-1) (-1)) 74 66) (lc' := [(1, .int (-1)), (0, .ref 0)]) (stk' := []) (mem' := fm (upd (upd g2 13 (nI E1)) 15 (-1)) tp bt a b) (fun _ _ _ => rfl) ?_
    rw [show (fx_cb .ne (-1) (-1)) = false from by decide]
    dsimp only [cond]
    refine fe_s 4 (pc' := 251) (lc' := [(1, .int (-1)), (0, .ref 0)]) (stk' := []) (mem' := fm (upd (upd (upd g2 13 (nI E1)) 15 (-1)) 12 0) tp bt a b) (fun _ _ _ => rfl) ?_
    exact fe_ret ⟨_, E1, E1, (fm_txt_12 (fm_txt_15 (fm_txt_13 hx))), ⟨h11, by omega, h14, by omega, rfl, by omega, ⟨0, by omega, rfl⟩, (show -1 ≤ ((-1) : Int32).toInt by decide), (show ((-1) : Int32).toInt ≤ 100000 by decide)⟩, by omega, Or.inl rfl, rfl⟩ (by rfl) (by rfl) (by rfl)
  · rw [e2]
    refine fe_s 6 (pc' := 63) (lc' := [(1, .int (nI n1)), (0, .ref 0)]) (stk' := [.int (-1), .int (nI n1)]) (mem' := fm (upd (upd g2 13 (nI E1)) 15 (nI n1)) tp bt a b) (fun _ _ _ => rfl) ?_
    refine fe_s 1 (pc' := cond (fx_cb .ne (nI n1) (-1)) 74 66) (lc' := [(1, .int (nI n1)), (0, .ref 0)]) (stk' := []) (mem' := fm (upd (upd g2 13 (nI E1)) 15 (nI n1)) tp bt a b) (fun _ _ _ => rfl) ?_
    rw [show (fx_cb .ne (nI n1) (-1)) = true from cb_n_ne (by omega) (by decide)]
    dsimp only [cond]
    refine fe_s 1 (pc' := 75) (lc' := [(1, .int (nI n1)), (0, .ref 0)]) (stk' := [.int (nI n1)]) (mem' := fm (upd (upd g2 13 (nI E1)) 15 (nI n1)) tp bt a b) (fun _ _ _ => rfl) ?_
    by_cases s4 : 97 ≤ n1 ∧ n1 ≤ 122
    · refine fe_ivS (fr_isSmall1 (n := n1) s4.1 s4.2) (by omega) (by rfl) (by rfl) (by rfl) (by rfl) (by rfl) ?_
      refine fe_s 1 (pc' := cond (fx_cb .eq 1 0) 116 81) (lc' := [(1, .int (nI n1)), (0, .ref 0)]) (stk' := []) (mem' := fm (upd (upd g2 13 (nI E1)) 15 (nI n1)) tp bt a b) (fun _ _ _ => rfl) ?_
      rw [show (fx_cb .eq 1 0) = false from by decide]
      dsimp only [cond]
      refine fe_s 3 (pc' := 86) (lc' := [(1, .int (nI n1)), (0, .ref 0)]) (stk' := [.int (g2 14), .ref 0]) (mem' := fm (upd (upd g2 13 (nI E1)) 15 (nI n1)) tp bt a b) (fun _ _ _ => rfl) ?_
      try rw [h14]
      refine fe_ivV (fr_byteAt (S := S) (k := E1) (g := (upd (upd g2 13 (nI E1)) 15 (nI n1))) (tp := tp) (bt := bt) (a := a) (b := b) h11 (by omega) (by omega)) (by omega) (by rfl) (by rfl) (by rfl) (by rfl) (by rfl) (by rfl) ?_
      rw [e2]
      refine fe_ivS (fr_isSmall1 (n := n1) s4.1 s4.2) (by omega) (by rfl) (by rfl) (by rfl) (by rfl) (by rfl) ?_
      refine fe_s 1 (pc' := cond (fx_cb .eq 1 0) 108 95) (lc' := [(1, .int (nI n1)), (0, .ref 0)]) (stk' := []) (mem' := fm (upd (upd g2 13 (nI E1)) 15 (nI n1)) tp bt a b) (fun _ _ _ => rfl) ?_
      rw [show (fx_cb .eq 1 0) = false from by decide]
      dsimp only [cond]
      refine fe_s 7 (pc' := 81) (lc' := [(1, .int (nI n1)), (0, .ref 0)]) (stk' := []) (mem' := fm (upd (upd (upd g2 13 (nI E1)) 15 (nI n1)) 14 ((g2 14) + 1)) tp bt a b) (fun _ _ _ => rfl) ?_
      try rw [h14]
      rw [show ((nI E1) + 1 : Int32) = nI (E1 + 1) from by simp only [show (1 : Int32) = nI 1 from rfl, nI_add, fm_mul]]
      exact fa_81 hS9 (F2 := E1) (by omega) (S - (E1 + 1)) (E1 + 1) (by omega) _ (fm_txt_14 (fm_txt_15 (fm_txt_13 hx))) h11 rfl rfl (by omega) (by omega) (fm_vb (v := n1) (by omega))
    · refine fe_ivS (fr_isSmall0 (n := n1) (by omega) s4) (by omega) (by rfl) (by rfl) (by rfl) (by rfl) (by rfl) ?_
      refine fe_s 1 (pc' := cond (fx_cb .eq 0 0) 116 81) (lc' := [(1, .int (nI n1)), (0, .ref 0)]) (stk' := []) (mem' := fm (upd (upd g2 13 (nI E1)) 15 (nI n1)) tp bt a b) (fun _ _ _ => rfl) ?_
      rw [show (fx_cb .eq 0 0) = true from by decide]
      dsimp only [cond]
      refine fe_s 1 (pc' := 117) (lc' := [(1, .int (nI n1)), (0, .ref 0)]) (stk' := [.int (nI n1)]) (mem' := fm (upd (upd g2 13 (nI E1)) 15 (nI n1)) tp bt a b) (fun _ _ _ => rfl) ?_
      by_cases s5 : 48 ≤ n1 ∧ n1 ≤ 57
      · refine fe_ivS (fr_isDigit1 (n := n1) s5.1 s5.2) (by omega) (by rfl) (by rfl) (by rfl) (by rfl) (by rfl) ?_
        refine fe_s 1 (pc' := cond (fx_cb .eq 1 0) 208 123) (lc' := [(1, .int (nI n1)), (0, .ref 0)]) (stk' := []) (mem' := fm (upd (upd g2 13 (nI E1)) 15 (nI n1)) tp bt a b) (fun _ _ _ => rfl) ?_
        rw [show (fx_cb .eq 1 0) = false from by decide]
        dsimp only [cond]
        refine fe_s 3 (pc' := 128) (lc' := [(1, .int (nI n1)), (0, .ref 0)]) (stk' := []) (mem' := fm (upd (upd (upd g2 13 (nI E1)) 15 (nI n1)) 15 0) tp bt a b) (fun _ _ _ => rfl) ?_
        refine fe_s 3 (pc' := 133) (lc' := [(1, .int (nI n1)), (0, .ref 0)]) (stk' := [.int (g2 14), .ref 0]) (mem' := fm (upd (upd (upd g2 13 (nI E1)) 15 (nI n1)) 15 0) tp bt a b) (fun _ _ _ => rfl) ?_
        try rw [h14]
        refine fe_ivV (fr_byteAt (S := S) (k := E1) (g := (upd (upd (upd g2 13 (nI E1)) 15 (nI n1)) 15 0)) (tp := tp) (bt := bt) (a := a) (b := b) h11 (by omega) (by omega)) (by omega) (by rfl) (by rfl) (by rfl) (by rfl) (by rfl) (by rfl) ?_
        rw [e2]
        refine fe_ivS (fr_isDigit1 (n := n1) s5.1 s5.2) (by omega) (by rfl) (by rfl) (by rfl) (by rfl) (by rfl) ?_
        refine fe_s 1 (pc' := cond (fx_cb .eq 1 0) 183 142) (lc' := [(1, .int (nI n1)), (0, .ref 0)]) (stk' := []) (mem' := fm (upd (upd (upd g2 13 (nI E1)) 15 (nI n1)) 15 0) tp bt a b) (fun _ _ _ => rfl) ?_
        rw [show (fx_cb .eq 1 0) = false from by decide]
        dsimp only [cond]
        refine fe_s 9 (pc' := 157) (lc' := [(1, .int (nI n1)), (0, .ref 0)]) (stk' := [.int (g2 14), .ref 0, .int (10 * 0), .int 100000, .ref 0]) (mem' := fm (upd (upd (upd g2 13 (nI E1)) 15 (nI n1)) 15 0) tp bt a b) (fun _ _ _ => rfl) ?_
        try rw [h14]
        rw [show (10 * 0 : Int32) = nI (10 * 0) from by simp only [show (10 : Int32) = nI 10 from rfl, show (0 : Int32) = nI 0 from rfl, nI_add, fm_mul]]
        refine fe_ivV (fr_byteAt (S := S) (k := E1) (g := (upd (upd (upd g2 13 (nI E1)) 15 (nI n1)) 15 0)) (tp := tp) (bt := bt) (a := a) (b := b) h11 (by omega) (by omega)) (by omega) (by rfl) (by rfl) (by rfl) (by rfl) (by rfl) (by rfl) ?_
        rw [e2]
        refine fe_s 3 (pc' := 164) (lc' := [(1, .int (nI n1)), (0, .ref 0)]) (stk' := [.int (((nI (10 * 0)) + (nI n1)) - 48), .int 100000, .ref 0]) (mem' := fm (upd (upd (upd g2 13 (nI E1)) 15 (nI n1)) 15 0) tp bt a b) (fun _ _ _ => rfl) ?_
        rw [show (((nI (10 * 0)) + (nI n1)) - 48 : Int32) = nI (((10 * 0) + n1) - 48) from by simp only [show (48 : Int32) = nI 48 from rfl, tg_sub2 (x := (10 * 0) + n1) (y := 48) (by omega), nI_add, fm_mul]]
        refine fe_s 1 (pc' := 167) (lc' := [(1, .int (nI n1)), (0, .ref 0)]) (stk' := [.int (if (nI (((10 * 0) + n1) - 48)) < 100000 then (nI (((10 * 0) + n1) - 48)) else 100000), .ref 0]) (mem' := fm (upd (upd (upd g2 13 (nI E1)) 15 (nI n1)) 15 0) tp bt a b) (fun _ _ _ => rfl) ?_
        rw [show (if (nI (((10 * 0) + n1) - 48)) < 100000 then (nI (((10 * 0) + n1) - 48)) else 100000 : Int32) = nI (min (((10 * 0) + n1) - 48) 100000) from fm_minI (a := ((10 * 0) + n1) - 48) (b := 100000) (by omega) (by omega)]
        refine fe_s 8 (pc' := 128) (lc' := [(1, .int (nI n1)), (0, .ref 0)]) (stk' := []) (mem' := fm (upd (upd (upd (upd (upd g2 13 (nI E1)) 15 (nI n1)) 15 0) 15 (nI (min (((10 * 0) + n1) - 48) 100000))) 14 ((g2 14) + 1)) tp bt a b) (fun _ _ _ => rfl) ?_
        try rw [h14]
        rw [show ((nI E1) + 1 : Int32) = nI (E1 + 1) from by simp only [show (1 : Int32) = nI 1 from rfl, nI_add, fm_mul]]
        exact fa_128 hS9 (F2 := E1) (by omega) (S - (E1 + 1)) (E1 + 1) (min (((10 * 0) + n1) - 48) 100000) (by omega) _ (fm_txt_14 (fm_txt_15 (fm_txt_15 (fm_txt_15 (fm_txt_13 hx))))) h11 rfl rfl (by omega) (by omega) rfl (by omega)
      · refine fe_ivS (fr_isDigit0 (n := n1) (by omega) s5) (by omega) (by rfl) (by rfl) (by rfl) (by rfl) (by rfl) ?_
        refine fe_s 1 (pc' := cond (fx_cb .eq 0 0) 208 123) (lc' := [(1, .int (nI n1)), (0, .ref 0)]) (stk' := []) (mem' := fm (upd (upd g2 13 (nI E1)) 15 (nI n1)) tp bt a b) (fun _ _ _ => rfl) ?_
        rw [show (fx_cb .eq 0 0) = true from by decide]
        dsimp only [cond]
        refine fe_s 9 (pc' := 222) (lc' := [(1, .int (nI n1)), (0, .ref 0)]) (stk' := [.int 59, .int (nI n1), .ref 0]) (mem' := fm (upd (upd (upd g2 13 (nI E1)) 15 (nI n1)) 14 ((g2 14) + 1)) tp bt a b) (fun _ _ _ => rfl) ?_
        try rw [h14]
        rw [show ((nI E1) + 1 : Int32) = nI (E1 + 1) from by simp only [show (1 : Int32) = nI 1 from rfl, nI_add, fm_mul]]
        refine fe_s 1 (pc' := cond (fx_cb .eq (nI n1) 59) 243 225) (lc' := [(1, .int (nI n1)), (0, .ref 0)]) (stk' := [.ref 0]) (mem' := fm (upd (upd (upd g2 13 (nI E1)) 15 (nI n1)) 14 (nI (E1 + 1))) tp bt a b) (fun _ _ _ => rfl) ?_
        by_cases h6 : n1 = 59
        · rw [show (fx_cb .eq (nI n1) 59) = true from cb_eqT (a := n1) (b := 59) (by omega) (by omega) (by omega)]
          dsimp only [cond]
          refine fe_s 3 (pc' := 251) (lc' := [(1, .int (nI n1)), (0, .ref 0)]) (stk' := []) (mem' := fm (upd (upd (upd (upd g2 13 (nI E1)) 15 (nI n1)) 14 (nI (E1 + 1))) 12 4) tp bt a b) (fun _ _ _ => rfl) ?_
          exact fe_ret ⟨_, E1 + 1, E1, (fm_txt_12 (fm_txt_14 (fm_txt_15 (fm_txt_13 hx)))), ⟨h11, by omega, rfl, by omega, rfl, by omega, ⟨4, by omega, rfl⟩, (by show -1 ≤ (nI n1).toInt; rw [nI_i32 (by omega)]; omega), (by show (nI n1).toInt ≤ 100000; rw [nI_i32 (by omega)]; omega)⟩, by omega, Or.inr (by omega), rfl⟩ (by rfl) (by rfl) (by rfl)
        · rw [show (fx_cb .eq (nI n1) 59) = false from cb_eqF (a := n1) (b := 59) (by omega) (by omega) (by omega)]
          dsimp only [cond]
          refine fe_s 2 (pc' := 228) (lc' := [(1, .int (nI n1)), (0, .ref 0)]) (stk' := [.int 60, .int (nI n1), .ref 0]) (mem' := fm (upd (upd (upd g2 13 (nI E1)) 15 (nI n1)) 14 (nI (E1 + 1))) tp bt a b) (fun _ _ _ => rfl) ?_
          refine fe_s 1 (pc' := cond (fx_cb .eq (nI n1) 60) 243 231) (lc' := [(1, .int (nI n1)), (0, .ref 0)]) (stk' := [.ref 0]) (mem' := fm (upd (upd (upd g2 13 (nI E1)) 15 (nI n1)) 14 (nI (E1 + 1))) tp bt a b) (fun _ _ _ => rfl) ?_
          by_cases h7 : n1 = 60
          · rw [show (fx_cb .eq (nI n1) 60) = true from cb_eqT (a := n1) (b := 60) (by omega) (by omega) (by omega)]
            dsimp only [cond]
            refine fe_s 3 (pc' := 251) (lc' := [(1, .int (nI n1)), (0, .ref 0)]) (stk' := []) (mem' := fm (upd (upd (upd (upd g2 13 (nI E1)) 15 (nI n1)) 14 (nI (E1 + 1))) 12 4) tp bt a b) (fun _ _ _ => rfl) ?_
            exact fe_ret ⟨_, E1 + 1, E1, (fm_txt_12 (fm_txt_14 (fm_txt_15 (fm_txt_13 hx)))), ⟨h11, by omega, rfl, by omega, rfl, by omega, ⟨4, by omega, rfl⟩, (by show -1 ≤ (nI n1).toInt; rw [nI_i32 (by omega)]; omega), (by show (nI n1).toInt ≤ 100000; rw [nI_i32 (by omega)]; omega)⟩, by omega, Or.inr (by omega), rfl⟩ (by rfl) (by rfl) (by rfl)
          · rw [show (fx_cb .eq (nI n1) 60) = false from cb_eqF (a := n1) (b := 60) (by omega) (by omega) (by omega)]
            dsimp only [cond]
            refine fe_s 2 (pc' := 234) (lc' := [(1, .int (nI n1)), (0, .ref 0)]) (stk' := [.int 62, .int (nI n1), .ref 0]) (mem' := fm (upd (upd (upd g2 13 (nI E1)) 15 (nI n1)) 14 (nI (E1 + 1))) tp bt a b) (fun _ _ _ => rfl) ?_
            refine fe_s 1 (pc' := cond (fx_cb .eq (nI n1) 62) 243 237) (lc' := [(1, .int (nI n1)), (0, .ref 0)]) (stk' := [.ref 0]) (mem' := fm (upd (upd (upd g2 13 (nI E1)) 15 (nI n1)) 14 (nI (E1 + 1))) tp bt a b) (fun _ _ _ => rfl) ?_
            by_cases h8 : n1 = 62
            · rw [show (fx_cb .eq (nI n1) 62) = true from cb_eqT (a := n1) (b := 62) (by omega) (by omega) (by omega)]
              dsimp only [cond]
              refine fe_s 3 (pc' := 251) (lc' := [(1, .int (nI n1)), (0, .ref 0)]) (stk' := []) (mem' := fm (upd (upd (upd (upd g2 13 (nI E1)) 15 (nI n1)) 14 (nI (E1 + 1))) 12 4) tp bt a b) (fun _ _ _ => rfl) ?_
              exact fe_ret ⟨_, E1 + 1, E1, (fm_txt_12 (fm_txt_14 (fm_txt_15 (fm_txt_13 hx)))), ⟨h11, by omega, rfl, by omega, rfl, by omega, ⟨4, by omega, rfl⟩, (by show -1 ≤ (nI n1).toInt; rw [nI_i32 (by omega)]; omega), (by show (nI n1).toInt ≤ 100000; rw [nI_i32 (by omega)]; omega)⟩, by omega, Or.inr (by omega), rfl⟩ (by rfl) (by rfl) (by rfl)
            · rw [show (fx_cb .eq (nI n1) 62) = false from cb_eqF (a := n1) (b := 62) (by omega) (by omega) (by omega)]
              dsimp only [cond]
              refine fe_s 2 (pc' := 240) (lc' := [(1, .int (nI n1)), (0, .ref 0)]) (stk' := [.int 61, .int (nI n1), .ref 0]) (mem' := fm (upd (upd (upd g2 13 (nI E1)) 15 (nI n1)) 14 (nI (E1 + 1))) tp bt a b) (fun _ _ _ => rfl) ?_
              refine fe_s 1 (pc' := cond (fx_cb .ne (nI n1) 61) 247 243) (lc' := [(1, .int (nI n1)), (0, .ref 0)]) (stk' := [.ref 0]) (mem' := fm (upd (upd (upd g2 13 (nI E1)) 15 (nI n1)) 14 (nI (E1 + 1))) tp bt a b) (fun _ _ _ => rfl) ?_
              by_cases h9 : n1 = 61
              · rw [show (fx_cb .ne (nI n1) 61) = false from cb_neF (a := n1) (b := 61) (by omega) (by omega) (by omega)]
                dsimp only [cond]
                refine fe_s 3 (pc' := 251) (lc' := [(1, .int (nI n1)), (0, .ref 0)]) (stk' := []) (mem' := fm (upd (upd (upd (upd g2 13 (nI E1)) 15 (nI n1)) 14 (nI (E1 + 1))) 12 4) tp bt a b) (fun _ _ _ => rfl) ?_
                exact fe_ret ⟨_, E1 + 1, E1, (fm_txt_12 (fm_txt_14 (fm_txt_15 (fm_txt_13 hx)))), ⟨h11, by omega, rfl, by omega, rfl, by omega, ⟨4, by omega, rfl⟩, (by show -1 ≤ (nI n1).toInt; rw [nI_i32 (by omega)]; omega), (by show (nI n1).toInt ≤ 100000; rw [nI_i32 (by omega)]; omega)⟩, by omega, Or.inr (by omega), rfl⟩ (by rfl) (by rfl) (by rfl)
              · rw [show (fx_cb .ne (nI n1) 61) = true from cb_neT (a := n1) (b := 61) (by omega) (by omega) (by omega)]
                dsimp only [cond]
                refine fe_s 2 (pc' := 251) (lc' := [(1, .int (nI n1)), (0, .ref 0)]) (stk' := []) (mem' := fm (upd (upd (upd (upd g2 13 (nI E1)) 15 (nI n1)) 14 (nI (E1 + 1))) 12 1) tp bt a b) (fun _ _ _ => rfl) ?_
                exact fe_ret ⟨_, E1 + 1, E1, (fm_txt_12 (fm_txt_14 (fm_txt_15 (fm_txt_13 hx)))), ⟨h11, by omega, rfl, by omega, rfl, by omega, ⟨1, by omega, rfl⟩, (by show -1 ≤ (nI n1).toInt; rw [nI_i32 (by omega)]; omega), (by show (nI n1).toInt ≤ 100000; rw [nI_i32 (by omega)]; omega)⟩, by omega, Or.inr (by omega), rfl⟩ (by rfl) (by rfl) (by rfl)
theorem fa_0 {S E : Nat} (hS9 : S ≤ 900) : ∀ (r E1 : Nat), E1 + r = S → ∀ (g2 : Nat → Int32), fm_txt g g2 → g2 11 = nI S → g2 14 = nI E1 → E ≤ E1 → fe_R 1 gk_m224 0 [(0, .ref 0)] [] (fm g2 tp bt a b) (fm_FA g tp bt a b S E) := by
  intro r
  induction r with
  | zero =>
    intro E1 hr g2 hx h11 h14 hE
    refine fe_s 3 (pc' := 5) (lc' := [(0, .ref 0)]) (stk' := [.int (g2 14), .ref 0]) (mem' := fm g2 tp bt a b) (fun _ _ _ => rfl) ?_
    try rw [h14]
    refine fe_ivV (fr_byteAt (S := S) (k := E1) (g := g2) (tp := tp) (bt := bt) (a := a) (b := b) h11 (by omega) (by omega)) (by omega) (by rfl) (by rfl) (by rfl) (by rfl) (by rfl) (by rfl) ?_
    rcases fm_byte_or a S E1 with ⟨e2, q3⟩ | ⟨q3, n1, qn1, e2⟩
    · rw [e2]
      refine fe_s 1 (pc' := 10) (lc' := [(0, .ref 0)]) (stk' := [.int 32, .int (-1)]) (mem' := fm g2 tp bt a b) (fun _ _ _ => rfl) ?_
      refine fe_s 1 (pc' := cond (fx_cb .eq (-1) 32) 26 13) (lc' := [(0, .ref 0)]) (stk' := []) (mem' := fm g2 tp bt a b) (fun _ _ _ => rfl) ?_
      rw [show (fx_cb .eq (-1) 32) = false from by decide]
      dsimp only [cond]
      refine fe_s 3 (pc' := 18) (lc' := [(0, .ref 0)]) (stk' := [.int (g2 14), .ref 0]) (mem' := fm g2 tp bt a b) (fun _ _ _ => rfl) ?_
      try rw [h14]
      refine fe_ivV (fr_byteAt (S := S) (k := E1) (g := g2) (tp := tp) (bt := bt) (a := a) (b := b) h11 (by omega) (by omega)) (by omega) (by rfl) (by rfl) (by rfl) (by rfl) (by rfl) (by rfl) ?_
      rw [e2]
      refine fe_s 1 (pc' := 23) (lc' := [(0, .ref 0)]) (stk' := [.int 10, .int (-1)]) (mem' := fm g2 tp bt a b) (fun _ _ _ => rfl) ?_
      refine fe_s 1 (pc' := cond (fx_cb .ne (-1) 10) 39 26) (lc' := [(0, .ref 0)]) (stk' := []) (mem' := fm g2 tp bt a b) (fun _ _ _ => rfl) ?_
      rw [show (fx_cb .ne (-1) 10) = true from by decide]
      dsimp only [cond]
      exact fa_39 hS9 hE (by omega) hx h11 h14
    · rw [e2]
      refine fe_s 1 (pc' := 10) (lc' := [(0, .ref 0)]) (stk' := [.int 32, .int (nI n1)]) (mem' := fm g2 tp bt a b) (fun _ _ _ => rfl) ?_
      refine fe_s 1 (pc' := cond (fx_cb .eq (nI n1) 32) 26 13) (lc' := [(0, .ref 0)]) (stk' := []) (mem' := fm g2 tp bt a b) (fun _ _ _ => rfl) ?_
      by_cases h4 : n1 = 32
      · rw [show (fx_cb .eq (nI n1) 32) = true from cb_eqT (a := n1) (b := 32) (by omega) (by omega) (by omega)]
        dsimp only [cond]
        refine fe_s 7 (pc' := 0) (lc' := [(0, .ref 0)]) (stk' := []) (mem' := fm (upd g2 14 ((g2 14) + 1)) tp bt a b) (fun _ _ _ => rfl) ?_
        try rw [h14]
        rw [show ((nI E1) + 1 : Int32) = nI (E1 + 1) from by simp only [show (1 : Int32) = nI 1 from rfl, nI_add, fm_mul]]
        omega
      · rw [show (fx_cb .eq (nI n1) 32) = false from cb_eqF (a := n1) (b := 32) (by omega) (by omega) (by omega)]
        dsimp only [cond]
        refine fe_s 3 (pc' := 18) (lc' := [(0, .ref 0)]) (stk' := [.int (g2 14), .ref 0]) (mem' := fm g2 tp bt a b) (fun _ _ _ => rfl) ?_
        try rw [h14]
        refine fe_ivV (fr_byteAt (S := S) (k := E1) (g := g2) (tp := tp) (bt := bt) (a := a) (b := b) h11 (by omega) (by omega)) (by omega) (by rfl) (by rfl) (by rfl) (by rfl) (by rfl) (by rfl) ?_
        rw [e2]
        refine fe_s 1 (pc' := 23) (lc' := [(0, .ref 0)]) (stk' := [.int 10, .int (nI n1)]) (mem' := fm g2 tp bt a b) (fun _ _ _ => rfl) ?_
        refine fe_s 1 (pc' := cond (fx_cb .ne (nI n1) 10) 39 26) (lc' := [(0, .ref 0)]) (stk' := []) (mem' := fm g2 tp bt a b) (fun _ _ _ => rfl) ?_
        by_cases h5 : n1 = 10
        · rw [show (fx_cb .ne (nI n1) 10) = false from cb_neF (a := n1) (b := 10) (by omega) (by omega) (by omega)]
          dsimp only [cond]
          refine fe_s 7 (pc' := 0) (lc' := [(0, .ref 0)]) (stk' := []) (mem' := fm (upd g2 14 ((g2 14) + 1)) tp bt a b) (fun _ _ _ => rfl) ?_
          try rw [h14]
          rw [show ((nI E1) + 1 : Int32) = nI (E1 + 1) from by simp only [show (1 : Int32) = nI 1 from rfl, nI_add, fm_mul]]
          omega
        · rw [show (fx_cb .ne (nI n1) 10) = true from cb_neT (a := n1) (b := 10) (by omega) (by omega) (by omega)]
          dsimp only [cond]
          exact fa_39 hS9 hE (by omega) hx h11 h14
  | succ r ih =>
    intro E1 hr g2 hx h11 h14 hE
    refine fe_s 3 (pc' := 5) (lc' := [(0, .ref 0)]) (stk' := [.int (g2 14), .ref 0]) (mem' := fm g2 tp bt a b) (fun _ _ _ => rfl) ?_
    try rw [h14]
    refine fe_ivV (fr_byteAt (S := S) (k := E1) (g := g2) (tp := tp) (bt := bt) (a := a) (b := b) h11 (by omega) (by omega)) (by omega) (by rfl) (by rfl) (by rfl) (by rfl) (by rfl) (by rfl) ?_
    rcases fm_byte_or a S E1 with ⟨e7, q8⟩ | ⟨q8, n6, qn6, e7⟩
    · rw [e7]
      refine fe_s 1 (pc' := 10) (lc' := [(0, .ref 0)]) (stk' := [.int 32, .int (-1)]) (mem' := fm g2 tp bt a b) (fun _ _ _ => rfl) ?_
      refine fe_s 1 (pc' := cond (fx_cb .eq (-1) 32) 26 13) (lc' := [(0, .ref 0)]) (stk' := []) (mem' := fm g2 tp bt a b) (fun _ _ _ => rfl) ?_
      rw [show (fx_cb .eq (-1) 32) = false from by decide]
      dsimp only [cond]
      refine fe_s 3 (pc' := 18) (lc' := [(0, .ref 0)]) (stk' := [.int (g2 14), .ref 0]) (mem' := fm g2 tp bt a b) (fun _ _ _ => rfl) ?_
      try rw [h14]
      refine fe_ivV (fr_byteAt (S := S) (k := E1) (g := g2) (tp := tp) (bt := bt) (a := a) (b := b) h11 (by omega) (by omega)) (by omega) (by rfl) (by rfl) (by rfl) (by rfl) (by rfl) (by rfl) ?_
      rw [e7]
      refine fe_s 1 (pc' := 23) (lc' := [(0, .ref 0)]) (stk' := [.int 10, .int (-1)]) (mem' := fm g2 tp bt a b) (fun _ _ _ => rfl) ?_
      refine fe_s 1 (pc' := cond (fx_cb .ne (-1) 10) 39 26) (lc' := [(0, .ref 0)]) (stk' := []) (mem' := fm g2 tp bt a b) (fun _ _ _ => rfl) ?_
      rw [show (fx_cb .ne (-1) 10) = true from by decide]
      dsimp only [cond]
      exact fa_39 hS9 hE (by omega) hx h11 h14
    · rw [e7]
      refine fe_s 1 (pc' := 10) (lc' := [(0, .ref 0)]) (stk' := [.int 32, .int (nI n6)]) (mem' := fm g2 tp bt a b) (fun _ _ _ => rfl) ?_
      refine fe_s 1 (pc' := cond (fx_cb .eq (nI n6) 32) 26 13) (lc' := [(0, .ref 0)]) (stk' := []) (mem' := fm g2 tp bt a b) (fun _ _ _ => rfl) ?_
      by_cases h9 : n6 = 32
      · rw [show (fx_cb .eq (nI n6) 32) = true from cb_eqT (a := n6) (b := 32) (by omega) (by omega) (by omega)]
        dsimp only [cond]
        refine fe_s 7 (pc' := 0) (lc' := [(0, .ref 0)]) (stk' := []) (mem' := fm (upd g2 14 ((g2 14) + 1)) tp bt a b) (fun _ _ _ => rfl) ?_
        try rw [h14]
        rw [show ((nI E1) + 1 : Int32) = nI (E1 + 1) from by simp only [show (1 : Int32) = nI 1 from rfl, nI_add, fm_mul]]
        exact ih (E1 + 1) (by omega) _ (fm_txt_14 hx) h11 rfl (by omega)
      · rw [show (fx_cb .eq (nI n6) 32) = false from cb_eqF (a := n6) (b := 32) (by omega) (by omega) (by omega)]
        dsimp only [cond]
        refine fe_s 3 (pc' := 18) (lc' := [(0, .ref 0)]) (stk' := [.int (g2 14), .ref 0]) (mem' := fm g2 tp bt a b) (fun _ _ _ => rfl) ?_
        try rw [h14]
        refine fe_ivV (fr_byteAt (S := S) (k := E1) (g := g2) (tp := tp) (bt := bt) (a := a) (b := b) h11 (by omega) (by omega)) (by omega) (by rfl) (by rfl) (by rfl) (by rfl) (by rfl) (by rfl) ?_
        rw [e7]
        refine fe_s 1 (pc' := 23) (lc' := [(0, .ref 0)]) (stk' := [.int 10, .int (nI n6)]) (mem' := fm g2 tp bt a b) (fun _ _ _ => rfl) ?_
        refine fe_s 1 (pc' := cond (fx_cb .ne (nI n6) 10) 39 26) (lc' := [(0, .ref 0)]) (stk' := []) (mem' := fm g2 tp bt a b) (fun _ _ _ => rfl) ?_
        by_cases h10 : n6 = 10
        · rw [show (fx_cb .ne (nI n6) 10) = false from cb_neF (a := n6) (b := 10) (by omega) (by omega) (by omega)]
          dsimp only [cond]
          refine fe_s 7 (pc' := 0) (lc' := [(0, .ref 0)]) (stk' := []) (mem' := fm (upd g2 14 ((g2 14) + 1)) tp bt a b) (fun _ _ _ => rfl) ?_
          try rw [h14]
          rw [show ((nI E1) + 1 : Int32) = nI (E1 + 1) from by simp only [show (1 : Int32) = nI 1 from rfl, nI_add, fm_mul]]
          exact ih (E1 + 1) (by omega) _ (fm_txt_14 hx) h11 rfl (by omega)
        · rw [show (fx_cb .ne (nI n6) 10) = true from cb_neT (a := n6) (b := 10) (by omega) (by omega) (by omega)]
          dsimp only [cond]
          exact fa_39 hS9 hE (by omega) hx h11 h14
/-- the next token -/
theorem fr_ahead {S E : Nat} (h11 : g 11 = nI S) (hS9 : S ≤ 900) (h14 : g 14 = nI E) (hES : E ≤ S) : ∃ (v : Option Value) (mem' : fx_M), fm_FA g tp bt a b S E (v, mem') ∧ fr_T 2 224 [.ref 0] (fm g tp bt a b) v mem' := by
  refine fe_meth (F := fm_FA g tp bt a b S E) (M := gk_m224) (by rfl) (by rfl) ?_
  exact fa_0 hS9 (S - E) E (by omega) g fm_txt_rf h11 h14 (Nat.le_refl _)
end FAH
