/-! ===== fx: ahead ===== -/
section FAH
variable {g : Nat → Int32} {tp bt : Int64} {a : Nat → Nat → Int32} {b : Nat → Nat → Int64}
/-- but for the token nothing is changed -/
def fm_txt (g g' : Nat → Int32) : Prop := ∀ j, j ≠ 12 → j ≠ 13 → j ≠ 14 → j ≠ 15 → g' j = g j
theorem fm_txt_rf : fm_txt g g := fun _ _ _ _ _ => rfl
theorem fm_txt_tr {g1 g2 : Nat → Int32} (h : fm_txt g g1) (h2 : fm_txt g1 g2) : fm_txt g g2 := fun j q1 q2 q3 q4 => (h2 j q1 q2 q3 q4).trans (h j q1 q2 q3 q4)
theorem fm_txt_12 {g1 : Nat → Int32} {x : Int32} (h : fm_txt g g1) : fm_txt g (upd g1 12 x) := fun j q1 q2 q3 q4 => by rw [pk_un q1]; exact h j q1 q2 q3 q4
theorem fm_txt_13 {g1 : Nat → Int32} {x : Int32} (h : fm_txt g g1) : fm_txt g (upd g1 13 x) := fun j q1 q2 q3 q4 => by rw [pk_un q2]; exact h j q1 q2 q3 q4
theorem fm_txt_14 {g1 : Nat → Int32} {x : Int32} (h : fm_txt g g1) : fm_txt g (upd g1 14 x) := fun j q1 q2 q3 q4 => by rw [pk_un q3]; exact h j q1 q2 q3 q4
theorem fm_txt_15 {g1 : Nat → Int32} {x : Int32} (h : fm_txt g g1) : fm_txt g (upd g1 15 x) := fun j q1 q2 q3 q4 => by rw [pk_un q4]; exact h j q1 q2 q3 q4
/-- the text's state -/
def fm_xp (g : Nat → Int32) (S E F : Nat) : Prop := g 11 = nI S ∧ S ≤ 900 ∧ g 14 = nI E ∧ E ≤ S ∧ g 13 = nI F ∧ F ≤ E ∧ (∃ t, t ≤ 4 ∧ g 12 = nI t) ∧ -1 ≤ (g 15).toInt ∧ (g 15).toInt ≤ 100000
def fm_FA (g : Nat → Int32) (tp bt : Int64) (a : Nat → Nat → Int32) (b : Nat → Nat → Int64) (S E : Nat) (R : Option Value × fx_M) : Prop := ∃ (g' : Nat → Int32) (E' F' : Nat), fm_txt g g' ∧ fm_xp g' S E' F' ∧ E ≤ F' ∧ (g' 12 = 0 ∨ E < E') ∧ R = (none, fm g' tp bt a b)
theorem fa_81 {S E F2 : Nat} {c : Int32} (hS9 : S ≤ 900) (hEF : E ≤ F2) : ∀ (r E2 : Nat), E2 + r = S → ∀ (g2 : Nat → Int32), fm_txt g g2 → g2 11 = nI S → g2 14 = nI E2 → g2 13 = nI F2 → F2 ≤ E2 → E < E2 → -1 ≤ (g2 15).toInt ∧ (g2 15).toInt ≤ 100000 → fe_R 1 gk_m224 81 [(1, .int c), (0, .ref 0)] [] (fm g2 tp bt a b) (fm_FA g tp bt a b S E) := by
  intro r
  induction r with
  | zero =>
    intro E2 hr g2 hx h11 h14 h13 hFE hEE h15
    refine fe_s 3 (pc' := 86) (lc' := [(1, .int c), (0, .ref 0)]) (stk' := [.int (g2 14), .ref 0]) (mem' := fm g2 tp bt a b) (fun _ _ _ => rfl) ?_
    try rw [h14]
    refine fe_ivV (fr_byteAt (S := S) (k := E2) (g := g2) (tp := tp) (bt := bt) (a := a) (b := b) h11 (by omega) (by omega)) (by omega) (by rfl) (by rfl) (by rfl) (by rfl) (by rfl) (by rfl) ?_
    rcases fm_byte_or a S E2 with ⟨e2, q3⟩ | ⟨q3, n1, qn1, e2⟩
    · rw [e2]
      refine fe_ivS fr_isSmallN (by omega) (by rfl) (by rfl) (by rfl) (by rfl) (by rfl) ?_
      refine fe_s 1 (pc' := cond (fx_cb .eq 0 0) 108 95) (lc' := [(1, .int c), (0, .ref 0)]) (stk' := []) (mem' := fm g2 tp bt a b) (fun _ _ _ => rfl) ?_
      rw [show (fx_cb .eq 0 0) = true from by decide]
      dsimp only [cond]
      refine fe_s 4 (pc' := 251) (lc' := [(1, .int c), (0, .ref 0)]) (stk' := []) (mem' := fm (upd g2 12 2) tp bt a b) (fun _ _ _ => rfl) ?_
      exact fe_ret ⟨_, E2, F2, (fm_txt_12 hx), ⟨h11, by omega, h14, by omega, h13, by omega, ⟨2, by omega, rfl⟩, h15.1, h15.2⟩, by omega, Or.inr (by omega), rfl⟩ (by rfl) (by rfl) (by rfl)
    · rw [e2]
      by_cases s4 : 97 ≤ n1 ∧ n1 ≤ 122
      · refine fe_ivS (fr_isSmall1 (n := n1) s4.1 s4.2) (by omega) (by rfl) (by rfl) (by rfl) (by rfl) (by rfl) ?_
        refine fe_s 1 (pc' := cond (fx_cb .eq 1 0) 108 95) (lc' := [(1, .int c), (0, .ref 0)]) (stk' := []) (mem' := fm g2 tp bt a b) (fun _ _ _ => rfl) ?_
        rw [show (fx_cb .eq 1 0) = false from by decide]
        dsimp only [cond]
        refine fe_s 7 (pc' := 81) (lc' := [(1, .int c), (0, .ref 0)]) (stk' := []) (mem' := fm (upd g2 14 ((g2 14) + 1)) tp bt a b) (fun _ _ _ => rfl) ?_
        try rw [h14]
        rw [show ((nI E2) + 1 : Int32) = nI (E2 + 1) from by simp only [show (1 : Int32) = nI 1 from rfl, nI_add, fm_mul]]
        omega
      · refine fe_ivS (fr_isSmall0 (n := n1) (by omega) s4) (by omega) (by rfl) (by rfl) (by rfl) (by rfl) (by rfl) ?_
        refine fe_s 1 (pc' := cond (fx_cb .eq 0 0) 108 95) (lc' := [(1, .int c), (0, .ref 0)]) (stk' := []) (mem' := fm g2 tp bt a b) (fun _ _ _ => rfl) ?_
        rw [show (fx_cb .eq 0 0) = true from by decide]
        dsimp only [cond]
        refine fe_s 4 (pc' := 251) (lc' := [(1, .int c), (0, .ref 0)]) (stk' := []) (mem' := fm (upd g2 12 2) tp bt a b) (fun _ _ _ => rfl) ?_
        exact fe_ret ⟨_, E2, F2, (fm_txt_12 hx), ⟨h11, by omega, h14, by omega, h13, by omega, ⟨2, by omega, rfl⟩, h15.1, h15.2⟩, by omega, Or.inr (by omega), rfl⟩ (by rfl) (by rfl) (by rfl)
  | succ r ih =>
    intro E2 hr g2 hx h11 h14 h13 hFE hEE h15
    refine fe_s 3 (pc' := 86) (lc' := [(1, .int c), (0, .ref 0)]) (stk' := [.int (g2 14), .ref 0]) (mem' := fm g2 tp bt a b) (fun _ _ _ => rfl) ?_
    try rw [h14]
    refine fe_ivV (fr_byteAt (S := S) (k := E2) (g := g2) (tp := tp) (bt := bt) (a := a) (b := b) h11 (by omega) (by omega)) (by omega) (by rfl) (by rfl) (by rfl) (by rfl) (by rfl) (by rfl) ?_
    rcases fm_byte_or a S E2 with ⟨e6, q7⟩ | ⟨q7, n5, qn5, e6⟩
    · rw [e6]
      refine fe_ivS fr_isSmallN (by omega) (by rfl) (by rfl) (by rfl) (by rfl) (by rfl) ?_
      refine fe_s 1 (pc' := cond (fx_cb .eq 0 0) 108 95) (lc' := [(1, .int c), (0, .ref 0)]) (stk' := []) (mem' := fm g2 tp bt a b) (fun _ _ _ => rfl) ?_
      rw [show (fx_cb .eq 0 0) = true from by decide]
      dsimp only [cond]
      refine fe_s 4 (pc' := 251) (lc' := [(1, .int c), (0, .ref 0)]) (stk' := []) (mem' := fm (upd g2 12 2) tp bt a b) (fun _ _ _ => rfl) ?_
      exact fe_ret ⟨_, E2, F2, (fm_txt_12 hx), ⟨h11, by omega, h14, by omega, h13, by omega, ⟨2, by omega, rfl⟩, h15.1, h15.2⟩, by omega, Or.inr (by omega), rfl⟩ (by rfl) (by rfl) (by rfl)
    · rw [e6]
      by_cases s8 : 97 ≤ n5 ∧ n5 ≤ 122
      · refine fe_ivS (fr_isSmall1 (n := n5) s8.1 s8.2) (by omega) (by rfl) (by rfl) (by rfl) (by rfl) (by rfl) ?_
        refine fe_s 1 (pc' := cond (fx_cb .eq 1 0) 108 95) (lc' := [(1, .int c), (0, .ref 0)]) (stk' := []) (mem' := fm g2 tp bt a b) (fun _ _ _ => rfl) ?_
        rw [show (fx_cb .eq 1 0) = false from by decide]
        dsimp only [cond]
        refine fe_s 7 (pc' := 81) (lc' := [(1, .int c), (0, .ref 0)]) (stk' := []) (mem' := fm (upd g2 14 ((g2 14) + 1)) tp bt a b) (fun _ _ _ => rfl) ?_
        try rw [h14]
        rw [show ((nI E2) + 1 : Int32) = nI (E2 + 1) from by simp only [show (1 : Int32) = nI 1 from rfl, nI_add, fm_mul]]
        exact ih (E2 + 1) (by omega) _ (fm_txt_14 hx) h11 rfl h13 (by omega) (by omega) h15
      · refine fe_ivS (fr_isSmall0 (n := n5) (by omega) s8) (by omega) (by rfl) (by rfl) (by rfl) (by rfl) (by rfl) ?_
        refine fe_s 1 (pc' := cond (fx_cb .eq 0 0) 108 95) (lc' := [(1, .int c), (0, .ref 0)]) (stk' := []) (mem' := fm g2 tp bt a b) (fun _ _ _ => rfl) ?_
        rw [show (fx_cb .eq 0 0) = true from by decide]
        dsimp only [cond]
        refine fe_s 4 (pc' := 251) (lc' := [(1, .int c), (0, .ref 0)]) (stk' := []) (mem' := fm (upd g2 12 2) tp bt a b) (fun _ _ _ => rfl) ?_
        exact fe_ret ⟨_, E2, F2, (fm_txt_12 hx), ⟨h11, by omega, h14, by omega, h13, by omega, ⟨2, by omega, rfl⟩, h15.1, h15.2⟩, by omega, Or.inr (by omega), rfl⟩ (by rfl) (by rfl) (by rfl)
end FAH
