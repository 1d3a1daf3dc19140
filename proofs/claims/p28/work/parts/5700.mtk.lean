/-! ===== the model's tokens, exactly ===== -/
/-- the model's text: bytes T, n of them -/
def mT (a : Nat → Nat → Int32) (T : Nat → Nat) (n : Nat) : Prop := n ≤ 900 ∧ ∀ k, k < n → T k ≤ 255 ∧ a 7 k &&& 255 = nI (T k)
/-- the model's number of a token's kind -/
def mkd (k : Nat) : Nat := if k = 0 then 0 else if k = 4 then 1 else k + 1
/-- the model at the token behind p -/
def mtk (g : Nat → Int32) (T : Nat → Nat) (n p : Nat) : Prop := g 11 = nI n ∧ g 13 = nI (sp_s T n p) ∧ (∃ e, g 14 = nI e ∧ sp_s T n p ≤ e ∧ e ≤ n ∧ (sp_k T n p ≠ 4 → e = sp_n T n p)) ∧ g 12 = nI (mkd (sp_k T n p)) ∧ (sp_k T n p = 2 → g 15 = nI (sp_v T n p)) ∧ (sp_k T n p = 3 → g 15 = nI (T (sp_s T n p))) ∧ -1 ≤ (g 15).toInt ∧ (g 15).toInt ≤ 100000
section MTK
variable {g : Nat → Int32} {tp bt : Int64} {a : Nat → Nat → Int32} {b : Nat → Nat → Int64} {T : Nat → Nat} {n p : Nat}
theorem mtk_xp (hn : n ≤ 900) (h : mtk g T n p) : ∃ e, fm_xp g n e (sp_s T n p) ∧ (sp_k T n p ≠ 4 → e = sp_n T n p) := by
  obtain ⟨h1, h2, ⟨e, h3, h4, h5, h6⟩, h7, -, -, h8, h9⟩ := h
  refine ⟨e, ⟨h1, hn, h3, h5, h2, h4, ⟨mkd (sp_k T n p), ?_, h7⟩, h8, h9⟩, h6⟩
  have := sp_k4 (T := T) (n := n) (p := p)
  unfold mkd
  split
  · omega
  · split <;> omega
theorem mb_in (hT : mT a T n) {k : Nat} (h : k < n) : fm_byte a n k = nI (T k) := (if_pos h).trans (hT.2 k h).2
theorem mb_out {k : Nat} (h : ¬ k < n) : fm_byte a n k = -1 := if_neg h
/-- the loop over letters -/
theorem ma_81 {c : Int32} (hT : mT a T n) : ∀ (r k : Nat), n - k = r → k ≤ n → ∀ (g2 : Nat → Int32), g2 11 = nI n → g2 14 = nI k → fe_R 1 gk_m224 81 [(1, .int c), (0, .ref 0)] [] (fm g2 tp bt a b) (fun R => ∃ g' : Nat → Int32, fm_txt g2 g' ∧ g' 14 = nI (sp_e sp_sm T n k) ∧ g' 12 = 2 ∧ g' 13 = g2 13 ∧ g' 15 = g2 15 ∧ R = (none, fm g' tp bt a b)) := by
  intro r
  induction r with
  | zero =>
    intro k hr hk g2 h11 h14
    have hb := hT.1
    refine fe_s 3 (pc' := 86) (lc' := [(1, .int c), (0, .ref 0)]) (stk' := [.int (g2 14), .ref 0]) (mem' := fm g2 tp bt a b) (by intro _ _ _; eq_refl) ?_
    rw [h14]
    refine fe_ivV (fr_byteAt (S := n) (k := k) (g := g2) (tp := tp) (bt := bt) (a := a) (b := b) h11 hT.1 (by omega)) (by omega) (by rfl) (by rfl) (by rfl) (by rfl) (by rfl) (by rfl) ?_
    rw [mb_out (by omega)]
    refine fe_ivS fr_isSmallN (by omega) (by rfl) (by rfl) (by rfl) (by rfl) (by rfl) ?_
    refine fe_s 5 (pc' := 251) (lc' := [(1, .int c), (0, .ref 0)]) (stk' := []) (mem' := fm (upd g2 12 2) tp bt a b) (by intro _ _ _; eq_refl) ?_
    refine fe_ret ⟨_, fm_txt_12 fm_txt_rf, ?_, pk_us, pk_un (by decide), pk_un (by decide), rfl⟩ (by rfl) (by rfl) (by rfl)
    rw [pk_un (by decide), h14, sp_e_f (by omega)]
  | succ r ih =>
    intro k hr hk g2 h11 h14
    have hb := hT.1
    refine fe_s 3 (pc' := 86) (lc' := [(1, .int c), (0, .ref 0)]) (stk' := [.int (g2 14), .ref 0]) (mem' := fm g2 tp bt a b) (by intro _ _ _; eq_refl) ?_
    rw [h14]
    refine fe_ivV (fr_byteAt (S := n) (k := k) (g := g2) (tp := tp) (bt := bt) (a := a) (b := b) h11 hT.1 (by omega)) (by omega) (by rfl) (by rfl) (by rfl) (by rfl) (by rfl) (by rfl) ?_
    rw [mb_in hT (by omega)]
    have h255 := (hT.2 k (by omega)).1
    by_cases hs : sp_sm (T k) = true
    · have hs2 := sp_sm_i.mp hs
      refine fe_ivS (fr_isSmall1 hs2.1 hs2.2) (by omega) (by rfl) (by rfl) (by rfl) (by rfl) (by rfl) ?_
      refine fe_s 6 (pc' := 102) (lc' := [(1, .int c), (0, .ref 0)]) (stk' := [.int (g2 14 + 1), .ref 0]) (mem' := fm g2 tp bt a b) (by intro _ _ _; eq_refl) ?_
      rw [h14, show nI k + 1 = nI (k + 1) from nI_add k 1]
      refine fe_s 2 (pc' := 81) (lc' := [(1, .int c), (0, .ref 0)]) (stk' := []) (mem' := fm (upd g2 14 (nI (k + 1))) tp bt a b) (by intro _ _ _; eq_refl) ?_
      obtain ⟨R, ⟨g', k1, k2, k3, k4, k5, k6⟩, k7⟩ := ih (k + 1) (by omega) (by omega) (upd g2 14 (nI (k + 1))) ((pk_un (by decide)).trans h11) pk_us
      exact ⟨R, ⟨g', fm_txt_tr (fm_txt_14 fm_txt_rf) k1, by rw [k2, ← sp_e_t (by omega) hs], k3, k4.trans (pk_un (by decide)), k5.trans (pk_un (by decide)), k6⟩, k7⟩
    · refine fe_ivS (fr_isSmall0 (by omega) (fun z => hs (sp_sm_i.mpr z))) (by omega) (by rfl) (by rfl) (by rfl) (by rfl) (by rfl) ?_
      refine fe_s 5 (pc' := 251) (lc' := [(1, .int c), (0, .ref 0)]) (stk' := []) (mem' := fm (upd g2 12 2) tp bt a b) (by intro _ _ _; eq_refl) ?_
      refine fe_ret ⟨_, fm_txt_12 fm_txt_rf, ?_, pk_us, pk_un (by decide), pk_un (by decide), rfl⟩ (by rfl) (by rfl) (by rfl)
      rw [pk_un (by decide), h14, sp_e_f (fun z => hs z.2)]
/-- the loop over digits -/
theorem ma_128 {c : Int32} {s : Nat} (hT : mT a T n) : ∀ (r i : Nat), n - (s + i) = r → s + i ≤ n → ∀ (g2 : Nat → Int32), g2 11 = nI n → g2 14 = nI (s + i) → g2 13 = nI s → g2 15 = nI (sp_nv T s i) → fe_R 1 gk_m224 128 [(1, .int c), (0, .ref 0)] [] (fm g2 tp bt a b) (fun R => ∃ g' : Nat → Int32, fm_txt g2 g' ∧ g' 14 = nI (sp_e sp_dg T n (s + i)) ∧ g' 12 = (if sp_e sp_dg T n (s + i) ≤ s + 4 then 3 else 1) ∧ g' 13 = g2 13 ∧ g' 15 = nI (sp_nv T s (sp_e sp_dg T n (s + i) - s)) ∧ R = (none, fm g' tp bt a b)) := by
  have fin : ∀ (i : Nat) (g2 : Nat → Int32), s + i ≤ n → g2 14 = nI (s + i) → g2 13 = nI s → g2 15 = nI (sp_nv T s i) → sp_e sp_dg T n (s + i) = s + i → fe_R 1 gk_m224 183 [(1, .int c), (0, .ref 0)] [] (fm g2 tp bt a b) (fun R => ∃ g' : Nat → Int32, fm_txt g2 g' ∧ g' 14 = nI (sp_e sp_dg T n (s + i)) ∧ g' 12 = (if sp_e sp_dg T n (s + i) ≤ s + 4 then 3 else 1) ∧ g' 13 = g2 13 ∧ g' 15 = nI (sp_nv T s (sp_e sp_dg T n (s + i) - s)) ∧ R = (none, fm g' tp bt a b)) := by
    intro i g2 hi h14 h13 h15 he
    have hb := hT.1
    refine fe_s 6 (pc' := 193) (lc' := [(1, .int c), (0, .ref 0)]) (stk' := [.int (g2 14 - g2 13), .ref 0]) (mem' := fm g2 tp bt a b) (by intro _ _ _; eq_refl) ?_
    rw [h14, h13, tg_sub2 (x := s + i) (y := s) (by omega)]
    refine fe_s 2 (pc' := cond (fx_cb .le (nI (s + i - s)) 4) 201 197) (lc' := [(1, .int c), (0, .ref 0)]) (stk' := [.ref 0]) (mem' := fm g2 tp bt a b) (by intro _ _ _; eq_refl) ?_
    by_cases h4 : s + i - s ≤ 4
    · rw [show fx_cb .le (nI (s + i - s)) 4 = true from cb_leT (a := s + i - s) (b := 4) (by omega) (by omega) h4]
      dsimp only [cond]
      refine fe_s 3 (pc' := 251) (lc' := [(1, .int c), (0, .ref 0)]) (stk' := []) (mem' := fm (upd g2 12 3) tp bt a b) (by intro _ _ _; eq_refl) ?_
      refine fe_ret ⟨_, fm_txt_12 fm_txt_rf, ?_, ?_, ?_, ?_, rfl⟩ (by rfl) (by rfl) (by rfl)
      · rw [pk_un (by decide), h14, he]
      · rw [pk_us, he, if_pos (by omega)]
      · rw [pk_un (by decide)]; exact h13
      · rw [pk_un (by decide), h15, he, show s + i - s = i by omega]
    · rw [show fx_cb .le (nI (s + i - s)) 4 = false from cb_leF (a := s + i - s) (b := 4) (by omega) (by omega) h4]
      dsimp only [cond]
      refine fe_s 4 (pc' := 251) (lc' := [(1, .int c), (0, .ref 0)]) (stk' := []) (mem' := fm (upd g2 12 1) tp bt a b) (by intro _ _ _; eq_refl) ?_
      refine fe_ret ⟨_, fm_txt_12 fm_txt_rf, ?_, ?_, ?_, ?_, rfl⟩ (by rfl) (by rfl) (by rfl)
      · rw [pk_un (by decide), h14, he]
      · rw [pk_us, he, if_neg (by omega)]
      · rw [pk_un (by decide)]; exact h13
      · rw [pk_un (by decide), h15, he, show s + i - s = i by omega]
  intro r
  induction r with
  | zero =>
    intro i hr hi g2 h11 h14 h13 h15
    have hb := hT.1
    refine fe_s 3 (pc' := 133) (lc' := [(1, .int c), (0, .ref 0)]) (stk' := [.int (g2 14), .ref 0]) (mem' := fm g2 tp bt a b) (by intro _ _ _; eq_refl) ?_
    rw [h14]
    refine fe_ivV (fr_byteAt (S := n) (k := s + i) (g := g2) (tp := tp) (bt := bt) (a := a) (b := b) h11 hT.1 (by omega)) (by omega) (by rfl) (by rfl) (by rfl) (by rfl) (by rfl) (by rfl) ?_
    rw [mb_out (by omega)]
    refine fe_ivS fr_isDigitN (by omega) (by rfl) (by rfl) (by rfl) (by rfl) (by rfl) ?_
    refine fe_s 1 (pc' := 183) (lc' := [(1, .int c), (0, .ref 0)]) (stk' := []) (mem' := fm g2 tp bt a b) (by intro _ _ _; eq_refl) ?_
    exact fin i g2 hi h14 h13 h15 (sp_e_f (by omega))
  | succ r ih =>
    intro i hr hi g2 h11 h14 h13 h15
    have hb := hT.1
    refine fe_s 3 (pc' := 133) (lc' := [(1, .int c), (0, .ref 0)]) (stk' := [.int (g2 14), .ref 0]) (mem' := fm g2 tp bt a b) (by intro _ _ _; eq_refl) ?_
    rw [h14]
    refine fe_ivV (fr_byteAt (S := n) (k := s + i) (g := g2) (tp := tp) (bt := bt) (a := a) (b := b) h11 hT.1 (by omega)) (by omega) (by rfl) (by rfl) (by rfl) (by rfl) (by rfl) (by rfl) ?_
    rw [mb_in hT (by omega)]
    have h255 := (hT.2 (s + i) (by omega)).1
    by_cases hs : sp_dg (T (s + i)) = true
    · have hs2 := sp_dg_i.mp hs
      have hv := sp_nv_le (T := T) (s := s) i
      refine fe_ivS (fr_isDigit1 hs2.1 hs2.2) (by omega) (by rfl) (by rfl) (by rfl) (by rfl) (by rfl) ?_
      refine fe_s 10 (pc' := 157) (lc' := [(1, .int c), (0, .ref 0)]) (stk' := [.int (g2 14), .ref 0, .int (10 * g2 15), .int 100000, .ref 0]) (mem' := fm g2 tp bt a b) (by intro _ _ _; eq_refl) ?_
      rw [h14]
      refine fe_ivV (fr_byteAt (S := n) (k := s + i) (g := g2) (tp := tp) (bt := bt) (a := a) (b := b) h11 hT.1 (by omega)) (by omega) (by rfl) (by rfl) (by rfl) (by rfl) (by rfl) (by rfl) ?_
      rw [mb_in hT (by omega), h15]
      refine fe_s 3 (pc' := 164) (lc' := [(1, .int c), (0, .ref 0)]) (stk' := [.int (10 * nI (sp_nv T s i) + nI (T (s + i)) - 48), .int 100000, .ref 0]) (mem' := fm g2 tp bt a b) (by intro _ _ _; eq_refl) ?_
      rw [show (10 : Int32) = nI 10 from rfl, fm_mul, nI_add, show (48 : Int32) = nI 48 from rfl, tg_sub2 (x := 10 * sp_nv T s i + T (s + i)) (y := 48) (by omega)]
      refine fe_s 1 (pc' := 167) (lc' := [(1, .int c), (0, .ref 0)]) (stk' := [.int (if nI (10 * sp_nv T s i + T (s + i) - 48) < 100000 then nI (10 * sp_nv T s i + T (s + i) - 48) else 100000), .ref 0]) (mem' := fm g2 tp bt a b) (by intro _ _ _; eq_refl) ?_
      rw [show (if nI (10 * sp_nv T s i + T (s + i) - 48) < 100000 then nI (10 * sp_nv T s i + T (s + i) - 48) else 100000) = nI (sp_nv T s (i + 1)) from (fm_minI (a := 10 * sp_nv T s i + T (s + i) - 48) (b := 100000) (by omega) (by omega)).trans (by show _ = nI (min 100000 (10 * sp_nv T s i + T (s + i) - 48)); rw [Nat.min_comm])]
      refine fe_s 6 (pc' := 177) (lc' := [(1, .int c), (0, .ref 0)]) (stk' := [.int (g2 14 + 1), .ref 0]) (mem' := fm (upd g2 15 (nI (sp_nv T s (i + 1)))) tp bt a b) (by intro _ _ _; eq_refl) ?_
      rw [h14, show nI (s + i) + 1 = nI (s + (i + 1)) from nI_add (s + i) 1]
      refine fe_s 2 (pc' := 128) (lc' := [(1, .int c), (0, .ref 0)]) (stk' := []) (mem' := fm (upd (upd g2 15 (nI (sp_nv T s (i + 1)))) 14 (nI (s + (i + 1)))) tp bt a b) (by intro _ _ _; eq_refl) ?_
      obtain ⟨R, ⟨g', k1, k2, k3, k4, k5, k6⟩, k7⟩ := ih (i + 1) (by omega) (by omega) (upd (upd g2 15 (nI (sp_nv T s (i + 1)))) 14 (nI (s + (i + 1)))) ((pk_un (by decide)).trans ((pk_un (by decide)).trans h11)) pk_us ((pk_un (by decide)).trans ((pk_un (by decide)).trans h13)) ((pk_un (by decide)).trans pk_us)
      have ee : sp_e sp_dg T n (s + (i + 1)) = sp_e sp_dg T n (s + i) := (sp_e_t (k := s + i) (by omega) hs).symm
      rw [ee] at k2 k3 k5
      exact ⟨R, ⟨g', fm_txt_tr (fm_txt_14 (fm_txt_15 fm_txt_rf)) k1, k2, k3, k4.trans ((pk_un (by decide)).trans (pk_un (by decide))), k5, k6⟩, k7⟩
    · refine fe_ivS (fr_isDigit0 (by omega) (fun z => hs (sp_dg_i.mpr z))) (by omega) (by rfl) (by rfl) (by rfl) (by rfl) (by rfl) ?_
      refine fe_s 1 (pc' := 183) (lc' := [(1, .int c), (0, .ref 0)]) (stk' := []) (mem' := fm g2 tp bt a b) (by intro _ _ _; eq_refl) ?_
      exact fin i g2 hi h14 h13 h15 (sp_e_f (fun z => hs z.2))
theorem mkd_s {k : Nat} (h : k = 1 ∨ k = 2 ∨ k = 3) : mkd k = k + 1 := by
  rcases h with rfl | rfl | rfl <;> rfl
/-- from where the token begins -/
theorem ma_39 (hT : mT a T n) (hp : p ≤ n) {g2 : Nat → Int32} (h11 : g2 11 = nI n) (h14 : g2 14 = nI (sp_s T n p)) : fe_R 1 gk_m224 39 [(0, .ref 0)] [] (fm g2 tp bt a b) (fun R => ∃ g' : Nat → Int32, fm_txt g2 g' ∧ mtk g' T n p ∧ R = (none, fm g' tp bt a b)) := by
  have hb := hT.1
  have hs := sp_s_le (T := T) hp
  refine fe_s 4 (pc' := 47) (lc' := [(0, .ref 0)]) (stk' := []) (mem' := fm (upd g2 13 (g2 14)) tp bt a b) (by intro _ _ _; eq_refl) ?_
  rw [h14]
  refine fe_s 3 (pc' := 52) (lc' := [(0, .ref 0)]) (stk' := [.int (g2 14), .ref 0]) (mem' := fm (upd g2 13 (nI (sp_s T n p))) tp bt a b) (by intro _ _ _; eq_refl) ?_
  rw [h14]
  generalize hg3 : upd g2 13 (nI (sp_s T n p)) = g3
  have h11' : g3 11 = nI n := by rw [← hg3, pk_un (by decide)]; exact h11
  have h14' : g3 14 = nI (sp_s T n p) := by rw [← hg3, pk_un (by decide)]; exact h14
  have h13' : g3 13 = nI (sp_s T n p) := by rw [← hg3, pk_us]
  have hx : fm_txt g2 g3 := by rw [← hg3]; exact fm_txt_13 fm_txt_rf
  refine fe_ivV (fr_byteAt (S := n) (k := sp_s T n p) (g := g3) (tp := tp) (bt := bt) (a := a) (b := b) h11' hT.1 (by omega)) (by omega) (by rfl) (by rfl) (by rfl) (by rfl) (by rfl) (by rfl) ?_
  by_cases h : sp_s T n p < n
  · rw [mb_in hT h]
    obtain ⟨h255, -⟩ := hT.2 _ h
    have key : ∃ c, T (sp_s T n p) = c := ⟨_, rfl⟩
    obtain ⟨c, hc⟩ := key
    rw [hc] at h255
    rw [hc]
    refine fe_s 4 (pc' := 61) (lc' := [(1, .int (nI c)), (0, .ref 0)]) (stk' := []) (mem' := fm (upd g3 15 (nI c)) tp bt a b) (by intro _ _ _; eq_refl) ?_
    generalize hg4 : upd g3 15 (nI c) = g4
    have h11 : g4 11 = nI n := by rw [← hg4, pk_un (by decide)]; exact h11'
    have h14 : g4 14 = nI (sp_s T n p) := by rw [← hg4, pk_un (by decide)]; exact h14'
    have h13 : g4 13 = nI (sp_s T n p) := by rw [← hg4, pk_un (by decide)]; exact h13'
    have h15 : g4 15 = nI c := by rw [← hg4, pk_us]
    have hx : fm_txt g2 g4 := by rw [← hg4]; exact fm_txt_15 hx
    refine fe_s 3 (pc' := cond (fx_cb .ne (nI c) (-1)) 74 66) (lc' := [(1, .int (nI c)), (0, .ref 0)]) (stk' := []) (mem' := fm g4 tp bt a b) (by intro _ _ _; eq_refl) ?_
    rw [show fx_cb .ne (nI c) (-1) = true from cb_n_ne (by omega) (by decide)]
    dsimp only [cond]
    refine fe_s 1 (pc' := 75) (lc' := [(1, .int (nI c)), (0, .ref 0)]) (stk' := [.int (nI c)]) (mem' := fm g4 tp bt a b) (by intro _ _ _; eq_refl) ?_
    by_cases h1 : 97 ≤ c ∧ c ≤ 122
    · have hsm : sp_sm (T (sp_s T n p)) = true := sp_sm_i.mpr (by rw [hc]; exact h1)
      obtain ⟨t1, t2⟩ := sp_t1 h hsm
      refine fe_ivS (fr_isSmall1 h1.1 h1.2) (by omega) (by rfl) (by rfl) (by rfl) (by rfl) (by rfl) ?_
      refine fe_s 1 (pc' := 81) (lc' := [(1, .int (nI c)), (0, .ref 0)]) (stk' := []) (mem' := fm g4 tp bt a b) (by intro _ _ _; eq_refl) ?_
      obtain ⟨R, ⟨g', k1, k2, k3, k4, k5, k6⟩, k7⟩ := ma_81 (tp := tp) (bt := bt) (b := b) (c := nI c) hT (n - sp_s T n p) _ rfl hs g4 h11 h14
      refine ⟨R, ⟨g', fm_txt_tr hx k1, ⟨(k1 11 (by decide) (by decide) (by decide) (by decide)).trans h11, k4.trans h13, ⟨sp_n T n p, k2.trans (by rw [t2]), sp_n_ge, sp_n_le hp, fun _ => rfl⟩, k3.trans (by rw [t1]; rfl), fun z => absurd z (by omega), fun z => absurd z (by omega), ?_⟩, k6⟩, k7⟩
      rw [k5, h15]
      exact fm_vb (by omega)
    · refine fe_ivS (fr_isSmall0 (by omega) h1) (by omega) (by rfl) (by rfl) (by rfl) (by rfl) (by rfl) ?_
      refine fe_s 2 (pc' := 117) (lc' := [(1, .int (nI c)), (0, .ref 0)]) (stk' := [.int (nI c)]) (mem' := fm g4 tp bt a b) (by intro _ _ _; eq_refl) ?_
      by_cases h2 : 48 ≤ c ∧ c ≤ 57
      · have hdg : sp_dg (T (sp_s T n p)) = true := sp_dg_i.mpr (by rw [hc]; exact h2)
        obtain ⟨t1, t2⟩ := sp_t2 h hdg
        refine fe_ivS (fr_isDigit1 h2.1 h2.2) (by omega) (by rfl) (by rfl) (by rfl) (by rfl) (by rfl) ?_
        refine fe_s 4 (pc' := 128) (lc' := [(1, .int (nI c)), (0, .ref 0)]) (stk' := []) (mem' := fm (upd g4 15 0) tp bt a b) (by intro _ _ _; eq_refl) ?_
        obtain ⟨R, ⟨g', k1, k2, k3, k4, k5, k6⟩, k7⟩ := ma_128 (tp := tp) (bt := bt) (b := b) (c := nI c) (s := sp_s T n p) hT (n - (sp_s T n p + 0)) 0 rfl hs (upd g4 15 0) ((pk_un (by decide)).trans h11) ((pk_un (by decide)).trans h14) ((pk_un (by decide)).trans h13) pk_us
        rw [Nat.add_zero, ← t2] at k2 k3 k5
        refine ⟨R, ⟨g', fm_txt_tr (fm_txt_15 hx) k1, ⟨(k1 11 (by decide) (by decide) (by decide) (by decide)).trans ((pk_un (by decide)).trans h11), k4.trans ((pk_un (by decide)).trans h13), ⟨sp_n T n p, k2, sp_n_ge, sp_n_le hp, fun _ => rfl⟩, ?_, fun z => ?_, fun z => ?_, ?_⟩, k6⟩, k7⟩
        · rw [k3, t1]
          split <;> rfl
        · rw [k5]
          rw [t1] at z
          have h4 : sp_n T n p ≤ sp_s T n p + 4 := by
            by_cases h4 : sp_n T n p ≤ sp_s T n p + 4
            · exact h4
            · rw [if_neg h4] at z; omega
          rw [sp_nv_eq _ (by omega) (fun i hi => sp_dg_i.mp (sp_e_all (k := sp_s T n p) (by omega) (by rw [← t2]; omega)))]
          rfl
        · rw [t1] at z
          split at z <;> omega
        · rw [k5]
          exact fm_vb (sp_nv_le _)
      · refine fe_ivS (fr_isDigit0 (by omega) h2) (by omega) (by rfl) (by rfl) (by rfl) (by rfl) (by rfl) ?_
        refine fe_s 6 (pc' := 215) (lc' := [(1, .int (nI c)), (0, .ref 0)]) (stk' := [.int (g4 14 + 1), .ref 0]) (mem' := fm g4 tp bt a b) (by intro _ _ _; eq_refl) ?_
        rw [h14, show nI (sp_s T n p) + 1 = nI (sp_s T n p + 1) from nI_add _ 1]
        refine fe_s 4 (pc' := 222) (lc' := [(1, .int (nI c)), (0, .ref 0)]) (stk' := [.int 59, .int (nI c), .ref 0]) (mem' := fm (upd g4 14 (nI (sp_s T n p + 1))) tp bt a b) (by intro _ _ _; eq_refl) ?_
        generalize hg5 : upd g4 14 (nI (sp_s T n p + 1)) = g5
        have j11 : g5 11 = nI n := by rw [← hg5, pk_un (by decide)]; exact h11
        have j14 : g5 14 = nI (sp_s T n p + 1) := by rw [← hg5, pk_us]
        have j13 : g5 13 = nI (sp_s T n p) := by rw [← hg5, pk_un (by decide)]; exact h13
        have j15 : g5 15 = nI c := by rw [← hg5, pk_un (by decide)]; exact h15
        have hx : fm_txt g2 g5 := by rw [← hg5]; exact fm_txt_14 hx
        have good : 59 ≤ c ∧ c ≤ 62 → fe_R 1 gk_m224 243 [(1, .int (nI c)), (0, .ref 0)] [.ref 0] (fm g5 tp bt a b) (fun R => ∃ g' : Nat → Int32, fm_txt g2 g' ∧ mtk g' T n p ∧ R = (none, fm g' tp bt a b)) := fun h3 => by
          obtain ⟨t1, t2⟩ := sp_t3 h (sp_sg_i.mpr (by rw [hc]; exact h3))
          refine fe_s 3 (pc' := 251) (lc' := [(1, .int (nI c)), (0, .ref 0)]) (stk' := []) (mem' := fm (upd g5 12 4) tp bt a b) (by intro _ _ _; eq_refl) ?_
          refine fe_ret ⟨_, fm_txt_12 hx, ⟨(pk_un (by decide)).trans j11, (pk_un (by decide)).trans j13, ⟨sp_s T n p + 1, (pk_un (by decide)).trans j14, by omega, by omega, fun _ => t2.symm⟩, ?_, fun z => absurd z (by omega), fun _ => ?_, ?_⟩, rfl⟩ (by rfl) (by rfl) (by rfl)
          · rw [pk_us, t1]; rfl
          · rw [pk_un (by decide), j15, hc]
          · rw [pk_un (by decide), j15]; exact fm_vb (by omega)
        have badd : ¬ (59 ≤ c ∧ c ≤ 62) → fe_R 1 gk_m224 247 [(1, .int (nI c)), (0, .ref 0)] [.ref 0] (fm g5 tp bt a b) (fun R => ∃ g' : Nat → Int32, fm_txt g2 g' ∧ mtk g' T n p ∧ R = (none, fm g' tp bt a b)) := fun h3 => by
          obtain ⟨t1, t2⟩ := sp_t4 h (fun z => h1 (by rw [← hc]; exact sp_sm_i.mp z)) (fun z => h2 (by rw [← hc]; exact sp_dg_i.mp z)) (fun z => h3 (by rw [← hc]; exact sp_sg_i.mp z))
          refine fe_s 2 (pc' := 251) (lc' := [(1, .int (nI c)), (0, .ref 0)]) (stk' := []) (mem' := fm (upd g5 12 1) tp bt a b) (by intro _ _ _; eq_refl) ?_
          refine fe_ret ⟨_, fm_txt_12 hx, ⟨(pk_un (by decide)).trans j11, (pk_un (by decide)).trans j13, ⟨sp_s T n p + 1, (pk_un (by decide)).trans j14, by omega, by omega, fun z => absurd t1 z⟩, ?_, fun z => absurd z (by omega), fun z => absurd z (by omega), ?_⟩, rfl⟩ (by rfl) (by rfl) (by rfl)
          · rw [pk_us, t1]; rfl
          · rw [pk_un (by decide), j15]; exact fm_vb (by omega)
        refine fe_s 1 (pc' := cond (fx_cb .eq (nI c) 59) 243 225) (lc' := [(1, .int (nI c)), (0, .ref 0)]) (stk' := [.ref 0]) (mem' := fm g5 tp bt a b) (by intro _ _ _; eq_refl) ?_
        by_cases e1 : c = 59
        · rw [show fx_cb .eq (nI c) 59 = true from cb_eqT (a := c) (b := 59) (by omega) (by omega) e1]
          exact good (by omega)
        rw [show fx_cb .eq (nI c) 59 = false from cb_eqF (a := c) (b := 59) (by omega) (by omega) e1]
        refine fe_s 3 (pc' := cond (fx_cb .eq (nI c) 60) 243 231) (lc' := [(1, .int (nI c)), (0, .ref 0)]) (stk' := [.ref 0]) (mem' := fm g5 tp bt a b) (by intro _ _ _; eq_refl) ?_
        by_cases e2 : c = 60
        · rw [show fx_cb .eq (nI c) 60 = true from cb_eqT (a := c) (b := 60) (by omega) (by omega) e2]
          exact good (by omega)
        rw [show fx_cb .eq (nI c) 60 = false from cb_eqF (a := c) (b := 60) (by omega) (by omega) e2]
        refine fe_s 3 (pc' := cond (fx_cb .eq (nI c) 62) 243 237) (lc' := [(1, .int (nI c)), (0, .ref 0)]) (stk' := [.ref 0]) (mem' := fm g5 tp bt a b) (by intro _ _ _; eq_refl) ?_
        by_cases e3 : c = 62
        · rw [show fx_cb .eq (nI c) 62 = true from cb_eqT (a := c) (b := 62) (by omega) (by omega) e3]
          exact good (by omega)
        rw [show fx_cb .eq (nI c) 62 = false from cb_eqF (a := c) (b := 62) (by omega) (by omega) e3]
        refine fe_s 3 (pc' := cond (fx_cb .ne (nI c) 61) 247 243) (lc' := [(1, .int (nI c)), (0, .ref 0)]) (stk' := [.ref 0]) (mem' := fm g5 tp bt a b) (by intro _ _ _; eq_refl) ?_
        by_cases e4 : c = 61
        · rw [show fx_cb .ne (nI c) 61 = false from cb_neF (a := c) (b := 61) (by omega) (by omega) e4]
          exact good (by omega)
        rw [show fx_cb .ne (nI c) 61 = true from cb_neT (a := c) (b := 61) (by omega) (by omega) e4]
        exact badd (by omega)
  · rw [mb_out h]
    obtain ⟨t1, t2⟩ := sp_t0 h
    refine fe_s 11 (pc' := 251) (lc' := [(1, .int (-1)), (0, .ref 0)]) (stk' := []) (mem' := fm (upd (upd g3 15 (-1)) 12 0) tp bt a b) (by intro _ _ _; eq_refl) ?_
    refine fe_ret ⟨_, fm_txt_12 (fm_txt_15 hx), ⟨(pk_un (by decide)).trans ((pk_un (by decide)).trans h11'), (pk_un (by decide)).trans ((pk_un (by decide)).trans h13'), ⟨sp_s T n p, (pk_un (by decide)).trans ((pk_un (by decide)).trans h14'), Nat.le_refl _, hs, fun _ => t2.symm⟩, ?_, fun z => absurd z (by omega), fun z => absurd z (by omega), ?_⟩, rfl⟩ (by rfl) (by rfl) (by rfl)
    · rw [pk_us, t1]; rfl
    · rw [pk_un (by decide), pk_us]; decide
/-- ahead() from p -/
theorem ma_0 (hT : mT a T n) {s : Nat} (hs : sp_s T n p = s) (hp : p ≤ n) : ∀ (r k : Nat), n - k = r → k ≤ n → ∀ (g2 : Nat → Int32), fm_txt g g2 → g2 11 = nI n → g2 14 = nI k → sp_e sp_ws T n k = s → fe_R 1 gk_m224 0 [(0, .ref 0)] [] (fm g2 tp bt a b) (fun R => ∃ g' : Nat → Int32, fm_txt g g' ∧ mtk g' T n p ∧ R = (none, fm g' tp bt a b)) := by
  have fin : ∀ (k : Nat) (g2 : Nat → Int32), k ≤ n → fm_txt g g2 → g2 11 = nI n → g2 14 = nI k → sp_e sp_ws T n k = s → ¬ (k < n ∧ sp_ws (T k) = true) → fe_R 1 gk_m224 39 [(0, .ref 0)] [] (fm g2 tp bt a b) (fun R => ∃ g' : Nat → Int32, fm_txt g g' ∧ mtk g' T n p ∧ R = (none, fm g' tp bt a b)) := by
    intro k g2 hk hx h11 h14 he hno
    rw [sp_e_f hno] at he
    obtain ⟨R, ⟨g', k1, k2, k3⟩, k4⟩ := ma_39 (tp := tp) (bt := bt) (b := b) hT hp h11 (h14.trans (by rw [hs, he]))
    exact ⟨R, ⟨g', fm_txt_tr hx k1, k2, k3⟩, k4⟩
  intro r
  induction r with
  | zero =>
    intro k hr hk g2 hx h11 h14 he
    have hb := hT.1
    refine fe_s 3 (pc' := 5) (lc' := [(0, .ref 0)]) (stk' := [.int (g2 14), .ref 0]) (mem' := fm g2 tp bt a b) (by intro _ _ _; eq_refl) ?_
    rw [h14]
    refine fe_ivV (fr_byteAt (S := n) (k := k) (g := g2) (tp := tp) (bt := bt) (a := a) (b := b) h11 hT.1 (by omega)) (by omega) (by rfl) (by rfl) (by rfl) (by rfl) (by rfl) (by rfl) ?_
    rw [mb_out (by omega)]
    refine fe_s 5 (pc' := 18) (lc' := [(0, .ref 0)]) (stk' := [.int (g2 14), .ref 0]) (mem' := fm g2 tp bt a b) (by intro _ _ _; eq_refl) ?_
    rw [h14]
    refine fe_ivV (fr_byteAt (S := n) (k := k) (g := g2) (tp := tp) (bt := bt) (a := a) (b := b) h11 hT.1 (by omega)) (by omega) (by rfl) (by rfl) (by rfl) (by rfl) (by rfl) (by rfl) ?_
    rw [mb_out (by omega)]
    refine fe_s 2 (pc' := 39) (lc' := [(0, .ref 0)]) (stk' := []) (mem' := fm g2 tp bt a b) (by intro _ _ _; eq_refl) ?_
    exact fin k g2 hk hx h11 h14 he (by omega)
  | succ r ih =>
    intro k hr hk g2 hx h11 h14 he
    have hb := hT.1
    have h255 := (hT.2 k (by omega)).1
    have next : sp_ws (T k) = true → fe_R 1 gk_m224 26 [(0, .ref 0)] [] (fm g2 tp bt a b) (fun R => ∃ g' : Nat → Int32, fm_txt g g' ∧ mtk g' T n p ∧ R = (none, fm g' tp bt a b)) := fun hw => by
      refine fe_s 5 (pc' := 33) (lc' := [(0, .ref 0)]) (stk' := [.int (g2 14 + 1), .ref 0]) (mem' := fm g2 tp bt a b) (by intro _ _ _; eq_refl) ?_
      rw [h14, show nI k + 1 = nI (k + 1) from nI_add k 1]
      refine fe_s 2 (pc' := 0) (lc' := [(0, .ref 0)]) (stk' := []) (mem' := fm (upd g2 14 (nI (k + 1))) tp bt a b) (by intro _ _ _; eq_refl) ?_
      exact ih (k + 1) (by omega) (by omega) _ (fm_txt_14 hx) ((pk_un (by decide)).trans h11) pk_us (by rw [← he]; exact (sp_e_t (by omega) hw).symm)
    refine fe_s 3 (pc' := 5) (lc' := [(0, .ref 0)]) (stk' := [.int (g2 14), .ref 0]) (mem' := fm g2 tp bt a b) (by intro _ _ _; eq_refl) ?_
    rw [h14]
    refine fe_ivV (fr_byteAt (S := n) (k := k) (g := g2) (tp := tp) (bt := bt) (a := a) (b := b) h11 hT.1 (by omega)) (by omega) (by rfl) (by rfl) (by rfl) (by rfl) (by rfl) (by rfl) ?_
    rw [mb_in hT (by omega)]
    refine fe_s 2 (pc' := cond (fx_cb .eq (nI (T k)) 32) 26 13) (lc' := [(0, .ref 0)]) (stk' := []) (mem' := fm g2 tp bt a b) (by intro _ _ _; eq_refl) ?_
    by_cases e1 : T k = 32
    · rw [show fx_cb .eq (nI (T k)) 32 = true from cb_eqT (a := T k) (b := 32) (by omega) (by omega) e1]
      exact next (sp_ws_i.mpr (Or.inr e1))
    rw [show fx_cb .eq (nI (T k)) 32 = false from cb_eqF (a := T k) (b := 32) (by omega) (by omega) e1]
    refine fe_s 3 (pc' := 18) (lc' := [(0, .ref 0)]) (stk' := [.int (g2 14), .ref 0]) (mem' := fm g2 tp bt a b) (by intro _ _ _; eq_refl) ?_
    rw [h14]
    refine fe_ivV (fr_byteAt (S := n) (k := k) (g := g2) (tp := tp) (bt := bt) (a := a) (b := b) h11 hT.1 (by omega)) (by omega) (by rfl) (by rfl) (by rfl) (by rfl) (by rfl) (by rfl) ?_
    rw [mb_in hT (by omega)]
    refine fe_s 2 (pc' := cond (fx_cb .ne (nI (T k)) 10) 39 26) (lc' := [(0, .ref 0)]) (stk' := []) (mem' := fm g2 tp bt a b) (by intro _ _ _; eq_refl) ?_
    by_cases e2 : T k = 10
    · rw [show fx_cb .ne (nI (T k)) 10 = false from cb_neF (a := T k) (b := 10) (by omega) (by omega) e2]
      exact next (sp_ws_i.mpr (Or.inl e2))
    rw [show fx_cb .ne (nI (T k)) 10 = true from cb_neT (a := T k) (b := 10) (by omega) (by omega) e2]
    exact fin k g2 hk hx h11 h14 he (fun z => by have z2 := sp_ws_i.mp z.2; omega)
theorem mr_ahead (hT : mT a T n) (hp : p ≤ n) (h11 : g 11 = nI n) (h14 : g 14 = nI p) : ∃ g' : Nat → Int32, fr_T 2 224 [.ref 0] (fm g tp bt a b) none (fm g' tp bt a b) ∧ fm_txt g g' ∧ mtk g' T n p := by
  obtain ⟨v, mem', ⟨g', h1, h2, hR⟩, h3⟩ := fe_meth (k := 1) (f := 224) (as := [.ref 0]) (M := gk_m224) (by rfl) (by rfl) (ma_0 (g := g) (tp := tp) (bt := bt) (b := b) hT rfl hp (n - p) p rfl hp g fm_txt_rf h11 h14 rfl)
  cases hR
  exact ⟨g', h3, h1, h2⟩
end MTK
