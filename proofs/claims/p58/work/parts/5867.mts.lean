/-! ===== the model reads the text of TALES: a STEP ===== -/
/-- c STEPS ahead, d open -/
def mSt (T : Nat → Nat) (n : Nat) (A : sp_A) (a0 : Nat → Nat → Int32) (b : Nat → Nat → Int64) (g : Nat → Int32) (a : Nat → Nat → Int32) (x : Nat) : Prop := x / 4 ≤ 30 ∧ g 23 = nI (x / 4) ∧ g 22 = nI (x % 4) ∧ ∃ N, N + x % 4 ≤ 2 * (x / 4) ∧ mTS T n A N a0 a b
def mTR (T : Nat → Nat) (n : Nat) (A : sp_A) (a0 : Nat → Nat → Int32) (b : Nat → Nat → Int64) (r : sp_R) (v : Int32) (g : Nat → Int32) (a : Nat → Nat → Int32) : Prop := (v = 1 ∧ ∃ z, r = .inr z ∧ z.1 = A ∧ mo g T n z.2.2 ∧ mSt T n A a0 b g a z.2.1) ∨ (v = 0 ∧ ∃ z, r = .inl z ∧ mf g z.1 z.2 ∧ mta a0 a)
section MTS
variable {g : Nat → Int32} {tp bt : Int64} {a0 a : Nat → Nat → Int32} {b : Nat → Nat → Int64} {T : Nat → Nat} {n p : Nat} {A : sp_A} {c d N r : Nat}
set_option maxRecDepth 8000 in
theorem mt_st11 (hS : mTS T n A N a0 a b) (h : mo g T n p) (hc : c ≤ 30) (hd : d ≤ 3) (hN : N + d ≤ 2 * c) (h23 : g 23 = nI c) (h22 : g 22 = nI d) (hk : sp_k T n p = 1) (hmw : sp_mw T n p = 11) : ∃ (v : Int32) (g' : Nat → Int32) (a' : Nat → Nat → Int32), fr_T 10 251 [.ref 0] (fm g tp bt a b) (some (.int v)) (fm g' tp bt a' b) ∧ fm_txs g g' ∧ mTR T n A a0 b (tl_k T n A c d p 11) v g' a' := by
  suffices h : ∃ (v : Option Value) (mem' : fx_M), (fun R => ∃ (v : Int32) (g' : Nat → Int32) (a' : Nat → Nat → Int32), (fm_txs g g' ∧ mTR T n A a0 b (tl_k T n A c d p 11) v g' a') ∧ R = (some (.int v), fm g' tp bt a' b)) (v, mem') ∧ fr_T 10 251 [.ref 0] (fm g tp bt a b) v mem' by
    obtain ⟨v, mem', ⟨w, g', a', h1, hR⟩, h2⟩ := h
    cases hR
    exact ⟨w, g', a', h2, h1⟩
  refine fe_meth (f := 251) (as := [.ref 0]) (F := fun R => ∃ (v : Int32) (g' : Nat → Int32) (a' : Nat → Nat → Int32), (fm_txs g g' ∧ mTR T n A a0 b (tl_k T n A c d p 11) v g' a') ∧ R = (some (.int v), fm g' tp bt a' b)) (M := gk_m251) (by rfl) (by rfl) ?_
  refine fe_s 2 (pc' := 3) (lc' := [(0, .ref 0)]) (stk' := [.ref 22, .ref 0]) (mem' := fm g tp bt a b) (by intro _ _ _; eq_refl) ?_
  refine fe_ivV (mr_inWords (tp := tp) (bt := bt) (b := b) hS.1 h.1 h.2.1) (by omega) (by rfl) (by rfl) (by rfl) (by rfl) (by rfl) (by rfl) ?_
  rw [hmw]
  refine fe_s 4 (pc' := 14) (lc' := [(1, .int 11), (0, .ref 0)]) (stk' := [.int 3374, .ref 1]) (mem' := fm g tp bt a b) (by intro _ _ _; eq_refl) ?_
  refine fe_ldI (by rfl) (by rfl) (fx_inN (i := 3374) (by omega) (by omega)) ?_
  rw [show Int32.toNatClampNeg (3374) = 3374 from rfl]
  rw [show a 1 3374 = nI (N) from hS.2.2.2.1]
  refine fe_s 9 (pc' := 28) (lc' := [(3, .int (3846 + (6 * (nI N)))), (2, .int (nI N)), (1, .int 11), (0, .ref 0)]) (stk' := [.int 18, .int 11]) (mem' := fm g tp bt a b) (by intro _ _ _; eq_refl) ?_
  rw [show (3846 + (6 * (nI N)) : Int32) = nI (3846 + (6 * N)) from by simp only [show (3846 : Int32) = nI 3846 from rfl, show (6 : Int32) = nI 6 from rfl, nI_add, fm_mul]]
  refine fe_s 1 (pc' := cond (fx_cb .eq 11 18) 37 31) (lc' := [(3, .int (nI (3846 + (6 * N)))), (2, .int (nI N)), (1, .int 11), (0, .ref 0)]) (stk' := []) (mem' := fm g tp bt a b) (by intro _ _ _; eq_refl) ?_
  rw [show (fx_cb .eq 11 18) = false from by decide]
  dsimp only [cond]
  refine fe_s 2 (pc' := 34) (lc' := [(3, .int (nI (3846 + (6 * N)))), (2, .int (nI N)), (1, .int 11), (0, .ref 0)]) (stk' := [.int 19, .int 11]) (mem' := fm g tp bt a b) (by intro _ _ _; eq_refl) ?_
  refine fe_s 1 (pc' := cond (fx_cb .ne 11 19) 41 37) (lc' := [(3, .int (nI (3846 + (6 * N)))), (2, .int (nI N)), (1, .int 11), (0, .ref 0)]) (stk' := []) (mem' := fm g tp bt a b) (by intro _ _ _; eq_refl) ?_
  rw [show (fx_cb .ne 11 19) = true from by decide]
  dsimp only [cond]
  refine fe_s 4 (pc' := 47) (lc' := [(4, .int 0), (3, .int (nI (3846 + (6 * N)))), (2, .int (nI N)), (1, .int 11), (0, .ref 0)]) (stk' := [.int 11, .int 11]) (mem' := fm g tp bt a b) (by intro _ _ _; eq_refl) ?_
  refine fe_s 1 (pc' := cond (fx_cb .lt 11 11) 81 50) (lc' := [(4, .int 0), (3, .int (nI (3846 + (6 * N)))), (2, .int (nI N)), (1, .int 11), (0, .ref 0)]) (stk' := []) (mem' := fm g tp bt a b) (by intro _ _ _; eq_refl) ?_
  rw [show (fx_cb .lt 11 11) = false from by decide]
  dsimp only [cond]
  refine fe_s 2 (pc' := 53) (lc' := [(4, .int 0), (3, .int (nI (3846 + (6 * N)))), (2, .int (nI N)), (1, .int 11), (0, .ref 0)]) (stk' := [.int 21, .int 11]) (mem' := fm g tp bt a b) (by intro _ _ _; eq_refl) ?_
  refine fe_s 1 (pc' := cond (fx_cb .gt 11 21) 81 56) (lc' := [(4, .int 0), (3, .int (nI (3846 + (6 * N)))), (2, .int (nI N)), (1, .int 11), (0, .ref 0)]) (stk' := []) (mem' := fm g tp bt a b) (by intro _ _ _; eq_refl) ?_
  rw [show (fx_cb .gt 11 21) = false from by decide]
  dsimp only [cond]
  refine fe_s 2 (pc' := 59) (lc' := [(4, .int 0), (3, .int (nI (3846 + (6 * N)))), (2, .int (nI N)), (1, .int 11), (0, .ref 0)]) (stk' := [.int 16, .int 11]) (mem' := fm g tp bt a b) (by intro _ _ _; eq_refl) ?_
  refine fe_s 1 (pc' := cond (fx_cb .eq 11 16) 81 62) (lc' := [(4, .int 0), (3, .int (nI (3846 + (6 * N)))), (2, .int (nI N)), (1, .int 11), (0, .ref 0)]) (stk' := []) (mem' := fm g tp bt a b) (by intro _ _ _; eq_refl) ?_
  rw [show (fx_cb .eq 11 16) = false from by decide]
  dsimp only [cond]
  refine fe_s 2 (pc' := 65) (lc' := [(4, .int 0), (3, .int (nI (3846 + (6 * N)))), (2, .int (nI N)), (1, .int 11), (0, .ref 0)]) (stk' := [.int 17, .int 11]) (mem' := fm g tp bt a b) (by intro _ _ _; eq_refl) ?_
  refine fe_s 1 (pc' := cond (fx_cb .eq 11 17) 81 68) (lc' := [(4, .int 0), (3, .int (nI (3846 + (6 * N)))), (2, .int (nI N)), (1, .int 11), (0, .ref 0)]) (stk' := []) (mem' := fm g tp bt a b) (by intro _ _ _; eq_refl) ?_
  rw [show (fx_cb .eq 11 17) = false from by decide]
  dsimp only [cond]
  refine fe_s 2 (pc' := 71) (lc' := [(4, .int 0), (3, .int (nI (3846 + (6 * N)))), (2, .int (nI N)), (1, .int 11), (0, .ref 0)]) (stk' := [.int 20, .int 11]) (mem' := fm g tp bt a b) (by intro _ _ _; eq_refl) ?_
  refine fe_s 1 (pc' := cond (fx_cb .ne 11 20) 87 74) (lc' := [(4, .int 0), (3, .int (nI (3846 + (6 * N)))), (2, .int (nI N)), (1, .int 11), (0, .ref 0)]) (stk' := []) (mem' := fm g tp bt a b) (by intro _ _ _; eq_refl) ?_
  rw [show (fx_cb .ne 11 20) = true from by decide]
  dsimp only [cond]
  refine fe_s 2 (pc' := 90) (lc' := [(4, .int 0), (3, .int (nI (3846 + (6 * N)))), (2, .int (nI N)), (1, .int 11), (0, .ref 0)]) (stk' := [.int 20, .int 11]) (mem' := fm g tp bt a b) (by intro _ _ _; eq_refl) ?_
  refine fe_s 1 (pc' := cond (fx_cb .eq 11 20) 109 93) (lc' := [(4, .int 0), (3, .int (nI (3846 + (6 * N)))), (2, .int (nI N)), (1, .int 11), (0, .ref 0)]) (stk' := []) (mem' := fm g tp bt a b) (by intro _ _ _; eq_refl) ?_
  rw [show (fx_cb .eq 11 20) = false from by decide]
  dsimp only [cond]
  refine fe_s 3 (pc' := 99) (lc' := [(4, .int 0), (3, .int (nI (3846 + (6 * N)))), (2, .int (nI N)), (1, .int 11), (0, .ref 0)]) (stk' := [.int 30, .int (g 23)]) (mem' := fm g tp bt a b) (by intro _ _ _; eq_refl) ?_
  try rw [h23]
  refine fe_s 1 (pc' := cond (fx_cb .ne (nI c) 30) 109 102) (lc' := [(4, .int 0), (3, .int (nI (3846 + (6 * N)))), (2, .int (nI N)), (1, .int 11), (0, .ref 0)]) (stk' := []) (mem' := fm g tp bt a b) (by intro _ _ _; eq_refl) ?_
  by_cases y2 : c = 30
  · rw [show (fx_cb .ne (nI c) 30) = false from cb_neF (a := c) (b := 30) (by omega) (by omega) (by omega)]
    dsimp only [cond]
    refine fe_s 2 (pc' := 105) (lc' := [(4, .int 0), (3, .int (nI (3846 + (6 * N)))), (2, .int (nI N)), (1, .int 11), (0, .ref 0)]) (stk' := [.int 6, .ref 0]) (mem' := fm g tp bt a b) (by intro _ _ _; eq_refl) ?_
    obtain ⟨gc3, hrc3, txc3, hmc3⟩ := mr_failsx (tp := tp) (bt := bt) (a := a) (b := b) (x := 6) h (by decide) (by omega)
    refine fe_ivV hrc3 (by omega) (by rfl) (by rfl) (by rfl) (by rfl) (by rfl) (by rfl) ?_
    have fc3_23 : gc3 23 = nI c := (txc3 23 (by decide) (by decide) (by decide) (by decide) (by decide) (by decide)).trans h23
    have fc3_22 : gc3 22 = nI d := (txc3 22 (by decide) (by decide) (by decide) (by decide) (by decide) (by decide)).trans h22
    have hXc3 := txt_tr txt_rf (txt_8 txc3)
    exact fe_ret ⟨0, _, _, ⟨hXc3, Or.inr ⟨rfl, (6, sp_s T n p), by rw [show tl_k T n A c d p 11 = (if 30 ≤ c then .inl (6, sp_s T n p) else if false = true ∧ 3 ≤ d then .inl (7, sp_s T n p) else tl_rest T n A 11 (sp_n T n p) (fun q => sp_sign T n 59 q (fun q2 => .inr (A, 4 * (c + 1) + d, q2)))) from rfl, if_pos (by omega)], hmc3, hS.2.2.2.2⟩⟩, rfl⟩ (by rfl) (by rfl) (by rfl)
  · rw [show (fx_cb .ne (nI c) 30) = true from cb_neT (a := c) (b := 30) (by omega) (by omega) (by omega)]
    dsimp only [cond]
    refine fe_s 1 (pc' := 111) (lc' := [(4, .int 0), (3, .int (nI (3846 + (6 * N)))), (2, .int (nI N)), (1, .int 11), (0, .ref 0)]) (stk' := [.int 0]) (mem' := fm g tp bt a b) (by intro _ _ _; eq_refl) ?_
    refine fe_s 1 (pc' := cond (fx_cb .eq 0 0) 129 114) (lc' := [(4, .int 0), (3, .int (nI (3846 + (6 * N)))), (2, .int (nI N)), (1, .int 11), (0, .ref 0)]) (stk' := []) (mem' := fm g tp bt a b) (by intro _ _ _; eq_refl) ?_
    rw [show (fx_cb .eq 0 0) = true from by decide]
    dsimp only [cond]
    refine fe_s 5 (pc' := 137) (lc' := [(4, .int 0), (3, .int (nI (3846 + (6 * N)))), (2, .int (nI N)), (1, .int 11), (0, .ref 0)]) (stk' := [.int 20, .int 11, .int (g 23), .ref 0]) (mem' := fm g tp bt a b) (by intro _ _ _; eq_refl) ?_
    try rw [h23]
    refine fe_s 1 (pc' := cond (fx_cb .ne 11 20) 144 140) (lc' := [(4, .int 0), (3, .int (nI (3846 + (6 * N)))), (2, .int (nI N)), (1, .int 11), (0, .ref 0)]) (stk' := [.int (nI c), .ref 0]) (mem' := fm g tp bt a b) (by intro _ _ _; eq_refl) ?_
    rw [show (fx_cb .ne 11 20) = true from by decide]
    dsimp only [cond]
    refine fe_s 7 (pc' := 155) (lc' := [(4, .int 0), (3, .int (nI (3846 + (6 * N)))), (2, .int (nI N)), (1, .int 11), (0, .ref 0)]) (stk' := [.int 11, .int (nI (3846 + (6 * N))), .ref 1]) (mem' := fm (upd g 23 ((nI c) + 1)) tp bt a b) (by intro _ _ _; eq_refl) ?_
    rw [show ((nI c) + 1 : Int32) = nI (c + 1) from by simp only [show (1 : Int32) = nI 1 from rfl, nI_add, fm_mul]]
    have hmw4 : mo (upd g 23 (nI (c + 1))) T n p := mo_uk h (by decide)
    have hXw4 : fm_txs g (upd g 23 (nI (c + 1))) := txt_tr txt_rf (txt_u (by decide))
    have fw4_22 : (upd g 23 (nI (c + 1))) 22 = nI d := (pk_un (by decide)).trans h22
    have fw4_23 : (upd g 23 (nI (c + 1))) 23 = nI (c + 1) := pk_us
    refine fe_stI (mem' := fm (upd g 23 (nI (c + 1))) tp bt (fm_u a 1 (nI (3846 + (6 * N)) : Int32).toNatClampNeg 11) b) (by rfl) (by rfl) (fx_inN (i := 3846 + (6 * N)) (by omega) (by omega)) fm_si1 ?_
    rw [show Int32.toNatClampNeg (nI (3846 + (6 * N))) = 3846 + (6 * N) from nI_clamp (by omega)]
    have hSs5 : mTS T n A (N) a0 (fm_u a 1 (3846 + (6 * N)) 11) b := mTS_u hS (by omega)
    generalize (fm_u a 1 (3846 + (6 * N)) 11) = as5 at hSs5 ⊢
    refine fe_s 4 (pc' := 163) (lc' := [(5, .int 1), (4, .int 0), (3, .int (nI (3846 + (6 * N)))), (2, .int (nI N)), (1, .int 11), (0, .ref 0)]) (stk' := [.int 6, .int 1]) (mem' := fm (upd g 23 (nI (c + 1))) tp bt as5 b) (by intro _ _ _; eq_refl) ?_
    refine fe_s 1 (pc' := cond (fx_cb .ge 1 6) 182 166) (lc' := [(5, .int 1), (4, .int 0), (3, .int (nI (3846 + (6 * N)))), (2, .int (nI N)), (1, .int 11), (0, .ref 0)]) (stk' := []) (mem' := fm (upd g 23 (nI (c + 1))) tp bt as5 b) (by intro _ _ _; eq_refl) ?_
    rw [show (fx_cb .ge 1 6) = false from by decide]
    dsimp only [cond]
    refine fe_s 6 (pc' := 175) (lc' := [(5, .int 1), (4, .int 0), (3, .int (nI (3846 + (6 * N)))), (2, .int (nI N)), (1, .int 11), (0, .ref 0)]) (stk' := [.int 0, .int ((nI (3846 + (6 * N))) + 1), .ref 1]) (mem' := fm (upd g 23 (nI (c + 1))) tp bt as5 b) (by intro _ _ _; eq_refl) ?_
    rw [show ((nI (3846 + (6 * N))) + 1 : Int32) = nI ((3846 + (6 * N)) + 1) from by simp only [show (1 : Int32) = nI 1 from rfl, nI_add, fm_mul]]
    refine fe_stI (mem' := fm (upd g 23 (nI (c + 1))) tp bt (fm_u as5 1 (nI ((3846 + (6 * N)) + 1) : Int32).toNatClampNeg 0) b) (by rfl) (by rfl) (fx_inN (i := (3846 + (6 * N)) + 1) (by omega) (by omega)) fm_si1 ?_
    rw [show Int32.toNatClampNeg (nI ((3846 + (6 * N)) + 1)) = (3846 + (6 * N)) + 1 from nI_clamp (by omega)]
    have hSs6 : mTS T n A (N) a0 (fm_u as5 1 ((3846 + (6 * N)) + 1) 0) b := mTS_u hSs5 (by omega)
    generalize (fm_u as5 1 ((3846 + (6 * N)) + 1) 0) = as6 at hSs6 ⊢
    refine fe_s 4 (pc' := 163) (lc' := [(5, .int (1 + 1)), (4, .int 0), (3, .int (nI (3846 + (6 * N)))), (2, .int (nI N)), (1, .int 11), (0, .ref 0)]) (stk' := [.int 6, .int (1 + 1)]) (mem' := fm (upd g 23 (nI (c + 1))) tp bt as6 b) (by intro _ _ _; eq_refl) ?_
    rw [show (1 + 1 : Int32) = 2 from rfl]
    refine fe_s 1 (pc' := cond (fx_cb .ge 2 6) 182 166) (lc' := [(5, .int 2), (4, .int 0), (3, .int (nI (3846 + (6 * N)))), (2, .int (nI N)), (1, .int 11), (0, .ref 0)]) (stk' := []) (mem' := fm (upd g 23 (nI (c + 1))) tp bt as6 b) (by intro _ _ _; eq_refl) ?_
    rw [show (fx_cb .ge 2 6) = false from by decide]
    dsimp only [cond]
    refine fe_s 6 (pc' := 175) (lc' := [(5, .int 2), (4, .int 0), (3, .int (nI (3846 + (6 * N)))), (2, .int (nI N)), (1, .int 11), (0, .ref 0)]) (stk' := [.int 0, .int ((nI (3846 + (6 * N))) + 2), .ref 1]) (mem' := fm (upd g 23 (nI (c + 1))) tp bt as6 b) (by intro _ _ _; eq_refl) ?_
    rw [show ((nI (3846 + (6 * N))) + 2 : Int32) = nI ((3846 + (6 * N)) + 2) from by simp only [show (2 : Int32) = nI 2 from rfl, nI_add, fm_mul]]
    refine fe_stI (mem' := fm (upd g 23 (nI (c + 1))) tp bt (fm_u as6 1 (nI ((3846 + (6 * N)) + 2) : Int32).toNatClampNeg 0) b) (by rfl) (by rfl) (fx_inN (i := (3846 + (6 * N)) + 2) (by omega) (by omega)) fm_si1 ?_
    rw [show Int32.toNatClampNeg (nI ((3846 + (6 * N)) + 2)) = (3846 + (6 * N)) + 2 from nI_clamp (by omega)]
    have hSs7 : mTS T n A (N) a0 (fm_u as6 1 ((3846 + (6 * N)) + 2) 0) b := mTS_u hSs6 (by omega)
    generalize (fm_u as6 1 ((3846 + (6 * N)) + 2) 0) = as7 at hSs7 ⊢
    refine fe_s 4 (pc' := 163) (lc' := [(5, .int (2 + 1)), (4, .int 0), (3, .int (nI (3846 + (6 * N)))), (2, .int (nI N)), (1, .int 11), (0, .ref 0)]) (stk' := [.int 6, .int (2 + 1)]) (mem' := fm (upd g 23 (nI (c + 1))) tp bt as7 b) (by intro _ _ _; eq_refl) ?_
    rw [show (2 + 1 : Int32) = 3 from rfl]
    refine fe_s 1 (pc' := cond (fx_cb .ge 3 6) 182 166) (lc' := [(5, .int 3), (4, .int 0), (3, .int (nI (3846 + (6 * N)))), (2, .int (nI N)), (1, .int 11), (0, .ref 0)]) (stk' := []) (mem' := fm (upd g 23 (nI (c + 1))) tp bt as7 b) (by intro _ _ _; eq_refl) ?_
    rw [show (fx_cb .ge 3 6) = false from by decide]
    dsimp only [cond]
    refine fe_s 6 (pc' := 175) (lc' := [(5, .int 3), (4, .int 0), (3, .int (nI (3846 + (6 * N)))), (2, .int (nI N)), (1, .int 11), (0, .ref 0)]) (stk' := [.int 0, .int ((nI (3846 + (6 * N))) + 3), .ref 1]) (mem' := fm (upd g 23 (nI (c + 1))) tp bt as7 b) (by intro _ _ _; eq_refl) ?_
    rw [show ((nI (3846 + (6 * N))) + 3 : Int32) = nI ((3846 + (6 * N)) + 3) from by simp only [show (3 : Int32) = nI 3 from rfl, nI_add, fm_mul]]
    refine fe_stI (mem' := fm (upd g 23 (nI (c + 1))) tp bt (fm_u as7 1 (nI ((3846 + (6 * N)) + 3) : Int32).toNatClampNeg 0) b) (by rfl) (by rfl) (fx_inN (i := (3846 + (6 * N)) + 3) (by omega) (by omega)) fm_si1 ?_
    rw [show Int32.toNatClampNeg (nI ((3846 + (6 * N)) + 3)) = (3846 + (6 * N)) + 3 from nI_clamp (by omega)]
    have hSs8 : mTS T n A (N) a0 (fm_u as7 1 ((3846 + (6 * N)) + 3) 0) b := mTS_u hSs7 (by omega)
    generalize (fm_u as7 1 ((3846 + (6 * N)) + 3) 0) = as8 at hSs8 ⊢
    refine fe_s 4 (pc' := 163) (lc' := [(5, .int (3 + 1)), (4, .int 0), (3, .int (nI (3846 + (6 * N)))), (2, .int (nI N)), (1, .int 11), (0, .ref 0)]) (stk' := [.int 6, .int (3 + 1)]) (mem' := fm (upd g 23 (nI (c + 1))) tp bt as8 b) (by intro _ _ _; eq_refl) ?_
    rw [show (3 + 1 : Int32) = 4 from rfl]
    refine fe_s 1 (pc' := cond (fx_cb .ge 4 6) 182 166) (lc' := [(5, .int 4), (4, .int 0), (3, .int (nI (3846 + (6 * N)))), (2, .int (nI N)), (1, .int 11), (0, .ref 0)]) (stk' := []) (mem' := fm (upd g 23 (nI (c + 1))) tp bt as8 b) (by intro _ _ _; eq_refl) ?_
    rw [show (fx_cb .ge 4 6) = false from by decide]
    dsimp only [cond]
    refine fe_s 6 (pc' := 175) (lc' := [(5, .int 4), (4, .int 0), (3, .int (nI (3846 + (6 * N)))), (2, .int (nI N)), (1, .int 11), (0, .ref 0)]) (stk' := [.int 0, .int ((nI (3846 + (6 * N))) + 4), .ref 1]) (mem' := fm (upd g 23 (nI (c + 1))) tp bt as8 b) (by intro _ _ _; eq_refl) ?_
    rw [show ((nI (3846 + (6 * N))) + 4 : Int32) = nI ((3846 + (6 * N)) + 4) from by simp only [show (4 : Int32) = nI 4 from rfl, nI_add, fm_mul]]
    refine fe_stI (mem' := fm (upd g 23 (nI (c + 1))) tp bt (fm_u as8 1 (nI ((3846 + (6 * N)) + 4) : Int32).toNatClampNeg 0) b) (by rfl) (by rfl) (fx_inN (i := (3846 + (6 * N)) + 4) (by omega) (by omega)) fm_si1 ?_
    rw [show Int32.toNatClampNeg (nI ((3846 + (6 * N)) + 4)) = (3846 + (6 * N)) + 4 from nI_clamp (by omega)]
    have hSs9 : mTS T n A (N) a0 (fm_u as8 1 ((3846 + (6 * N)) + 4) 0) b := mTS_u hSs8 (by omega)
    generalize (fm_u as8 1 ((3846 + (6 * N)) + 4) 0) = as9 at hSs9 ⊢
    refine fe_s 4 (pc' := 163) (lc' := [(5, .int (4 + 1)), (4, .int 0), (3, .int (nI (3846 + (6 * N)))), (2, .int (nI N)), (1, .int 11), (0, .ref 0)]) (stk' := [.int 6, .int (4 + 1)]) (mem' := fm (upd g 23 (nI (c + 1))) tp bt as9 b) (by intro _ _ _; eq_refl) ?_
    rw [show (4 + 1 : Int32) = 5 from rfl]
    refine fe_s 1 (pc' := cond (fx_cb .ge 5 6) 182 166) (lc' := [(5, .int 5), (4, .int 0), (3, .int (nI (3846 + (6 * N)))), (2, .int (nI N)), (1, .int 11), (0, .ref 0)]) (stk' := []) (mem' := fm (upd g 23 (nI (c + 1))) tp bt as9 b) (by intro _ _ _; eq_refl) ?_
    rw [show (fx_cb .ge 5 6) = false from by decide]
    dsimp only [cond]
    refine fe_s 6 (pc' := 175) (lc' := [(5, .int 5), (4, .int 0), (3, .int (nI (3846 + (6 * N)))), (2, .int (nI N)), (1, .int 11), (0, .ref 0)]) (stk' := [.int 0, .int ((nI (3846 + (6 * N))) + 5), .ref 1]) (mem' := fm (upd g 23 (nI (c + 1))) tp bt as9 b) (by intro _ _ _; eq_refl) ?_
    rw [show ((nI (3846 + (6 * N))) + 5 : Int32) = nI ((3846 + (6 * N)) + 5) from by simp only [show (5 : Int32) = nI 5 from rfl, nI_add, fm_mul]]
    refine fe_stI (mem' := fm (upd g 23 (nI (c + 1))) tp bt (fm_u as9 1 (nI ((3846 + (6 * N)) + 5) : Int32).toNatClampNeg 0) b) (by rfl) (by rfl) (fx_inN (i := (3846 + (6 * N)) + 5) (by omega) (by omega)) fm_si1 ?_
    rw [show Int32.toNatClampNeg (nI ((3846 + (6 * N)) + 5)) = (3846 + (6 * N)) + 5 from nI_clamp (by omega)]
    have hSs10 : mTS T n A (N) a0 (fm_u as9 1 ((3846 + (6 * N)) + 5) 0) b := mTS_u hSs9 (by omega)
    generalize (fm_u as9 1 ((3846 + (6 * N)) + 5) 0) = as10 at hSs10 ⊢
    refine fe_s 4 (pc' := 163) (lc' := [(5, .int (5 + 1)), (4, .int 0), (3, .int (nI (3846 + (6 * N)))), (2, .int (nI N)), (1, .int 11), (0, .ref 0)]) (stk' := [.int 6, .int (5 + 1)]) (mem' := fm (upd g 23 (nI (c + 1))) tp bt as10 b) (by intro _ _ _; eq_refl) ?_
    rw [show (5 + 1 : Int32) = 6 from rfl]
    refine fe_s 1 (pc' := cond (fx_cb .ge 6 6) 182 166) (lc' := [(5, .int 6), (4, .int 0), (3, .int (nI (3846 + (6 * N)))), (2, .int (nI N)), (1, .int 11), (0, .ref 0)]) (stk' := []) (mem' := fm (upd g 23 (nI (c + 1))) tp bt as10 b) (by intro _ _ _; eq_refl) ?_
    rw [show (fx_cb .ge 6 6) = true from by decide]
    dsimp only [cond]
    refine fe_s 4 (pc' := 190) (lc' := [(5, .int 6), (4, .int 0), (3, .int (nI (3846 + (6 * N)))), (2, .int (nI N)), (1, .int 11), (0, .ref 0)]) (stk' := [.int 3374, .ref 1, .int 3374, .ref 1]) (mem' := fm (upd g 23 (nI (c + 1))) tp bt as10 b) (by intro _ _ _; eq_refl) ?_
    refine fe_ldI (by rfl) (by rfl) (fx_inN (i := 3374) (by omega) (by omega)) ?_
    rw [show Int32.toNatClampNeg (3374) = 3374 from rfl]
    rw [show as10 1 3374 = nI (N) from hSs10.2.2.2.1]
    refine fe_s 2 (pc' := 193) (lc' := [(5, .int 6), (4, .int 0), (3, .int (nI (3846 + (6 * N)))), (2, .int (nI N)), (1, .int 11), (0, .ref 0)]) (stk' := [.int ((nI N) + 1), .int 3374, .ref 1]) (mem' := fm (upd g 23 (nI (c + 1))) tp bt as10 b) (by intro _ _ _; eq_refl) ?_
    rw [show ((nI N) + 1 : Int32) = nI (N + 1) from by simp only [show (1 : Int32) = nI 1 from rfl, nI_add, fm_mul]]
    refine fe_stI (mem' := fm (upd g 23 (nI (c + 1))) tp bt (fm_u as10 1 (3374 : Int32).toNatClampNeg (nI (N + 1))) b) (by rfl) (by rfl) (fx_inN (i := 3374) (by omega) (by omega)) fm_si1 ?_
    rw [show Int32.toNatClampNeg (3374) = 3374 from rfl]
    have hSs11 : mTS T n A (N + 1) a0 (fm_u as10 1 3374 (nI (N + 1))) b := mTS_N hSs10
    generalize (fm_u as10 1 3374 (nI (N + 1))) = as11 at hSs11 ⊢
    refine fe_s 1 (pc' := 195) (lc' := [(5, .int 6), (4, .int 0), (3, .int (nI (3846 + (6 * N)))), (2, .int (nI N)), (1, .int 11), (0, .ref 0)]) (stk' := [.ref 0]) (mem' := fm (upd g 23 (nI (c + 1))) tp bt as11 b) (by intro _ _ _; eq_refl) ?_
    obtain ⟨gc12, hrc12, txc12, hmc12⟩ := mr_aheado (tp := tp) (bt := bt) (b := b) hSs11.1 hmw4 (by omega)
    refine fe_ivV hrc12 (by omega) (by rfl) (by rfl) (by rfl) (by rfl) (by rfl) (by rfl) ?_
    have fc12_22 : gc12 22 = nI d := (txc12 22 (by decide) (by decide) (by decide) (by decide) (by decide) (by decide)).trans fw4_22
    have fc12_23 : gc12 23 = nI (c + 1) := (txc12 23 (by decide) (by decide) (by decide) (by decide) (by decide) (by decide)).trans fw4_23
    have hXc12 := txt_tr hXw4 (txt_8 txc12)
    refine fe_s 3 (pc' := 201) (lc' := [(5, .int 6), (4, .int 0), (3, .int (nI (3846 + (6 * N)))), (2, .int (nI N)), (1, .int 11), (0, .ref 0)]) (stk' := [.int (nI (3846 + (6 * N))), .int 11, .ref 0]) (mem' := fm gc12 tp bt as11 b) (by intro _ _ _; eq_refl) ?_
    obtain ⟨xc13, gc13, ac13, hrc13, txc13, hSc13, hxc13⟩ := mt_ord11 (tp := tp) (bt := bt) (r := 3846 + (6 * N)) hSs11 hmc12 (by omega)
    refine fe_ivV hrc13 (by omega) (by rfl) (by rfl) (by rfl) (by rfl) (by rfl) (by rfl) ?_
    have fc13_22 : gc13 22 = nI d := (txc13 22 (by decide) (by decide) (by decide) (by decide) (by decide) (by decide)).trans fc12_22
    have fc13_23 : gc13 23 = nI (c + 1) := (txc13 23 (by decide) (by decide) (by decide) (by decide) (by decide) (by decide)).trans fc12_23
    have hXc13 := txt_tr hXc12 (txt_8 txc13)
    rcases hxc13 with ⟨rfl, qc13, hmc13, hqc13⟩ | ⟨rfl, zc13, hmc13, hqc13⟩
    · refine fe_s 1 (pc' := cond (fx_cb .ne 1 0) 209 207) (lc' := [(5, .int 6), (4, .int 0), (3, .int (nI (3846 + (6 * N)))), (2, .int (nI N)), (1, .int 11), (0, .ref 0)]) (stk' := []) (mem' := fm gc13 tp bt ac13 b) (by intro _ _ _; eq_refl) ?_
      rw [show (fx_cb .ne 1 0) = true from by decide]
      dsimp only [cond]
      refine fe_s 1 (pc' := 211) (lc' := [(5, .int 6), (4, .int 0), (3, .int (nI (3846 + (6 * N)))), (2, .int (nI N)), (1, .int 11), (0, .ref 0)]) (stk' := [.int 0]) (mem' := fm gc13 tp bt ac13 b) (by intro _ _ _; eq_refl) ?_
      refine fe_s 1 (pc' := cond (fx_cb .eq 0 0) 234 214) (lc' := [(5, .int 6), (4, .int 0), (3, .int (nI (3846 + (6 * N)))), (2, .int (nI N)), (1, .int 11), (0, .ref 0)]) (stk' := []) (mem' := fm gc13 tp bt ac13 b) (by intro _ _ _; eq_refl) ?_
      rw [show (fx_cb .eq 0 0) = true from by decide]
      dsimp only [cond]
      refine fe_s 2 (pc' := 237) (lc' := [(5, .int 6), (4, .int 0), (3, .int (nI (3846 + (6 * N)))), (2, .int (nI N)), (1, .int 11), (0, .ref 0)]) (stk' := [.int 20, .int 11]) (mem' := fm gc13 tp bt ac13 b) (by intro _ _ _; eq_refl) ?_
      refine fe_s 1 (pc' := cond (fx_cb .ne 11 20) 291 240) (lc' := [(5, .int 6), (4, .int 0), (3, .int (nI (3846 + (6 * N)))), (2, .int (nI N)), (1, .int 11), (0, .ref 0)]) (stk' := []) (mem' := fm gc13 tp bt ac13 b) (by intro _ _ _; eq_refl) ?_
      rw [show (fx_cb .ne 11 20) = true from by decide]
      dsimp only [cond]
      refine fe_s 2 (pc' := 294) (lc' := [(5, .int 6), (4, .int 0), (3, .int (nI (3846 + (6 * N)))), (2, .int (nI N)), (1, .int 11), (0, .ref 0)]) (stk' := [.int 59, .ref 0]) (mem' := fm gc13 tp bt ac13 b) (by intro _ _ _; eq_refl) ?_
      obtain ⟨xc14, gc14, hrc14, txc14, hxc14⟩ := mr_wantSign (tp := tp) (bt := bt) (b := b) (w := 59) hSc13.1 (by decide) hmc13
      refine fe_ivV hrc14 (by omega) (by rfl) (by rfl) (by rfl) (by rfl) (by rfl) (by rfl) ?_
      have fc14_22 : gc14 22 = nI d := (txc14 22 (by decide) (by decide) (by decide) (by decide) (by decide) (by decide)).trans fc13_22
      have fc14_23 : gc14 23 = nI (c + 1) := (txc14 23 (by decide) (by decide) (by decide) (by decide) (by decide) (by decide)).trans fc13_23
      have hXc14 := txt_tr hXc13 (txt_8 txc14)
      rcases hxc14 with ⟨hwc14, rfl, hmc14⟩ | ⟨hwc14, rfl, hmc14⟩
      · refine fe_ret ⟨1, _, _, ⟨hXc14, Or.inl ⟨rfl, (A, 4 * (c + 1) + d, (sp_n T n qc13)), by rw [show tl_k T n A c d p 11 = (if 30 ≤ c then .inl (6, sp_s T n p) else if false = true ∧ 3 ≤ d then .inl (7, sp_s T n p) else tl_rest T n A 11 (sp_n T n p) (fun q => sp_sign T n 59 q (fun q2 => .inr (A, 4 * (c + 1) + d, q2)))) from rfl, if_neg (by omega), if_neg (fun z => by cases z.1), hqc13, sp_sign_t hwc14], rfl, hmc14, ?_⟩⟩, rfl⟩ (by rfl) (by rfl) (by rfl)
        refine ⟨by dsimp only; omega, ?_, ?_, N + 1, by dsimp only; omega, hSc13⟩
        · rw [show (4 * (c + 1) + d) / 4 = c + 1 by omega]; exact fc14_23
        · rw [show (4 * (c + 1) + d) % 4 = d by omega]; exact fc14_22
      · exact fe_ret ⟨0, _, _, ⟨hXc14, Or.inr ⟨rfl, (sp_m T n qc13, sp_s T n qc13), by rw [show tl_k T n A c d p 11 = (if 30 ≤ c then .inl (6, sp_s T n p) else if false = true ∧ 3 ≤ d then .inl (7, sp_s T n p) else tl_rest T n A 11 (sp_n T n p) (fun q => sp_sign T n 59 q (fun q2 => .inr (A, 4 * (c + 1) + d, q2)))) from rfl, if_neg (by omega), if_neg (fun z => by cases z.1), hqc13, sp_sign_f hwc14], hmc14, hSc13.2.2.2.2⟩⟩, rfl⟩ (by rfl) (by rfl) (by rfl)
    · refine fe_s 1 (pc' := cond (fx_cb .ne 0 0) 209 207) (lc' := [(5, .int 6), (4, .int 0), (3, .int (nI (3846 + (6 * N)))), (2, .int (nI N)), (1, .int 11), (0, .ref 0)]) (stk' := []) (mem' := fm gc13 tp bt ac13 b) (by intro _ _ _; eq_refl) ?_
      rw [show (fx_cb .ne 0 0) = false from by decide]
      dsimp only [cond]
      refine fe_s 1 (pc' := 208) (lc' := [(5, .int 6), (4, .int 0), (3, .int (nI (3846 + (6 * N)))), (2, .int (nI N)), (1, .int 11), (0, .ref 0)]) (stk' := [.int 0]) (mem' := fm gc13 tp bt ac13 b) (by intro _ _ _; eq_refl) ?_
      exact fe_ret ⟨0, _, _, ⟨hXc13, Or.inr ⟨rfl, (zc13.1, zc13.2), by rw [show tl_k T n A c d p 11 = (if 30 ≤ c then .inl (6, sp_s T n p) else if false = true ∧ 3 ≤ d then .inl (7, sp_s T n p) else tl_rest T n A 11 (sp_n T n p) (fun q => sp_sign T n 59 q (fun q2 => .inr (A, 4 * (c + 1) + d, q2)))) from rfl, if_neg (by omega), if_neg (fun z => by cases z.1), hqc13], hmc13, hSc13.2.2.2.2⟩⟩, rfl⟩ (by rfl) (by rfl) (by rfl)
set_option maxRecDepth 8000 in
theorem mt_st13 (hS : mTS T n A N a0 a b) (h : mo g T n p) (hc : c ≤ 30) (hd : d ≤ 3) (hN : N + d ≤ 2 * c) (h23 : g 23 = nI c) (h22 : g 22 = nI d) (hk : sp_k T n p = 1) (hmw : sp_mw T n p = 12) : ∃ (v : Int32) (g' : Nat → Int32) (a' : Nat → Nat → Int32), fr_T 10 251 [.ref 0] (fm g tp bt a b) (some (.int v)) (fm g' tp bt a' b) ∧ fm_txs g g' ∧ mTR T n A a0 b (tl_k T n A c d p 13) v g' a' := by
  suffices h : ∃ (v : Option Value) (mem' : fx_M), (fun R => ∃ (v : Int32) (g' : Nat → Int32) (a' : Nat → Nat → Int32), (fm_txs g g' ∧ mTR T n A a0 b (tl_k T n A c d p 13) v g' a') ∧ R = (some (.int v), fm g' tp bt a' b)) (v, mem') ∧ fr_T 10 251 [.ref 0] (fm g tp bt a b) v mem' by
    obtain ⟨v, mem', ⟨w, g', a', h1, hR⟩, h2⟩ := h
    cases hR
    exact ⟨w, g', a', h2, h1⟩
  refine fe_meth (f := 251) (as := [.ref 0]) (F := fun R => ∃ (v : Int32) (g' : Nat → Int32) (a' : Nat → Nat → Int32), (fm_txs g g' ∧ mTR T n A a0 b (tl_k T n A c d p 13) v g' a') ∧ R = (some (.int v), fm g' tp bt a' b)) (M := gk_m251) (by rfl) (by rfl) ?_
  refine fe_s 2 (pc' := 3) (lc' := [(0, .ref 0)]) (stk' := [.ref 22, .ref 0]) (mem' := fm g tp bt a b) (by intro _ _ _; eq_refl) ?_
  refine fe_ivV (mr_inWords (tp := tp) (bt := bt) (b := b) hS.1 h.1 h.2.1) (by omega) (by rfl) (by rfl) (by rfl) (by rfl) (by rfl) (by rfl) ?_
  rw [hmw]
  refine fe_s 4 (pc' := 14) (lc' := [(1, .int 12), (0, .ref 0)]) (stk' := [.int 3374, .ref 1]) (mem' := fm g tp bt a b) (by intro _ _ _; eq_refl) ?_
  refine fe_ldI (by rfl) (by rfl) (fx_inN (i := 3374) (by omega) (by omega)) ?_
  rw [show Int32.toNatClampNeg (3374) = 3374 from rfl]
  rw [show a 1 3374 = nI (N) from hS.2.2.2.1]
  refine fe_s 9 (pc' := 28) (lc' := [(3, .int (3846 + (6 * (nI N)))), (2, .int (nI N)), (1, .int 12), (0, .ref 0)]) (stk' := [.int 18, .int 12]) (mem' := fm g tp bt a b) (by intro _ _ _; eq_refl) ?_
  rw [show (3846 + (6 * (nI N)) : Int32) = nI (3846 + (6 * N)) from by simp only [show (3846 : Int32) = nI 3846 from rfl, show (6 : Int32) = nI 6 from rfl, nI_add, fm_mul]]
  refine fe_s 1 (pc' := cond (fx_cb .eq 12 18) 37 31) (lc' := [(3, .int (nI (3846 + (6 * N)))), (2, .int (nI N)), (1, .int 12), (0, .ref 0)]) (stk' := []) (mem' := fm g tp bt a b) (by intro _ _ _; eq_refl) ?_
  rw [show (fx_cb .eq 12 18) = false from by decide]
  dsimp only [cond]
  refine fe_s 2 (pc' := 34) (lc' := [(3, .int (nI (3846 + (6 * N)))), (2, .int (nI N)), (1, .int 12), (0, .ref 0)]) (stk' := [.int 19, .int 12]) (mem' := fm g tp bt a b) (by intro _ _ _; eq_refl) ?_
  refine fe_s 1 (pc' := cond (fx_cb .ne 12 19) 41 37) (lc' := [(3, .int (nI (3846 + (6 * N)))), (2, .int (nI N)), (1, .int 12), (0, .ref 0)]) (stk' := []) (mem' := fm g tp bt a b) (by intro _ _ _; eq_refl) ?_
  rw [show (fx_cb .ne 12 19) = true from by decide]
  dsimp only [cond]
  refine fe_s 4 (pc' := 47) (lc' := [(4, .int 0), (3, .int (nI (3846 + (6 * N)))), (2, .int (nI N)), (1, .int 12), (0, .ref 0)]) (stk' := [.int 11, .int 12]) (mem' := fm g tp bt a b) (by intro _ _ _; eq_refl) ?_
  refine fe_s 1 (pc' := cond (fx_cb .lt 12 11) 81 50) (lc' := [(4, .int 0), (3, .int (nI (3846 + (6 * N)))), (2, .int (nI N)), (1, .int 12), (0, .ref 0)]) (stk' := []) (mem' := fm g tp bt a b) (by intro _ _ _; eq_refl) ?_
  rw [show (fx_cb .lt 12 11) = false from by decide]
  dsimp only [cond]
  refine fe_s 2 (pc' := 53) (lc' := [(4, .int 0), (3, .int (nI (3846 + (6 * N)))), (2, .int (nI N)), (1, .int 12), (0, .ref 0)]) (stk' := [.int 21, .int 12]) (mem' := fm g tp bt a b) (by intro _ _ _; eq_refl) ?_
  refine fe_s 1 (pc' := cond (fx_cb .gt 12 21) 81 56) (lc' := [(4, .int 0), (3, .int (nI (3846 + (6 * N)))), (2, .int (nI N)), (1, .int 12), (0, .ref 0)]) (stk' := []) (mem' := fm g tp bt a b) (by intro _ _ _; eq_refl) ?_
  rw [show (fx_cb .gt 12 21) = false from by decide]
  dsimp only [cond]
  refine fe_s 2 (pc' := 59) (lc' := [(4, .int 0), (3, .int (nI (3846 + (6 * N)))), (2, .int (nI N)), (1, .int 12), (0, .ref 0)]) (stk' := [.int 16, .int 12]) (mem' := fm g tp bt a b) (by intro _ _ _; eq_refl) ?_
  refine fe_s 1 (pc' := cond (fx_cb .eq 12 16) 81 62) (lc' := [(4, .int 0), (3, .int (nI (3846 + (6 * N)))), (2, .int (nI N)), (1, .int 12), (0, .ref 0)]) (stk' := []) (mem' := fm g tp bt a b) (by intro _ _ _; eq_refl) ?_
  rw [show (fx_cb .eq 12 16) = false from by decide]
  dsimp only [cond]
  refine fe_s 2 (pc' := 65) (lc' := [(4, .int 0), (3, .int (nI (3846 + (6 * N)))), (2, .int (nI N)), (1, .int 12), (0, .ref 0)]) (stk' := [.int 17, .int 12]) (mem' := fm g tp bt a b) (by intro _ _ _; eq_refl) ?_
  refine fe_s 1 (pc' := cond (fx_cb .eq 12 17) 81 68) (lc' := [(4, .int 0), (3, .int (nI (3846 + (6 * N)))), (2, .int (nI N)), (1, .int 12), (0, .ref 0)]) (stk' := []) (mem' := fm g tp bt a b) (by intro _ _ _; eq_refl) ?_
  rw [show (fx_cb .eq 12 17) = false from by decide]
  dsimp only [cond]
  refine fe_s 2 (pc' := 71) (lc' := [(4, .int 0), (3, .int (nI (3846 + (6 * N)))), (2, .int (nI N)), (1, .int 12), (0, .ref 0)]) (stk' := [.int 20, .int 12]) (mem' := fm g tp bt a b) (by intro _ _ _; eq_refl) ?_
  refine fe_s 1 (pc' := cond (fx_cb .ne 12 20) 87 74) (lc' := [(4, .int 0), (3, .int (nI (3846 + (6 * N)))), (2, .int (nI N)), (1, .int 12), (0, .ref 0)]) (stk' := []) (mem' := fm g tp bt a b) (by intro _ _ _; eq_refl) ?_
  rw [show (fx_cb .ne 12 20) = true from by decide]
  dsimp only [cond]
  refine fe_s 2 (pc' := 90) (lc' := [(4, .int 0), (3, .int (nI (3846 + (6 * N)))), (2, .int (nI N)), (1, .int 12), (0, .ref 0)]) (stk' := [.int 20, .int 12]) (mem' := fm g tp bt a b) (by intro _ _ _; eq_refl) ?_
  refine fe_s 1 (pc' := cond (fx_cb .eq 12 20) 109 93) (lc' := [(4, .int 0), (3, .int (nI (3846 + (6 * N)))), (2, .int (nI N)), (1, .int 12), (0, .ref 0)]) (stk' := []) (mem' := fm g tp bt a b) (by intro _ _ _; eq_refl) ?_
  rw [show (fx_cb .eq 12 20) = false from by decide]
  dsimp only [cond]
  refine fe_s 3 (pc' := 99) (lc' := [(4, .int 0), (3, .int (nI (3846 + (6 * N)))), (2, .int (nI N)), (1, .int 12), (0, .ref 0)]) (stk' := [.int 30, .int (g 23)]) (mem' := fm g tp bt a b) (by intro _ _ _; eq_refl) ?_
  try rw [h23]
  refine fe_s 1 (pc' := cond (fx_cb .ne (nI c) 30) 109 102) (lc' := [(4, .int 0), (3, .int (nI (3846 + (6 * N)))), (2, .int (nI N)), (1, .int 12), (0, .ref 0)]) (stk' := []) (mem' := fm g tp bt a b) (by intro _ _ _; eq_refl) ?_
  by_cases y2 : c = 30
  · rw [show (fx_cb .ne (nI c) 30) = false from cb_neF (a := c) (b := 30) (by omega) (by omega) (by omega)]
    dsimp only [cond]
    refine fe_s 2 (pc' := 105) (lc' := [(4, .int 0), (3, .int (nI (3846 + (6 * N)))), (2, .int (nI N)), (1, .int 12), (0, .ref 0)]) (stk' := [.int 6, .ref 0]) (mem' := fm g tp bt a b) (by intro _ _ _; eq_refl) ?_
    obtain ⟨gc3, hrc3, txc3, hmc3⟩ := mr_failsx (tp := tp) (bt := bt) (a := a) (b := b) (x := 6) h (by decide) (by omega)
    refine fe_ivV hrc3 (by omega) (by rfl) (by rfl) (by rfl) (by rfl) (by rfl) (by rfl) ?_
    have fc3_23 : gc3 23 = nI c := (txc3 23 (by decide) (by decide) (by decide) (by decide) (by decide) (by decide)).trans h23
    have fc3_22 : gc3 22 = nI d := (txc3 22 (by decide) (by decide) (by decide) (by decide) (by decide) (by decide)).trans h22
    have hXc3 := txt_tr txt_rf (txt_8 txc3)
    exact fe_ret ⟨0, _, _, ⟨hXc3, Or.inr ⟨rfl, (6, sp_s T n p), by rw [show tl_k T n A c d p 13 = (if 30 ≤ c then .inl (6, sp_s T n p) else if false = true ∧ 3 ≤ d then .inl (7, sp_s T n p) else tl_rest T n A 13 (sp_n T n p) (fun q => sp_sign T n 59 q (fun q2 => .inr (A, 4 * (c + 1) + d, q2)))) from rfl, if_pos (by omega)], hmc3, hS.2.2.2.2⟩⟩, rfl⟩ (by rfl) (by rfl) (by rfl)
  · rw [show (fx_cb .ne (nI c) 30) = true from cb_neT (a := c) (b := 30) (by omega) (by omega) (by omega)]
    dsimp only [cond]
    refine fe_s 1 (pc' := 111) (lc' := [(4, .int 0), (3, .int (nI (3846 + (6 * N)))), (2, .int (nI N)), (1, .int 12), (0, .ref 0)]) (stk' := [.int 0]) (mem' := fm g tp bt a b) (by intro _ _ _; eq_refl) ?_
    refine fe_s 1 (pc' := cond (fx_cb .eq 0 0) 129 114) (lc' := [(4, .int 0), (3, .int (nI (3846 + (6 * N)))), (2, .int (nI N)), (1, .int 12), (0, .ref 0)]) (stk' := []) (mem' := fm g tp bt a b) (by intro _ _ _; eq_refl) ?_
    rw [show (fx_cb .eq 0 0) = true from by decide]
    dsimp only [cond]
    refine fe_s 5 (pc' := 137) (lc' := [(4, .int 0), (3, .int (nI (3846 + (6 * N)))), (2, .int (nI N)), (1, .int 12), (0, .ref 0)]) (stk' := [.int 20, .int 12, .int (g 23), .ref 0]) (mem' := fm g tp bt a b) (by intro _ _ _; eq_refl) ?_
    try rw [h23]
    refine fe_s 1 (pc' := cond (fx_cb .ne 12 20) 144 140) (lc' := [(4, .int 0), (3, .int (nI (3846 + (6 * N)))), (2, .int (nI N)), (1, .int 12), (0, .ref 0)]) (stk' := [.int (nI c), .ref 0]) (mem' := fm g tp bt a b) (by intro _ _ _; eq_refl) ?_
    rw [show (fx_cb .ne 12 20) = true from by decide]
    dsimp only [cond]
    refine fe_s 7 (pc' := 155) (lc' := [(4, .int 0), (3, .int (nI (3846 + (6 * N)))), (2, .int (nI N)), (1, .int 12), (0, .ref 0)]) (stk' := [.int 12, .int (nI (3846 + (6 * N))), .ref 1]) (mem' := fm (upd g 23 ((nI c) + 1)) tp bt a b) (by intro _ _ _; eq_refl) ?_
    rw [show ((nI c) + 1 : Int32) = nI (c + 1) from by simp only [show (1 : Int32) = nI 1 from rfl, nI_add, fm_mul]]
    have hmw4 : mo (upd g 23 (nI (c + 1))) T n p := mo_uk h (by decide)
    have hXw4 : fm_txs g (upd g 23 (nI (c + 1))) := txt_tr txt_rf (txt_u (by decide))
    have fw4_22 : (upd g 23 (nI (c + 1))) 22 = nI d := (pk_un (by decide)).trans h22
    have fw4_23 : (upd g 23 (nI (c + 1))) 23 = nI (c + 1) := pk_us
    refine fe_stI (mem' := fm (upd g 23 (nI (c + 1))) tp bt (fm_u a 1 (nI (3846 + (6 * N)) : Int32).toNatClampNeg 12) b) (by rfl) (by rfl) (fx_inN (i := 3846 + (6 * N)) (by omega) (by omega)) fm_si1 ?_
    rw [show Int32.toNatClampNeg (nI (3846 + (6 * N))) = 3846 + (6 * N) from nI_clamp (by omega)]
    have hSs5 : mTS T n A (N) a0 (fm_u a 1 (3846 + (6 * N)) 12) b := mTS_u hS (by omega)
    generalize (fm_u a 1 (3846 + (6 * N)) 12) = as5 at hSs5 ⊢
    refine fe_s 4 (pc' := 163) (lc' := [(5, .int 1), (4, .int 0), (3, .int (nI (3846 + (6 * N)))), (2, .int (nI N)), (1, .int 12), (0, .ref 0)]) (stk' := [.int 6, .int 1]) (mem' := fm (upd g 23 (nI (c + 1))) tp bt as5 b) (by intro _ _ _; eq_refl) ?_
    refine fe_s 1 (pc' := cond (fx_cb .ge 1 6) 182 166) (lc' := [(5, .int 1), (4, .int 0), (3, .int (nI (3846 + (6 * N)))), (2, .int (nI N)), (1, .int 12), (0, .ref 0)]) (stk' := []) (mem' := fm (upd g 23 (nI (c + 1))) tp bt as5 b) (by intro _ _ _; eq_refl) ?_
    rw [show (fx_cb .ge 1 6) = false from by decide]
    dsimp only [cond]
    refine fe_s 6 (pc' := 175) (lc' := [(5, .int 1), (4, .int 0), (3, .int (nI (3846 + (6 * N)))), (2, .int (nI N)), (1, .int 12), (0, .ref 0)]) (stk' := [.int 0, .int ((nI (3846 + (6 * N))) + 1), .ref 1]) (mem' := fm (upd g 23 (nI (c + 1))) tp bt as5 b) (by intro _ _ _; eq_refl) ?_
    rw [show ((nI (3846 + (6 * N))) + 1 : Int32) = nI ((3846 + (6 * N)) + 1) from by simp only [show (1 : Int32) = nI 1 from rfl, nI_add, fm_mul]]
    refine fe_stI (mem' := fm (upd g 23 (nI (c + 1))) tp bt (fm_u as5 1 (nI ((3846 + (6 * N)) + 1) : Int32).toNatClampNeg 0) b) (by rfl) (by rfl) (fx_inN (i := (3846 + (6 * N)) + 1) (by omega) (by omega)) fm_si1 ?_
    rw [show Int32.toNatClampNeg (nI ((3846 + (6 * N)) + 1)) = (3846 + (6 * N)) + 1 from nI_clamp (by omega)]
    have hSs6 : mTS T n A (N) a0 (fm_u as5 1 ((3846 + (6 * N)) + 1) 0) b := mTS_u hSs5 (by omega)
    generalize (fm_u as5 1 ((3846 + (6 * N)) + 1) 0) = as6 at hSs6 ⊢
    refine fe_s 4 (pc' := 163) (lc' := [(5, .int (1 + 1)), (4, .int 0), (3, .int (nI (3846 + (6 * N)))), (2, .int (nI N)), (1, .int 12), (0, .ref 0)]) (stk' := [.int 6, .int (1 + 1)]) (mem' := fm (upd g 23 (nI (c + 1))) tp bt as6 b) (by intro _ _ _; eq_refl) ?_
    rw [show (1 + 1 : Int32) = 2 from rfl]
    refine fe_s 1 (pc' := cond (fx_cb .ge 2 6) 182 166) (lc' := [(5, .int 2), (4, .int 0), (3, .int (nI (3846 + (6 * N)))), (2, .int (nI N)), (1, .int 12), (0, .ref 0)]) (stk' := []) (mem' := fm (upd g 23 (nI (c + 1))) tp bt as6 b) (by intro _ _ _; eq_refl) ?_
    rw [show (fx_cb .ge 2 6) = false from by decide]
    dsimp only [cond]
    refine fe_s 6 (pc' := 175) (lc' := [(5, .int 2), (4, .int 0), (3, .int (nI (3846 + (6 * N)))), (2, .int (nI N)), (1, .int 12), (0, .ref 0)]) (stk' := [.int 0, .int ((nI (3846 + (6 * N))) + 2), .ref 1]) (mem' := fm (upd g 23 (nI (c + 1))) tp bt as6 b) (by intro _ _ _; eq_refl) ?_
    rw [show ((nI (3846 + (6 * N))) + 2 : Int32) = nI ((3846 + (6 * N)) + 2) from by simp only [show (2 : Int32) = nI 2 from rfl, nI_add, fm_mul]]
    refine fe_stI (mem' := fm (upd g 23 (nI (c + 1))) tp bt (fm_u as6 1 (nI ((3846 + (6 * N)) + 2) : Int32).toNatClampNeg 0) b) (by rfl) (by rfl) (fx_inN (i := (3846 + (6 * N)) + 2) (by omega) (by omega)) fm_si1 ?_
    rw [show Int32.toNatClampNeg (nI ((3846 + (6 * N)) + 2)) = (3846 + (6 * N)) + 2 from nI_clamp (by omega)]
    have hSs7 : mTS T n A (N) a0 (fm_u as6 1 ((3846 + (6 * N)) + 2) 0) b := mTS_u hSs6 (by omega)
    generalize (fm_u as6 1 ((3846 + (6 * N)) + 2) 0) = as7 at hSs7 ⊢
    refine fe_s 4 (pc' := 163) (lc' := [(5, .int (2 + 1)), (4, .int 0), (3, .int (nI (3846 + (6 * N)))), (2, .int (nI N)), (1, .int 12), (0, .ref 0)]) (stk' := [.int 6, .int (2 + 1)]) (mem' := fm (upd g 23 (nI (c + 1))) tp bt as7 b) (by intro _ _ _; eq_refl) ?_
    rw [show (2 + 1 : Int32) = 3 from rfl]
    refine fe_s 1 (pc' := cond (fx_cb .ge 3 6) 182 166) (lc' := [(5, .int 3), (4, .int 0), (3, .int (nI (3846 + (6 * N)))), (2, .int (nI N)), (1, .int 12), (0, .ref 0)]) (stk' := []) (mem' := fm (upd g 23 (nI (c + 1))) tp bt as7 b) (by intro _ _ _; eq_refl) ?_
    rw [show (fx_cb .ge 3 6) = false from by decide]
    dsimp only [cond]
    refine fe_s 6 (pc' := 175) (lc' := [(5, .int 3), (4, .int 0), (3, .int (nI (3846 + (6 * N)))), (2, .int (nI N)), (1, .int 12), (0, .ref 0)]) (stk' := [.int 0, .int ((nI (3846 + (6 * N))) + 3), .ref 1]) (mem' := fm (upd g 23 (nI (c + 1))) tp bt as7 b) (by intro _ _ _; eq_refl) ?_
    rw [show ((nI (3846 + (6 * N))) + 3 : Int32) = nI ((3846 + (6 * N)) + 3) from by simp only [show (3 : Int32) = nI 3 from rfl, nI_add, fm_mul]]
    refine fe_stI (mem' := fm (upd g 23 (nI (c + 1))) tp bt (fm_u as7 1 (nI ((3846 + (6 * N)) + 3) : Int32).toNatClampNeg 0) b) (by rfl) (by rfl) (fx_inN (i := (3846 + (6 * N)) + 3) (by omega) (by omega)) fm_si1 ?_
    rw [show Int32.toNatClampNeg (nI ((3846 + (6 * N)) + 3)) = (3846 + (6 * N)) + 3 from nI_clamp (by omega)]
    have hSs8 : mTS T n A (N) a0 (fm_u as7 1 ((3846 + (6 * N)) + 3) 0) b := mTS_u hSs7 (by omega)
    generalize (fm_u as7 1 ((3846 + (6 * N)) + 3) 0) = as8 at hSs8 ⊢
    refine fe_s 4 (pc' := 163) (lc' := [(5, .int (3 + 1)), (4, .int 0), (3, .int (nI (3846 + (6 * N)))), (2, .int (nI N)), (1, .int 12), (0, .ref 0)]) (stk' := [.int 6, .int (3 + 1)]) (mem' := fm (upd g 23 (nI (c + 1))) tp bt as8 b) (by intro _ _ _; eq_refl) ?_
    rw [show (3 + 1 : Int32) = 4 from rfl]
    refine fe_s 1 (pc' := cond (fx_cb .ge 4 6) 182 166) (lc' := [(5, .int 4), (4, .int 0), (3, .int (nI (3846 + (6 * N)))), (2, .int (nI N)), (1, .int 12), (0, .ref 0)]) (stk' := []) (mem' := fm (upd g 23 (nI (c + 1))) tp bt as8 b) (by intro _ _ _; eq_refl) ?_
    rw [show (fx_cb .ge 4 6) = false from by decide]
    dsimp only [cond]
    refine fe_s 6 (pc' := 175) (lc' := [(5, .int 4), (4, .int 0), (3, .int (nI (3846 + (6 * N)))), (2, .int (nI N)), (1, .int 12), (0, .ref 0)]) (stk' := [.int 0, .int ((nI (3846 + (6 * N))) + 4), .ref 1]) (mem' := fm (upd g 23 (nI (c + 1))) tp bt as8 b) (by intro _ _ _; eq_refl) ?_
    rw [show ((nI (3846 + (6 * N))) + 4 : Int32) = nI ((3846 + (6 * N)) + 4) from by simp only [show (4 : Int32) = nI 4 from rfl, nI_add, fm_mul]]
    refine fe_stI (mem' := fm (upd g 23 (nI (c + 1))) tp bt (fm_u as8 1 (nI ((3846 + (6 * N)) + 4) : Int32).toNatClampNeg 0) b) (by rfl) (by rfl) (fx_inN (i := (3846 + (6 * N)) + 4) (by omega) (by omega)) fm_si1 ?_
    rw [show Int32.toNatClampNeg (nI ((3846 + (6 * N)) + 4)) = (3846 + (6 * N)) + 4 from nI_clamp (by omega)]
    have hSs9 : mTS T n A (N) a0 (fm_u as8 1 ((3846 + (6 * N)) + 4) 0) b := mTS_u hSs8 (by omega)
    generalize (fm_u as8 1 ((3846 + (6 * N)) + 4) 0) = as9 at hSs9 ⊢
    refine fe_s 4 (pc' := 163) (lc' := [(5, .int (4 + 1)), (4, .int 0), (3, .int (nI (3846 + (6 * N)))), (2, .int (nI N)), (1, .int 12), (0, .ref 0)]) (stk' := [.int 6, .int (4 + 1)]) (mem' := fm (upd g 23 (nI (c + 1))) tp bt as9 b) (by intro _ _ _; eq_refl) ?_
    rw [show (4 + 1 : Int32) = 5 from rfl]
    refine fe_s 1 (pc' := cond (fx_cb .ge 5 6) 182 166) (lc' := [(5, .int 5), (4, .int 0), (3, .int (nI (3846 + (6 * N)))), (2, .int (nI N)), (1, .int 12), (0, .ref 0)]) (stk' := []) (mem' := fm (upd g 23 (nI (c + 1))) tp bt as9 b) (by intro _ _ _; eq_refl) ?_
    rw [show (fx_cb .ge 5 6) = false from by decide]
    dsimp only [cond]
    refine fe_s 6 (pc' := 175) (lc' := [(5, .int 5), (4, .int 0), (3, .int (nI (3846 + (6 * N)))), (2, .int (nI N)), (1, .int 12), (0, .ref 0)]) (stk' := [.int 0, .int ((nI (3846 + (6 * N))) + 5), .ref 1]) (mem' := fm (upd g 23 (nI (c + 1))) tp bt as9 b) (by intro _ _ _; eq_refl) ?_
    rw [show ((nI (3846 + (6 * N))) + 5 : Int32) = nI ((3846 + (6 * N)) + 5) from by simp only [show (5 : Int32) = nI 5 from rfl, nI_add, fm_mul]]
    refine fe_stI (mem' := fm (upd g 23 (nI (c + 1))) tp bt (fm_u as9 1 (nI ((3846 + (6 * N)) + 5) : Int32).toNatClampNeg 0) b) (by rfl) (by rfl) (fx_inN (i := (3846 + (6 * N)) + 5) (by omega) (by omega)) fm_si1 ?_
    rw [show Int32.toNatClampNeg (nI ((3846 + (6 * N)) + 5)) = (3846 + (6 * N)) + 5 from nI_clamp (by omega)]
    have hSs10 : mTS T n A (N) a0 (fm_u as9 1 ((3846 + (6 * N)) + 5) 0) b := mTS_u hSs9 (by omega)
    generalize (fm_u as9 1 ((3846 + (6 * N)) + 5) 0) = as10 at hSs10 ⊢
    refine fe_s 4 (pc' := 163) (lc' := [(5, .int (5 + 1)), (4, .int 0), (3, .int (nI (3846 + (6 * N)))), (2, .int (nI N)), (1, .int 12), (0, .ref 0)]) (stk' := [.int 6, .int (5 + 1)]) (mem' := fm (upd g 23 (nI (c + 1))) tp bt as10 b) (by intro _ _ _; eq_refl) ?_
    rw [show (5 + 1 : Int32) = 6 from rfl]
    refine fe_s 1 (pc' := cond (fx_cb .ge 6 6) 182 166) (lc' := [(5, .int 6), (4, .int 0), (3, .int (nI (3846 + (6 * N)))), (2, .int (nI N)), (1, .int 12), (0, .ref 0)]) (stk' := []) (mem' := fm (upd g 23 (nI (c + 1))) tp bt as10 b) (by intro _ _ _; eq_refl) ?_
    rw [show (fx_cb .ge 6 6) = true from by decide]
    dsimp only [cond]
    refine fe_s 4 (pc' := 190) (lc' := [(5, .int 6), (4, .int 0), (3, .int (nI (3846 + (6 * N)))), (2, .int (nI N)), (1, .int 12), (0, .ref 0)]) (stk' := [.int 3374, .ref 1, .int 3374, .ref 1]) (mem' := fm (upd g 23 (nI (c + 1))) tp bt as10 b) (by intro _ _ _; eq_refl) ?_
    refine fe_ldI (by rfl) (by rfl) (fx_inN (i := 3374) (by omega) (by omega)) ?_
    rw [show Int32.toNatClampNeg (3374) = 3374 from rfl]
    rw [show as10 1 3374 = nI (N) from hSs10.2.2.2.1]
    refine fe_s 2 (pc' := 193) (lc' := [(5, .int 6), (4, .int 0), (3, .int (nI (3846 + (6 * N)))), (2, .int (nI N)), (1, .int 12), (0, .ref 0)]) (stk' := [.int ((nI N) + 1), .int 3374, .ref 1]) (mem' := fm (upd g 23 (nI (c + 1))) tp bt as10 b) (by intro _ _ _; eq_refl) ?_
    rw [show ((nI N) + 1 : Int32) = nI (N + 1) from by simp only [show (1 : Int32) = nI 1 from rfl, nI_add, fm_mul]]
    refine fe_stI (mem' := fm (upd g 23 (nI (c + 1))) tp bt (fm_u as10 1 (3374 : Int32).toNatClampNeg (nI (N + 1))) b) (by rfl) (by rfl) (fx_inN (i := 3374) (by omega) (by omega)) fm_si1 ?_
    rw [show Int32.toNatClampNeg (3374) = 3374 from rfl]
    have hSs11 : mTS T n A (N + 1) a0 (fm_u as10 1 3374 (nI (N + 1))) b := mTS_N hSs10
    generalize (fm_u as10 1 3374 (nI (N + 1))) = as11 at hSs11 ⊢
    refine fe_s 1 (pc' := 195) (lc' := [(5, .int 6), (4, .int 0), (3, .int (nI (3846 + (6 * N)))), (2, .int (nI N)), (1, .int 12), (0, .ref 0)]) (stk' := [.ref 0]) (mem' := fm (upd g 23 (nI (c + 1))) tp bt as11 b) (by intro _ _ _; eq_refl) ?_
    obtain ⟨gc12, hrc12, txc12, hmc12⟩ := mr_aheado (tp := tp) (bt := bt) (b := b) hSs11.1 hmw4 (by omega)
    refine fe_ivV hrc12 (by omega) (by rfl) (by rfl) (by rfl) (by rfl) (by rfl) (by rfl) ?_
    have fc12_22 : gc12 22 = nI d := (txc12 22 (by decide) (by decide) (by decide) (by decide) (by decide) (by decide)).trans fw4_22
    have fc12_23 : gc12 23 = nI (c + 1) := (txc12 23 (by decide) (by decide) (by decide) (by decide) (by decide) (by decide)).trans fw4_23
    have hXc12 := txt_tr hXw4 (txt_8 txc12)
    refine fe_s 3 (pc' := 201) (lc' := [(5, .int 6), (4, .int 0), (3, .int (nI (3846 + (6 * N)))), (2, .int (nI N)), (1, .int 12), (0, .ref 0)]) (stk' := [.int (nI (3846 + (6 * N))), .int 12, .ref 0]) (mem' := fm gc12 tp bt as11 b) (by intro _ _ _; eq_refl) ?_
    obtain ⟨xc13, gc13, ac13, hrc13, txc13, hSc13, hxc13⟩ := mt_ord13 (tp := tp) (bt := bt) (r := 3846 + (6 * N)) hSs11 hmc12 (by omega)
    refine fe_ivV hrc13 (by omega) (by rfl) (by rfl) (by rfl) (by rfl) (by rfl) (by rfl) ?_
    have fc13_22 : gc13 22 = nI d := (txc13 22 (by decide) (by decide) (by decide) (by decide) (by decide) (by decide)).trans fc12_22
    have fc13_23 : gc13 23 = nI (c + 1) := (txc13 23 (by decide) (by decide) (by decide) (by decide) (by decide) (by decide)).trans fc12_23
    have hXc13 := txt_tr hXc12 (txt_8 txc13)
    rcases hxc13 with ⟨rfl, qc13, hmc13, hqc13⟩ | ⟨rfl, zc13, hmc13, hqc13⟩
    · refine fe_s 1 (pc' := cond (fx_cb .ne 1 0) 209 207) (lc' := [(5, .int 6), (4, .int 0), (3, .int (nI (3846 + (6 * N)))), (2, .int (nI N)), (1, .int 12), (0, .ref 0)]) (stk' := []) (mem' := fm gc13 tp bt ac13 b) (by intro _ _ _; eq_refl) ?_
      rw [show (fx_cb .ne 1 0) = true from by decide]
      dsimp only [cond]
      refine fe_s 1 (pc' := 211) (lc' := [(5, .int 6), (4, .int 0), (3, .int (nI (3846 + (6 * N)))), (2, .int (nI N)), (1, .int 12), (0, .ref 0)]) (stk' := [.int 0]) (mem' := fm gc13 tp bt ac13 b) (by intro _ _ _; eq_refl) ?_
      refine fe_s 1 (pc' := cond (fx_cb .eq 0 0) 234 214) (lc' := [(5, .int 6), (4, .int 0), (3, .int (nI (3846 + (6 * N)))), (2, .int (nI N)), (1, .int 12), (0, .ref 0)]) (stk' := []) (mem' := fm gc13 tp bt ac13 b) (by intro _ _ _; eq_refl) ?_
      rw [show (fx_cb .eq 0 0) = true from by decide]
      dsimp only [cond]
      refine fe_s 2 (pc' := 237) (lc' := [(5, .int 6), (4, .int 0), (3, .int (nI (3846 + (6 * N)))), (2, .int (nI N)), (1, .int 12), (0, .ref 0)]) (stk' := [.int 20, .int 12]) (mem' := fm gc13 tp bt ac13 b) (by intro _ _ _; eq_refl) ?_
      refine fe_s 1 (pc' := cond (fx_cb .ne 12 20) 291 240) (lc' := [(5, .int 6), (4, .int 0), (3, .int (nI (3846 + (6 * N)))), (2, .int (nI N)), (1, .int 12), (0, .ref 0)]) (stk' := []) (mem' := fm gc13 tp bt ac13 b) (by intro _ _ _; eq_refl) ?_
      rw [show (fx_cb .ne 12 20) = true from by decide]
      dsimp only [cond]
      refine fe_s 2 (pc' := 294) (lc' := [(5, .int 6), (4, .int 0), (3, .int (nI (3846 + (6 * N)))), (2, .int (nI N)), (1, .int 12), (0, .ref 0)]) (stk' := [.int 59, .ref 0]) (mem' := fm gc13 tp bt ac13 b) (by intro _ _ _; eq_refl) ?_
      obtain ⟨xc14, gc14, hrc14, txc14, hxc14⟩ := mr_wantSign (tp := tp) (bt := bt) (b := b) (w := 59) hSc13.1 (by decide) hmc13
      refine fe_ivV hrc14 (by omega) (by rfl) (by rfl) (by rfl) (by rfl) (by rfl) (by rfl) ?_
      have fc14_22 : gc14 22 = nI d := (txc14 22 (by decide) (by decide) (by decide) (by decide) (by decide) (by decide)).trans fc13_22
      have fc14_23 : gc14 23 = nI (c + 1) := (txc14 23 (by decide) (by decide) (by decide) (by decide) (by decide) (by decide)).trans fc13_23
      have hXc14 := txt_tr hXc13 (txt_8 txc14)
      rcases hxc14 with ⟨hwc14, rfl, hmc14⟩ | ⟨hwc14, rfl, hmc14⟩
      · refine fe_ret ⟨1, _, _, ⟨hXc14, Or.inl ⟨rfl, (A, 4 * (c + 1) + d, (sp_n T n qc13)), by rw [show tl_k T n A c d p 13 = (if 30 ≤ c then .inl (6, sp_s T n p) else if false = true ∧ 3 ≤ d then .inl (7, sp_s T n p) else tl_rest T n A 13 (sp_n T n p) (fun q => sp_sign T n 59 q (fun q2 => .inr (A, 4 * (c + 1) + d, q2)))) from rfl, if_neg (by omega), if_neg (fun z => by cases z.1), hqc13, sp_sign_t hwc14], rfl, hmc14, ?_⟩⟩, rfl⟩ (by rfl) (by rfl) (by rfl)
        refine ⟨by dsimp only; omega, ?_, ?_, N + 1, by dsimp only; omega, hSc13⟩
        · rw [show (4 * (c + 1) + d) / 4 = c + 1 by omega]; exact fc14_23
        · rw [show (4 * (c + 1) + d) % 4 = d by omega]; exact fc14_22
      · exact fe_ret ⟨0, _, _, ⟨hXc14, Or.inr ⟨rfl, (sp_m T n qc13, sp_s T n qc13), by rw [show tl_k T n A c d p 13 = (if 30 ≤ c then .inl (6, sp_s T n p) else if false = true ∧ 3 ≤ d then .inl (7, sp_s T n p) else tl_rest T n A 13 (sp_n T n p) (fun q => sp_sign T n 59 q (fun q2 => .inr (A, 4 * (c + 1) + d, q2)))) from rfl, if_neg (by omega), if_neg (fun z => by cases z.1), hqc13, sp_sign_f hwc14], hmc14, hSc13.2.2.2.2⟩⟩, rfl⟩ (by rfl) (by rfl) (by rfl)
    · refine fe_s 1 (pc' := cond (fx_cb .ne 0 0) 209 207) (lc' := [(5, .int 6), (4, .int 0), (3, .int (nI (3846 + (6 * N)))), (2, .int (nI N)), (1, .int 12), (0, .ref 0)]) (stk' := []) (mem' := fm gc13 tp bt ac13 b) (by intro _ _ _; eq_refl) ?_
      rw [show (fx_cb .ne 0 0) = false from by decide]
      dsimp only [cond]
      refine fe_s 1 (pc' := 208) (lc' := [(5, .int 6), (4, .int 0), (3, .int (nI (3846 + (6 * N)))), (2, .int (nI N)), (1, .int 12), (0, .ref 0)]) (stk' := [.int 0]) (mem' := fm gc13 tp bt ac13 b) (by intro _ _ _; eq_refl) ?_
      exact fe_ret ⟨0, _, _, ⟨hXc13, Or.inr ⟨rfl, (zc13.1, zc13.2), by rw [show tl_k T n A c d p 13 = (if 30 ≤ c then .inl (6, sp_s T n p) else if false = true ∧ 3 ≤ d then .inl (7, sp_s T n p) else tl_rest T n A 13 (sp_n T n p) (fun q => sp_sign T n 59 q (fun q2 => .inr (A, 4 * (c + 1) + d, q2)))) from rfl, if_neg (by omega), if_neg (fun z => by cases z.1), hqc13], hmc13, hSc13.2.2.2.2⟩⟩, rfl⟩ (by rfl) (by rfl) (by rfl)
set_option maxRecDepth 8000 in
theorem mt_st14 (hS : mTS T n A N a0 a b) (h : mo g T n p) (hc : c ≤ 30) (hd : d ≤ 3) (hN : N + d ≤ 2 * c) (h23 : g 23 = nI c) (h22 : g 22 = nI d) (hk : sp_k T n p = 1) (hmw : sp_mw T n p = 13) : ∃ (v : Int32) (g' : Nat → Int32) (a' : Nat → Nat → Int32), fr_T 10 251 [.ref 0] (fm g tp bt a b) (some (.int v)) (fm g' tp bt a' b) ∧ fm_txs g g' ∧ mTR T n A a0 b (tl_k T n A c d p 14) v g' a' := by
  suffices h : ∃ (v : Option Value) (mem' : fx_M), (fun R => ∃ (v : Int32) (g' : Nat → Int32) (a' : Nat → Nat → Int32), (fm_txs g g' ∧ mTR T n A a0 b (tl_k T n A c d p 14) v g' a') ∧ R = (some (.int v), fm g' tp bt a' b)) (v, mem') ∧ fr_T 10 251 [.ref 0] (fm g tp bt a b) v mem' by
    obtain ⟨v, mem', ⟨w, g', a', h1, hR⟩, h2⟩ := h
    cases hR
    exact ⟨w, g', a', h2, h1⟩
  refine fe_meth (f := 251) (as := [.ref 0]) (F := fun R => ∃ (v : Int32) (g' : Nat → Int32) (a' : Nat → Nat → Int32), (fm_txs g g' ∧ mTR T n A a0 b (tl_k T n A c d p 14) v g' a') ∧ R = (some (.int v), fm g' tp bt a' b)) (M := gk_m251) (by rfl) (by rfl) ?_
  refine fe_s 2 (pc' := 3) (lc' := [(0, .ref 0)]) (stk' := [.ref 22, .ref 0]) (mem' := fm g tp bt a b) (by intro _ _ _; eq_refl) ?_
  refine fe_ivV (mr_inWords (tp := tp) (bt := bt) (b := b) hS.1 h.1 h.2.1) (by omega) (by rfl) (by rfl) (by rfl) (by rfl) (by rfl) (by rfl) ?_
  rw [hmw]
  refine fe_s 4 (pc' := 14) (lc' := [(1, .int 13), (0, .ref 0)]) (stk' := [.int 3374, .ref 1]) (mem' := fm g tp bt a b) (by intro _ _ _; eq_refl) ?_
  refine fe_ldI (by rfl) (by rfl) (fx_inN (i := 3374) (by omega) (by omega)) ?_
  rw [show Int32.toNatClampNeg (3374) = 3374 from rfl]
  rw [show a 1 3374 = nI (N) from hS.2.2.2.1]
  refine fe_s 9 (pc' := 28) (lc' := [(3, .int (3846 + (6 * (nI N)))), (2, .int (nI N)), (1, .int 13), (0, .ref 0)]) (stk' := [.int 18, .int 13]) (mem' := fm g tp bt a b) (by intro _ _ _; eq_refl) ?_
  rw [show (3846 + (6 * (nI N)) : Int32) = nI (3846 + (6 * N)) from by simp only [show (3846 : Int32) = nI 3846 from rfl, show (6 : Int32) = nI 6 from rfl, nI_add, fm_mul]]
  refine fe_s 1 (pc' := cond (fx_cb .eq 13 18) 37 31) (lc' := [(3, .int (nI (3846 + (6 * N)))), (2, .int (nI N)), (1, .int 13), (0, .ref 0)]) (stk' := []) (mem' := fm g tp bt a b) (by intro _ _ _; eq_refl) ?_
  rw [show (fx_cb .eq 13 18) = false from by decide]
  dsimp only [cond]
  refine fe_s 2 (pc' := 34) (lc' := [(3, .int (nI (3846 + (6 * N)))), (2, .int (nI N)), (1, .int 13), (0, .ref 0)]) (stk' := [.int 19, .int 13]) (mem' := fm g tp bt a b) (by intro _ _ _; eq_refl) ?_
  refine fe_s 1 (pc' := cond (fx_cb .ne 13 19) 41 37) (lc' := [(3, .int (nI (3846 + (6 * N)))), (2, .int (nI N)), (1, .int 13), (0, .ref 0)]) (stk' := []) (mem' := fm g tp bt a b) (by intro _ _ _; eq_refl) ?_
  rw [show (fx_cb .ne 13 19) = true from by decide]
  dsimp only [cond]
  refine fe_s 4 (pc' := 47) (lc' := [(4, .int 0), (3, .int (nI (3846 + (6 * N)))), (2, .int (nI N)), (1, .int 13), (0, .ref 0)]) (stk' := [.int 11, .int 13]) (mem' := fm g tp bt a b) (by intro _ _ _; eq_refl) ?_
  refine fe_s 1 (pc' := cond (fx_cb .lt 13 11) 81 50) (lc' := [(4, .int 0), (3, .int (nI (3846 + (6 * N)))), (2, .int (nI N)), (1, .int 13), (0, .ref 0)]) (stk' := []) (mem' := fm g tp bt a b) (by intro _ _ _; eq_refl) ?_
  rw [show (fx_cb .lt 13 11) = false from by decide]
  dsimp only [cond]
  refine fe_s 2 (pc' := 53) (lc' := [(4, .int 0), (3, .int (nI (3846 + (6 * N)))), (2, .int (nI N)), (1, .int 13), (0, .ref 0)]) (stk' := [.int 21, .int 13]) (mem' := fm g tp bt a b) (by intro _ _ _; eq_refl) ?_
  refine fe_s 1 (pc' := cond (fx_cb .gt 13 21) 81 56) (lc' := [(4, .int 0), (3, .int (nI (3846 + (6 * N)))), (2, .int (nI N)), (1, .int 13), (0, .ref 0)]) (stk' := []) (mem' := fm g tp bt a b) (by intro _ _ _; eq_refl) ?_
  rw [show (fx_cb .gt 13 21) = false from by decide]
  dsimp only [cond]
  refine fe_s 2 (pc' := 59) (lc' := [(4, .int 0), (3, .int (nI (3846 + (6 * N)))), (2, .int (nI N)), (1, .int 13), (0, .ref 0)]) (stk' := [.int 16, .int 13]) (mem' := fm g tp bt a b) (by intro _ _ _; eq_refl) ?_
  refine fe_s 1 (pc' := cond (fx_cb .eq 13 16) 81 62) (lc' := [(4, .int 0), (3, .int (nI (3846 + (6 * N)))), (2, .int (nI N)), (1, .int 13), (0, .ref 0)]) (stk' := []) (mem' := fm g tp bt a b) (by intro _ _ _; eq_refl) ?_
  rw [show (fx_cb .eq 13 16) = false from by decide]
  dsimp only [cond]
  refine fe_s 2 (pc' := 65) (lc' := [(4, .int 0), (3, .int (nI (3846 + (6 * N)))), (2, .int (nI N)), (1, .int 13), (0, .ref 0)]) (stk' := [.int 17, .int 13]) (mem' := fm g tp bt a b) (by intro _ _ _; eq_refl) ?_
  refine fe_s 1 (pc' := cond (fx_cb .eq 13 17) 81 68) (lc' := [(4, .int 0), (3, .int (nI (3846 + (6 * N)))), (2, .int (nI N)), (1, .int 13), (0, .ref 0)]) (stk' := []) (mem' := fm g tp bt a b) (by intro _ _ _; eq_refl) ?_
  rw [show (fx_cb .eq 13 17) = false from by decide]
  dsimp only [cond]
  refine fe_s 2 (pc' := 71) (lc' := [(4, .int 0), (3, .int (nI (3846 + (6 * N)))), (2, .int (nI N)), (1, .int 13), (0, .ref 0)]) (stk' := [.int 20, .int 13]) (mem' := fm g tp bt a b) (by intro _ _ _; eq_refl) ?_
  refine fe_s 1 (pc' := cond (fx_cb .ne 13 20) 87 74) (lc' := [(4, .int 0), (3, .int (nI (3846 + (6 * N)))), (2, .int (nI N)), (1, .int 13), (0, .ref 0)]) (stk' := []) (mem' := fm g tp bt a b) (by intro _ _ _; eq_refl) ?_
  rw [show (fx_cb .ne 13 20) = true from by decide]
  dsimp only [cond]
  refine fe_s 2 (pc' := 90) (lc' := [(4, .int 0), (3, .int (nI (3846 + (6 * N)))), (2, .int (nI N)), (1, .int 13), (0, .ref 0)]) (stk' := [.int 20, .int 13]) (mem' := fm g tp bt a b) (by intro _ _ _; eq_refl) ?_
  refine fe_s 1 (pc' := cond (fx_cb .eq 13 20) 109 93) (lc' := [(4, .int 0), (3, .int (nI (3846 + (6 * N)))), (2, .int (nI N)), (1, .int 13), (0, .ref 0)]) (stk' := []) (mem' := fm g tp bt a b) (by intro _ _ _; eq_refl) ?_
  rw [show (fx_cb .eq 13 20) = false from by decide]
  dsimp only [cond]
  refine fe_s 3 (pc' := 99) (lc' := [(4, .int 0), (3, .int (nI (3846 + (6 * N)))), (2, .int (nI N)), (1, .int 13), (0, .ref 0)]) (stk' := [.int 30, .int (g 23)]) (mem' := fm g tp bt a b) (by intro _ _ _; eq_refl) ?_
  try rw [h23]
  refine fe_s 1 (pc' := cond (fx_cb .ne (nI c) 30) 109 102) (lc' := [(4, .int 0), (3, .int (nI (3846 + (6 * N)))), (2, .int (nI N)), (1, .int 13), (0, .ref 0)]) (stk' := []) (mem' := fm g tp bt a b) (by intro _ _ _; eq_refl) ?_
  by_cases y2 : c = 30
  · rw [show (fx_cb .ne (nI c) 30) = false from cb_neF (a := c) (b := 30) (by omega) (by omega) (by omega)]
    dsimp only [cond]
    refine fe_s 2 (pc' := 105) (lc' := [(4, .int 0), (3, .int (nI (3846 + (6 * N)))), (2, .int (nI N)), (1, .int 13), (0, .ref 0)]) (stk' := [.int 6, .ref 0]) (mem' := fm g tp bt a b) (by intro _ _ _; eq_refl) ?_
    obtain ⟨gc3, hrc3, txc3, hmc3⟩ := mr_failsx (tp := tp) (bt := bt) (a := a) (b := b) (x := 6) h (by decide) (by omega)
    refine fe_ivV hrc3 (by omega) (by rfl) (by rfl) (by rfl) (by rfl) (by rfl) (by rfl) ?_
    have fc3_23 : gc3 23 = nI c := (txc3 23 (by decide) (by decide) (by decide) (by decide) (by decide) (by decide)).trans h23
    have fc3_22 : gc3 22 = nI d := (txc3 22 (by decide) (by decide) (by decide) (by decide) (by decide) (by decide)).trans h22
    have hXc3 := txt_tr txt_rf (txt_8 txc3)
    exact fe_ret ⟨0, _, _, ⟨hXc3, Or.inr ⟨rfl, (6, sp_s T n p), by rw [show tl_k T n A c d p 14 = (if 30 ≤ c then .inl (6, sp_s T n p) else if false = true ∧ 3 ≤ d then .inl (7, sp_s T n p) else tl_rest T n A 14 (sp_n T n p) (fun q => sp_sign T n 59 q (fun q2 => .inr (A, 4 * (c + 1) + d, q2)))) from rfl, if_pos (by omega)], hmc3, hS.2.2.2.2⟩⟩, rfl⟩ (by rfl) (by rfl) (by rfl)
  · rw [show (fx_cb .ne (nI c) 30) = true from cb_neT (a := c) (b := 30) (by omega) (by omega) (by omega)]
    dsimp only [cond]
    refine fe_s 1 (pc' := 111) (lc' := [(4, .int 0), (3, .int (nI (3846 + (6 * N)))), (2, .int (nI N)), (1, .int 13), (0, .ref 0)]) (stk' := [.int 0]) (mem' := fm g tp bt a b) (by intro _ _ _; eq_refl) ?_
    refine fe_s 1 (pc' := cond (fx_cb .eq 0 0) 129 114) (lc' := [(4, .int 0), (3, .int (nI (3846 + (6 * N)))), (2, .int (nI N)), (1, .int 13), (0, .ref 0)]) (stk' := []) (mem' := fm g tp bt a b) (by intro _ _ _; eq_refl) ?_
    rw [show (fx_cb .eq 0 0) = true from by decide]
    dsimp only [cond]
    refine fe_s 5 (pc' := 137) (lc' := [(4, .int 0), (3, .int (nI (3846 + (6 * N)))), (2, .int (nI N)), (1, .int 13), (0, .ref 0)]) (stk' := [.int 20, .int 13, .int (g 23), .ref 0]) (mem' := fm g tp bt a b) (by intro _ _ _; eq_refl) ?_
    try rw [h23]
    refine fe_s 1 (pc' := cond (fx_cb .ne 13 20) 144 140) (lc' := [(4, .int 0), (3, .int (nI (3846 + (6 * N)))), (2, .int (nI N)), (1, .int 13), (0, .ref 0)]) (stk' := [.int (nI c), .ref 0]) (mem' := fm g tp bt a b) (by intro _ _ _; eq_refl) ?_
    rw [show (fx_cb .ne 13 20) = true from by decide]
    dsimp only [cond]
    refine fe_s 7 (pc' := 155) (lc' := [(4, .int 0), (3, .int (nI (3846 + (6 * N)))), (2, .int (nI N)), (1, .int 13), (0, .ref 0)]) (stk' := [.int 13, .int (nI (3846 + (6 * N))), .ref 1]) (mem' := fm (upd g 23 ((nI c) + 1)) tp bt a b) (by intro _ _ _; eq_refl) ?_
    rw [show ((nI c) + 1 : Int32) = nI (c + 1) from by simp only [show (1 : Int32) = nI 1 from rfl, nI_add, fm_mul]]
    have hmw4 : mo (upd g 23 (nI (c + 1))) T n p := mo_uk h (by decide)
    have hXw4 : fm_txs g (upd g 23 (nI (c + 1))) := txt_tr txt_rf (txt_u (by decide))
    have fw4_22 : (upd g 23 (nI (c + 1))) 22 = nI d := (pk_un (by decide)).trans h22
    have fw4_23 : (upd g 23 (nI (c + 1))) 23 = nI (c + 1) := pk_us
    refine fe_stI (mem' := fm (upd g 23 (nI (c + 1))) tp bt (fm_u a 1 (nI (3846 + (6 * N)) : Int32).toNatClampNeg 13) b) (by rfl) (by rfl) (fx_inN (i := 3846 + (6 * N)) (by omega) (by omega)) fm_si1 ?_
    rw [show Int32.toNatClampNeg (nI (3846 + (6 * N))) = 3846 + (6 * N) from nI_clamp (by omega)]
    have hSs5 : mTS T n A (N) a0 (fm_u a 1 (3846 + (6 * N)) 13) b := mTS_u hS (by omega)
    generalize (fm_u a 1 (3846 + (6 * N)) 13) = as5 at hSs5 ⊢
    refine fe_s 4 (pc' := 163) (lc' := [(5, .int 1), (4, .int 0), (3, .int (nI (3846 + (6 * N)))), (2, .int (nI N)), (1, .int 13), (0, .ref 0)]) (stk' := [.int 6, .int 1]) (mem' := fm (upd g 23 (nI (c + 1))) tp bt as5 b) (by intro _ _ _; eq_refl) ?_
    refine fe_s 1 (pc' := cond (fx_cb .ge 1 6) 182 166) (lc' := [(5, .int 1), (4, .int 0), (3, .int (nI (3846 + (6 * N)))), (2, .int (nI N)), (1, .int 13), (0, .ref 0)]) (stk' := []) (mem' := fm (upd g 23 (nI (c + 1))) tp bt as5 b) (by intro _ _ _; eq_refl) ?_
    rw [show (fx_cb .ge 1 6) = false from by decide]
    dsimp only [cond]
    refine fe_s 6 (pc' := 175) (lc' := [(5, .int 1), (4, .int 0), (3, .int (nI (3846 + (6 * N)))), (2, .int (nI N)), (1, .int 13), (0, .ref 0)]) (stk' := [.int 0, .int ((nI (3846 + (6 * N))) + 1), .ref 1]) (mem' := fm (upd g 23 (nI (c + 1))) tp bt as5 b) (by intro _ _ _; eq_refl) ?_
    rw [show ((nI (3846 + (6 * N))) + 1 : Int32) = nI ((3846 + (6 * N)) + 1) from by simp only [show (1 : Int32) = nI 1 from rfl, nI_add, fm_mul]]
    refine fe_stI (mem' := fm (upd g 23 (nI (c + 1))) tp bt (fm_u as5 1 (nI ((3846 + (6 * N)) + 1) : Int32).toNatClampNeg 0) b) (by rfl) (by rfl) (fx_inN (i := (3846 + (6 * N)) + 1) (by omega) (by omega)) fm_si1 ?_
    rw [show Int32.toNatClampNeg (nI ((3846 + (6 * N)) + 1)) = (3846 + (6 * N)) + 1 from nI_clamp (by omega)]
    have hSs6 : mTS T n A (N) a0 (fm_u as5 1 ((3846 + (6 * N)) + 1) 0) b := mTS_u hSs5 (by omega)
    generalize (fm_u as5 1 ((3846 + (6 * N)) + 1) 0) = as6 at hSs6 ⊢
    refine fe_s 4 (pc' := 163) (lc' := [(5, .int (1 + 1)), (4, .int 0), (3, .int (nI (3846 + (6 * N)))), (2, .int (nI N)), (1, .int 13), (0, .ref 0)]) (stk' := [.int 6, .int (1 + 1)]) (mem' := fm (upd g 23 (nI (c + 1))) tp bt as6 b) (by intro _ _ _; eq_refl) ?_
    rw [show (1 + 1 : Int32) = 2 from rfl]
    refine fe_s 1 (pc' := cond (fx_cb .ge 2 6) 182 166) (lc' := [(5, .int 2), (4, .int 0), (3, .int (nI (3846 + (6 * N)))), (2, .int (nI N)), (1, .int 13), (0, .ref 0)]) (stk' := []) (mem' := fm (upd g 23 (nI (c + 1))) tp bt as6 b) (by intro _ _ _; eq_refl) ?_
    rw [show (fx_cb .ge 2 6) = false from by decide]
    dsimp only [cond]
    refine fe_s 6 (pc' := 175) (lc' := [(5, .int 2), (4, .int 0), (3, .int (nI (3846 + (6 * N)))), (2, .int (nI N)), (1, .int 13), (0, .ref 0)]) (stk' := [.int 0, .int ((nI (3846 + (6 * N))) + 2), .ref 1]) (mem' := fm (upd g 23 (nI (c + 1))) tp bt as6 b) (by intro _ _ _; eq_refl) ?_
    rw [show ((nI (3846 + (6 * N))) + 2 : Int32) = nI ((3846 + (6 * N)) + 2) from by simp only [show (2 : Int32) = nI 2 from rfl, nI_add, fm_mul]]
    refine fe_stI (mem' := fm (upd g 23 (nI (c + 1))) tp bt (fm_u as6 1 (nI ((3846 + (6 * N)) + 2) : Int32).toNatClampNeg 0) b) (by rfl) (by rfl) (fx_inN (i := (3846 + (6 * N)) + 2) (by omega) (by omega)) fm_si1 ?_
    rw [show Int32.toNatClampNeg (nI ((3846 + (6 * N)) + 2)) = (3846 + (6 * N)) + 2 from nI_clamp (by omega)]
    have hSs7 : mTS T n A (N) a0 (fm_u as6 1 ((3846 + (6 * N)) + 2) 0) b := mTS_u hSs6 (by omega)
    generalize (fm_u as6 1 ((3846 + (6 * N)) + 2) 0) = as7 at hSs7 ⊢
    refine fe_s 4 (pc' := 163) (lc' := [(5, .int (2 + 1)), (4, .int 0), (3, .int (nI (3846 + (6 * N)))), (2, .int (nI N)), (1, .int 13), (0, .ref 0)]) (stk' := [.int 6, .int (2 + 1)]) (mem' := fm (upd g 23 (nI (c + 1))) tp bt as7 b) (by intro _ _ _; eq_refl) ?_
    rw [show (2 + 1 : Int32) = 3 from rfl]
    refine fe_s 1 (pc' := cond (fx_cb .ge 3 6) 182 166) (lc' := [(5, .int 3), (4, .int 0), (3, .int (nI (3846 + (6 * N)))), (2, .int (nI N)), (1, .int 13), (0, .ref 0)]) (stk' := []) (mem' := fm (upd g 23 (nI (c + 1))) tp bt as7 b) (by intro _ _ _; eq_refl) ?_
    rw [show (fx_cb .ge 3 6) = false from by decide]
    dsimp only [cond]
    refine fe_s 6 (pc' := 175) (lc' := [(5, .int 3), (4, .int 0), (3, .int (nI (3846 + (6 * N)))), (2, .int (nI N)), (1, .int 13), (0, .ref 0)]) (stk' := [.int 0, .int ((nI (3846 + (6 * N))) + 3), .ref 1]) (mem' := fm (upd g 23 (nI (c + 1))) tp bt as7 b) (by intro _ _ _; eq_refl) ?_
    rw [show ((nI (3846 + (6 * N))) + 3 : Int32) = nI ((3846 + (6 * N)) + 3) from by simp only [show (3 : Int32) = nI 3 from rfl, nI_add, fm_mul]]
    refine fe_stI (mem' := fm (upd g 23 (nI (c + 1))) tp bt (fm_u as7 1 (nI ((3846 + (6 * N)) + 3) : Int32).toNatClampNeg 0) b) (by rfl) (by rfl) (fx_inN (i := (3846 + (6 * N)) + 3) (by omega) (by omega)) fm_si1 ?_
    rw [show Int32.toNatClampNeg (nI ((3846 + (6 * N)) + 3)) = (3846 + (6 * N)) + 3 from nI_clamp (by omega)]
    have hSs8 : mTS T n A (N) a0 (fm_u as7 1 ((3846 + (6 * N)) + 3) 0) b := mTS_u hSs7 (by omega)
    generalize (fm_u as7 1 ((3846 + (6 * N)) + 3) 0) = as8 at hSs8 ⊢
    refine fe_s 4 (pc' := 163) (lc' := [(5, .int (3 + 1)), (4, .int 0), (3, .int (nI (3846 + (6 * N)))), (2, .int (nI N)), (1, .int 13), (0, .ref 0)]) (stk' := [.int 6, .int (3 + 1)]) (mem' := fm (upd g 23 (nI (c + 1))) tp bt as8 b) (by intro _ _ _; eq_refl) ?_
    rw [show (3 + 1 : Int32) = 4 from rfl]
    refine fe_s 1 (pc' := cond (fx_cb .ge 4 6) 182 166) (lc' := [(5, .int 4), (4, .int 0), (3, .int (nI (3846 + (6 * N)))), (2, .int (nI N)), (1, .int 13), (0, .ref 0)]) (stk' := []) (mem' := fm (upd g 23 (nI (c + 1))) tp bt as8 b) (by intro _ _ _; eq_refl) ?_
    rw [show (fx_cb .ge 4 6) = false from by decide]
    dsimp only [cond]
    refine fe_s 6 (pc' := 175) (lc' := [(5, .int 4), (4, .int 0), (3, .int (nI (3846 + (6 * N)))), (2, .int (nI N)), (1, .int 13), (0, .ref 0)]) (stk' := [.int 0, .int ((nI (3846 + (6 * N))) + 4), .ref 1]) (mem' := fm (upd g 23 (nI (c + 1))) tp bt as8 b) (by intro _ _ _; eq_refl) ?_
    rw [show ((nI (3846 + (6 * N))) + 4 : Int32) = nI ((3846 + (6 * N)) + 4) from by simp only [show (4 : Int32) = nI 4 from rfl, nI_add, fm_mul]]
    refine fe_stI (mem' := fm (upd g 23 (nI (c + 1))) tp bt (fm_u as8 1 (nI ((3846 + (6 * N)) + 4) : Int32).toNatClampNeg 0) b) (by rfl) (by rfl) (fx_inN (i := (3846 + (6 * N)) + 4) (by omega) (by omega)) fm_si1 ?_
    rw [show Int32.toNatClampNeg (nI ((3846 + (6 * N)) + 4)) = (3846 + (6 * N)) + 4 from nI_clamp (by omega)]
    have hSs9 : mTS T n A (N) a0 (fm_u as8 1 ((3846 + (6 * N)) + 4) 0) b := mTS_u hSs8 (by omega)
    generalize (fm_u as8 1 ((3846 + (6 * N)) + 4) 0) = as9 at hSs9 ⊢
    refine fe_s 4 (pc' := 163) (lc' := [(5, .int (4 + 1)), (4, .int 0), (3, .int (nI (3846 + (6 * N)))), (2, .int (nI N)), (1, .int 13), (0, .ref 0)]) (stk' := [.int 6, .int (4 + 1)]) (mem' := fm (upd g 23 (nI (c + 1))) tp bt as9 b) (by intro _ _ _; eq_refl) ?_
    rw [show (4 + 1 : Int32) = 5 from rfl]
    refine fe_s 1 (pc' := cond (fx_cb .ge 5 6) 182 166) (lc' := [(5, .int 5), (4, .int 0), (3, .int (nI (3846 + (6 * N)))), (2, .int (nI N)), (1, .int 13), (0, .ref 0)]) (stk' := []) (mem' := fm (upd g 23 (nI (c + 1))) tp bt as9 b) (by intro _ _ _; eq_refl) ?_
    rw [show (fx_cb .ge 5 6) = false from by decide]
    dsimp only [cond]
    refine fe_s 6 (pc' := 175) (lc' := [(5, .int 5), (4, .int 0), (3, .int (nI (3846 + (6 * N)))), (2, .int (nI N)), (1, .int 13), (0, .ref 0)]) (stk' := [.int 0, .int ((nI (3846 + (6 * N))) + 5), .ref 1]) (mem' := fm (upd g 23 (nI (c + 1))) tp bt as9 b) (by intro _ _ _; eq_refl) ?_
    rw [show ((nI (3846 + (6 * N))) + 5 : Int32) = nI ((3846 + (6 * N)) + 5) from by simp only [show (5 : Int32) = nI 5 from rfl, nI_add, fm_mul]]
    refine fe_stI (mem' := fm (upd g 23 (nI (c + 1))) tp bt (fm_u as9 1 (nI ((3846 + (6 * N)) + 5) : Int32).toNatClampNeg 0) b) (by rfl) (by rfl) (fx_inN (i := (3846 + (6 * N)) + 5) (by omega) (by omega)) fm_si1 ?_
    rw [show Int32.toNatClampNeg (nI ((3846 + (6 * N)) + 5)) = (3846 + (6 * N)) + 5 from nI_clamp (by omega)]
    have hSs10 : mTS T n A (N) a0 (fm_u as9 1 ((3846 + (6 * N)) + 5) 0) b := mTS_u hSs9 (by omega)
    generalize (fm_u as9 1 ((3846 + (6 * N)) + 5) 0) = as10 at hSs10 ⊢
    refine fe_s 4 (pc' := 163) (lc' := [(5, .int (5 + 1)), (4, .int 0), (3, .int (nI (3846 + (6 * N)))), (2, .int (nI N)), (1, .int 13), (0, .ref 0)]) (stk' := [.int 6, .int (5 + 1)]) (mem' := fm (upd g 23 (nI (c + 1))) tp bt as10 b) (by intro _ _ _; eq_refl) ?_
    rw [show (5 + 1 : Int32) = 6 from rfl]
    refine fe_s 1 (pc' := cond (fx_cb .ge 6 6) 182 166) (lc' := [(5, .int 6), (4, .int 0), (3, .int (nI (3846 + (6 * N)))), (2, .int (nI N)), (1, .int 13), (0, .ref 0)]) (stk' := []) (mem' := fm (upd g 23 (nI (c + 1))) tp bt as10 b) (by intro _ _ _; eq_refl) ?_
    rw [show (fx_cb .ge 6 6) = true from by decide]
    dsimp only [cond]
    refine fe_s 4 (pc' := 190) (lc' := [(5, .int 6), (4, .int 0), (3, .int (nI (3846 + (6 * N)))), (2, .int (nI N)), (1, .int 13), (0, .ref 0)]) (stk' := [.int 3374, .ref 1, .int 3374, .ref 1]) (mem' := fm (upd g 23 (nI (c + 1))) tp bt as10 b) (by intro _ _ _; eq_refl) ?_
    refine fe_ldI (by rfl) (by rfl) (fx_inN (i := 3374) (by omega) (by omega)) ?_
    rw [show Int32.toNatClampNeg (3374) = 3374 from rfl]
    rw [show as10 1 3374 = nI (N) from hSs10.2.2.2.1]
    refine fe_s 2 (pc' := 193) (lc' := [(5, .int 6), (4, .int 0), (3, .int (nI (3846 + (6 * N)))), (2, .int (nI N)), (1, .int 13), (0, .ref 0)]) (stk' := [.int ((nI N) + 1), .int 3374, .ref 1]) (mem' := fm (upd g 23 (nI (c + 1))) tp bt as10 b) (by intro _ _ _; eq_refl) ?_
    rw [show ((nI N) + 1 : Int32) = nI (N + 1) from by simp only [show (1 : Int32) = nI 1 from rfl, nI_add, fm_mul]]
    refine fe_stI (mem' := fm (upd g 23 (nI (c + 1))) tp bt (fm_u as10 1 (3374 : Int32).toNatClampNeg (nI (N + 1))) b) (by rfl) (by rfl) (fx_inN (i := 3374) (by omega) (by omega)) fm_si1 ?_
    rw [show Int32.toNatClampNeg (3374) = 3374 from rfl]
    have hSs11 : mTS T n A (N + 1) a0 (fm_u as10 1 3374 (nI (N + 1))) b := mTS_N hSs10
    generalize (fm_u as10 1 3374 (nI (N + 1))) = as11 at hSs11 ⊢
    refine fe_s 1 (pc' := 195) (lc' := [(5, .int 6), (4, .int 0), (3, .int (nI (3846 + (6 * N)))), (2, .int (nI N)), (1, .int 13), (0, .ref 0)]) (stk' := [.ref 0]) (mem' := fm (upd g 23 (nI (c + 1))) tp bt as11 b) (by intro _ _ _; eq_refl) ?_
    obtain ⟨gc12, hrc12, txc12, hmc12⟩ := mr_aheado (tp := tp) (bt := bt) (b := b) hSs11.1 hmw4 (by omega)
    refine fe_ivV hrc12 (by omega) (by rfl) (by rfl) (by rfl) (by rfl) (by rfl) (by rfl) ?_
    have fc12_22 : gc12 22 = nI d := (txc12 22 (by decide) (by decide) (by decide) (by decide) (by decide) (by decide)).trans fw4_22
    have fc12_23 : gc12 23 = nI (c + 1) := (txc12 23 (by decide) (by decide) (by decide) (by decide) (by decide) (by decide)).trans fw4_23
    have hXc12 := txt_tr hXw4 (txt_8 txc12)
    refine fe_s 3 (pc' := 201) (lc' := [(5, .int 6), (4, .int 0), (3, .int (nI (3846 + (6 * N)))), (2, .int (nI N)), (1, .int 13), (0, .ref 0)]) (stk' := [.int (nI (3846 + (6 * N))), .int 13, .ref 0]) (mem' := fm gc12 tp bt as11 b) (by intro _ _ _; eq_refl) ?_
    obtain ⟨xc13, gc13, ac13, hrc13, txc13, hSc13, hxc13⟩ := mt_ord14 (tp := tp) (bt := bt) (r := 3846 + (6 * N)) hSs11 hmc12 (by omega)
    refine fe_ivV hrc13 (by omega) (by rfl) (by rfl) (by rfl) (by rfl) (by rfl) (by rfl) ?_
    have fc13_22 : gc13 22 = nI d := (txc13 22 (by decide) (by decide) (by decide) (by decide) (by decide) (by decide)).trans fc12_22
    have fc13_23 : gc13 23 = nI (c + 1) := (txc13 23 (by decide) (by decide) (by decide) (by decide) (by decide) (by decide)).trans fc12_23
    have hXc13 := txt_tr hXc12 (txt_8 txc13)
    rcases hxc13 with ⟨rfl, qc13, hmc13, hqc13⟩ | ⟨rfl, zc13, hmc13, hqc13⟩
    · refine fe_s 1 (pc' := cond (fx_cb .ne 1 0) 209 207) (lc' := [(5, .int 6), (4, .int 0), (3, .int (nI (3846 + (6 * N)))), (2, .int (nI N)), (1, .int 13), (0, .ref 0)]) (stk' := []) (mem' := fm gc13 tp bt ac13 b) (by intro _ _ _; eq_refl) ?_
      rw [show (fx_cb .ne 1 0) = true from by decide]
      dsimp only [cond]
      refine fe_s 1 (pc' := 211) (lc' := [(5, .int 6), (4, .int 0), (3, .int (nI (3846 + (6 * N)))), (2, .int (nI N)), (1, .int 13), (0, .ref 0)]) (stk' := [.int 0]) (mem' := fm gc13 tp bt ac13 b) (by intro _ _ _; eq_refl) ?_
      refine fe_s 1 (pc' := cond (fx_cb .eq 0 0) 234 214) (lc' := [(5, .int 6), (4, .int 0), (3, .int (nI (3846 + (6 * N)))), (2, .int (nI N)), (1, .int 13), (0, .ref 0)]) (stk' := []) (mem' := fm gc13 tp bt ac13 b) (by intro _ _ _; eq_refl) ?_
      rw [show (fx_cb .eq 0 0) = true from by decide]
      dsimp only [cond]
      refine fe_s 2 (pc' := 237) (lc' := [(5, .int 6), (4, .int 0), (3, .int (nI (3846 + (6 * N)))), (2, .int (nI N)), (1, .int 13), (0, .ref 0)]) (stk' := [.int 20, .int 13]) (mem' := fm gc13 tp bt ac13 b) (by intro _ _ _; eq_refl) ?_
      refine fe_s 1 (pc' := cond (fx_cb .ne 13 20) 291 240) (lc' := [(5, .int 6), (4, .int 0), (3, .int (nI (3846 + (6 * N)))), (2, .int (nI N)), (1, .int 13), (0, .ref 0)]) (stk' := []) (mem' := fm gc13 tp bt ac13 b) (by intro _ _ _; eq_refl) ?_
      rw [show (fx_cb .ne 13 20) = true from by decide]
      dsimp only [cond]
      refine fe_s 2 (pc' := 294) (lc' := [(5, .int 6), (4, .int 0), (3, .int (nI (3846 + (6 * N)))), (2, .int (nI N)), (1, .int 13), (0, .ref 0)]) (stk' := [.int 59, .ref 0]) (mem' := fm gc13 tp bt ac13 b) (by intro _ _ _; eq_refl) ?_
      obtain ⟨xc14, gc14, hrc14, txc14, hxc14⟩ := mr_wantSign (tp := tp) (bt := bt) (b := b) (w := 59) hSc13.1 (by decide) hmc13
      refine fe_ivV hrc14 (by omega) (by rfl) (by rfl) (by rfl) (by rfl) (by rfl) (by rfl) ?_
      have fc14_22 : gc14 22 = nI d := (txc14 22 (by decide) (by decide) (by decide) (by decide) (by decide) (by decide)).trans fc13_22
      have fc14_23 : gc14 23 = nI (c + 1) := (txc14 23 (by decide) (by decide) (by decide) (by decide) (by decide) (by decide)).trans fc13_23
      have hXc14 := txt_tr hXc13 (txt_8 txc14)
      rcases hxc14 with ⟨hwc14, rfl, hmc14⟩ | ⟨hwc14, rfl, hmc14⟩
      · refine fe_ret ⟨1, _, _, ⟨hXc14, Or.inl ⟨rfl, (A, 4 * (c + 1) + d, (sp_n T n qc13)), by rw [show tl_k T n A c d p 14 = (if 30 ≤ c then .inl (6, sp_s T n p) else if false = true ∧ 3 ≤ d then .inl (7, sp_s T n p) else tl_rest T n A 14 (sp_n T n p) (fun q => sp_sign T n 59 q (fun q2 => .inr (A, 4 * (c + 1) + d, q2)))) from rfl, if_neg (by omega), if_neg (fun z => by cases z.1), hqc13, sp_sign_t hwc14], rfl, hmc14, ?_⟩⟩, rfl⟩ (by rfl) (by rfl) (by rfl)
        refine ⟨by dsimp only; omega, ?_, ?_, N + 1, by dsimp only; omega, hSc13⟩
        · rw [show (4 * (c + 1) + d) / 4 = c + 1 by omega]; exact fc14_23
        · rw [show (4 * (c + 1) + d) % 4 = d by omega]; exact fc14_22
      · exact fe_ret ⟨0, _, _, ⟨hXc14, Or.inr ⟨rfl, (sp_m T n qc13, sp_s T n qc13), by rw [show tl_k T n A c d p 14 = (if 30 ≤ c then .inl (6, sp_s T n p) else if false = true ∧ 3 ≤ d then .inl (7, sp_s T n p) else tl_rest T n A 14 (sp_n T n p) (fun q => sp_sign T n 59 q (fun q2 => .inr (A, 4 * (c + 1) + d, q2)))) from rfl, if_neg (by omega), if_neg (fun z => by cases z.1), hqc13, sp_sign_f hwc14], hmc14, hSc13.2.2.2.2⟩⟩, rfl⟩ (by rfl) (by rfl) (by rfl)
    · refine fe_s 1 (pc' := cond (fx_cb .ne 0 0) 209 207) (lc' := [(5, .int 6), (4, .int 0), (3, .int (nI (3846 + (6 * N)))), (2, .int (nI N)), (1, .int 13), (0, .ref 0)]) (stk' := []) (mem' := fm gc13 tp bt ac13 b) (by intro _ _ _; eq_refl) ?_
      rw [show (fx_cb .ne 0 0) = false from by decide]
      dsimp only [cond]
      refine fe_s 1 (pc' := 208) (lc' := [(5, .int 6), (4, .int 0), (3, .int (nI (3846 + (6 * N)))), (2, .int (nI N)), (1, .int 13), (0, .ref 0)]) (stk' := [.int 0]) (mem' := fm gc13 tp bt ac13 b) (by intro _ _ _; eq_refl) ?_
      exact fe_ret ⟨0, _, _, ⟨hXc13, Or.inr ⟨rfl, (zc13.1, zc13.2), by rw [show tl_k T n A c d p 14 = (if 30 ≤ c then .inl (6, sp_s T n p) else if false = true ∧ 3 ≤ d then .inl (7, sp_s T n p) else tl_rest T n A 14 (sp_n T n p) (fun q => sp_sign T n 59 q (fun q2 => .inr (A, 4 * (c + 1) + d, q2)))) from rfl, if_neg (by omega), if_neg (fun z => by cases z.1), hqc13], hmc13, hSc13.2.2.2.2⟩⟩, rfl⟩ (by rfl) (by rfl) (by rfl)
set_option maxRecDepth 8000 in
theorem mt_st15 (hS : mTS T n A N a0 a b) (h : mo g T n p) (hc : c ≤ 30) (hd : d ≤ 3) (hN : N + d ≤ 2 * c) (h23 : g 23 = nI c) (h22 : g 22 = nI d) (hk : sp_k T n p = 1) (hmw : sp_mw T n p = 14) : ∃ (v : Int32) (g' : Nat → Int32) (a' : Nat → Nat → Int32), fr_T 10 251 [.ref 0] (fm g tp bt a b) (some (.int v)) (fm g' tp bt a' b) ∧ fm_txs g g' ∧ mTR T n A a0 b (tl_k T n A c d p 15) v g' a' := by
  suffices h : ∃ (v : Option Value) (mem' : fx_M), (fun R => ∃ (v : Int32) (g' : Nat → Int32) (a' : Nat → Nat → Int32), (fm_txs g g' ∧ mTR T n A a0 b (tl_k T n A c d p 15) v g' a') ∧ R = (some (.int v), fm g' tp bt a' b)) (v, mem') ∧ fr_T 10 251 [.ref 0] (fm g tp bt a b) v mem' by
    obtain ⟨v, mem', ⟨w, g', a', h1, hR⟩, h2⟩ := h
    cases hR
    exact ⟨w, g', a', h2, h1⟩
  refine fe_meth (f := 251) (as := [.ref 0]) (F := fun R => ∃ (v : Int32) (g' : Nat → Int32) (a' : Nat → Nat → Int32), (fm_txs g g' ∧ mTR T n A a0 b (tl_k T n A c d p 15) v g' a') ∧ R = (some (.int v), fm g' tp bt a' b)) (M := gk_m251) (by rfl) (by rfl) ?_
  refine fe_s 2 (pc' := 3) (lc' := [(0, .ref 0)]) (stk' := [.ref 22, .ref 0]) (mem' := fm g tp bt a b) (by intro _ _ _; eq_refl) ?_
  refine fe_ivV (mr_inWords (tp := tp) (bt := bt) (b := b) hS.1 h.1 h.2.1) (by omega) (by rfl) (by rfl) (by rfl) (by rfl) (by rfl) (by rfl) ?_
  rw [hmw]
  refine fe_s 4 (pc' := 14) (lc' := [(1, .int 14), (0, .ref 0)]) (stk' := [.int 3374, .ref 1]) (mem' := fm g tp bt a b) (by intro _ _ _; eq_refl) ?_
  refine fe_ldI (by rfl) (by rfl) (fx_inN (i := 3374) (by omega) (by omega)) ?_
  rw [show Int32.toNatClampNeg (3374) = 3374 from rfl]
  rw [show a 1 3374 = nI (N) from hS.2.2.2.1]
  refine fe_s 9 (pc' := 28) (lc' := [(3, .int (3846 + (6 * (nI N)))), (2, .int (nI N)), (1, .int 14), (0, .ref 0)]) (stk' := [.int 18, .int 14]) (mem' := fm g tp bt a b) (by intro _ _ _; eq_refl) ?_
  rw [show (3846 + (6 * (nI N)) : Int32) = nI (3846 + (6 * N)) from by simp only [show (3846 : Int32) = nI 3846 from rfl, show (6 : Int32) = nI 6 from rfl, nI_add, fm_mul]]
  refine fe_s 1 (pc' := cond (fx_cb .eq 14 18) 37 31) (lc' := [(3, .int (nI (3846 + (6 * N)))), (2, .int (nI N)), (1, .int 14), (0, .ref 0)]) (stk' := []) (mem' := fm g tp bt a b) (by intro _ _ _; eq_refl) ?_
  rw [show (fx_cb .eq 14 18) = false from by decide]
  dsimp only [cond]
  refine fe_s 2 (pc' := 34) (lc' := [(3, .int (nI (3846 + (6 * N)))), (2, .int (nI N)), (1, .int 14), (0, .ref 0)]) (stk' := [.int 19, .int 14]) (mem' := fm g tp bt a b) (by intro _ _ _; eq_refl) ?_
  refine fe_s 1 (pc' := cond (fx_cb .ne 14 19) 41 37) (lc' := [(3, .int (nI (3846 + (6 * N)))), (2, .int (nI N)), (1, .int 14), (0, .ref 0)]) (stk' := []) (mem' := fm g tp bt a b) (by intro _ _ _; eq_refl) ?_
  rw [show (fx_cb .ne 14 19) = true from by decide]
  dsimp only [cond]
  refine fe_s 4 (pc' := 47) (lc' := [(4, .int 0), (3, .int (nI (3846 + (6 * N)))), (2, .int (nI N)), (1, .int 14), (0, .ref 0)]) (stk' := [.int 11, .int 14]) (mem' := fm g tp bt a b) (by intro _ _ _; eq_refl) ?_
  refine fe_s 1 (pc' := cond (fx_cb .lt 14 11) 81 50) (lc' := [(4, .int 0), (3, .int (nI (3846 + (6 * N)))), (2, .int (nI N)), (1, .int 14), (0, .ref 0)]) (stk' := []) (mem' := fm g tp bt a b) (by intro _ _ _; eq_refl) ?_
  rw [show (fx_cb .lt 14 11) = false from by decide]
  dsimp only [cond]
  refine fe_s 2 (pc' := 53) (lc' := [(4, .int 0), (3, .int (nI (3846 + (6 * N)))), (2, .int (nI N)), (1, .int 14), (0, .ref 0)]) (stk' := [.int 21, .int 14]) (mem' := fm g tp bt a b) (by intro _ _ _; eq_refl) ?_
  refine fe_s 1 (pc' := cond (fx_cb .gt 14 21) 81 56) (lc' := [(4, .int 0), (3, .int (nI (3846 + (6 * N)))), (2, .int (nI N)), (1, .int 14), (0, .ref 0)]) (stk' := []) (mem' := fm g tp bt a b) (by intro _ _ _; eq_refl) ?_
  rw [show (fx_cb .gt 14 21) = false from by decide]
  dsimp only [cond]
  refine fe_s 2 (pc' := 59) (lc' := [(4, .int 0), (3, .int (nI (3846 + (6 * N)))), (2, .int (nI N)), (1, .int 14), (0, .ref 0)]) (stk' := [.int 16, .int 14]) (mem' := fm g tp bt a b) (by intro _ _ _; eq_refl) ?_
  refine fe_s 1 (pc' := cond (fx_cb .eq 14 16) 81 62) (lc' := [(4, .int 0), (3, .int (nI (3846 + (6 * N)))), (2, .int (nI N)), (1, .int 14), (0, .ref 0)]) (stk' := []) (mem' := fm g tp bt a b) (by intro _ _ _; eq_refl) ?_
  rw [show (fx_cb .eq 14 16) = false from by decide]
  dsimp only [cond]
  refine fe_s 2 (pc' := 65) (lc' := [(4, .int 0), (3, .int (nI (3846 + (6 * N)))), (2, .int (nI N)), (1, .int 14), (0, .ref 0)]) (stk' := [.int 17, .int 14]) (mem' := fm g tp bt a b) (by intro _ _ _; eq_refl) ?_
  refine fe_s 1 (pc' := cond (fx_cb .eq 14 17) 81 68) (lc' := [(4, .int 0), (3, .int (nI (3846 + (6 * N)))), (2, .int (nI N)), (1, .int 14), (0, .ref 0)]) (stk' := []) (mem' := fm g tp bt a b) (by intro _ _ _; eq_refl) ?_
  rw [show (fx_cb .eq 14 17) = false from by decide]
  dsimp only [cond]
  refine fe_s 2 (pc' := 71) (lc' := [(4, .int 0), (3, .int (nI (3846 + (6 * N)))), (2, .int (nI N)), (1, .int 14), (0, .ref 0)]) (stk' := [.int 20, .int 14]) (mem' := fm g tp bt a b) (by intro _ _ _; eq_refl) ?_
  refine fe_s 1 (pc' := cond (fx_cb .ne 14 20) 87 74) (lc' := [(4, .int 0), (3, .int (nI (3846 + (6 * N)))), (2, .int (nI N)), (1, .int 14), (0, .ref 0)]) (stk' := []) (mem' := fm g tp bt a b) (by intro _ _ _; eq_refl) ?_
  rw [show (fx_cb .ne 14 20) = true from by decide]
  dsimp only [cond]
  refine fe_s 2 (pc' := 90) (lc' := [(4, .int 0), (3, .int (nI (3846 + (6 * N)))), (2, .int (nI N)), (1, .int 14), (0, .ref 0)]) (stk' := [.int 20, .int 14]) (mem' := fm g tp bt a b) (by intro _ _ _; eq_refl) ?_
  refine fe_s 1 (pc' := cond (fx_cb .eq 14 20) 109 93) (lc' := [(4, .int 0), (3, .int (nI (3846 + (6 * N)))), (2, .int (nI N)), (1, .int 14), (0, .ref 0)]) (stk' := []) (mem' := fm g tp bt a b) (by intro _ _ _; eq_refl) ?_
  rw [show (fx_cb .eq 14 20) = false from by decide]
  dsimp only [cond]
  refine fe_s 3 (pc' := 99) (lc' := [(4, .int 0), (3, .int (nI (3846 + (6 * N)))), (2, .int (nI N)), (1, .int 14), (0, .ref 0)]) (stk' := [.int 30, .int (g 23)]) (mem' := fm g tp bt a b) (by intro _ _ _; eq_refl) ?_
  try rw [h23]
  refine fe_s 1 (pc' := cond (fx_cb .ne (nI c) 30) 109 102) (lc' := [(4, .int 0), (3, .int (nI (3846 + (6 * N)))), (2, .int (nI N)), (1, .int 14), (0, .ref 0)]) (stk' := []) (mem' := fm g tp bt a b) (by intro _ _ _; eq_refl) ?_
  by_cases y2 : c = 30
  · rw [show (fx_cb .ne (nI c) 30) = false from cb_neF (a := c) (b := 30) (by omega) (by omega) (by omega)]
    dsimp only [cond]
    refine fe_s 2 (pc' := 105) (lc' := [(4, .int 0), (3, .int (nI (3846 + (6 * N)))), (2, .int (nI N)), (1, .int 14), (0, .ref 0)]) (stk' := [.int 6, .ref 0]) (mem' := fm g tp bt a b) (by intro _ _ _; eq_refl) ?_
    obtain ⟨gc3, hrc3, txc3, hmc3⟩ := mr_failsx (tp := tp) (bt := bt) (a := a) (b := b) (x := 6) h (by decide) (by omega)
    refine fe_ivV hrc3 (by omega) (by rfl) (by rfl) (by rfl) (by rfl) (by rfl) (by rfl) ?_
    have fc3_23 : gc3 23 = nI c := (txc3 23 (by decide) (by decide) (by decide) (by decide) (by decide) (by decide)).trans h23
    have fc3_22 : gc3 22 = nI d := (txc3 22 (by decide) (by decide) (by decide) (by decide) (by decide) (by decide)).trans h22
    have hXc3 := txt_tr txt_rf (txt_8 txc3)
    exact fe_ret ⟨0, _, _, ⟨hXc3, Or.inr ⟨rfl, (6, sp_s T n p), by rw [show tl_k T n A c d p 15 = (if 30 ≤ c then .inl (6, sp_s T n p) else if false = true ∧ 3 ≤ d then .inl (7, sp_s T n p) else tl_rest T n A 15 (sp_n T n p) (fun q => sp_sign T n 59 q (fun q2 => .inr (A, 4 * (c + 1) + d, q2)))) from rfl, if_pos (by omega)], hmc3, hS.2.2.2.2⟩⟩, rfl⟩ (by rfl) (by rfl) (by rfl)
  · rw [show (fx_cb .ne (nI c) 30) = true from cb_neT (a := c) (b := 30) (by omega) (by omega) (by omega)]
    dsimp only [cond]
    refine fe_s 1 (pc' := 111) (lc' := [(4, .int 0), (3, .int (nI (3846 + (6 * N)))), (2, .int (nI N)), (1, .int 14), (0, .ref 0)]) (stk' := [.int 0]) (mem' := fm g tp bt a b) (by intro _ _ _; eq_refl) ?_
    refine fe_s 1 (pc' := cond (fx_cb .eq 0 0) 129 114) (lc' := [(4, .int 0), (3, .int (nI (3846 + (6 * N)))), (2, .int (nI N)), (1, .int 14), (0, .ref 0)]) (stk' := []) (mem' := fm g tp bt a b) (by intro _ _ _; eq_refl) ?_
    rw [show (fx_cb .eq 0 0) = true from by decide]
    dsimp only [cond]
    refine fe_s 5 (pc' := 137) (lc' := [(4, .int 0), (3, .int (nI (3846 + (6 * N)))), (2, .int (nI N)), (1, .int 14), (0, .ref 0)]) (stk' := [.int 20, .int 14, .int (g 23), .ref 0]) (mem' := fm g tp bt a b) (by intro _ _ _; eq_refl) ?_
    try rw [h23]
    refine fe_s 1 (pc' := cond (fx_cb .ne 14 20) 144 140) (lc' := [(4, .int 0), (3, .int (nI (3846 + (6 * N)))), (2, .int (nI N)), (1, .int 14), (0, .ref 0)]) (stk' := [.int (nI c), .ref 0]) (mem' := fm g tp bt a b) (by intro _ _ _; eq_refl) ?_
    rw [show (fx_cb .ne 14 20) = true from by decide]
    dsimp only [cond]
    refine fe_s 7 (pc' := 155) (lc' := [(4, .int 0), (3, .int (nI (3846 + (6 * N)))), (2, .int (nI N)), (1, .int 14), (0, .ref 0)]) (stk' := [.int 14, .int (nI (3846 + (6 * N))), .ref 1]) (mem' := fm (upd g 23 ((nI c) + 1)) tp bt a b) (by intro _ _ _; eq_refl) ?_
    rw [show ((nI c) + 1 : Int32) = nI (c + 1) from by simp only [show (1 : Int32) = nI 1 from rfl, nI_add, fm_mul]]
    have hmw4 : mo (upd g 23 (nI (c + 1))) T n p := mo_uk h (by decide)
    have hXw4 : fm_txs g (upd g 23 (nI (c + 1))) := txt_tr txt_rf (txt_u (by decide))
    have fw4_22 : (upd g 23 (nI (c + 1))) 22 = nI d := (pk_un (by decide)).trans h22
    have fw4_23 : (upd g 23 (nI (c + 1))) 23 = nI (c + 1) := pk_us
    refine fe_stI (mem' := fm (upd g 23 (nI (c + 1))) tp bt (fm_u a 1 (nI (3846 + (6 * N)) : Int32).toNatClampNeg 14) b) (by rfl) (by rfl) (fx_inN (i := 3846 + (6 * N)) (by omega) (by omega)) fm_si1 ?_
    rw [show Int32.toNatClampNeg (nI (3846 + (6 * N))) = 3846 + (6 * N) from nI_clamp (by omega)]
    have hSs5 : mTS T n A (N) a0 (fm_u a 1 (3846 + (6 * N)) 14) b := mTS_u hS (by omega)
    generalize (fm_u a 1 (3846 + (6 * N)) 14) = as5 at hSs5 ⊢
    refine fe_s 4 (pc' := 163) (lc' := [(5, .int 1), (4, .int 0), (3, .int (nI (3846 + (6 * N)))), (2, .int (nI N)), (1, .int 14), (0, .ref 0)]) (stk' := [.int 6, .int 1]) (mem' := fm (upd g 23 (nI (c + 1))) tp bt as5 b) (by intro _ _ _; eq_refl) ?_
    refine fe_s 1 (pc' := cond (fx_cb .ge 1 6) 182 166) (lc' := [(5, .int 1), (4, .int 0), (3, .int (nI (3846 + (6 * N)))), (2, .int (nI N)), (1, .int 14), (0, .ref 0)]) (stk' := []) (mem' := fm (upd g 23 (nI (c + 1))) tp bt as5 b) (by intro _ _ _; eq_refl) ?_
    rw [show (fx_cb .ge 1 6) = false from by decide]
    dsimp only [cond]
    refine fe_s 6 (pc' := 175) (lc' := [(5, .int 1), (4, .int 0), (3, .int (nI (3846 + (6 * N)))), (2, .int (nI N)), (1, .int 14), (0, .ref 0)]) (stk' := [.int 0, .int ((nI (3846 + (6 * N))) + 1), .ref 1]) (mem' := fm (upd g 23 (nI (c + 1))) tp bt as5 b) (by intro _ _ _; eq_refl) ?_
    rw [show ((nI (3846 + (6 * N))) + 1 : Int32) = nI ((3846 + (6 * N)) + 1) from by simp only [show (1 : Int32) = nI 1 from rfl, nI_add, fm_mul]]
    refine fe_stI (mem' := fm (upd g 23 (nI (c + 1))) tp bt (fm_u as5 1 (nI ((3846 + (6 * N)) + 1) : Int32).toNatClampNeg 0) b) (by rfl) (by rfl) (fx_inN (i := (3846 + (6 * N)) + 1) (by omega) (by omega)) fm_si1 ?_
    rw [show Int32.toNatClampNeg (nI ((3846 + (6 * N)) + 1)) = (3846 + (6 * N)) + 1 from nI_clamp (by omega)]
    have hSs6 : mTS T n A (N) a0 (fm_u as5 1 ((3846 + (6 * N)) + 1) 0) b := mTS_u hSs5 (by omega)
    generalize (fm_u as5 1 ((3846 + (6 * N)) + 1) 0) = as6 at hSs6 ⊢
    refine fe_s 4 (pc' := 163) (lc' := [(5, .int (1 + 1)), (4, .int 0), (3, .int (nI (3846 + (6 * N)))), (2, .int (nI N)), (1, .int 14), (0, .ref 0)]) (stk' := [.int 6, .int (1 + 1)]) (mem' := fm (upd g 23 (nI (c + 1))) tp bt as6 b) (by intro _ _ _; eq_refl) ?_
    rw [show (1 + 1 : Int32) = 2 from rfl]
    refine fe_s 1 (pc' := cond (fx_cb .ge 2 6) 182 166) (lc' := [(5, .int 2), (4, .int 0), (3, .int (nI (3846 + (6 * N)))), (2, .int (nI N)), (1, .int 14), (0, .ref 0)]) (stk' := []) (mem' := fm (upd g 23 (nI (c + 1))) tp bt as6 b) (by intro _ _ _; eq_refl) ?_
    rw [show (fx_cb .ge 2 6) = false from by decide]
    dsimp only [cond]
    refine fe_s 6 (pc' := 175) (lc' := [(5, .int 2), (4, .int 0), (3, .int (nI (3846 + (6 * N)))), (2, .int (nI N)), (1, .int 14), (0, .ref 0)]) (stk' := [.int 0, .int ((nI (3846 + (6 * N))) + 2), .ref 1]) (mem' := fm (upd g 23 (nI (c + 1))) tp bt as6 b) (by intro _ _ _; eq_refl) ?_
    rw [show ((nI (3846 + (6 * N))) + 2 : Int32) = nI ((3846 + (6 * N)) + 2) from by simp only [show (2 : Int32) = nI 2 from rfl, nI_add, fm_mul]]
    refine fe_stI (mem' := fm (upd g 23 (nI (c + 1))) tp bt (fm_u as6 1 (nI ((3846 + (6 * N)) + 2) : Int32).toNatClampNeg 0) b) (by rfl) (by rfl) (fx_inN (i := (3846 + (6 * N)) + 2) (by omega) (by omega)) fm_si1 ?_
    rw [show Int32.toNatClampNeg (nI ((3846 + (6 * N)) + 2)) = (3846 + (6 * N)) + 2 from nI_clamp (by omega)]
    have hSs7 : mTS T n A (N) a0 (fm_u as6 1 ((3846 + (6 * N)) + 2) 0) b := mTS_u hSs6 (by omega)
    generalize (fm_u as6 1 ((3846 + (6 * N)) + 2) 0) = as7 at hSs7 ⊢
    refine fe_s 4 (pc' := 163) (lc' := [(5, .int (2 + 1)), (4, .int 0), (3, .int (nI (3846 + (6 * N)))), (2, .int (nI N)), (1, .int 14), (0, .ref 0)]) (stk' := [.int 6, .int (2 + 1)]) (mem' := fm (upd g 23 (nI (c + 1))) tp bt as7 b) (by intro _ _ _; eq_refl) ?_
    rw [show (2 + 1 : Int32) = 3 from rfl]
    refine fe_s 1 (pc' := cond (fx_cb .ge 3 6) 182 166) (lc' := [(5, .int 3), (4, .int 0), (3, .int (nI (3846 + (6 * N)))), (2, .int (nI N)), (1, .int 14), (0, .ref 0)]) (stk' := []) (mem' := fm (upd g 23 (nI (c + 1))) tp bt as7 b) (by intro _ _ _; eq_refl) ?_
    rw [show (fx_cb .ge 3 6) = false from by decide]
    dsimp only [cond]
    refine fe_s 6 (pc' := 175) (lc' := [(5, .int 3), (4, .int 0), (3, .int (nI (3846 + (6 * N)))), (2, .int (nI N)), (1, .int 14), (0, .ref 0)]) (stk' := [.int 0, .int ((nI (3846 + (6 * N))) + 3), .ref 1]) (mem' := fm (upd g 23 (nI (c + 1))) tp bt as7 b) (by intro _ _ _; eq_refl) ?_
    rw [show ((nI (3846 + (6 * N))) + 3 : Int32) = nI ((3846 + (6 * N)) + 3) from by simp only [show (3 : Int32) = nI 3 from rfl, nI_add, fm_mul]]
    refine fe_stI (mem' := fm (upd g 23 (nI (c + 1))) tp bt (fm_u as7 1 (nI ((3846 + (6 * N)) + 3) : Int32).toNatClampNeg 0) b) (by rfl) (by rfl) (fx_inN (i := (3846 + (6 * N)) + 3) (by omega) (by omega)) fm_si1 ?_
    rw [show Int32.toNatClampNeg (nI ((3846 + (6 * N)) + 3)) = (3846 + (6 * N)) + 3 from nI_clamp (by omega)]
    have hSs8 : mTS T n A (N) a0 (fm_u as7 1 ((3846 + (6 * N)) + 3) 0) b := mTS_u hSs7 (by omega)
    generalize (fm_u as7 1 ((3846 + (6 * N)) + 3) 0) = as8 at hSs8 ⊢
    refine fe_s 4 (pc' := 163) (lc' := [(5, .int (3 + 1)), (4, .int 0), (3, .int (nI (3846 + (6 * N)))), (2, .int (nI N)), (1, .int 14), (0, .ref 0)]) (stk' := [.int 6, .int (3 + 1)]) (mem' := fm (upd g 23 (nI (c + 1))) tp bt as8 b) (by intro _ _ _; eq_refl) ?_
    rw [show (3 + 1 : Int32) = 4 from rfl]
    refine fe_s 1 (pc' := cond (fx_cb .ge 4 6) 182 166) (lc' := [(5, .int 4), (4, .int 0), (3, .int (nI (3846 + (6 * N)))), (2, .int (nI N)), (1, .int 14), (0, .ref 0)]) (stk' := []) (mem' := fm (upd g 23 (nI (c + 1))) tp bt as8 b) (by intro _ _ _; eq_refl) ?_
    rw [show (fx_cb .ge 4 6) = false from by decide]
    dsimp only [cond]
    refine fe_s 6 (pc' := 175) (lc' := [(5, .int 4), (4, .int 0), (3, .int (nI (3846 + (6 * N)))), (2, .int (nI N)), (1, .int 14), (0, .ref 0)]) (stk' := [.int 0, .int ((nI (3846 + (6 * N))) + 4), .ref 1]) (mem' := fm (upd g 23 (nI (c + 1))) tp bt as8 b) (by intro _ _ _; eq_refl) ?_
    rw [show ((nI (3846 + (6 * N))) + 4 : Int32) = nI ((3846 + (6 * N)) + 4) from by simp only [show (4 : Int32) = nI 4 from rfl, nI_add, fm_mul]]
    refine fe_stI (mem' := fm (upd g 23 (nI (c + 1))) tp bt (fm_u as8 1 (nI ((3846 + (6 * N)) + 4) : Int32).toNatClampNeg 0) b) (by rfl) (by rfl) (fx_inN (i := (3846 + (6 * N)) + 4) (by omega) (by omega)) fm_si1 ?_
    rw [show Int32.toNatClampNeg (nI ((3846 + (6 * N)) + 4)) = (3846 + (6 * N)) + 4 from nI_clamp (by omega)]
    have hSs9 : mTS T n A (N) a0 (fm_u as8 1 ((3846 + (6 * N)) + 4) 0) b := mTS_u hSs8 (by omega)
    generalize (fm_u as8 1 ((3846 + (6 * N)) + 4) 0) = as9 at hSs9 ⊢
    refine fe_s 4 (pc' := 163) (lc' := [(5, .int (4 + 1)), (4, .int 0), (3, .int (nI (3846 + (6 * N)))), (2, .int (nI N)), (1, .int 14), (0, .ref 0)]) (stk' := [.int 6, .int (4 + 1)]) (mem' := fm (upd g 23 (nI (c + 1))) tp bt as9 b) (by intro _ _ _; eq_refl) ?_
    rw [show (4 + 1 : Int32) = 5 from rfl]
    refine fe_s 1 (pc' := cond (fx_cb .ge 5 6) 182 166) (lc' := [(5, .int 5), (4, .int 0), (3, .int (nI (3846 + (6 * N)))), (2, .int (nI N)), (1, .int 14), (0, .ref 0)]) (stk' := []) (mem' := fm (upd g 23 (nI (c + 1))) tp bt as9 b) (by intro _ _ _; eq_refl) ?_
    rw [show (fx_cb .ge 5 6) = false from by decide]
    dsimp only [cond]
    refine fe_s 6 (pc' := 175) (lc' := [(5, .int 5), (4, .int 0), (3, .int (nI (3846 + (6 * N)))), (2, .int (nI N)), (1, .int 14), (0, .ref 0)]) (stk' := [.int 0, .int ((nI (3846 + (6 * N))) + 5), .ref 1]) (mem' := fm (upd g 23 (nI (c + 1))) tp bt as9 b) (by intro _ _ _; eq_refl) ?_
    rw [show ((nI (3846 + (6 * N))) + 5 : Int32) = nI ((3846 + (6 * N)) + 5) from by simp only [show (5 : Int32) = nI 5 from rfl, nI_add, fm_mul]]
    refine fe_stI (mem' := fm (upd g 23 (nI (c + 1))) tp bt (fm_u as9 1 (nI ((3846 + (6 * N)) + 5) : Int32).toNatClampNeg 0) b) (by rfl) (by rfl) (fx_inN (i := (3846 + (6 * N)) + 5) (by omega) (by omega)) fm_si1 ?_
    rw [show Int32.toNatClampNeg (nI ((3846 + (6 * N)) + 5)) = (3846 + (6 * N)) + 5 from nI_clamp (by omega)]
    have hSs10 : mTS T n A (N) a0 (fm_u as9 1 ((3846 + (6 * N)) + 5) 0) b := mTS_u hSs9 (by omega)
    generalize (fm_u as9 1 ((3846 + (6 * N)) + 5) 0) = as10 at hSs10 ⊢
    refine fe_s 4 (pc' := 163) (lc' := [(5, .int (5 + 1)), (4, .int 0), (3, .int (nI (3846 + (6 * N)))), (2, .int (nI N)), (1, .int 14), (0, .ref 0)]) (stk' := [.int 6, .int (5 + 1)]) (mem' := fm (upd g 23 (nI (c + 1))) tp bt as10 b) (by intro _ _ _; eq_refl) ?_
    rw [show (5 + 1 : Int32) = 6 from rfl]
    refine fe_s 1 (pc' := cond (fx_cb .ge 6 6) 182 166) (lc' := [(5, .int 6), (4, .int 0), (3, .int (nI (3846 + (6 * N)))), (2, .int (nI N)), (1, .int 14), (0, .ref 0)]) (stk' := []) (mem' := fm (upd g 23 (nI (c + 1))) tp bt as10 b) (by intro _ _ _; eq_refl) ?_
    rw [show (fx_cb .ge 6 6) = true from by decide]
    dsimp only [cond]
    refine fe_s 4 (pc' := 190) (lc' := [(5, .int 6), (4, .int 0), (3, .int (nI (3846 + (6 * N)))), (2, .int (nI N)), (1, .int 14), (0, .ref 0)]) (stk' := [.int 3374, .ref 1, .int 3374, .ref 1]) (mem' := fm (upd g 23 (nI (c + 1))) tp bt as10 b) (by intro _ _ _; eq_refl) ?_
    refine fe_ldI (by rfl) (by rfl) (fx_inN (i := 3374) (by omega) (by omega)) ?_
    rw [show Int32.toNatClampNeg (3374) = 3374 from rfl]
    rw [show as10 1 3374 = nI (N) from hSs10.2.2.2.1]
    refine fe_s 2 (pc' := 193) (lc' := [(5, .int 6), (4, .int 0), (3, .int (nI (3846 + (6 * N)))), (2, .int (nI N)), (1, .int 14), (0, .ref 0)]) (stk' := [.int ((nI N) + 1), .int 3374, .ref 1]) (mem' := fm (upd g 23 (nI (c + 1))) tp bt as10 b) (by intro _ _ _; eq_refl) ?_
    rw [show ((nI N) + 1 : Int32) = nI (N + 1) from by simp only [show (1 : Int32) = nI 1 from rfl, nI_add, fm_mul]]
    refine fe_stI (mem' := fm (upd g 23 (nI (c + 1))) tp bt (fm_u as10 1 (3374 : Int32).toNatClampNeg (nI (N + 1))) b) (by rfl) (by rfl) (fx_inN (i := 3374) (by omega) (by omega)) fm_si1 ?_
    rw [show Int32.toNatClampNeg (3374) = 3374 from rfl]
    have hSs11 : mTS T n A (N + 1) a0 (fm_u as10 1 3374 (nI (N + 1))) b := mTS_N hSs10
    generalize (fm_u as10 1 3374 (nI (N + 1))) = as11 at hSs11 ⊢
    refine fe_s 1 (pc' := 195) (lc' := [(5, .int 6), (4, .int 0), (3, .int (nI (3846 + (6 * N)))), (2, .int (nI N)), (1, .int 14), (0, .ref 0)]) (stk' := [.ref 0]) (mem' := fm (upd g 23 (nI (c + 1))) tp bt as11 b) (by intro _ _ _; eq_refl) ?_
    obtain ⟨gc12, hrc12, txc12, hmc12⟩ := mr_aheado (tp := tp) (bt := bt) (b := b) hSs11.1 hmw4 (by omega)
    refine fe_ivV hrc12 (by omega) (by rfl) (by rfl) (by rfl) (by rfl) (by rfl) (by rfl) ?_
    have fc12_22 : gc12 22 = nI d := (txc12 22 (by decide) (by decide) (by decide) (by decide) (by decide) (by decide)).trans fw4_22
    have fc12_23 : gc12 23 = nI (c + 1) := (txc12 23 (by decide) (by decide) (by decide) (by decide) (by decide) (by decide)).trans fw4_23
    have hXc12 := txt_tr hXw4 (txt_8 txc12)
    refine fe_s 3 (pc' := 201) (lc' := [(5, .int 6), (4, .int 0), (3, .int (nI (3846 + (6 * N)))), (2, .int (nI N)), (1, .int 14), (0, .ref 0)]) (stk' := [.int (nI (3846 + (6 * N))), .int 14, .ref 0]) (mem' := fm gc12 tp bt as11 b) (by intro _ _ _; eq_refl) ?_
    obtain ⟨xc13, gc13, ac13, hrc13, txc13, hSc13, hxc13⟩ := mt_ord15 (tp := tp) (bt := bt) (r := 3846 + (6 * N)) hSs11 hmc12 (by omega)
    refine fe_ivV hrc13 (by omega) (by rfl) (by rfl) (by rfl) (by rfl) (by rfl) (by rfl) ?_
    have fc13_22 : gc13 22 = nI d := (txc13 22 (by decide) (by decide) (by decide) (by decide) (by decide) (by decide)).trans fc12_22
    have fc13_23 : gc13 23 = nI (c + 1) := (txc13 23 (by decide) (by decide) (by decide) (by decide) (by decide) (by decide)).trans fc12_23
    have hXc13 := txt_tr hXc12 (txt_8 txc13)
    rcases hxc13 with ⟨rfl, qc13, hmc13, hqc13⟩ | ⟨rfl, zc13, hmc13, hqc13⟩
    · refine fe_s 1 (pc' := cond (fx_cb .ne 1 0) 209 207) (lc' := [(5, .int 6), (4, .int 0), (3, .int (nI (3846 + (6 * N)))), (2, .int (nI N)), (1, .int 14), (0, .ref 0)]) (stk' := []) (mem' := fm gc13 tp bt ac13 b) (by intro _ _ _; eq_refl) ?_
      rw [show (fx_cb .ne 1 0) = true from by decide]
      dsimp only [cond]
      refine fe_s 1 (pc' := 211) (lc' := [(5, .int 6), (4, .int 0), (3, .int (nI (3846 + (6 * N)))), (2, .int (nI N)), (1, .int 14), (0, .ref 0)]) (stk' := [.int 0]) (mem' := fm gc13 tp bt ac13 b) (by intro _ _ _; eq_refl) ?_
      refine fe_s 1 (pc' := cond (fx_cb .eq 0 0) 234 214) (lc' := [(5, .int 6), (4, .int 0), (3, .int (nI (3846 + (6 * N)))), (2, .int (nI N)), (1, .int 14), (0, .ref 0)]) (stk' := []) (mem' := fm gc13 tp bt ac13 b) (by intro _ _ _; eq_refl) ?_
      rw [show (fx_cb .eq 0 0) = true from by decide]
      dsimp only [cond]
      refine fe_s 2 (pc' := 237) (lc' := [(5, .int 6), (4, .int 0), (3, .int (nI (3846 + (6 * N)))), (2, .int (nI N)), (1, .int 14), (0, .ref 0)]) (stk' := [.int 20, .int 14]) (mem' := fm gc13 tp bt ac13 b) (by intro _ _ _; eq_refl) ?_
      refine fe_s 1 (pc' := cond (fx_cb .ne 14 20) 291 240) (lc' := [(5, .int 6), (4, .int 0), (3, .int (nI (3846 + (6 * N)))), (2, .int (nI N)), (1, .int 14), (0, .ref 0)]) (stk' := []) (mem' := fm gc13 tp bt ac13 b) (by intro _ _ _; eq_refl) ?_
      rw [show (fx_cb .ne 14 20) = true from by decide]
      dsimp only [cond]
      refine fe_s 2 (pc' := 294) (lc' := [(5, .int 6), (4, .int 0), (3, .int (nI (3846 + (6 * N)))), (2, .int (nI N)), (1, .int 14), (0, .ref 0)]) (stk' := [.int 59, .ref 0]) (mem' := fm gc13 tp bt ac13 b) (by intro _ _ _; eq_refl) ?_
      obtain ⟨xc14, gc14, hrc14, txc14, hxc14⟩ := mr_wantSign (tp := tp) (bt := bt) (b := b) (w := 59) hSc13.1 (by decide) hmc13
      refine fe_ivV hrc14 (by omega) (by rfl) (by rfl) (by rfl) (by rfl) (by rfl) (by rfl) ?_
      have fc14_22 : gc14 22 = nI d := (txc14 22 (by decide) (by decide) (by decide) (by decide) (by decide) (by decide)).trans fc13_22
      have fc14_23 : gc14 23 = nI (c + 1) := (txc14 23 (by decide) (by decide) (by decide) (by decide) (by decide) (by decide)).trans fc13_23
      have hXc14 := txt_tr hXc13 (txt_8 txc14)
      rcases hxc14 with ⟨hwc14, rfl, hmc14⟩ | ⟨hwc14, rfl, hmc14⟩
      · refine fe_ret ⟨1, _, _, ⟨hXc14, Or.inl ⟨rfl, (A, 4 * (c + 1) + d, (sp_n T n qc13)), by rw [show tl_k T n A c d p 15 = (if 30 ≤ c then .inl (6, sp_s T n p) else if false = true ∧ 3 ≤ d then .inl (7, sp_s T n p) else tl_rest T n A 15 (sp_n T n p) (fun q => sp_sign T n 59 q (fun q2 => .inr (A, 4 * (c + 1) + d, q2)))) from rfl, if_neg (by omega), if_neg (fun z => by cases z.1), hqc13, sp_sign_t hwc14], rfl, hmc14, ?_⟩⟩, rfl⟩ (by rfl) (by rfl) (by rfl)
        refine ⟨by dsimp only; omega, ?_, ?_, N + 1, by dsimp only; omega, hSc13⟩
        · rw [show (4 * (c + 1) + d) / 4 = c + 1 by omega]; exact fc14_23
        · rw [show (4 * (c + 1) + d) % 4 = d by omega]; exact fc14_22
      · exact fe_ret ⟨0, _, _, ⟨hXc14, Or.inr ⟨rfl, (sp_m T n qc13, sp_s T n qc13), by rw [show tl_k T n A c d p 15 = (if 30 ≤ c then .inl (6, sp_s T n p) else if false = true ∧ 3 ≤ d then .inl (7, sp_s T n p) else tl_rest T n A 15 (sp_n T n p) (fun q => sp_sign T n 59 q (fun q2 => .inr (A, 4 * (c + 1) + d, q2)))) from rfl, if_neg (by omega), if_neg (fun z => by cases z.1), hqc13, sp_sign_f hwc14], hmc14, hSc13.2.2.2.2⟩⟩, rfl⟩ (by rfl) (by rfl) (by rfl)
    · refine fe_s 1 (pc' := cond (fx_cb .ne 0 0) 209 207) (lc' := [(5, .int 6), (4, .int 0), (3, .int (nI (3846 + (6 * N)))), (2, .int (nI N)), (1, .int 14), (0, .ref 0)]) (stk' := []) (mem' := fm gc13 tp bt ac13 b) (by intro _ _ _; eq_refl) ?_
      rw [show (fx_cb .ne 0 0) = false from by decide]
      dsimp only [cond]
      refine fe_s 1 (pc' := 208) (lc' := [(5, .int 6), (4, .int 0), (3, .int (nI (3846 + (6 * N)))), (2, .int (nI N)), (1, .int 14), (0, .ref 0)]) (stk' := [.int 0]) (mem' := fm gc13 tp bt ac13 b) (by intro _ _ _; eq_refl) ?_
      exact fe_ret ⟨0, _, _, ⟨hXc13, Or.inr ⟨rfl, (zc13.1, zc13.2), by rw [show tl_k T n A c d p 15 = (if 30 ≤ c then .inl (6, sp_s T n p) else if false = true ∧ 3 ≤ d then .inl (7, sp_s T n p) else tl_rest T n A 15 (sp_n T n p) (fun q => sp_sign T n 59 q (fun q2 => .inr (A, 4 * (c + 1) + d, q2)))) from rfl, if_neg (by omega), if_neg (fun z => by cases z.1), hqc13], hmc13, hSc13.2.2.2.2⟩⟩, rfl⟩ (by rfl) (by rfl) (by rfl)
set_option maxRecDepth 8000 in
theorem mt_st16 (hS : mTS T n A N a0 a b) (h : mo g T n p) (hc : c ≤ 30) (hd : d ≤ 3) (hN : N + d ≤ 2 * c) (h23 : g 23 = nI c) (h22 : g 22 = nI d) (hk : sp_k T n p = 1) (hmw : sp_mw T n p = 15) : ∃ (v : Int32) (g' : Nat → Int32) (a' : Nat → Nat → Int32), fr_T 10 251 [.ref 0] (fm g tp bt a b) (some (.int v)) (fm g' tp bt a' b) ∧ fm_txs g g' ∧ mTR T n A a0 b (tl_k T n A c d p 16) v g' a' := by
  suffices h : ∃ (v : Option Value) (mem' : fx_M), (fun R => ∃ (v : Int32) (g' : Nat → Int32) (a' : Nat → Nat → Int32), (fm_txs g g' ∧ mTR T n A a0 b (tl_k T n A c d p 16) v g' a') ∧ R = (some (.int v), fm g' tp bt a' b)) (v, mem') ∧ fr_T 10 251 [.ref 0] (fm g tp bt a b) v mem' by
    obtain ⟨v, mem', ⟨w, g', a', h1, hR⟩, h2⟩ := h
    cases hR
    exact ⟨w, g', a', h2, h1⟩
  refine fe_meth (f := 251) (as := [.ref 0]) (F := fun R => ∃ (v : Int32) (g' : Nat → Int32) (a' : Nat → Nat → Int32), (fm_txs g g' ∧ mTR T n A a0 b (tl_k T n A c d p 16) v g' a') ∧ R = (some (.int v), fm g' tp bt a' b)) (M := gk_m251) (by rfl) (by rfl) ?_
  refine fe_s 2 (pc' := 3) (lc' := [(0, .ref 0)]) (stk' := [.ref 22, .ref 0]) (mem' := fm g tp bt a b) (by intro _ _ _; eq_refl) ?_
  refine fe_ivV (mr_inWords (tp := tp) (bt := bt) (b := b) hS.1 h.1 h.2.1) (by omega) (by rfl) (by rfl) (by rfl) (by rfl) (by rfl) (by rfl) ?_
  rw [hmw]
  refine fe_s 4 (pc' := 14) (lc' := [(1, .int 15), (0, .ref 0)]) (stk' := [.int 3374, .ref 1]) (mem' := fm g tp bt a b) (by intro _ _ _; eq_refl) ?_
  refine fe_ldI (by rfl) (by rfl) (fx_inN (i := 3374) (by omega) (by omega)) ?_
  rw [show Int32.toNatClampNeg (3374) = 3374 from rfl]
  rw [show a 1 3374 = nI (N) from hS.2.2.2.1]
  refine fe_s 9 (pc' := 28) (lc' := [(3, .int (3846 + (6 * (nI N)))), (2, .int (nI N)), (1, .int 15), (0, .ref 0)]) (stk' := [.int 18, .int 15]) (mem' := fm g tp bt a b) (by intro _ _ _; eq_refl) ?_
  rw [show (3846 + (6 * (nI N)) : Int32) = nI (3846 + (6 * N)) from by simp only [show (3846 : Int32) = nI 3846 from rfl, show (6 : Int32) = nI 6 from rfl, nI_add, fm_mul]]
  refine fe_s 1 (pc' := cond (fx_cb .eq 15 18) 37 31) (lc' := [(3, .int (nI (3846 + (6 * N)))), (2, .int (nI N)), (1, .int 15), (0, .ref 0)]) (stk' := []) (mem' := fm g tp bt a b) (by intro _ _ _; eq_refl) ?_
  rw [show (fx_cb .eq 15 18) = false from by decide]
  dsimp only [cond]
  refine fe_s 2 (pc' := 34) (lc' := [(3, .int (nI (3846 + (6 * N)))), (2, .int (nI N)), (1, .int 15), (0, .ref 0)]) (stk' := [.int 19, .int 15]) (mem' := fm g tp bt a b) (by intro _ _ _; eq_refl) ?_
  refine fe_s 1 (pc' := cond (fx_cb .ne 15 19) 41 37) (lc' := [(3, .int (nI (3846 + (6 * N)))), (2, .int (nI N)), (1, .int 15), (0, .ref 0)]) (stk' := []) (mem' := fm g tp bt a b) (by intro _ _ _; eq_refl) ?_
  rw [show (fx_cb .ne 15 19) = true from by decide]
  dsimp only [cond]
  refine fe_s 4 (pc' := 47) (lc' := [(4, .int 0), (3, .int (nI (3846 + (6 * N)))), (2, .int (nI N)), (1, .int 15), (0, .ref 0)]) (stk' := [.int 11, .int 15]) (mem' := fm g tp bt a b) (by intro _ _ _; eq_refl) ?_
  refine fe_s 1 (pc' := cond (fx_cb .lt 15 11) 81 50) (lc' := [(4, .int 0), (3, .int (nI (3846 + (6 * N)))), (2, .int (nI N)), (1, .int 15), (0, .ref 0)]) (stk' := []) (mem' := fm g tp bt a b) (by intro _ _ _; eq_refl) ?_
  rw [show (fx_cb .lt 15 11) = false from by decide]
  dsimp only [cond]
  refine fe_s 2 (pc' := 53) (lc' := [(4, .int 0), (3, .int (nI (3846 + (6 * N)))), (2, .int (nI N)), (1, .int 15), (0, .ref 0)]) (stk' := [.int 21, .int 15]) (mem' := fm g tp bt a b) (by intro _ _ _; eq_refl) ?_
  refine fe_s 1 (pc' := cond (fx_cb .gt 15 21) 81 56) (lc' := [(4, .int 0), (3, .int (nI (3846 + (6 * N)))), (2, .int (nI N)), (1, .int 15), (0, .ref 0)]) (stk' := []) (mem' := fm g tp bt a b) (by intro _ _ _; eq_refl) ?_
  rw [show (fx_cb .gt 15 21) = false from by decide]
  dsimp only [cond]
  refine fe_s 2 (pc' := 59) (lc' := [(4, .int 0), (3, .int (nI (3846 + (6 * N)))), (2, .int (nI N)), (1, .int 15), (0, .ref 0)]) (stk' := [.int 16, .int 15]) (mem' := fm g tp bt a b) (by intro _ _ _; eq_refl) ?_
  refine fe_s 1 (pc' := cond (fx_cb .eq 15 16) 81 62) (lc' := [(4, .int 0), (3, .int (nI (3846 + (6 * N)))), (2, .int (nI N)), (1, .int 15), (0, .ref 0)]) (stk' := []) (mem' := fm g tp bt a b) (by intro _ _ _; eq_refl) ?_
  rw [show (fx_cb .eq 15 16) = false from by decide]
  dsimp only [cond]
  refine fe_s 2 (pc' := 65) (lc' := [(4, .int 0), (3, .int (nI (3846 + (6 * N)))), (2, .int (nI N)), (1, .int 15), (0, .ref 0)]) (stk' := [.int 17, .int 15]) (mem' := fm g tp bt a b) (by intro _ _ _; eq_refl) ?_
  refine fe_s 1 (pc' := cond (fx_cb .eq 15 17) 81 68) (lc' := [(4, .int 0), (3, .int (nI (3846 + (6 * N)))), (2, .int (nI N)), (1, .int 15), (0, .ref 0)]) (stk' := []) (mem' := fm g tp bt a b) (by intro _ _ _; eq_refl) ?_
  rw [show (fx_cb .eq 15 17) = false from by decide]
  dsimp only [cond]
  refine fe_s 2 (pc' := 71) (lc' := [(4, .int 0), (3, .int (nI (3846 + (6 * N)))), (2, .int (nI N)), (1, .int 15), (0, .ref 0)]) (stk' := [.int 20, .int 15]) (mem' := fm g tp bt a b) (by intro _ _ _; eq_refl) ?_
  refine fe_s 1 (pc' := cond (fx_cb .ne 15 20) 87 74) (lc' := [(4, .int 0), (3, .int (nI (3846 + (6 * N)))), (2, .int (nI N)), (1, .int 15), (0, .ref 0)]) (stk' := []) (mem' := fm g tp bt a b) (by intro _ _ _; eq_refl) ?_
  rw [show (fx_cb .ne 15 20) = true from by decide]
  dsimp only [cond]
  refine fe_s 2 (pc' := 90) (lc' := [(4, .int 0), (3, .int (nI (3846 + (6 * N)))), (2, .int (nI N)), (1, .int 15), (0, .ref 0)]) (stk' := [.int 20, .int 15]) (mem' := fm g tp bt a b) (by intro _ _ _; eq_refl) ?_
  refine fe_s 1 (pc' := cond (fx_cb .eq 15 20) 109 93) (lc' := [(4, .int 0), (3, .int (nI (3846 + (6 * N)))), (2, .int (nI N)), (1, .int 15), (0, .ref 0)]) (stk' := []) (mem' := fm g tp bt a b) (by intro _ _ _; eq_refl) ?_
  rw [show (fx_cb .eq 15 20) = false from by decide]
  dsimp only [cond]
  refine fe_s 3 (pc' := 99) (lc' := [(4, .int 0), (3, .int (nI (3846 + (6 * N)))), (2, .int (nI N)), (1, .int 15), (0, .ref 0)]) (stk' := [.int 30, .int (g 23)]) (mem' := fm g tp bt a b) (by intro _ _ _; eq_refl) ?_
  try rw [h23]
  refine fe_s 1 (pc' := cond (fx_cb .ne (nI c) 30) 109 102) (lc' := [(4, .int 0), (3, .int (nI (3846 + (6 * N)))), (2, .int (nI N)), (1, .int 15), (0, .ref 0)]) (stk' := []) (mem' := fm g tp bt a b) (by intro _ _ _; eq_refl) ?_
  by_cases y2 : c = 30
  · rw [show (fx_cb .ne (nI c) 30) = false from cb_neF (a := c) (b := 30) (by omega) (by omega) (by omega)]
    dsimp only [cond]
    refine fe_s 2 (pc' := 105) (lc' := [(4, .int 0), (3, .int (nI (3846 + (6 * N)))), (2, .int (nI N)), (1, .int 15), (0, .ref 0)]) (stk' := [.int 6, .ref 0]) (mem' := fm g tp bt a b) (by intro _ _ _; eq_refl) ?_
    obtain ⟨gc3, hrc3, txc3, hmc3⟩ := mr_failsx (tp := tp) (bt := bt) (a := a) (b := b) (x := 6) h (by decide) (by omega)
    refine fe_ivV hrc3 (by omega) (by rfl) (by rfl) (by rfl) (by rfl) (by rfl) (by rfl) ?_
    have fc3_23 : gc3 23 = nI c := (txc3 23 (by decide) (by decide) (by decide) (by decide) (by decide) (by decide)).trans h23
    have fc3_22 : gc3 22 = nI d := (txc3 22 (by decide) (by decide) (by decide) (by decide) (by decide) (by decide)).trans h22
    have hXc3 := txt_tr txt_rf (txt_8 txc3)
    exact fe_ret ⟨0, _, _, ⟨hXc3, Or.inr ⟨rfl, (6, sp_s T n p), by rw [show tl_k T n A c d p 16 = (if 30 ≤ c then .inl (6, sp_s T n p) else if false = true ∧ 3 ≤ d then .inl (7, sp_s T n p) else tl_rest T n A 16 (sp_n T n p) (fun q => sp_sign T n 59 q (fun q2 => .inr (A, 4 * (c + 1) + d, q2)))) from rfl, if_pos (by omega)], hmc3, hS.2.2.2.2⟩⟩, rfl⟩ (by rfl) (by rfl) (by rfl)
  · rw [show (fx_cb .ne (nI c) 30) = true from cb_neT (a := c) (b := 30) (by omega) (by omega) (by omega)]
    dsimp only [cond]
    refine fe_s 1 (pc' := 111) (lc' := [(4, .int 0), (3, .int (nI (3846 + (6 * N)))), (2, .int (nI N)), (1, .int 15), (0, .ref 0)]) (stk' := [.int 0]) (mem' := fm g tp bt a b) (by intro _ _ _; eq_refl) ?_
    refine fe_s 1 (pc' := cond (fx_cb .eq 0 0) 129 114) (lc' := [(4, .int 0), (3, .int (nI (3846 + (6 * N)))), (2, .int (nI N)), (1, .int 15), (0, .ref 0)]) (stk' := []) (mem' := fm g tp bt a b) (by intro _ _ _; eq_refl) ?_
    rw [show (fx_cb .eq 0 0) = true from by decide]
    dsimp only [cond]
    refine fe_s 5 (pc' := 137) (lc' := [(4, .int 0), (3, .int (nI (3846 + (6 * N)))), (2, .int (nI N)), (1, .int 15), (0, .ref 0)]) (stk' := [.int 20, .int 15, .int (g 23), .ref 0]) (mem' := fm g tp bt a b) (by intro _ _ _; eq_refl) ?_
    try rw [h23]
    refine fe_s 1 (pc' := cond (fx_cb .ne 15 20) 144 140) (lc' := [(4, .int 0), (3, .int (nI (3846 + (6 * N)))), (2, .int (nI N)), (1, .int 15), (0, .ref 0)]) (stk' := [.int (nI c), .ref 0]) (mem' := fm g tp bt a b) (by intro _ _ _; eq_refl) ?_
    rw [show (fx_cb .ne 15 20) = true from by decide]
    dsimp only [cond]
    refine fe_s 7 (pc' := 155) (lc' := [(4, .int 0), (3, .int (nI (3846 + (6 * N)))), (2, .int (nI N)), (1, .int 15), (0, .ref 0)]) (stk' := [.int 15, .int (nI (3846 + (6 * N))), .ref 1]) (mem' := fm (upd g 23 ((nI c) + 1)) tp bt a b) (by intro _ _ _; eq_refl) ?_
    rw [show ((nI c) + 1 : Int32) = nI (c + 1) from by simp only [show (1 : Int32) = nI 1 from rfl, nI_add, fm_mul]]
    have hmw4 : mo (upd g 23 (nI (c + 1))) T n p := mo_uk h (by decide)
    have hXw4 : fm_txs g (upd g 23 (nI (c + 1))) := txt_tr txt_rf (txt_u (by decide))
    have fw4_22 : (upd g 23 (nI (c + 1))) 22 = nI d := (pk_un (by decide)).trans h22
    have fw4_23 : (upd g 23 (nI (c + 1))) 23 = nI (c + 1) := pk_us
    refine fe_stI (mem' := fm (upd g 23 (nI (c + 1))) tp bt (fm_u a 1 (nI (3846 + (6 * N)) : Int32).toNatClampNeg 15) b) (by rfl) (by rfl) (fx_inN (i := 3846 + (6 * N)) (by omega) (by omega)) fm_si1 ?_
    rw [show Int32.toNatClampNeg (nI (3846 + (6 * N))) = 3846 + (6 * N) from nI_clamp (by omega)]
    have hSs5 : mTS T n A (N) a0 (fm_u a 1 (3846 + (6 * N)) 15) b := mTS_u hS (by omega)
    generalize (fm_u a 1 (3846 + (6 * N)) 15) = as5 at hSs5 ⊢
    refine fe_s 4 (pc' := 163) (lc' := [(5, .int 1), (4, .int 0), (3, .int (nI (3846 + (6 * N)))), (2, .int (nI N)), (1, .int 15), (0, .ref 0)]) (stk' := [.int 6, .int 1]) (mem' := fm (upd g 23 (nI (c + 1))) tp bt as5 b) (by intro _ _ _; eq_refl) ?_
    refine fe_s 1 (pc' := cond (fx_cb .ge 1 6) 182 166) (lc' := [(5, .int 1), (4, .int 0), (3, .int (nI (3846 + (6 * N)))), (2, .int (nI N)), (1, .int 15), (0, .ref 0)]) (stk' := []) (mem' := fm (upd g 23 (nI (c + 1))) tp bt as5 b) (by intro _ _ _; eq_refl) ?_
    rw [show (fx_cb .ge 1 6) = false from by decide]
    dsimp only [cond]
    refine fe_s 6 (pc' := 175) (lc' := [(5, .int 1), (4, .int 0), (3, .int (nI (3846 + (6 * N)))), (2, .int (nI N)), (1, .int 15), (0, .ref 0)]) (stk' := [.int 0, .int ((nI (3846 + (6 * N))) + 1), .ref 1]) (mem' := fm (upd g 23 (nI (c + 1))) tp bt as5 b) (by intro _ _ _; eq_refl) ?_
    rw [show ((nI (3846 + (6 * N))) + 1 : Int32) = nI ((3846 + (6 * N)) + 1) from by simp only [show (1 : Int32) = nI 1 from rfl, nI_add, fm_mul]]
    refine fe_stI (mem' := fm (upd g 23 (nI (c + 1))) tp bt (fm_u as5 1 (nI ((3846 + (6 * N)) + 1) : Int32).toNatClampNeg 0) b) (by rfl) (by rfl) (fx_inN (i := (3846 + (6 * N)) + 1) (by omega) (by omega)) fm_si1 ?_
    rw [show Int32.toNatClampNeg (nI ((3846 + (6 * N)) + 1)) = (3846 + (6 * N)) + 1 from nI_clamp (by omega)]
    have hSs6 : mTS T n A (N) a0 (fm_u as5 1 ((3846 + (6 * N)) + 1) 0) b := mTS_u hSs5 (by omega)
    generalize (fm_u as5 1 ((3846 + (6 * N)) + 1) 0) = as6 at hSs6 ⊢
    refine fe_s 4 (pc' := 163) (lc' := [(5, .int (1 + 1)), (4, .int 0), (3, .int (nI (3846 + (6 * N)))), (2, .int (nI N)), (1, .int 15), (0, .ref 0)]) (stk' := [.int 6, .int (1 + 1)]) (mem' := fm (upd g 23 (nI (c + 1))) tp bt as6 b) (by intro _ _ _; eq_refl) ?_
    rw [show (1 + 1 : Int32) = 2 from rfl]
    refine fe_s 1 (pc' := cond (fx_cb .ge 2 6) 182 166) (lc' := [(5, .int 2), (4, .int 0), (3, .int (nI (3846 + (6 * N)))), (2, .int (nI N)), (1, .int 15), (0, .ref 0)]) (stk' := []) (mem' := fm (upd g 23 (nI (c + 1))) tp bt as6 b) (by intro _ _ _; eq_refl) ?_
    rw [show (fx_cb .ge 2 6) = false from by decide]
    dsimp only [cond]
    refine fe_s 6 (pc' := 175) (lc' := [(5, .int 2), (4, .int 0), (3, .int (nI (3846 + (6 * N)))), (2, .int (nI N)), (1, .int 15), (0, .ref 0)]) (stk' := [.int 0, .int ((nI (3846 + (6 * N))) + 2), .ref 1]) (mem' := fm (upd g 23 (nI (c + 1))) tp bt as6 b) (by intro _ _ _; eq_refl) ?_
    rw [show ((nI (3846 + (6 * N))) + 2 : Int32) = nI ((3846 + (6 * N)) + 2) from by simp only [show (2 : Int32) = nI 2 from rfl, nI_add, fm_mul]]
    refine fe_stI (mem' := fm (upd g 23 (nI (c + 1))) tp bt (fm_u as6 1 (nI ((3846 + (6 * N)) + 2) : Int32).toNatClampNeg 0) b) (by rfl) (by rfl) (fx_inN (i := (3846 + (6 * N)) + 2) (by omega) (by omega)) fm_si1 ?_
    rw [show Int32.toNatClampNeg (nI ((3846 + (6 * N)) + 2)) = (3846 + (6 * N)) + 2 from nI_clamp (by omega)]
    have hSs7 : mTS T n A (N) a0 (fm_u as6 1 ((3846 + (6 * N)) + 2) 0) b := mTS_u hSs6 (by omega)
    generalize (fm_u as6 1 ((3846 + (6 * N)) + 2) 0) = as7 at hSs7 ⊢
    refine fe_s 4 (pc' := 163) (lc' := [(5, .int (2 + 1)), (4, .int 0), (3, .int (nI (3846 + (6 * N)))), (2, .int (nI N)), (1, .int 15), (0, .ref 0)]) (stk' := [.int 6, .int (2 + 1)]) (mem' := fm (upd g 23 (nI (c + 1))) tp bt as7 b) (by intro _ _ _; eq_refl) ?_
    rw [show (2 + 1 : Int32) = 3 from rfl]
    refine fe_s 1 (pc' := cond (fx_cb .ge 3 6) 182 166) (lc' := [(5, .int 3), (4, .int 0), (3, .int (nI (3846 + (6 * N)))), (2, .int (nI N)), (1, .int 15), (0, .ref 0)]) (stk' := []) (mem' := fm (upd g 23 (nI (c + 1))) tp bt as7 b) (by intro _ _ _; eq_refl) ?_
    rw [show (fx_cb .ge 3 6) = false from by decide]
    dsimp only [cond]
    refine fe_s 6 (pc' := 175) (lc' := [(5, .int 3), (4, .int 0), (3, .int (nI (3846 + (6 * N)))), (2, .int (nI N)), (1, .int 15), (0, .ref 0)]) (stk' := [.int 0, .int ((nI (3846 + (6 * N))) + 3), .ref 1]) (mem' := fm (upd g 23 (nI (c + 1))) tp bt as7 b) (by intro _ _ _; eq_refl) ?_
    rw [show ((nI (3846 + (6 * N))) + 3 : Int32) = nI ((3846 + (6 * N)) + 3) from by simp only [show (3 : Int32) = nI 3 from rfl, nI_add, fm_mul]]
    refine fe_stI (mem' := fm (upd g 23 (nI (c + 1))) tp bt (fm_u as7 1 (nI ((3846 + (6 * N)) + 3) : Int32).toNatClampNeg 0) b) (by rfl) (by rfl) (fx_inN (i := (3846 + (6 * N)) + 3) (by omega) (by omega)) fm_si1 ?_
    rw [show Int32.toNatClampNeg (nI ((3846 + (6 * N)) + 3)) = (3846 + (6 * N)) + 3 from nI_clamp (by omega)]
    have hSs8 : mTS T n A (N) a0 (fm_u as7 1 ((3846 + (6 * N)) + 3) 0) b := mTS_u hSs7 (by omega)
    generalize (fm_u as7 1 ((3846 + (6 * N)) + 3) 0) = as8 at hSs8 ⊢
    refine fe_s 4 (pc' := 163) (lc' := [(5, .int (3 + 1)), (4, .int 0), (3, .int (nI (3846 + (6 * N)))), (2, .int (nI N)), (1, .int 15), (0, .ref 0)]) (stk' := [.int 6, .int (3 + 1)]) (mem' := fm (upd g 23 (nI (c + 1))) tp bt as8 b) (by intro _ _ _; eq_refl) ?_
    rw [show (3 + 1 : Int32) = 4 from rfl]
    refine fe_s 1 (pc' := cond (fx_cb .ge 4 6) 182 166) (lc' := [(5, .int 4), (4, .int 0), (3, .int (nI (3846 + (6 * N)))), (2, .int (nI N)), (1, .int 15), (0, .ref 0)]) (stk' := []) (mem' := fm (upd g 23 (nI (c + 1))) tp bt as8 b) (by intro _ _ _; eq_refl) ?_
    rw [show (fx_cb .ge 4 6) = false from by decide]
    dsimp only [cond]
    refine fe_s 6 (pc' := 175) (lc' := [(5, .int 4), (4, .int 0), (3, .int (nI (3846 + (6 * N)))), (2, .int (nI N)), (1, .int 15), (0, .ref 0)]) (stk' := [.int 0, .int ((nI (3846 + (6 * N))) + 4), .ref 1]) (mem' := fm (upd g 23 (nI (c + 1))) tp bt as8 b) (by intro _ _ _; eq_refl) ?_
    rw [show ((nI (3846 + (6 * N))) + 4 : Int32) = nI ((3846 + (6 * N)) + 4) from by simp only [show (4 : Int32) = nI 4 from rfl, nI_add, fm_mul]]
    refine fe_stI (mem' := fm (upd g 23 (nI (c + 1))) tp bt (fm_u as8 1 (nI ((3846 + (6 * N)) + 4) : Int32).toNatClampNeg 0) b) (by rfl) (by rfl) (fx_inN (i := (3846 + (6 * N)) + 4) (by omega) (by omega)) fm_si1 ?_
    rw [show Int32.toNatClampNeg (nI ((3846 + (6 * N)) + 4)) = (3846 + (6 * N)) + 4 from nI_clamp (by omega)]
    have hSs9 : mTS T n A (N) a0 (fm_u as8 1 ((3846 + (6 * N)) + 4) 0) b := mTS_u hSs8 (by omega)
    generalize (fm_u as8 1 ((3846 + (6 * N)) + 4) 0) = as9 at hSs9 ⊢
    refine fe_s 4 (pc' := 163) (lc' := [(5, .int (4 + 1)), (4, .int 0), (3, .int (nI (3846 + (6 * N)))), (2, .int (nI N)), (1, .int 15), (0, .ref 0)]) (stk' := [.int 6, .int (4 + 1)]) (mem' := fm (upd g 23 (nI (c + 1))) tp bt as9 b) (by intro _ _ _; eq_refl) ?_
    rw [show (4 + 1 : Int32) = 5 from rfl]
    refine fe_s 1 (pc' := cond (fx_cb .ge 5 6) 182 166) (lc' := [(5, .int 5), (4, .int 0), (3, .int (nI (3846 + (6 * N)))), (2, .int (nI N)), (1, .int 15), (0, .ref 0)]) (stk' := []) (mem' := fm (upd g 23 (nI (c + 1))) tp bt as9 b) (by intro _ _ _; eq_refl) ?_
    rw [show (fx_cb .ge 5 6) = false from by decide]
    dsimp only [cond]
    refine fe_s 6 (pc' := 175) (lc' := [(5, .int 5), (4, .int 0), (3, .int (nI (3846 + (6 * N)))), (2, .int (nI N)), (1, .int 15), (0, .ref 0)]) (stk' := [.int 0, .int ((nI (3846 + (6 * N))) + 5), .ref 1]) (mem' := fm (upd g 23 (nI (c + 1))) tp bt as9 b) (by intro _ _ _; eq_refl) ?_
    rw [show ((nI (3846 + (6 * N))) + 5 : Int32) = nI ((3846 + (6 * N)) + 5) from by simp only [show (5 : Int32) = nI 5 from rfl, nI_add, fm_mul]]
    refine fe_stI (mem' := fm (upd g 23 (nI (c + 1))) tp bt (fm_u as9 1 (nI ((3846 + (6 * N)) + 5) : Int32).toNatClampNeg 0) b) (by rfl) (by rfl) (fx_inN (i := (3846 + (6 * N)) + 5) (by omega) (by omega)) fm_si1 ?_
    rw [show Int32.toNatClampNeg (nI ((3846 + (6 * N)) + 5)) = (3846 + (6 * N)) + 5 from nI_clamp (by omega)]
    have hSs10 : mTS T n A (N) a0 (fm_u as9 1 ((3846 + (6 * N)) + 5) 0) b := mTS_u hSs9 (by omega)
    generalize (fm_u as9 1 ((3846 + (6 * N)) + 5) 0) = as10 at hSs10 ⊢
    refine fe_s 4 (pc' := 163) (lc' := [(5, .int (5 + 1)), (4, .int 0), (3, .int (nI (3846 + (6 * N)))), (2, .int (nI N)), (1, .int 15), (0, .ref 0)]) (stk' := [.int 6, .int (5 + 1)]) (mem' := fm (upd g 23 (nI (c + 1))) tp bt as10 b) (by intro _ _ _; eq_refl) ?_
    rw [show (5 + 1 : Int32) = 6 from rfl]
    refine fe_s 1 (pc' := cond (fx_cb .ge 6 6) 182 166) (lc' := [(5, .int 6), (4, .int 0), (3, .int (nI (3846 + (6 * N)))), (2, .int (nI N)), (1, .int 15), (0, .ref 0)]) (stk' := []) (mem' := fm (upd g 23 (nI (c + 1))) tp bt as10 b) (by intro _ _ _; eq_refl) ?_
    rw [show (fx_cb .ge 6 6) = true from by decide]
    dsimp only [cond]
    refine fe_s 4 (pc' := 190) (lc' := [(5, .int 6), (4, .int 0), (3, .int (nI (3846 + (6 * N)))), (2, .int (nI N)), (1, .int 15), (0, .ref 0)]) (stk' := [.int 3374, .ref 1, .int 3374, .ref 1]) (mem' := fm (upd g 23 (nI (c + 1))) tp bt as10 b) (by intro _ _ _; eq_refl) ?_
    refine fe_ldI (by rfl) (by rfl) (fx_inN (i := 3374) (by omega) (by omega)) ?_
    rw [show Int32.toNatClampNeg (3374) = 3374 from rfl]
    rw [show as10 1 3374 = nI (N) from hSs10.2.2.2.1]
    refine fe_s 2 (pc' := 193) (lc' := [(5, .int 6), (4, .int 0), (3, .int (nI (3846 + (6 * N)))), (2, .int (nI N)), (1, .int 15), (0, .ref 0)]) (stk' := [.int ((nI N) + 1), .int 3374, .ref 1]) (mem' := fm (upd g 23 (nI (c + 1))) tp bt as10 b) (by intro _ _ _; eq_refl) ?_
    rw [show ((nI N) + 1 : Int32) = nI (N + 1) from by simp only [show (1 : Int32) = nI 1 from rfl, nI_add, fm_mul]]
    refine fe_stI (mem' := fm (upd g 23 (nI (c + 1))) tp bt (fm_u as10 1 (3374 : Int32).toNatClampNeg (nI (N + 1))) b) (by rfl) (by rfl) (fx_inN (i := 3374) (by omega) (by omega)) fm_si1 ?_
    rw [show Int32.toNatClampNeg (3374) = 3374 from rfl]
    have hSs11 : mTS T n A (N + 1) a0 (fm_u as10 1 3374 (nI (N + 1))) b := mTS_N hSs10
    generalize (fm_u as10 1 3374 (nI (N + 1))) = as11 at hSs11 ⊢
    refine fe_s 1 (pc' := 195) (lc' := [(5, .int 6), (4, .int 0), (3, .int (nI (3846 + (6 * N)))), (2, .int (nI N)), (1, .int 15), (0, .ref 0)]) (stk' := [.ref 0]) (mem' := fm (upd g 23 (nI (c + 1))) tp bt as11 b) (by intro _ _ _; eq_refl) ?_
    obtain ⟨gc12, hrc12, txc12, hmc12⟩ := mr_aheado (tp := tp) (bt := bt) (b := b) hSs11.1 hmw4 (by omega)
    refine fe_ivV hrc12 (by omega) (by rfl) (by rfl) (by rfl) (by rfl) (by rfl) (by rfl) ?_
    have fc12_22 : gc12 22 = nI d := (txc12 22 (by decide) (by decide) (by decide) (by decide) (by decide) (by decide)).trans fw4_22
    have fc12_23 : gc12 23 = nI (c + 1) := (txc12 23 (by decide) (by decide) (by decide) (by decide) (by decide) (by decide)).trans fw4_23
    have hXc12 := txt_tr hXw4 (txt_8 txc12)
    refine fe_s 3 (pc' := 201) (lc' := [(5, .int 6), (4, .int 0), (3, .int (nI (3846 + (6 * N)))), (2, .int (nI N)), (1, .int 15), (0, .ref 0)]) (stk' := [.int (nI (3846 + (6 * N))), .int 15, .ref 0]) (mem' := fm gc12 tp bt as11 b) (by intro _ _ _; eq_refl) ?_
    obtain ⟨xc13, gc13, ac13, hrc13, txc13, hSc13, hxc13⟩ := mt_ord16 (tp := tp) (bt := bt) (r := 3846 + (6 * N)) hSs11 hmc12 (by omega)
    refine fe_ivV hrc13 (by omega) (by rfl) (by rfl) (by rfl) (by rfl) (by rfl) (by rfl) ?_
    have fc13_22 : gc13 22 = nI d := (txc13 22 (by decide) (by decide) (by decide) (by decide) (by decide) (by decide)).trans fc12_22
    have fc13_23 : gc13 23 = nI (c + 1) := (txc13 23 (by decide) (by decide) (by decide) (by decide) (by decide) (by decide)).trans fc12_23
    have hXc13 := txt_tr hXc12 (txt_8 txc13)
    rcases hxc13 with ⟨rfl, qc13, hmc13, hqc13⟩ | ⟨rfl, zc13, hmc13, hqc13⟩
    · refine fe_s 1 (pc' := cond (fx_cb .ne 1 0) 209 207) (lc' := [(5, .int 6), (4, .int 0), (3, .int (nI (3846 + (6 * N)))), (2, .int (nI N)), (1, .int 15), (0, .ref 0)]) (stk' := []) (mem' := fm gc13 tp bt ac13 b) (by intro _ _ _; eq_refl) ?_
      rw [show (fx_cb .ne 1 0) = true from by decide]
      dsimp only [cond]
      refine fe_s 1 (pc' := 211) (lc' := [(5, .int 6), (4, .int 0), (3, .int (nI (3846 + (6 * N)))), (2, .int (nI N)), (1, .int 15), (0, .ref 0)]) (stk' := [.int 0]) (mem' := fm gc13 tp bt ac13 b) (by intro _ _ _; eq_refl) ?_
      refine fe_s 1 (pc' := cond (fx_cb .eq 0 0) 234 214) (lc' := [(5, .int 6), (4, .int 0), (3, .int (nI (3846 + (6 * N)))), (2, .int (nI N)), (1, .int 15), (0, .ref 0)]) (stk' := []) (mem' := fm gc13 tp bt ac13 b) (by intro _ _ _; eq_refl) ?_
      rw [show (fx_cb .eq 0 0) = true from by decide]
      dsimp only [cond]
      refine fe_s 2 (pc' := 237) (lc' := [(5, .int 6), (4, .int 0), (3, .int (nI (3846 + (6 * N)))), (2, .int (nI N)), (1, .int 15), (0, .ref 0)]) (stk' := [.int 20, .int 15]) (mem' := fm gc13 tp bt ac13 b) (by intro _ _ _; eq_refl) ?_
      refine fe_s 1 (pc' := cond (fx_cb .ne 15 20) 291 240) (lc' := [(5, .int 6), (4, .int 0), (3, .int (nI (3846 + (6 * N)))), (2, .int (nI N)), (1, .int 15), (0, .ref 0)]) (stk' := []) (mem' := fm gc13 tp bt ac13 b) (by intro _ _ _; eq_refl) ?_
      rw [show (fx_cb .ne 15 20) = true from by decide]
      dsimp only [cond]
      refine fe_s 2 (pc' := 294) (lc' := [(5, .int 6), (4, .int 0), (3, .int (nI (3846 + (6 * N)))), (2, .int (nI N)), (1, .int 15), (0, .ref 0)]) (stk' := [.int 59, .ref 0]) (mem' := fm gc13 tp bt ac13 b) (by intro _ _ _; eq_refl) ?_
      obtain ⟨xc14, gc14, hrc14, txc14, hxc14⟩ := mr_wantSign (tp := tp) (bt := bt) (b := b) (w := 59) hSc13.1 (by decide) hmc13
      refine fe_ivV hrc14 (by omega) (by rfl) (by rfl) (by rfl) (by rfl) (by rfl) (by rfl) ?_
      have fc14_22 : gc14 22 = nI d := (txc14 22 (by decide) (by decide) (by decide) (by decide) (by decide) (by decide)).trans fc13_22
      have fc14_23 : gc14 23 = nI (c + 1) := (txc14 23 (by decide) (by decide) (by decide) (by decide) (by decide) (by decide)).trans fc13_23
      have hXc14 := txt_tr hXc13 (txt_8 txc14)
      rcases hxc14 with ⟨hwc14, rfl, hmc14⟩ | ⟨hwc14, rfl, hmc14⟩
      · refine fe_ret ⟨1, _, _, ⟨hXc14, Or.inl ⟨rfl, (A, 4 * (c + 1) + d, (sp_n T n qc13)), by rw [show tl_k T n A c d p 16 = (if 30 ≤ c then .inl (6, sp_s T n p) else if false = true ∧ 3 ≤ d then .inl (7, sp_s T n p) else tl_rest T n A 16 (sp_n T n p) (fun q => sp_sign T n 59 q (fun q2 => .inr (A, 4 * (c + 1) + d, q2)))) from rfl, if_neg (by omega), if_neg (fun z => by cases z.1), hqc13, sp_sign_t hwc14], rfl, hmc14, ?_⟩⟩, rfl⟩ (by rfl) (by rfl) (by rfl)
        refine ⟨by dsimp only; omega, ?_, ?_, N + 1, by dsimp only; omega, hSc13⟩
        · rw [show (4 * (c + 1) + d) / 4 = c + 1 by omega]; exact fc14_23
        · rw [show (4 * (c + 1) + d) % 4 = d by omega]; exact fc14_22
      · exact fe_ret ⟨0, _, _, ⟨hXc14, Or.inr ⟨rfl, (sp_m T n qc13, sp_s T n qc13), by rw [show tl_k T n A c d p 16 = (if 30 ≤ c then .inl (6, sp_s T n p) else if false = true ∧ 3 ≤ d then .inl (7, sp_s T n p) else tl_rest T n A 16 (sp_n T n p) (fun q => sp_sign T n 59 q (fun q2 => .inr (A, 4 * (c + 1) + d, q2)))) from rfl, if_neg (by omega), if_neg (fun z => by cases z.1), hqc13, sp_sign_f hwc14], hmc14, hSc13.2.2.2.2⟩⟩, rfl⟩ (by rfl) (by rfl) (by rfl)
    · refine fe_s 1 (pc' := cond (fx_cb .ne 0 0) 209 207) (lc' := [(5, .int 6), (4, .int 0), (3, .int (nI (3846 + (6 * N)))), (2, .int (nI N)), (1, .int 15), (0, .ref 0)]) (stk' := []) (mem' := fm gc13 tp bt ac13 b) (by intro _ _ _; eq_refl) ?_
      rw [show (fx_cb .ne 0 0) = false from by decide]
      dsimp only [cond]
      refine fe_s 1 (pc' := 208) (lc' := [(5, .int 6), (4, .int 0), (3, .int (nI (3846 + (6 * N)))), (2, .int (nI N)), (1, .int 15), (0, .ref 0)]) (stk' := [.int 0]) (mem' := fm gc13 tp bt ac13 b) (by intro _ _ _; eq_refl) ?_
      exact fe_ret ⟨0, _, _, ⟨hXc13, Or.inr ⟨rfl, (zc13.1, zc13.2), by rw [show tl_k T n A c d p 16 = (if 30 ≤ c then .inl (6, sp_s T n p) else if false = true ∧ 3 ≤ d then .inl (7, sp_s T n p) else tl_rest T n A 16 (sp_n T n p) (fun q => sp_sign T n 59 q (fun q2 => .inr (A, 4 * (c + 1) + d, q2)))) from rfl, if_neg (by omega), if_neg (fun z => by cases z.1), hqc13], hmc13, hSc13.2.2.2.2⟩⟩, rfl⟩ (by rfl) (by rfl) (by rfl)
set_option maxRecDepth 8000 in
theorem mt_st17 (hS : mTS T n A N a0 a b) (h : mo g T n p) (hc : c ≤ 30) (hd : d ≤ 3) (hN : N + d ≤ 2 * c) (h23 : g 23 = nI c) (h22 : g 22 = nI d) (hk : sp_k T n p = 1) (hmw : sp_mw T n p = 18) : ∃ (v : Int32) (g' : Nat → Int32) (a' : Nat → Nat → Int32), fr_T 10 251 [.ref 0] (fm g tp bt a b) (some (.int v)) (fm g' tp bt a' b) ∧ fm_txs g g' ∧ mTR T n A a0 b (tl_k T n A c d p 17) v g' a' := by
  suffices h : ∃ (v : Option Value) (mem' : fx_M), (fun R => ∃ (v : Int32) (g' : Nat → Int32) (a' : Nat → Nat → Int32), (fm_txs g g' ∧ mTR T n A a0 b (tl_k T n A c d p 17) v g' a') ∧ R = (some (.int v), fm g' tp bt a' b)) (v, mem') ∧ fr_T 10 251 [.ref 0] (fm g tp bt a b) v mem' by
    obtain ⟨v, mem', ⟨w, g', a', h1, hR⟩, h2⟩ := h
    cases hR
    exact ⟨w, g', a', h2, h1⟩
  refine fe_meth (f := 251) (as := [.ref 0]) (F := fun R => ∃ (v : Int32) (g' : Nat → Int32) (a' : Nat → Nat → Int32), (fm_txs g g' ∧ mTR T n A a0 b (tl_k T n A c d p 17) v g' a') ∧ R = (some (.int v), fm g' tp bt a' b)) (M := gk_m251) (by rfl) (by rfl) ?_
  refine fe_s 2 (pc' := 3) (lc' := [(0, .ref 0)]) (stk' := [.ref 22, .ref 0]) (mem' := fm g tp bt a b) (by intro _ _ _; eq_refl) ?_
  refine fe_ivV (mr_inWords (tp := tp) (bt := bt) (b := b) hS.1 h.1 h.2.1) (by omega) (by rfl) (by rfl) (by rfl) (by rfl) (by rfl) (by rfl) ?_
  rw [hmw]
  refine fe_s 4 (pc' := 14) (lc' := [(1, .int 18), (0, .ref 0)]) (stk' := [.int 3374, .ref 1]) (mem' := fm g tp bt a b) (by intro _ _ _; eq_refl) ?_
  refine fe_ldI (by rfl) (by rfl) (fx_inN (i := 3374) (by omega) (by omega)) ?_
  rw [show Int32.toNatClampNeg (3374) = 3374 from rfl]
  rw [show a 1 3374 = nI (N) from hS.2.2.2.1]
  refine fe_s 9 (pc' := 28) (lc' := [(3, .int (3846 + (6 * (nI N)))), (2, .int (nI N)), (1, .int 18), (0, .ref 0)]) (stk' := [.int 18, .int 18]) (mem' := fm g tp bt a b) (by intro _ _ _; eq_refl) ?_
  rw [show (3846 + (6 * (nI N)) : Int32) = nI (3846 + (6 * N)) from by simp only [show (3846 : Int32) = nI 3846 from rfl, show (6 : Int32) = nI 6 from rfl, nI_add, fm_mul]]
  refine fe_s 1 (pc' := cond (fx_cb .eq 18 18) 37 31) (lc' := [(3, .int (nI (3846 + (6 * N)))), (2, .int (nI N)), (1, .int 18), (0, .ref 0)]) (stk' := []) (mem' := fm g tp bt a b) (by intro _ _ _; eq_refl) ?_
  rw [show (fx_cb .eq 18 18) = true from by decide]
  dsimp only [cond]
  refine fe_s 5 (pc' := 47) (lc' := [(4, .int 1), (3, .int (nI (3846 + (6 * N)))), (2, .int (nI N)), (1, .int 18), (0, .ref 0)]) (stk' := [.int 11, .int 18]) (mem' := fm g tp bt a b) (by intro _ _ _; eq_refl) ?_
  refine fe_s 1 (pc' := cond (fx_cb .lt 18 11) 81 50) (lc' := [(4, .int 1), (3, .int (nI (3846 + (6 * N)))), (2, .int (nI N)), (1, .int 18), (0, .ref 0)]) (stk' := []) (mem' := fm g tp bt a b) (by intro _ _ _; eq_refl) ?_
  rw [show (fx_cb .lt 18 11) = false from by decide]
  dsimp only [cond]
  refine fe_s 2 (pc' := 53) (lc' := [(4, .int 1), (3, .int (nI (3846 + (6 * N)))), (2, .int (nI N)), (1, .int 18), (0, .ref 0)]) (stk' := [.int 21, .int 18]) (mem' := fm g tp bt a b) (by intro _ _ _; eq_refl) ?_
  refine fe_s 1 (pc' := cond (fx_cb .gt 18 21) 81 56) (lc' := [(4, .int 1), (3, .int (nI (3846 + (6 * N)))), (2, .int (nI N)), (1, .int 18), (0, .ref 0)]) (stk' := []) (mem' := fm g tp bt a b) (by intro _ _ _; eq_refl) ?_
  rw [show (fx_cb .gt 18 21) = false from by decide]
  dsimp only [cond]
  refine fe_s 2 (pc' := 59) (lc' := [(4, .int 1), (3, .int (nI (3846 + (6 * N)))), (2, .int (nI N)), (1, .int 18), (0, .ref 0)]) (stk' := [.int 16, .int 18]) (mem' := fm g tp bt a b) (by intro _ _ _; eq_refl) ?_
  refine fe_s 1 (pc' := cond (fx_cb .eq 18 16) 81 62) (lc' := [(4, .int 1), (3, .int (nI (3846 + (6 * N)))), (2, .int (nI N)), (1, .int 18), (0, .ref 0)]) (stk' := []) (mem' := fm g tp bt a b) (by intro _ _ _; eq_refl) ?_
  rw [show (fx_cb .eq 18 16) = false from by decide]
  dsimp only [cond]
  refine fe_s 2 (pc' := 65) (lc' := [(4, .int 1), (3, .int (nI (3846 + (6 * N)))), (2, .int (nI N)), (1, .int 18), (0, .ref 0)]) (stk' := [.int 17, .int 18]) (mem' := fm g tp bt a b) (by intro _ _ _; eq_refl) ?_
  refine fe_s 1 (pc' := cond (fx_cb .eq 18 17) 81 68) (lc' := [(4, .int 1), (3, .int (nI (3846 + (6 * N)))), (2, .int (nI N)), (1, .int 18), (0, .ref 0)]) (stk' := []) (mem' := fm g tp bt a b) (by intro _ _ _; eq_refl) ?_
  rw [show (fx_cb .eq 18 17) = false from by decide]
  dsimp only [cond]
  refine fe_s 2 (pc' := 71) (lc' := [(4, .int 1), (3, .int (nI (3846 + (6 * N)))), (2, .int (nI N)), (1, .int 18), (0, .ref 0)]) (stk' := [.int 20, .int 18]) (mem' := fm g tp bt a b) (by intro _ _ _; eq_refl) ?_
  refine fe_s 1 (pc' := cond (fx_cb .ne 18 20) 87 74) (lc' := [(4, .int 1), (3, .int (nI (3846 + (6 * N)))), (2, .int (nI N)), (1, .int 18), (0, .ref 0)]) (stk' := []) (mem' := fm g tp bt a b) (by intro _ _ _; eq_refl) ?_
  rw [show (fx_cb .ne 18 20) = true from by decide]
  dsimp only [cond]
  refine fe_s 2 (pc' := 90) (lc' := [(4, .int 1), (3, .int (nI (3846 + (6 * N)))), (2, .int (nI N)), (1, .int 18), (0, .ref 0)]) (stk' := [.int 20, .int 18]) (mem' := fm g tp bt a b) (by intro _ _ _; eq_refl) ?_
  refine fe_s 1 (pc' := cond (fx_cb .eq 18 20) 109 93) (lc' := [(4, .int 1), (3, .int (nI (3846 + (6 * N)))), (2, .int (nI N)), (1, .int 18), (0, .ref 0)]) (stk' := []) (mem' := fm g tp bt a b) (by intro _ _ _; eq_refl) ?_
  rw [show (fx_cb .eq 18 20) = false from by decide]
  dsimp only [cond]
  refine fe_s 3 (pc' := 99) (lc' := [(4, .int 1), (3, .int (nI (3846 + (6 * N)))), (2, .int (nI N)), (1, .int 18), (0, .ref 0)]) (stk' := [.int 30, .int (g 23)]) (mem' := fm g tp bt a b) (by intro _ _ _; eq_refl) ?_
  try rw [h23]
  refine fe_s 1 (pc' := cond (fx_cb .ne (nI c) 30) 109 102) (lc' := [(4, .int 1), (3, .int (nI (3846 + (6 * N)))), (2, .int (nI N)), (1, .int 18), (0, .ref 0)]) (stk' := []) (mem' := fm g tp bt a b) (by intro _ _ _; eq_refl) ?_
  by_cases y2 : c = 30
  · rw [show (fx_cb .ne (nI c) 30) = false from cb_neF (a := c) (b := 30) (by omega) (by omega) (by omega)]
    dsimp only [cond]
    refine fe_s 2 (pc' := 105) (lc' := [(4, .int 1), (3, .int (nI (3846 + (6 * N)))), (2, .int (nI N)), (1, .int 18), (0, .ref 0)]) (stk' := [.int 6, .ref 0]) (mem' := fm g tp bt a b) (by intro _ _ _; eq_refl) ?_
    obtain ⟨gc3, hrc3, txc3, hmc3⟩ := mr_failsx (tp := tp) (bt := bt) (a := a) (b := b) (x := 6) h (by decide) (by omega)
    refine fe_ivV hrc3 (by omega) (by rfl) (by rfl) (by rfl) (by rfl) (by rfl) (by rfl) ?_
    have fc3_23 : gc3 23 = nI c := (txc3 23 (by decide) (by decide) (by decide) (by decide) (by decide) (by decide)).trans h23
    have fc3_22 : gc3 22 = nI d := (txc3 22 (by decide) (by decide) (by decide) (by decide) (by decide) (by decide)).trans h22
    have hXc3 := txt_tr txt_rf (txt_8 txc3)
    exact fe_ret ⟨0, _, _, ⟨hXc3, Or.inr ⟨rfl, (6, sp_s T n p), by rw [show tl_k T n A c d p 17 = (if 30 ≤ c then .inl (6, sp_s T n p) else if true = true ∧ 3 ≤ d then .inl (7, sp_s T n p) else tl_rest T n A 17 (sp_n T n p) (fun q => sp_sign T n 59 q (fun q2 => .inr (A, 4 * (c + 1) + (d + 1), q2)))) from rfl, if_pos (by omega)], hmc3, hS.2.2.2.2⟩⟩, rfl⟩ (by rfl) (by rfl) (by rfl)
  · rw [show (fx_cb .ne (nI c) 30) = true from cb_neT (a := c) (b := 30) (by omega) (by omega) (by omega)]
    dsimp only [cond]
    refine fe_s 1 (pc' := 111) (lc' := [(4, .int 1), (3, .int (nI (3846 + (6 * N)))), (2, .int (nI N)), (1, .int 18), (0, .ref 0)]) (stk' := [.int 1]) (mem' := fm g tp bt a b) (by intro _ _ _; eq_refl) ?_
    refine fe_s 1 (pc' := cond (fx_cb .eq 1 0) 129 114) (lc' := [(4, .int 1), (3, .int (nI (3846 + (6 * N)))), (2, .int (nI N)), (1, .int 18), (0, .ref 0)]) (stk' := []) (mem' := fm g tp bt a b) (by intro _ _ _; eq_refl) ?_
    rw [show (fx_cb .eq 1 0) = false from by decide]
    dsimp only [cond]
    refine fe_s 3 (pc' := 119) (lc' := [(4, .int 1), (3, .int (nI (3846 + (6 * N)))), (2, .int (nI N)), (1, .int 18), (0, .ref 0)]) (stk' := [.int 3, .int (g 22)]) (mem' := fm g tp bt a b) (by intro _ _ _; eq_refl) ?_
    try rw [h22]
    refine fe_s 1 (pc' := cond (fx_cb .ne (nI d) 3) 129 122) (lc' := [(4, .int 1), (3, .int (nI (3846 + (6 * N)))), (2, .int (nI N)), (1, .int 18), (0, .ref 0)]) (stk' := []) (mem' := fm g tp bt a b) (by intro _ _ _; eq_refl) ?_
    by_cases y4 : d = 3
    · rw [show (fx_cb .ne (nI d) 3) = false from cb_neF (a := d) (b := 3) (by omega) (by omega) (by omega)]
      dsimp only [cond]
      refine fe_s 2 (pc' := 125) (lc' := [(4, .int 1), (3, .int (nI (3846 + (6 * N)))), (2, .int (nI N)), (1, .int 18), (0, .ref 0)]) (stk' := [.int 7, .ref 0]) (mem' := fm g tp bt a b) (by intro _ _ _; eq_refl) ?_
      obtain ⟨gc5, hrc5, txc5, hmc5⟩ := mr_failsx (tp := tp) (bt := bt) (a := a) (b := b) (x := 7) h (by decide) (by omega)
      refine fe_ivV hrc5 (by omega) (by rfl) (by rfl) (by rfl) (by rfl) (by rfl) (by rfl) ?_
      have fc5_23 : gc5 23 = nI c := (txc5 23 (by decide) (by decide) (by decide) (by decide) (by decide) (by decide)).trans h23
      have fc5_22 : gc5 22 = nI d := (txc5 22 (by decide) (by decide) (by decide) (by decide) (by decide) (by decide)).trans h22
      have hXc5 := txt_tr txt_rf (txt_8 txc5)
      exact fe_ret ⟨0, _, _, ⟨hXc5, Or.inr ⟨rfl, (7, sp_s T n p), by rw [show tl_k T n A c d p 17 = (if 30 ≤ c then .inl (6, sp_s T n p) else if true = true ∧ 3 ≤ d then .inl (7, sp_s T n p) else tl_rest T n A 17 (sp_n T n p) (fun q => sp_sign T n 59 q (fun q2 => .inr (A, 4 * (c + 1) + (d + 1), q2)))) from rfl, if_neg (by omega), if_pos ⟨rfl, by omega⟩], hmc5, hS.2.2.2.2⟩⟩, rfl⟩ (by rfl) (by rfl) (by rfl)
    · rw [show (fx_cb .ne (nI d) 3) = true from cb_neT (a := d) (b := 3) (by omega) (by omega) (by omega)]
      dsimp only [cond]
      refine fe_s 5 (pc' := 137) (lc' := [(4, .int 1), (3, .int (nI (3846 + (6 * N)))), (2, .int (nI N)), (1, .int 18), (0, .ref 0)]) (stk' := [.int 20, .int 18, .int (g 23), .ref 0]) (mem' := fm g tp bt a b) (by intro _ _ _; eq_refl) ?_
      try rw [h23]
      refine fe_s 1 (pc' := cond (fx_cb .ne 18 20) 144 140) (lc' := [(4, .int 1), (3, .int (nI (3846 + (6 * N)))), (2, .int (nI N)), (1, .int 18), (0, .ref 0)]) (stk' := [.int (nI c), .ref 0]) (mem' := fm g tp bt a b) (by intro _ _ _; eq_refl) ?_
      rw [show (fx_cb .ne 18 20) = true from by decide]
      dsimp only [cond]
      refine fe_s 7 (pc' := 155) (lc' := [(4, .int 1), (3, .int (nI (3846 + (6 * N)))), (2, .int (nI N)), (1, .int 18), (0, .ref 0)]) (stk' := [.int 18, .int (nI (3846 + (6 * N))), .ref 1]) (mem' := fm (upd g 23 ((nI c) + 1)) tp bt a b) (by intro _ _ _; eq_refl) ?_
      rw [show ((nI c) + 1 : Int32) = nI (c + 1) from by simp only [show (1 : Int32) = nI 1 from rfl, nI_add, fm_mul]]
      have hmw6 : mo (upd g 23 (nI (c + 1))) T n p := mo_uk h (by decide)
      have hXw6 : fm_txs g (upd g 23 (nI (c + 1))) := txt_tr txt_rf (txt_u (by decide))
      have fw6_22 : (upd g 23 (nI (c + 1))) 22 = nI d := (pk_un (by decide)).trans h22
      have fw6_23 : (upd g 23 (nI (c + 1))) 23 = nI (c + 1) := pk_us
      refine fe_stI (mem' := fm (upd g 23 (nI (c + 1))) tp bt (fm_u a 1 (nI (3846 + (6 * N)) : Int32).toNatClampNeg 18) b) (by rfl) (by rfl) (fx_inN (i := 3846 + (6 * N)) (by omega) (by omega)) fm_si1 ?_
      rw [show Int32.toNatClampNeg (nI (3846 + (6 * N))) = 3846 + (6 * N) from nI_clamp (by omega)]
      have hSs7 : mTS T n A (N) a0 (fm_u a 1 (3846 + (6 * N)) 18) b := mTS_u hS (by omega)
      generalize (fm_u a 1 (3846 + (6 * N)) 18) = as7 at hSs7 ⊢
      refine fe_s 4 (pc' := 163) (lc' := [(5, .int 1), (4, .int 1), (3, .int (nI (3846 + (6 * N)))), (2, .int (nI N)), (1, .int 18), (0, .ref 0)]) (stk' := [.int 6, .int 1]) (mem' := fm (upd g 23 (nI (c + 1))) tp bt as7 b) (by intro _ _ _; eq_refl) ?_
      refine fe_s 1 (pc' := cond (fx_cb .ge 1 6) 182 166) (lc' := [(5, .int 1), (4, .int 1), (3, .int (nI (3846 + (6 * N)))), (2, .int (nI N)), (1, .int 18), (0, .ref 0)]) (stk' := []) (mem' := fm (upd g 23 (nI (c + 1))) tp bt as7 b) (by intro _ _ _; eq_refl) ?_
      rw [show (fx_cb .ge 1 6) = false from by decide]
      dsimp only [cond]
      refine fe_s 6 (pc' := 175) (lc' := [(5, .int 1), (4, .int 1), (3, .int (nI (3846 + (6 * N)))), (2, .int (nI N)), (1, .int 18), (0, .ref 0)]) (stk' := [.int 0, .int ((nI (3846 + (6 * N))) + 1), .ref 1]) (mem' := fm (upd g 23 (nI (c + 1))) tp bt as7 b) (by intro _ _ _; eq_refl) ?_
      rw [show ((nI (3846 + (6 * N))) + 1 : Int32) = nI ((3846 + (6 * N)) + 1) from by simp only [show (1 : Int32) = nI 1 from rfl, nI_add, fm_mul]]
      refine fe_stI (mem' := fm (upd g 23 (nI (c + 1))) tp bt (fm_u as7 1 (nI ((3846 + (6 * N)) + 1) : Int32).toNatClampNeg 0) b) (by rfl) (by rfl) (fx_inN (i := (3846 + (6 * N)) + 1) (by omega) (by omega)) fm_si1 ?_
      rw [show Int32.toNatClampNeg (nI ((3846 + (6 * N)) + 1)) = (3846 + (6 * N)) + 1 from nI_clamp (by omega)]
      have hSs8 : mTS T n A (N) a0 (fm_u as7 1 ((3846 + (6 * N)) + 1) 0) b := mTS_u hSs7 (by omega)
      generalize (fm_u as7 1 ((3846 + (6 * N)) + 1) 0) = as8 at hSs8 ⊢
      refine fe_s 4 (pc' := 163) (lc' := [(5, .int (1 + 1)), (4, .int 1), (3, .int (nI (3846 + (6 * N)))), (2, .int (nI N)), (1, .int 18), (0, .ref 0)]) (stk' := [.int 6, .int (1 + 1)]) (mem' := fm (upd g 23 (nI (c + 1))) tp bt as8 b) (by intro _ _ _; eq_refl) ?_
      rw [show (1 + 1 : Int32) = 2 from rfl]
      refine fe_s 1 (pc' := cond (fx_cb .ge 2 6) 182 166) (lc' := [(5, .int 2), (4, .int 1), (3, .int (nI (3846 + (6 * N)))), (2, .int (nI N)), (1, .int 18), (0, .ref 0)]) (stk' := []) (mem' := fm (upd g 23 (nI (c + 1))) tp bt as8 b) (by intro _ _ _; eq_refl) ?_
      rw [show (fx_cb .ge 2 6) = false from by decide]
      dsimp only [cond]
      refine fe_s 6 (pc' := 175) (lc' := [(5, .int 2), (4, .int 1), (3, .int (nI (3846 + (6 * N)))), (2, .int (nI N)), (1, .int 18), (0, .ref 0)]) (stk' := [.int 0, .int ((nI (3846 + (6 * N))) + 2), .ref 1]) (mem' := fm (upd g 23 (nI (c + 1))) tp bt as8 b) (by intro _ _ _; eq_refl) ?_
      rw [show ((nI (3846 + (6 * N))) + 2 : Int32) = nI ((3846 + (6 * N)) + 2) from by simp only [show (2 : Int32) = nI 2 from rfl, nI_add, fm_mul]]
      refine fe_stI (mem' := fm (upd g 23 (nI (c + 1))) tp bt (fm_u as8 1 (nI ((3846 + (6 * N)) + 2) : Int32).toNatClampNeg 0) b) (by rfl) (by rfl) (fx_inN (i := (3846 + (6 * N)) + 2) (by omega) (by omega)) fm_si1 ?_
      rw [show Int32.toNatClampNeg (nI ((3846 + (6 * N)) + 2)) = (3846 + (6 * N)) + 2 from nI_clamp (by omega)]
      have hSs9 : mTS T n A (N) a0 (fm_u as8 1 ((3846 + (6 * N)) + 2) 0) b := mTS_u hSs8 (by omega)
      generalize (fm_u as8 1 ((3846 + (6 * N)) + 2) 0) = as9 at hSs9 ⊢
      refine fe_s 4 (pc' := 163) (lc' := [(5, .int (2 + 1)), (4, .int 1), (3, .int (nI (3846 + (6 * N)))), (2, .int (nI N)), (1, .int 18), (0, .ref 0)]) (stk' := [.int 6, .int (2 + 1)]) (mem' := fm (upd g 23 (nI (c + 1))) tp bt as9 b) (by intro _ _ _; eq_refl) ?_
      rw [show (2 + 1 : Int32) = 3 from rfl]
      refine fe_s 1 (pc' := cond (fx_cb .ge 3 6) 182 166) (lc' := [(5, .int 3), (4, .int 1), (3, .int (nI (3846 + (6 * N)))), (2, .int (nI N)), (1, .int 18), (0, .ref 0)]) (stk' := []) (mem' := fm (upd g 23 (nI (c + 1))) tp bt as9 b) (by intro _ _ _; eq_refl) ?_
      rw [show (fx_cb .ge 3 6) = false from by decide]
      dsimp only [cond]
      refine fe_s 6 (pc' := 175) (lc' := [(5, .int 3), (4, .int 1), (3, .int (nI (3846 + (6 * N)))), (2, .int (nI N)), (1, .int 18), (0, .ref 0)]) (stk' := [.int 0, .int ((nI (3846 + (6 * N))) + 3), .ref 1]) (mem' := fm (upd g 23 (nI (c + 1))) tp bt as9 b) (by intro _ _ _; eq_refl) ?_
      rw [show ((nI (3846 + (6 * N))) + 3 : Int32) = nI ((3846 + (6 * N)) + 3) from by simp only [show (3 : Int32) = nI 3 from rfl, nI_add, fm_mul]]
      refine fe_stI (mem' := fm (upd g 23 (nI (c + 1))) tp bt (fm_u as9 1 (nI ((3846 + (6 * N)) + 3) : Int32).toNatClampNeg 0) b) (by rfl) (by rfl) (fx_inN (i := (3846 + (6 * N)) + 3) (by omega) (by omega)) fm_si1 ?_
      rw [show Int32.toNatClampNeg (nI ((3846 + (6 * N)) + 3)) = (3846 + (6 * N)) + 3 from nI_clamp (by omega)]
      have hSs10 : mTS T n A (N) a0 (fm_u as9 1 ((3846 + (6 * N)) + 3) 0) b := mTS_u hSs9 (by omega)
      generalize (fm_u as9 1 ((3846 + (6 * N)) + 3) 0) = as10 at hSs10 ⊢
      refine fe_s 4 (pc' := 163) (lc' := [(5, .int (3 + 1)), (4, .int 1), (3, .int (nI (3846 + (6 * N)))), (2, .int (nI N)), (1, .int 18), (0, .ref 0)]) (stk' := [.int 6, .int (3 + 1)]) (mem' := fm (upd g 23 (nI (c + 1))) tp bt as10 b) (by intro _ _ _; eq_refl) ?_
      rw [show (3 + 1 : Int32) = 4 from rfl]
      refine fe_s 1 (pc' := cond (fx_cb .ge 4 6) 182 166) (lc' := [(5, .int 4), (4, .int 1), (3, .int (nI (3846 + (6 * N)))), (2, .int (nI N)), (1, .int 18), (0, .ref 0)]) (stk' := []) (mem' := fm (upd g 23 (nI (c + 1))) tp bt as10 b) (by intro _ _ _; eq_refl) ?_
      rw [show (fx_cb .ge 4 6) = false from by decide]
      dsimp only [cond]
      refine fe_s 6 (pc' := 175) (lc' := [(5, .int 4), (4, .int 1), (3, .int (nI (3846 + (6 * N)))), (2, .int (nI N)), (1, .int 18), (0, .ref 0)]) (stk' := [.int 0, .int ((nI (3846 + (6 * N))) + 4), .ref 1]) (mem' := fm (upd g 23 (nI (c + 1))) tp bt as10 b) (by intro _ _ _; eq_refl) ?_
      rw [show ((nI (3846 + (6 * N))) + 4 : Int32) = nI ((3846 + (6 * N)) + 4) from by simp only [show (4 : Int32) = nI 4 from rfl, nI_add, fm_mul]]
      refine fe_stI (mem' := fm (upd g 23 (nI (c + 1))) tp bt (fm_u as10 1 (nI ((3846 + (6 * N)) + 4) : Int32).toNatClampNeg 0) b) (by rfl) (by rfl) (fx_inN (i := (3846 + (6 * N)) + 4) (by omega) (by omega)) fm_si1 ?_
      rw [show Int32.toNatClampNeg (nI ((3846 + (6 * N)) + 4)) = (3846 + (6 * N)) + 4 from nI_clamp (by omega)]
      have hSs11 : mTS T n A (N) a0 (fm_u as10 1 ((3846 + (6 * N)) + 4) 0) b := mTS_u hSs10 (by omega)
      generalize (fm_u as10 1 ((3846 + (6 * N)) + 4) 0) = as11 at hSs11 ⊢
      refine fe_s 4 (pc' := 163) (lc' := [(5, .int (4 + 1)), (4, .int 1), (3, .int (nI (3846 + (6 * N)))), (2, .int (nI N)), (1, .int 18), (0, .ref 0)]) (stk' := [.int 6, .int (4 + 1)]) (mem' := fm (upd g 23 (nI (c + 1))) tp bt as11 b) (by intro _ _ _; eq_refl) ?_
      rw [show (4 + 1 : Int32) = 5 from rfl]
      refine fe_s 1 (pc' := cond (fx_cb .ge 5 6) 182 166) (lc' := [(5, .int 5), (4, .int 1), (3, .int (nI (3846 + (6 * N)))), (2, .int (nI N)), (1, .int 18), (0, .ref 0)]) (stk' := []) (mem' := fm (upd g 23 (nI (c + 1))) tp bt as11 b) (by intro _ _ _; eq_refl) ?_
      rw [show (fx_cb .ge 5 6) = false from by decide]
      dsimp only [cond]
      refine fe_s 6 (pc' := 175) (lc' := [(5, .int 5), (4, .int 1), (3, .int (nI (3846 + (6 * N)))), (2, .int (nI N)), (1, .int 18), (0, .ref 0)]) (stk' := [.int 0, .int ((nI (3846 + (6 * N))) + 5), .ref 1]) (mem' := fm (upd g 23 (nI (c + 1))) tp bt as11 b) (by intro _ _ _; eq_refl) ?_
      rw [show ((nI (3846 + (6 * N))) + 5 : Int32) = nI ((3846 + (6 * N)) + 5) from by simp only [show (5 : Int32) = nI 5 from rfl, nI_add, fm_mul]]
      refine fe_stI (mem' := fm (upd g 23 (nI (c + 1))) tp bt (fm_u as11 1 (nI ((3846 + (6 * N)) + 5) : Int32).toNatClampNeg 0) b) (by rfl) (by rfl) (fx_inN (i := (3846 + (6 * N)) + 5) (by omega) (by omega)) fm_si1 ?_
      rw [show Int32.toNatClampNeg (nI ((3846 + (6 * N)) + 5)) = (3846 + (6 * N)) + 5 from nI_clamp (by omega)]
      have hSs12 : mTS T n A (N) a0 (fm_u as11 1 ((3846 + (6 * N)) + 5) 0) b := mTS_u hSs11 (by omega)
      generalize (fm_u as11 1 ((3846 + (6 * N)) + 5) 0) = as12 at hSs12 ⊢
      refine fe_s 4 (pc' := 163) (lc' := [(5, .int (5 + 1)), (4, .int 1), (3, .int (nI (3846 + (6 * N)))), (2, .int (nI N)), (1, .int 18), (0, .ref 0)]) (stk' := [.int 6, .int (5 + 1)]) (mem' := fm (upd g 23 (nI (c + 1))) tp bt as12 b) (by intro _ _ _; eq_refl) ?_
      rw [show (5 + 1 : Int32) = 6 from rfl]
      refine fe_s 1 (pc' := cond (fx_cb .ge 6 6) 182 166) (lc' := [(5, .int 6), (4, .int 1), (3, .int (nI (3846 + (6 * N)))), (2, .int (nI N)), (1, .int 18), (0, .ref 0)]) (stk' := []) (mem' := fm (upd g 23 (nI (c + 1))) tp bt as12 b) (by intro _ _ _; eq_refl) ?_
      rw [show (fx_cb .ge 6 6) = true from by decide]
      dsimp only [cond]
      refine fe_s 4 (pc' := 190) (lc' := [(5, .int 6), (4, .int 1), (3, .int (nI (3846 + (6 * N)))), (2, .int (nI N)), (1, .int 18), (0, .ref 0)]) (stk' := [.int 3374, .ref 1, .int 3374, .ref 1]) (mem' := fm (upd g 23 (nI (c + 1))) tp bt as12 b) (by intro _ _ _; eq_refl) ?_
      refine fe_ldI (by rfl) (by rfl) (fx_inN (i := 3374) (by omega) (by omega)) ?_
      rw [show Int32.toNatClampNeg (3374) = 3374 from rfl]
      rw [show as12 1 3374 = nI (N) from hSs12.2.2.2.1]
      refine fe_s 2 (pc' := 193) (lc' := [(5, .int 6), (4, .int 1), (3, .int (nI (3846 + (6 * N)))), (2, .int (nI N)), (1, .int 18), (0, .ref 0)]) (stk' := [.int ((nI N) + 1), .int 3374, .ref 1]) (mem' := fm (upd g 23 (nI (c + 1))) tp bt as12 b) (by intro _ _ _; eq_refl) ?_
      rw [show ((nI N) + 1 : Int32) = nI (N + 1) from by simp only [show (1 : Int32) = nI 1 from rfl, nI_add, fm_mul]]
      refine fe_stI (mem' := fm (upd g 23 (nI (c + 1))) tp bt (fm_u as12 1 (3374 : Int32).toNatClampNeg (nI (N + 1))) b) (by rfl) (by rfl) (fx_inN (i := 3374) (by omega) (by omega)) fm_si1 ?_
      rw [show Int32.toNatClampNeg (3374) = 3374 from rfl]
      have hSs13 : mTS T n A (N + 1) a0 (fm_u as12 1 3374 (nI (N + 1))) b := mTS_N hSs12
      generalize (fm_u as12 1 3374 (nI (N + 1))) = as13 at hSs13 ⊢
      refine fe_s 1 (pc' := 195) (lc' := [(5, .int 6), (4, .int 1), (3, .int (nI (3846 + (6 * N)))), (2, .int (nI N)), (1, .int 18), (0, .ref 0)]) (stk' := [.ref 0]) (mem' := fm (upd g 23 (nI (c + 1))) tp bt as13 b) (by intro _ _ _; eq_refl) ?_
      obtain ⟨gc14, hrc14, txc14, hmc14⟩ := mr_aheado (tp := tp) (bt := bt) (b := b) hSs13.1 hmw6 (by omega)
      refine fe_ivV hrc14 (by omega) (by rfl) (by rfl) (by rfl) (by rfl) (by rfl) (by rfl) ?_
      have fc14_22 : gc14 22 = nI d := (txc14 22 (by decide) (by decide) (by decide) (by decide) (by decide) (by decide)).trans fw6_22
      have fc14_23 : gc14 23 = nI (c + 1) := (txc14 23 (by decide) (by decide) (by decide) (by decide) (by decide) (by decide)).trans fw6_23
      have hXc14 := txt_tr hXw6 (txt_8 txc14)
      refine fe_s 3 (pc' := 201) (lc' := [(5, .int 6), (4, .int 1), (3, .int (nI (3846 + (6 * N)))), (2, .int (nI N)), (1, .int 18), (0, .ref 0)]) (stk' := [.int (nI (3846 + (6 * N))), .int 18, .ref 0]) (mem' := fm gc14 tp bt as13 b) (by intro _ _ _; eq_refl) ?_
      obtain ⟨xc15, gc15, ac15, hrc15, txc15, hSc15, hxc15⟩ := mt_ord17 (tp := tp) (bt := bt) (r := 3846 + (6 * N)) hSs13 hmc14 (by omega)
      refine fe_ivV hrc15 (by omega) (by rfl) (by rfl) (by rfl) (by rfl) (by rfl) (by rfl) ?_
      have fc15_22 : gc15 22 = nI d := (txc15 22 (by decide) (by decide) (by decide) (by decide) (by decide) (by decide)).trans fc14_22
      have fc15_23 : gc15 23 = nI (c + 1) := (txc15 23 (by decide) (by decide) (by decide) (by decide) (by decide) (by decide)).trans fc14_23
      have hXc15 := txt_tr hXc14 (txt_8 txc15)
      rcases hxc15 with ⟨rfl, qc15, hmc15, hqc15⟩ | ⟨rfl, zc15, hmc15, hqc15⟩
      · refine fe_s 1 (pc' := cond (fx_cb .ne 1 0) 209 207) (lc' := [(5, .int 6), (4, .int 1), (3, .int (nI (3846 + (6 * N)))), (2, .int (nI N)), (1, .int 18), (0, .ref 0)]) (stk' := []) (mem' := fm gc15 tp bt ac15 b) (by intro _ _ _; eq_refl) ?_
        rw [show (fx_cb .ne 1 0) = true from by decide]
        dsimp only [cond]
        refine fe_s 1 (pc' := 211) (lc' := [(5, .int 6), (4, .int 1), (3, .int (nI (3846 + (6 * N)))), (2, .int (nI N)), (1, .int 18), (0, .ref 0)]) (stk' := [.int 1]) (mem' := fm gc15 tp bt ac15 b) (by intro _ _ _; eq_refl) ?_
        refine fe_s 1 (pc' := cond (fx_cb .eq 1 0) 234 214) (lc' := [(5, .int 6), (4, .int 1), (3, .int (nI (3846 + (6 * N)))), (2, .int (nI N)), (1, .int 18), (0, .ref 0)]) (stk' := []) (mem' := fm gc15 tp bt ac15 b) (by intro _ _ _; eq_refl) ?_
        rw [show (fx_cb .eq 1 0) = false from by decide]
        dsimp only [cond]
        refine fe_s 5 (pc' := 223) (lc' := [(5, .int 6), (4, .int 1), (3, .int (nI (3846 + (6 * N)))), (2, .int (nI N)), (1, .int 18), (0, .ref 0)]) (stk' := [.int (nI N), .int (gc15 22), .ref 8]) (mem' := fm gc15 tp bt ac15 b) (by intro _ _ _; eq_refl) ?_
        try rw [fc15_22]
        refine fe_stI (mem' := fm gc15 tp bt (fm_u ac15 8 (nI d : Int32).toNatClampNeg (nI N)) b) (by rfl) (by rfl) (fx_inN (i := d) (by omega) (by omega)) fm_si8 ?_
        rw [show Int32.toNatClampNeg (nI d) = d from nI_clamp (by omega)]
        have hSs16 : mTS T n A (N + 1) a0 (fm_u ac15 8 d (nI N)) b := mTS_8 hSc15 (by omega)
        generalize (fm_u ac15 8 d (nI N)) = as16 at hSs16 ⊢
        refine fe_s 8 (pc' := 237) (lc' := [(5, .int 6), (4, .int 1), (3, .int (nI (3846 + (6 * N)))), (2, .int (nI N)), (1, .int 18), (0, .ref 0)]) (stk' := [.int 20, .int 18]) (mem' := fm (upd gc15 22 ((gc15 22) + 1)) tp bt as16 b) (by intro _ _ _; eq_refl) ?_
        try rw [fc15_22]
        rw [show ((nI d) + 1 : Int32) = nI (d + 1) from by simp only [show (1 : Int32) = nI 1 from rfl, nI_add, fm_mul]]
        have hmw17 : mo (upd gc15 22 (nI (d + 1))) T n qc15 := mo_uk hmc15 (by decide)
        have hXw17 : fm_txs g (upd gc15 22 (nI (d + 1))) := txt_tr hXc15 (txt_u (by decide))
        have fw17_23 : (upd gc15 22 (nI (d + 1))) 23 = nI (c + 1) := (pk_un (by decide)).trans fc15_23
        have fw17_22 : (upd gc15 22 (nI (d + 1))) 22 = nI (d + 1) := pk_us
        refine fe_s 1 (pc' := cond (fx_cb .ne 18 20) 291 240) (lc' := [(5, .int 6), (4, .int 1), (3, .int (nI (3846 + (6 * N)))), (2, .int (nI N)), (1, .int 18), (0, .ref 0)]) (stk' := []) (mem' := fm (upd gc15 22 (nI (d + 1))) tp bt as16 b) (by intro _ _ _; eq_refl) ?_
        rw [show (fx_cb .ne 18 20) = true from by decide]
        dsimp only [cond]
        refine fe_s 2 (pc' := 294) (lc' := [(5, .int 6), (4, .int 1), (3, .int (nI (3846 + (6 * N)))), (2, .int (nI N)), (1, .int 18), (0, .ref 0)]) (stk' := [.int 59, .ref 0]) (mem' := fm (upd gc15 22 (nI (d + 1))) tp bt as16 b) (by intro _ _ _; eq_refl) ?_
        obtain ⟨xc18, gc18, hrc18, txc18, hxc18⟩ := mr_wantSign (tp := tp) (bt := bt) (b := b) (w := 59) hSs16.1 (by decide) hmw17
        refine fe_ivV hrc18 (by omega) (by rfl) (by rfl) (by rfl) (by rfl) (by rfl) (by rfl) ?_
        have fc18_23 : gc18 23 = nI (c + 1) := (txc18 23 (by decide) (by decide) (by decide) (by decide) (by decide) (by decide)).trans fw17_23
        have fc18_22 : gc18 22 = nI (d + 1) := (txc18 22 (by decide) (by decide) (by decide) (by decide) (by decide) (by decide)).trans fw17_22
        have hXc18 := txt_tr hXw17 (txt_8 txc18)
        rcases hxc18 with ⟨hwc18, rfl, hmc18⟩ | ⟨hwc18, rfl, hmc18⟩
        · refine fe_ret ⟨1, _, _, ⟨hXc18, Or.inl ⟨rfl, (A, 4 * (c + 1) + (d + 1), (sp_n T n qc15)), by rw [show tl_k T n A c d p 17 = (if 30 ≤ c then .inl (6, sp_s T n p) else if true = true ∧ 3 ≤ d then .inl (7, sp_s T n p) else tl_rest T n A 17 (sp_n T n p) (fun q => sp_sign T n 59 q (fun q2 => .inr (A, 4 * (c + 1) + (d + 1), q2)))) from rfl, if_neg (by omega), if_neg (fun z => by have := z.2; omega), hqc15, sp_sign_t hwc18], rfl, hmc18, ?_⟩⟩, rfl⟩ (by rfl) (by rfl) (by rfl)
          refine ⟨by dsimp only; omega, ?_, ?_, N + 1, by dsimp only; omega, hSs16⟩
          · rw [show (4 * (c + 1) + (d + 1)) / 4 = c + 1 by omega]; exact fc18_23
          · rw [show (4 * (c + 1) + (d + 1)) % 4 = d + 1 by omega]; exact fc18_22
        · exact fe_ret ⟨0, _, _, ⟨hXc18, Or.inr ⟨rfl, (sp_m T n qc15, sp_s T n qc15), by rw [show tl_k T n A c d p 17 = (if 30 ≤ c then .inl (6, sp_s T n p) else if true = true ∧ 3 ≤ d then .inl (7, sp_s T n p) else tl_rest T n A 17 (sp_n T n p) (fun q => sp_sign T n 59 q (fun q2 => .inr (A, 4 * (c + 1) + (d + 1), q2)))) from rfl, if_neg (by omega), if_neg (fun z => by have := z.2; omega), hqc15, sp_sign_f hwc18], hmc18, hSs16.2.2.2.2⟩⟩, rfl⟩ (by rfl) (by rfl) (by rfl)
      · refine fe_s 1 (pc' := cond (fx_cb .ne 0 0) 209 207) (lc' := [(5, .int 6), (4, .int 1), (3, .int (nI (3846 + (6 * N)))), (2, .int (nI N)), (1, .int 18), (0, .ref 0)]) (stk' := []) (mem' := fm gc15 tp bt ac15 b) (by intro _ _ _; eq_refl) ?_
        rw [show (fx_cb .ne 0 0) = false from by decide]
        dsimp only [cond]
        refine fe_s 1 (pc' := 208) (lc' := [(5, .int 6), (4, .int 1), (3, .int (nI (3846 + (6 * N)))), (2, .int (nI N)), (1, .int 18), (0, .ref 0)]) (stk' := [.int 0]) (mem' := fm gc15 tp bt ac15 b) (by intro _ _ _; eq_refl) ?_
        exact fe_ret ⟨0, _, _, ⟨hXc15, Or.inr ⟨rfl, (zc15.1, zc15.2), by rw [show tl_k T n A c d p 17 = (if 30 ≤ c then .inl (6, sp_s T n p) else if true = true ∧ 3 ≤ d then .inl (7, sp_s T n p) else tl_rest T n A 17 (sp_n T n p) (fun q => sp_sign T n 59 q (fun q2 => .inr (A, 4 * (c + 1) + (d + 1), q2)))) from rfl, if_neg (by omega), if_neg (fun z => by have := z.2; omega), hqc15], hmc15, hSc15.2.2.2.2⟩⟩, rfl⟩ (by rfl) (by rfl) (by rfl)
set_option maxRecDepth 8000 in
theorem mt_st20 (hS : mTS T n A N a0 a b) (h : mo g T n p) (hc : c ≤ 30) (hd : d ≤ 3) (hN : N + d ≤ 2 * c) (h23 : g 23 = nI c) (h22 : g 22 = nI d) (hk : sp_k T n p = 1) (hmw : sp_mw T n p = 19) : ∃ (v : Int32) (g' : Nat → Int32) (a' : Nat → Nat → Int32), fr_T 10 251 [.ref 0] (fm g tp bt a b) (some (.int v)) (fm g' tp bt a' b) ∧ fm_txs g g' ∧ mTR T n A a0 b (tl_k T n A c d p 20) v g' a' := by
  suffices h : ∃ (v : Option Value) (mem' : fx_M), (fun R => ∃ (v : Int32) (g' : Nat → Int32) (a' : Nat → Nat → Int32), (fm_txs g g' ∧ mTR T n A a0 b (tl_k T n A c d p 20) v g' a') ∧ R = (some (.int v), fm g' tp bt a' b)) (v, mem') ∧ fr_T 10 251 [.ref 0] (fm g tp bt a b) v mem' by
    obtain ⟨v, mem', ⟨w, g', a', h1, hR⟩, h2⟩ := h
    cases hR
    exact ⟨w, g', a', h2, h1⟩
  refine fe_meth (f := 251) (as := [.ref 0]) (F := fun R => ∃ (v : Int32) (g' : Nat → Int32) (a' : Nat → Nat → Int32), (fm_txs g g' ∧ mTR T n A a0 b (tl_k T n A c d p 20) v g' a') ∧ R = (some (.int v), fm g' tp bt a' b)) (M := gk_m251) (by rfl) (by rfl) ?_
  refine fe_s 2 (pc' := 3) (lc' := [(0, .ref 0)]) (stk' := [.ref 22, .ref 0]) (mem' := fm g tp bt a b) (by intro _ _ _; eq_refl) ?_
  refine fe_ivV (mr_inWords (tp := tp) (bt := bt) (b := b) hS.1 h.1 h.2.1) (by omega) (by rfl) (by rfl) (by rfl) (by rfl) (by rfl) (by rfl) ?_
  rw [hmw]
  refine fe_s 4 (pc' := 14) (lc' := [(1, .int 19), (0, .ref 0)]) (stk' := [.int 3374, .ref 1]) (mem' := fm g tp bt a b) (by intro _ _ _; eq_refl) ?_
  refine fe_ldI (by rfl) (by rfl) (fx_inN (i := 3374) (by omega) (by omega)) ?_
  rw [show Int32.toNatClampNeg (3374) = 3374 from rfl]
  rw [show a 1 3374 = nI (N) from hS.2.2.2.1]
  refine fe_s 9 (pc' := 28) (lc' := [(3, .int (3846 + (6 * (nI N)))), (2, .int (nI N)), (1, .int 19), (0, .ref 0)]) (stk' := [.int 18, .int 19]) (mem' := fm g tp bt a b) (by intro _ _ _; eq_refl) ?_
  rw [show (3846 + (6 * (nI N)) : Int32) = nI (3846 + (6 * N)) from by simp only [show (3846 : Int32) = nI 3846 from rfl, show (6 : Int32) = nI 6 from rfl, nI_add, fm_mul]]
  refine fe_s 1 (pc' := cond (fx_cb .eq 19 18) 37 31) (lc' := [(3, .int (nI (3846 + (6 * N)))), (2, .int (nI N)), (1, .int 19), (0, .ref 0)]) (stk' := []) (mem' := fm g tp bt a b) (by intro _ _ _; eq_refl) ?_
  rw [show (fx_cb .eq 19 18) = false from by decide]
  dsimp only [cond]
  refine fe_s 2 (pc' := 34) (lc' := [(3, .int (nI (3846 + (6 * N)))), (2, .int (nI N)), (1, .int 19), (0, .ref 0)]) (stk' := [.int 19, .int 19]) (mem' := fm g tp bt a b) (by intro _ _ _; eq_refl) ?_
  refine fe_s 1 (pc' := cond (fx_cb .ne 19 19) 41 37) (lc' := [(3, .int (nI (3846 + (6 * N)))), (2, .int (nI N)), (1, .int 19), (0, .ref 0)]) (stk' := []) (mem' := fm g tp bt a b) (by intro _ _ _; eq_refl) ?_
  rw [show (fx_cb .ne 19 19) = false from by decide]
  dsimp only [cond]
  refine fe_s 5 (pc' := 47) (lc' := [(4, .int 1), (3, .int (nI (3846 + (6 * N)))), (2, .int (nI N)), (1, .int 19), (0, .ref 0)]) (stk' := [.int 11, .int 19]) (mem' := fm g tp bt a b) (by intro _ _ _; eq_refl) ?_
  refine fe_s 1 (pc' := cond (fx_cb .lt 19 11) 81 50) (lc' := [(4, .int 1), (3, .int (nI (3846 + (6 * N)))), (2, .int (nI N)), (1, .int 19), (0, .ref 0)]) (stk' := []) (mem' := fm g tp bt a b) (by intro _ _ _; eq_refl) ?_
  rw [show (fx_cb .lt 19 11) = false from by decide]
  dsimp only [cond]
  refine fe_s 2 (pc' := 53) (lc' := [(4, .int 1), (3, .int (nI (3846 + (6 * N)))), (2, .int (nI N)), (1, .int 19), (0, .ref 0)]) (stk' := [.int 21, .int 19]) (mem' := fm g tp bt a b) (by intro _ _ _; eq_refl) ?_
  refine fe_s 1 (pc' := cond (fx_cb .gt 19 21) 81 56) (lc' := [(4, .int 1), (3, .int (nI (3846 + (6 * N)))), (2, .int (nI N)), (1, .int 19), (0, .ref 0)]) (stk' := []) (mem' := fm g tp bt a b) (by intro _ _ _; eq_refl) ?_
  rw [show (fx_cb .gt 19 21) = false from by decide]
  dsimp only [cond]
  refine fe_s 2 (pc' := 59) (lc' := [(4, .int 1), (3, .int (nI (3846 + (6 * N)))), (2, .int (nI N)), (1, .int 19), (0, .ref 0)]) (stk' := [.int 16, .int 19]) (mem' := fm g tp bt a b) (by intro _ _ _; eq_refl) ?_
  refine fe_s 1 (pc' := cond (fx_cb .eq 19 16) 81 62) (lc' := [(4, .int 1), (3, .int (nI (3846 + (6 * N)))), (2, .int (nI N)), (1, .int 19), (0, .ref 0)]) (stk' := []) (mem' := fm g tp bt a b) (by intro _ _ _; eq_refl) ?_
  rw [show (fx_cb .eq 19 16) = false from by decide]
  dsimp only [cond]
  refine fe_s 2 (pc' := 65) (lc' := [(4, .int 1), (3, .int (nI (3846 + (6 * N)))), (2, .int (nI N)), (1, .int 19), (0, .ref 0)]) (stk' := [.int 17, .int 19]) (mem' := fm g tp bt a b) (by intro _ _ _; eq_refl) ?_
  refine fe_s 1 (pc' := cond (fx_cb .eq 19 17) 81 68) (lc' := [(4, .int 1), (3, .int (nI (3846 + (6 * N)))), (2, .int (nI N)), (1, .int 19), (0, .ref 0)]) (stk' := []) (mem' := fm g tp bt a b) (by intro _ _ _; eq_refl) ?_
  rw [show (fx_cb .eq 19 17) = false from by decide]
  dsimp only [cond]
  refine fe_s 2 (pc' := 71) (lc' := [(4, .int 1), (3, .int (nI (3846 + (6 * N)))), (2, .int (nI N)), (1, .int 19), (0, .ref 0)]) (stk' := [.int 20, .int 19]) (mem' := fm g tp bt a b) (by intro _ _ _; eq_refl) ?_
  refine fe_s 1 (pc' := cond (fx_cb .ne 19 20) 87 74) (lc' := [(4, .int 1), (3, .int (nI (3846 + (6 * N)))), (2, .int (nI N)), (1, .int 19), (0, .ref 0)]) (stk' := []) (mem' := fm g tp bt a b) (by intro _ _ _; eq_refl) ?_
  rw [show (fx_cb .ne 19 20) = true from by decide]
  dsimp only [cond]
  refine fe_s 2 (pc' := 90) (lc' := [(4, .int 1), (3, .int (nI (3846 + (6 * N)))), (2, .int (nI N)), (1, .int 19), (0, .ref 0)]) (stk' := [.int 20, .int 19]) (mem' := fm g tp bt a b) (by intro _ _ _; eq_refl) ?_
  refine fe_s 1 (pc' := cond (fx_cb .eq 19 20) 109 93) (lc' := [(4, .int 1), (3, .int (nI (3846 + (6 * N)))), (2, .int (nI N)), (1, .int 19), (0, .ref 0)]) (stk' := []) (mem' := fm g tp bt a b) (by intro _ _ _; eq_refl) ?_
  rw [show (fx_cb .eq 19 20) = false from by decide]
  dsimp only [cond]
  refine fe_s 3 (pc' := 99) (lc' := [(4, .int 1), (3, .int (nI (3846 + (6 * N)))), (2, .int (nI N)), (1, .int 19), (0, .ref 0)]) (stk' := [.int 30, .int (g 23)]) (mem' := fm g tp bt a b) (by intro _ _ _; eq_refl) ?_
  try rw [h23]
  refine fe_s 1 (pc' := cond (fx_cb .ne (nI c) 30) 109 102) (lc' := [(4, .int 1), (3, .int (nI (3846 + (6 * N)))), (2, .int (nI N)), (1, .int 19), (0, .ref 0)]) (stk' := []) (mem' := fm g tp bt a b) (by intro _ _ _; eq_refl) ?_
  by_cases y2 : c = 30
  · rw [show (fx_cb .ne (nI c) 30) = false from cb_neF (a := c) (b := 30) (by omega) (by omega) (by omega)]
    dsimp only [cond]
    refine fe_s 2 (pc' := 105) (lc' := [(4, .int 1), (3, .int (nI (3846 + (6 * N)))), (2, .int (nI N)), (1, .int 19), (0, .ref 0)]) (stk' := [.int 6, .ref 0]) (mem' := fm g tp bt a b) (by intro _ _ _; eq_refl) ?_
    obtain ⟨gc3, hrc3, txc3, hmc3⟩ := mr_failsx (tp := tp) (bt := bt) (a := a) (b := b) (x := 6) h (by decide) (by omega)
    refine fe_ivV hrc3 (by omega) (by rfl) (by rfl) (by rfl) (by rfl) (by rfl) (by rfl) ?_
    have fc3_23 : gc3 23 = nI c := (txc3 23 (by decide) (by decide) (by decide) (by decide) (by decide) (by decide)).trans h23
    have fc3_22 : gc3 22 = nI d := (txc3 22 (by decide) (by decide) (by decide) (by decide) (by decide) (by decide)).trans h22
    have hXc3 := txt_tr txt_rf (txt_8 txc3)
    exact fe_ret ⟨0, _, _, ⟨hXc3, Or.inr ⟨rfl, (6, sp_s T n p), by rw [show tl_k T n A c d p 20 = (if 30 ≤ c then .inl (6, sp_s T n p) else if true = true ∧ 3 ≤ d then .inl (7, sp_s T n p) else tl_rest T n A 20 (sp_n T n p) (fun q => sp_sign T n 59 q (fun q2 => .inr (A, 4 * (c + 1) + (d + 1), q2)))) from rfl, if_pos (by omega)], hmc3, hS.2.2.2.2⟩⟩, rfl⟩ (by rfl) (by rfl) (by rfl)
  · rw [show (fx_cb .ne (nI c) 30) = true from cb_neT (a := c) (b := 30) (by omega) (by omega) (by omega)]
    dsimp only [cond]
    refine fe_s 1 (pc' := 111) (lc' := [(4, .int 1), (3, .int (nI (3846 + (6 * N)))), (2, .int (nI N)), (1, .int 19), (0, .ref 0)]) (stk' := [.int 1]) (mem' := fm g tp bt a b) (by intro _ _ _; eq_refl) ?_
    refine fe_s 1 (pc' := cond (fx_cb .eq 1 0) 129 114) (lc' := [(4, .int 1), (3, .int (nI (3846 + (6 * N)))), (2, .int (nI N)), (1, .int 19), (0, .ref 0)]) (stk' := []) (mem' := fm g tp bt a b) (by intro _ _ _; eq_refl) ?_
    rw [show (fx_cb .eq 1 0) = false from by decide]
    dsimp only [cond]
    refine fe_s 3 (pc' := 119) (lc' := [(4, .int 1), (3, .int (nI (3846 + (6 * N)))), (2, .int (nI N)), (1, .int 19), (0, .ref 0)]) (stk' := [.int 3, .int (g 22)]) (mem' := fm g tp bt a b) (by intro _ _ _; eq_refl) ?_
    try rw [h22]
    refine fe_s 1 (pc' := cond (fx_cb .ne (nI d) 3) 129 122) (lc' := [(4, .int 1), (3, .int (nI (3846 + (6 * N)))), (2, .int (nI N)), (1, .int 19), (0, .ref 0)]) (stk' := []) (mem' := fm g tp bt a b) (by intro _ _ _; eq_refl) ?_
    by_cases y4 : d = 3
    · rw [show (fx_cb .ne (nI d) 3) = false from cb_neF (a := d) (b := 3) (by omega) (by omega) (by omega)]
      dsimp only [cond]
      refine fe_s 2 (pc' := 125) (lc' := [(4, .int 1), (3, .int (nI (3846 + (6 * N)))), (2, .int (nI N)), (1, .int 19), (0, .ref 0)]) (stk' := [.int 7, .ref 0]) (mem' := fm g tp bt a b) (by intro _ _ _; eq_refl) ?_
      obtain ⟨gc5, hrc5, txc5, hmc5⟩ := mr_failsx (tp := tp) (bt := bt) (a := a) (b := b) (x := 7) h (by decide) (by omega)
      refine fe_ivV hrc5 (by omega) (by rfl) (by rfl) (by rfl) (by rfl) (by rfl) (by rfl) ?_
      have fc5_23 : gc5 23 = nI c := (txc5 23 (by decide) (by decide) (by decide) (by decide) (by decide) (by decide)).trans h23
      have fc5_22 : gc5 22 = nI d := (txc5 22 (by decide) (by decide) (by decide) (by decide) (by decide) (by decide)).trans h22
      have hXc5 := txt_tr txt_rf (txt_8 txc5)
      exact fe_ret ⟨0, _, _, ⟨hXc5, Or.inr ⟨rfl, (7, sp_s T n p), by rw [show tl_k T n A c d p 20 = (if 30 ≤ c then .inl (6, sp_s T n p) else if true = true ∧ 3 ≤ d then .inl (7, sp_s T n p) else tl_rest T n A 20 (sp_n T n p) (fun q => sp_sign T n 59 q (fun q2 => .inr (A, 4 * (c + 1) + (d + 1), q2)))) from rfl, if_neg (by omega), if_pos ⟨rfl, by omega⟩], hmc5, hS.2.2.2.2⟩⟩, rfl⟩ (by rfl) (by rfl) (by rfl)
    · rw [show (fx_cb .ne (nI d) 3) = true from cb_neT (a := d) (b := 3) (by omega) (by omega) (by omega)]
      dsimp only [cond]
      refine fe_s 5 (pc' := 137) (lc' := [(4, .int 1), (3, .int (nI (3846 + (6 * N)))), (2, .int (nI N)), (1, .int 19), (0, .ref 0)]) (stk' := [.int 20, .int 19, .int (g 23), .ref 0]) (mem' := fm g tp bt a b) (by intro _ _ _; eq_refl) ?_
      try rw [h23]
      refine fe_s 1 (pc' := cond (fx_cb .ne 19 20) 144 140) (lc' := [(4, .int 1), (3, .int (nI (3846 + (6 * N)))), (2, .int (nI N)), (1, .int 19), (0, .ref 0)]) (stk' := [.int (nI c), .ref 0]) (mem' := fm g tp bt a b) (by intro _ _ _; eq_refl) ?_
      rw [show (fx_cb .ne 19 20) = true from by decide]
      dsimp only [cond]
      refine fe_s 7 (pc' := 155) (lc' := [(4, .int 1), (3, .int (nI (3846 + (6 * N)))), (2, .int (nI N)), (1, .int 19), (0, .ref 0)]) (stk' := [.int 19, .int (nI (3846 + (6 * N))), .ref 1]) (mem' := fm (upd g 23 ((nI c) + 1)) tp bt a b) (by intro _ _ _; eq_refl) ?_
      rw [show ((nI c) + 1 : Int32) = nI (c + 1) from by simp only [show (1 : Int32) = nI 1 from rfl, nI_add, fm_mul]]
      have hmw6 : mo (upd g 23 (nI (c + 1))) T n p := mo_uk h (by decide)
      have hXw6 : fm_txs g (upd g 23 (nI (c + 1))) := txt_tr txt_rf (txt_u (by decide))
      have fw6_22 : (upd g 23 (nI (c + 1))) 22 = nI d := (pk_un (by decide)).trans h22
      have fw6_23 : (upd g 23 (nI (c + 1))) 23 = nI (c + 1) := pk_us
      refine fe_stI (mem' := fm (upd g 23 (nI (c + 1))) tp bt (fm_u a 1 (nI (3846 + (6 * N)) : Int32).toNatClampNeg 19) b) (by rfl) (by rfl) (fx_inN (i := 3846 + (6 * N)) (by omega) (by omega)) fm_si1 ?_
      rw [show Int32.toNatClampNeg (nI (3846 + (6 * N))) = 3846 + (6 * N) from nI_clamp (by omega)]
      have hSs7 : mTS T n A (N) a0 (fm_u a 1 (3846 + (6 * N)) 19) b := mTS_u hS (by omega)
      generalize (fm_u a 1 (3846 + (6 * N)) 19) = as7 at hSs7 ⊢
      refine fe_s 4 (pc' := 163) (lc' := [(5, .int 1), (4, .int 1), (3, .int (nI (3846 + (6 * N)))), (2, .int (nI N)), (1, .int 19), (0, .ref 0)]) (stk' := [.int 6, .int 1]) (mem' := fm (upd g 23 (nI (c + 1))) tp bt as7 b) (by intro _ _ _; eq_refl) ?_
      refine fe_s 1 (pc' := cond (fx_cb .ge 1 6) 182 166) (lc' := [(5, .int 1), (4, .int 1), (3, .int (nI (3846 + (6 * N)))), (2, .int (nI N)), (1, .int 19), (0, .ref 0)]) (stk' := []) (mem' := fm (upd g 23 (nI (c + 1))) tp bt as7 b) (by intro _ _ _; eq_refl) ?_
      rw [show (fx_cb .ge 1 6) = false from by decide]
      dsimp only [cond]
      refine fe_s 6 (pc' := 175) (lc' := [(5, .int 1), (4, .int 1), (3, .int (nI (3846 + (6 * N)))), (2, .int (nI N)), (1, .int 19), (0, .ref 0)]) (stk' := [.int 0, .int ((nI (3846 + (6 * N))) + 1), .ref 1]) (mem' := fm (upd g 23 (nI (c + 1))) tp bt as7 b) (by intro _ _ _; eq_refl) ?_
      rw [show ((nI (3846 + (6 * N))) + 1 : Int32) = nI ((3846 + (6 * N)) + 1) from by simp only [show (1 : Int32) = nI 1 from rfl, nI_add, fm_mul]]
      refine fe_stI (mem' := fm (upd g 23 (nI (c + 1))) tp bt (fm_u as7 1 (nI ((3846 + (6 * N)) + 1) : Int32).toNatClampNeg 0) b) (by rfl) (by rfl) (fx_inN (i := (3846 + (6 * N)) + 1) (by omega) (by omega)) fm_si1 ?_
      rw [show Int32.toNatClampNeg (nI ((3846 + (6 * N)) + 1)) = (3846 + (6 * N)) + 1 from nI_clamp (by omega)]
      have hSs8 : mTS T n A (N) a0 (fm_u as7 1 ((3846 + (6 * N)) + 1) 0) b := mTS_u hSs7 (by omega)
      generalize (fm_u as7 1 ((3846 + (6 * N)) + 1) 0) = as8 at hSs8 ⊢
      refine fe_s 4 (pc' := 163) (lc' := [(5, .int (1 + 1)), (4, .int 1), (3, .int (nI (3846 + (6 * N)))), (2, .int (nI N)), (1, .int 19), (0, .ref 0)]) (stk' := [.int 6, .int (1 + 1)]) (mem' := fm (upd g 23 (nI (c + 1))) tp bt as8 b) (by intro _ _ _; eq_refl) ?_
      rw [show (1 + 1 : Int32) = 2 from rfl]
      refine fe_s 1 (pc' := cond (fx_cb .ge 2 6) 182 166) (lc' := [(5, .int 2), (4, .int 1), (3, .int (nI (3846 + (6 * N)))), (2, .int (nI N)), (1, .int 19), (0, .ref 0)]) (stk' := []) (mem' := fm (upd g 23 (nI (c + 1))) tp bt as8 b) (by intro _ _ _; eq_refl) ?_
      rw [show (fx_cb .ge 2 6) = false from by decide]
      dsimp only [cond]
      refine fe_s 6 (pc' := 175) (lc' := [(5, .int 2), (4, .int 1), (3, .int (nI (3846 + (6 * N)))), (2, .int (nI N)), (1, .int 19), (0, .ref 0)]) (stk' := [.int 0, .int ((nI (3846 + (6 * N))) + 2), .ref 1]) (mem' := fm (upd g 23 (nI (c + 1))) tp bt as8 b) (by intro _ _ _; eq_refl) ?_
      rw [show ((nI (3846 + (6 * N))) + 2 : Int32) = nI ((3846 + (6 * N)) + 2) from by simp only [show (2 : Int32) = nI 2 from rfl, nI_add, fm_mul]]
      refine fe_stI (mem' := fm (upd g 23 (nI (c + 1))) tp bt (fm_u as8 1 (nI ((3846 + (6 * N)) + 2) : Int32).toNatClampNeg 0) b) (by rfl) (by rfl) (fx_inN (i := (3846 + (6 * N)) + 2) (by omega) (by omega)) fm_si1 ?_
      rw [show Int32.toNatClampNeg (nI ((3846 + (6 * N)) + 2)) = (3846 + (6 * N)) + 2 from nI_clamp (by omega)]
      have hSs9 : mTS T n A (N) a0 (fm_u as8 1 ((3846 + (6 * N)) + 2) 0) b := mTS_u hSs8 (by omega)
      generalize (fm_u as8 1 ((3846 + (6 * N)) + 2) 0) = as9 at hSs9 ⊢
      refine fe_s 4 (pc' := 163) (lc' := [(5, .int (2 + 1)), (4, .int 1), (3, .int (nI (3846 + (6 * N)))), (2, .int (nI N)), (1, .int 19), (0, .ref 0)]) (stk' := [.int 6, .int (2 + 1)]) (mem' := fm (upd g 23 (nI (c + 1))) tp bt as9 b) (by intro _ _ _; eq_refl) ?_
      rw [show (2 + 1 : Int32) = 3 from rfl]
      refine fe_s 1 (pc' := cond (fx_cb .ge 3 6) 182 166) (lc' := [(5, .int 3), (4, .int 1), (3, .int (nI (3846 + (6 * N)))), (2, .int (nI N)), (1, .int 19), (0, .ref 0)]) (stk' := []) (mem' := fm (upd g 23 (nI (c + 1))) tp bt as9 b) (by intro _ _ _; eq_refl) ?_
      rw [show (fx_cb .ge 3 6) = false from by decide]
      dsimp only [cond]
      refine fe_s 6 (pc' := 175) (lc' := [(5, .int 3), (4, .int 1), (3, .int (nI (3846 + (6 * N)))), (2, .int (nI N)), (1, .int 19), (0, .ref 0)]) (stk' := [.int 0, .int ((nI (3846 + (6 * N))) + 3), .ref 1]) (mem' := fm (upd g 23 (nI (c + 1))) tp bt as9 b) (by intro _ _ _; eq_refl) ?_
      rw [show ((nI (3846 + (6 * N))) + 3 : Int32) = nI ((3846 + (6 * N)) + 3) from by simp only [show (3 : Int32) = nI 3 from rfl, nI_add, fm_mul]]
      refine fe_stI (mem' := fm (upd g 23 (nI (c + 1))) tp bt (fm_u as9 1 (nI ((3846 + (6 * N)) + 3) : Int32).toNatClampNeg 0) b) (by rfl) (by rfl) (fx_inN (i := (3846 + (6 * N)) + 3) (by omega) (by omega)) fm_si1 ?_
      rw [show Int32.toNatClampNeg (nI ((3846 + (6 * N)) + 3)) = (3846 + (6 * N)) + 3 from nI_clamp (by omega)]
      have hSs10 : mTS T n A (N) a0 (fm_u as9 1 ((3846 + (6 * N)) + 3) 0) b := mTS_u hSs9 (by omega)
      generalize (fm_u as9 1 ((3846 + (6 * N)) + 3) 0) = as10 at hSs10 ⊢
      refine fe_s 4 (pc' := 163) (lc' := [(5, .int (3 + 1)), (4, .int 1), (3, .int (nI (3846 + (6 * N)))), (2, .int (nI N)), (1, .int 19), (0, .ref 0)]) (stk' := [.int 6, .int (3 + 1)]) (mem' := fm (upd g 23 (nI (c + 1))) tp bt as10 b) (by intro _ _ _; eq_refl) ?_
      rw [show (3 + 1 : Int32) = 4 from rfl]
      refine fe_s 1 (pc' := cond (fx_cb .ge 4 6) 182 166) (lc' := [(5, .int 4), (4, .int 1), (3, .int (nI (3846 + (6 * N)))), (2, .int (nI N)), (1, .int 19), (0, .ref 0)]) (stk' := []) (mem' := fm (upd g 23 (nI (c + 1))) tp bt as10 b) (by intro _ _ _; eq_refl) ?_
      rw [show (fx_cb .ge 4 6) = false from by decide]
      dsimp only [cond]
      refine fe_s 6 (pc' := 175) (lc' := [(5, .int 4), (4, .int 1), (3, .int (nI (3846 + (6 * N)))), (2, .int (nI N)), (1, .int 19), (0, .ref 0)]) (stk' := [.int 0, .int ((nI (3846 + (6 * N))) + 4), .ref 1]) (mem' := fm (upd g 23 (nI (c + 1))) tp bt as10 b) (by intro _ _ _; eq_refl) ?_
      rw [show ((nI (3846 + (6 * N))) + 4 : Int32) = nI ((3846 + (6 * N)) + 4) from by simp only [show (4 : Int32) = nI 4 from rfl, nI_add, fm_mul]]
      refine fe_stI (mem' := fm (upd g 23 (nI (c + 1))) tp bt (fm_u as10 1 (nI ((3846 + (6 * N)) + 4) : Int32).toNatClampNeg 0) b) (by rfl) (by rfl) (fx_inN (i := (3846 + (6 * N)) + 4) (by omega) (by omega)) fm_si1 ?_
      rw [show Int32.toNatClampNeg (nI ((3846 + (6 * N)) + 4)) = (3846 + (6 * N)) + 4 from nI_clamp (by omega)]
      have hSs11 : mTS T n A (N) a0 (fm_u as10 1 ((3846 + (6 * N)) + 4) 0) b := mTS_u hSs10 (by omega)
      generalize (fm_u as10 1 ((3846 + (6 * N)) + 4) 0) = as11 at hSs11 ⊢
      refine fe_s 4 (pc' := 163) (lc' := [(5, .int (4 + 1)), (4, .int 1), (3, .int (nI (3846 + (6 * N)))), (2, .int (nI N)), (1, .int 19), (0, .ref 0)]) (stk' := [.int 6, .int (4 + 1)]) (mem' := fm (upd g 23 (nI (c + 1))) tp bt as11 b) (by intro _ _ _; eq_refl) ?_
      rw [show (4 + 1 : Int32) = 5 from rfl]
      refine fe_s 1 (pc' := cond (fx_cb .ge 5 6) 182 166) (lc' := [(5, .int 5), (4, .int 1), (3, .int (nI (3846 + (6 * N)))), (2, .int (nI N)), (1, .int 19), (0, .ref 0)]) (stk' := []) (mem' := fm (upd g 23 (nI (c + 1))) tp bt as11 b) (by intro _ _ _; eq_refl) ?_
      rw [show (fx_cb .ge 5 6) = false from by decide]
      dsimp only [cond]
      refine fe_s 6 (pc' := 175) (lc' := [(5, .int 5), (4, .int 1), (3, .int (nI (3846 + (6 * N)))), (2, .int (nI N)), (1, .int 19), (0, .ref 0)]) (stk' := [.int 0, .int ((nI (3846 + (6 * N))) + 5), .ref 1]) (mem' := fm (upd g 23 (nI (c + 1))) tp bt as11 b) (by intro _ _ _; eq_refl) ?_
      rw [show ((nI (3846 + (6 * N))) + 5 : Int32) = nI ((3846 + (6 * N)) + 5) from by simp only [show (5 : Int32) = nI 5 from rfl, nI_add, fm_mul]]
      refine fe_stI (mem' := fm (upd g 23 (nI (c + 1))) tp bt (fm_u as11 1 (nI ((3846 + (6 * N)) + 5) : Int32).toNatClampNeg 0) b) (by rfl) (by rfl) (fx_inN (i := (3846 + (6 * N)) + 5) (by omega) (by omega)) fm_si1 ?_
      rw [show Int32.toNatClampNeg (nI ((3846 + (6 * N)) + 5)) = (3846 + (6 * N)) + 5 from nI_clamp (by omega)]
      have hSs12 : mTS T n A (N) a0 (fm_u as11 1 ((3846 + (6 * N)) + 5) 0) b := mTS_u hSs11 (by omega)
      generalize (fm_u as11 1 ((3846 + (6 * N)) + 5) 0) = as12 at hSs12 ⊢
      refine fe_s 4 (pc' := 163) (lc' := [(5, .int (5 + 1)), (4, .int 1), (3, .int (nI (3846 + (6 * N)))), (2, .int (nI N)), (1, .int 19), (0, .ref 0)]) (stk' := [.int 6, .int (5 + 1)]) (mem' := fm (upd g 23 (nI (c + 1))) tp bt as12 b) (by intro _ _ _; eq_refl) ?_
      rw [show (5 + 1 : Int32) = 6 from rfl]
      refine fe_s 1 (pc' := cond (fx_cb .ge 6 6) 182 166) (lc' := [(5, .int 6), (4, .int 1), (3, .int (nI (3846 + (6 * N)))), (2, .int (nI N)), (1, .int 19), (0, .ref 0)]) (stk' := []) (mem' := fm (upd g 23 (nI (c + 1))) tp bt as12 b) (by intro _ _ _; eq_refl) ?_
      rw [show (fx_cb .ge 6 6) = true from by decide]
      dsimp only [cond]
      refine fe_s 4 (pc' := 190) (lc' := [(5, .int 6), (4, .int 1), (3, .int (nI (3846 + (6 * N)))), (2, .int (nI N)), (1, .int 19), (0, .ref 0)]) (stk' := [.int 3374, .ref 1, .int 3374, .ref 1]) (mem' := fm (upd g 23 (nI (c + 1))) tp bt as12 b) (by intro _ _ _; eq_refl) ?_
      refine fe_ldI (by rfl) (by rfl) (fx_inN (i := 3374) (by omega) (by omega)) ?_
      rw [show Int32.toNatClampNeg (3374) = 3374 from rfl]
      rw [show as12 1 3374 = nI (N) from hSs12.2.2.2.1]
      refine fe_s 2 (pc' := 193) (lc' := [(5, .int 6), (4, .int 1), (3, .int (nI (3846 + (6 * N)))), (2, .int (nI N)), (1, .int 19), (0, .ref 0)]) (stk' := [.int ((nI N) + 1), .int 3374, .ref 1]) (mem' := fm (upd g 23 (nI (c + 1))) tp bt as12 b) (by intro _ _ _; eq_refl) ?_
      rw [show ((nI N) + 1 : Int32) = nI (N + 1) from by simp only [show (1 : Int32) = nI 1 from rfl, nI_add, fm_mul]]
      refine fe_stI (mem' := fm (upd g 23 (nI (c + 1))) tp bt (fm_u as12 1 (3374 : Int32).toNatClampNeg (nI (N + 1))) b) (by rfl) (by rfl) (fx_inN (i := 3374) (by omega) (by omega)) fm_si1 ?_
      rw [show Int32.toNatClampNeg (3374) = 3374 from rfl]
      have hSs13 : mTS T n A (N + 1) a0 (fm_u as12 1 3374 (nI (N + 1))) b := mTS_N hSs12
      generalize (fm_u as12 1 3374 (nI (N + 1))) = as13 at hSs13 ⊢
      refine fe_s 1 (pc' := 195) (lc' := [(5, .int 6), (4, .int 1), (3, .int (nI (3846 + (6 * N)))), (2, .int (nI N)), (1, .int 19), (0, .ref 0)]) (stk' := [.ref 0]) (mem' := fm (upd g 23 (nI (c + 1))) tp bt as13 b) (by intro _ _ _; eq_refl) ?_
      obtain ⟨gc14, hrc14, txc14, hmc14⟩ := mr_aheado (tp := tp) (bt := bt) (b := b) hSs13.1 hmw6 (by omega)
      refine fe_ivV hrc14 (by omega) (by rfl) (by rfl) (by rfl) (by rfl) (by rfl) (by rfl) ?_
      have fc14_22 : gc14 22 = nI d := (txc14 22 (by decide) (by decide) (by decide) (by decide) (by decide) (by decide)).trans fw6_22
      have fc14_23 : gc14 23 = nI (c + 1) := (txc14 23 (by decide) (by decide) (by decide) (by decide) (by decide) (by decide)).trans fw6_23
      have hXc14 := txt_tr hXw6 (txt_8 txc14)
      refine fe_s 3 (pc' := 201) (lc' := [(5, .int 6), (4, .int 1), (3, .int (nI (3846 + (6 * N)))), (2, .int (nI N)), (1, .int 19), (0, .ref 0)]) (stk' := [.int (nI (3846 + (6 * N))), .int 19, .ref 0]) (mem' := fm gc14 tp bt as13 b) (by intro _ _ _; eq_refl) ?_
      obtain ⟨xc15, gc15, ac15, hrc15, txc15, hSc15, hxc15⟩ := mt_ord20 (tp := tp) (bt := bt) (r := 3846 + (6 * N)) hSs13 hmc14 (by omega)
      refine fe_ivV hrc15 (by omega) (by rfl) (by rfl) (by rfl) (by rfl) (by rfl) (by rfl) ?_
      have fc15_22 : gc15 22 = nI d := (txc15 22 (by decide) (by decide) (by decide) (by decide) (by decide) (by decide)).trans fc14_22
      have fc15_23 : gc15 23 = nI (c + 1) := (txc15 23 (by decide) (by decide) (by decide) (by decide) (by decide) (by decide)).trans fc14_23
      have hXc15 := txt_tr hXc14 (txt_8 txc15)
      rcases hxc15 with ⟨rfl, qc15, hmc15, hqc15⟩ | ⟨rfl, zc15, hmc15, hqc15⟩
      · refine fe_s 1 (pc' := cond (fx_cb .ne 1 0) 209 207) (lc' := [(5, .int 6), (4, .int 1), (3, .int (nI (3846 + (6 * N)))), (2, .int (nI N)), (1, .int 19), (0, .ref 0)]) (stk' := []) (mem' := fm gc15 tp bt ac15 b) (by intro _ _ _; eq_refl) ?_
        rw [show (fx_cb .ne 1 0) = true from by decide]
        dsimp only [cond]
        refine fe_s 1 (pc' := 211) (lc' := [(5, .int 6), (4, .int 1), (3, .int (nI (3846 + (6 * N)))), (2, .int (nI N)), (1, .int 19), (0, .ref 0)]) (stk' := [.int 1]) (mem' := fm gc15 tp bt ac15 b) (by intro _ _ _; eq_refl) ?_
        refine fe_s 1 (pc' := cond (fx_cb .eq 1 0) 234 214) (lc' := [(5, .int 6), (4, .int 1), (3, .int (nI (3846 + (6 * N)))), (2, .int (nI N)), (1, .int 19), (0, .ref 0)]) (stk' := []) (mem' := fm gc15 tp bt ac15 b) (by intro _ _ _; eq_refl) ?_
        rw [show (fx_cb .eq 1 0) = false from by decide]
        dsimp only [cond]
        refine fe_s 5 (pc' := 223) (lc' := [(5, .int 6), (4, .int 1), (3, .int (nI (3846 + (6 * N)))), (2, .int (nI N)), (1, .int 19), (0, .ref 0)]) (stk' := [.int (nI N), .int (gc15 22), .ref 8]) (mem' := fm gc15 tp bt ac15 b) (by intro _ _ _; eq_refl) ?_
        try rw [fc15_22]
        refine fe_stI (mem' := fm gc15 tp bt (fm_u ac15 8 (nI d : Int32).toNatClampNeg (nI N)) b) (by rfl) (by rfl) (fx_inN (i := d) (by omega) (by omega)) fm_si8 ?_
        rw [show Int32.toNatClampNeg (nI d) = d from nI_clamp (by omega)]
        have hSs16 : mTS T n A (N + 1) a0 (fm_u ac15 8 d (nI N)) b := mTS_8 hSc15 (by omega)
        generalize (fm_u ac15 8 d (nI N)) = as16 at hSs16 ⊢
        refine fe_s 8 (pc' := 237) (lc' := [(5, .int 6), (4, .int 1), (3, .int (nI (3846 + (6 * N)))), (2, .int (nI N)), (1, .int 19), (0, .ref 0)]) (stk' := [.int 20, .int 19]) (mem' := fm (upd gc15 22 ((gc15 22) + 1)) tp bt as16 b) (by intro _ _ _; eq_refl) ?_
        try rw [fc15_22]
        rw [show ((nI d) + 1 : Int32) = nI (d + 1) from by simp only [show (1 : Int32) = nI 1 from rfl, nI_add, fm_mul]]
        have hmw17 : mo (upd gc15 22 (nI (d + 1))) T n qc15 := mo_uk hmc15 (by decide)
        have hXw17 : fm_txs g (upd gc15 22 (nI (d + 1))) := txt_tr hXc15 (txt_u (by decide))
        have fw17_23 : (upd gc15 22 (nI (d + 1))) 23 = nI (c + 1) := (pk_un (by decide)).trans fc15_23
        have fw17_22 : (upd gc15 22 (nI (d + 1))) 22 = nI (d + 1) := pk_us
        refine fe_s 1 (pc' := cond (fx_cb .ne 19 20) 291 240) (lc' := [(5, .int 6), (4, .int 1), (3, .int (nI (3846 + (6 * N)))), (2, .int (nI N)), (1, .int 19), (0, .ref 0)]) (stk' := []) (mem' := fm (upd gc15 22 (nI (d + 1))) tp bt as16 b) (by intro _ _ _; eq_refl) ?_
        rw [show (fx_cb .ne 19 20) = true from by decide]
        dsimp only [cond]
        refine fe_s 2 (pc' := 294) (lc' := [(5, .int 6), (4, .int 1), (3, .int (nI (3846 + (6 * N)))), (2, .int (nI N)), (1, .int 19), (0, .ref 0)]) (stk' := [.int 59, .ref 0]) (mem' := fm (upd gc15 22 (nI (d + 1))) tp bt as16 b) (by intro _ _ _; eq_refl) ?_
        obtain ⟨xc18, gc18, hrc18, txc18, hxc18⟩ := mr_wantSign (tp := tp) (bt := bt) (b := b) (w := 59) hSs16.1 (by decide) hmw17
        refine fe_ivV hrc18 (by omega) (by rfl) (by rfl) (by rfl) (by rfl) (by rfl) (by rfl) ?_
        have fc18_23 : gc18 23 = nI (c + 1) := (txc18 23 (by decide) (by decide) (by decide) (by decide) (by decide) (by decide)).trans fw17_23
        have fc18_22 : gc18 22 = nI (d + 1) := (txc18 22 (by decide) (by decide) (by decide) (by decide) (by decide) (by decide)).trans fw17_22
        have hXc18 := txt_tr hXw17 (txt_8 txc18)
        rcases hxc18 with ⟨hwc18, rfl, hmc18⟩ | ⟨hwc18, rfl, hmc18⟩
        · refine fe_ret ⟨1, _, _, ⟨hXc18, Or.inl ⟨rfl, (A, 4 * (c + 1) + (d + 1), (sp_n T n qc15)), by rw [show tl_k T n A c d p 20 = (if 30 ≤ c then .inl (6, sp_s T n p) else if true = true ∧ 3 ≤ d then .inl (7, sp_s T n p) else tl_rest T n A 20 (sp_n T n p) (fun q => sp_sign T n 59 q (fun q2 => .inr (A, 4 * (c + 1) + (d + 1), q2)))) from rfl, if_neg (by omega), if_neg (fun z => by have := z.2; omega), hqc15, sp_sign_t hwc18], rfl, hmc18, ?_⟩⟩, rfl⟩ (by rfl) (by rfl) (by rfl)
          refine ⟨by dsimp only; omega, ?_, ?_, N + 1, by dsimp only; omega, hSs16⟩
          · rw [show (4 * (c + 1) + (d + 1)) / 4 = c + 1 by omega]; exact fc18_23
          · rw [show (4 * (c + 1) + (d + 1)) % 4 = d + 1 by omega]; exact fc18_22
        · exact fe_ret ⟨0, _, _, ⟨hXc18, Or.inr ⟨rfl, (sp_m T n qc15, sp_s T n qc15), by rw [show tl_k T n A c d p 20 = (if 30 ≤ c then .inl (6, sp_s T n p) else if true = true ∧ 3 ≤ d then .inl (7, sp_s T n p) else tl_rest T n A 20 (sp_n T n p) (fun q => sp_sign T n 59 q (fun q2 => .inr (A, 4 * (c + 1) + (d + 1), q2)))) from rfl, if_neg (by omega), if_neg (fun z => by have := z.2; omega), hqc15, sp_sign_f hwc18], hmc18, hSs16.2.2.2.2⟩⟩, rfl⟩ (by rfl) (by rfl) (by rfl)
      · refine fe_s 1 (pc' := cond (fx_cb .ne 0 0) 209 207) (lc' := [(5, .int 6), (4, .int 1), (3, .int (nI (3846 + (6 * N)))), (2, .int (nI N)), (1, .int 19), (0, .ref 0)]) (stk' := []) (mem' := fm gc15 tp bt ac15 b) (by intro _ _ _; eq_refl) ?_
        rw [show (fx_cb .ne 0 0) = false from by decide]
        dsimp only [cond]
        refine fe_s 1 (pc' := 208) (lc' := [(5, .int 6), (4, .int 1), (3, .int (nI (3846 + (6 * N)))), (2, .int (nI N)), (1, .int 19), (0, .ref 0)]) (stk' := [.int 0]) (mem' := fm gc15 tp bt ac15 b) (by intro _ _ _; eq_refl) ?_
        exact fe_ret ⟨0, _, _, ⟨hXc15, Or.inr ⟨rfl, (zc15.1, zc15.2), by rw [show tl_k T n A c d p 20 = (if 30 ≤ c then .inl (6, sp_s T n p) else if true = true ∧ 3 ≤ d then .inl (7, sp_s T n p) else tl_rest T n A 20 (sp_n T n p) (fun q => sp_sign T n 59 q (fun q2 => .inr (A, 4 * (c + 1) + (d + 1), q2)))) from rfl, if_neg (by omega), if_neg (fun z => by have := z.2; omega), hqc15], hmc15, hSc15.2.2.2.2⟩⟩, rfl⟩ (by rfl) (by rfl) (by rfl)
set_option maxRecDepth 8000 in
theorem mt_st22 (hS : mTS T n A N a0 a b) (h : mo g T n p) (hc : c ≤ 30) (hd : d ≤ 3) (hN : N + d ≤ 2 * c) (h23 : g 23 = nI c) (h22 : g 22 = nI d) (hk : sp_k T n p = 1) (hmw : sp_mw T n p = 21) : ∃ (v : Int32) (g' : Nat → Int32) (a' : Nat → Nat → Int32), fr_T 10 251 [.ref 0] (fm g tp bt a b) (some (.int v)) (fm g' tp bt a' b) ∧ fm_txs g g' ∧ mTR T n A a0 b (tl_k T n A c d p 22) v g' a' := by
  suffices h : ∃ (v : Option Value) (mem' : fx_M), (fun R => ∃ (v : Int32) (g' : Nat → Int32) (a' : Nat → Nat → Int32), (fm_txs g g' ∧ mTR T n A a0 b (tl_k T n A c d p 22) v g' a') ∧ R = (some (.int v), fm g' tp bt a' b)) (v, mem') ∧ fr_T 10 251 [.ref 0] (fm g tp bt a b) v mem' by
    obtain ⟨v, mem', ⟨w, g', a', h1, hR⟩, h2⟩ := h
    cases hR
    exact ⟨w, g', a', h2, h1⟩
  refine fe_meth (f := 251) (as := [.ref 0]) (F := fun R => ∃ (v : Int32) (g' : Nat → Int32) (a' : Nat → Nat → Int32), (fm_txs g g' ∧ mTR T n A a0 b (tl_k T n A c d p 22) v g' a') ∧ R = (some (.int v), fm g' tp bt a' b)) (M := gk_m251) (by rfl) (by rfl) ?_
  refine fe_s 2 (pc' := 3) (lc' := [(0, .ref 0)]) (stk' := [.ref 22, .ref 0]) (mem' := fm g tp bt a b) (by intro _ _ _; eq_refl) ?_
  refine fe_ivV (mr_inWords (tp := tp) (bt := bt) (b := b) hS.1 h.1 h.2.1) (by omega) (by rfl) (by rfl) (by rfl) (by rfl) (by rfl) (by rfl) ?_
  rw [hmw]
  refine fe_s 4 (pc' := 14) (lc' := [(1, .int 21), (0, .ref 0)]) (stk' := [.int 3374, .ref 1]) (mem' := fm g tp bt a b) (by intro _ _ _; eq_refl) ?_
  refine fe_ldI (by rfl) (by rfl) (fx_inN (i := 3374) (by omega) (by omega)) ?_
  rw [show Int32.toNatClampNeg (3374) = 3374 from rfl]
  rw [show a 1 3374 = nI (N) from hS.2.2.2.1]
  refine fe_s 9 (pc' := 28) (lc' := [(3, .int (3846 + (6 * (nI N)))), (2, .int (nI N)), (1, .int 21), (0, .ref 0)]) (stk' := [.int 18, .int 21]) (mem' := fm g tp bt a b) (by intro _ _ _; eq_refl) ?_
  rw [show (3846 + (6 * (nI N)) : Int32) = nI (3846 + (6 * N)) from by simp only [show (3846 : Int32) = nI 3846 from rfl, show (6 : Int32) = nI 6 from rfl, nI_add, fm_mul]]
  refine fe_s 1 (pc' := cond (fx_cb .eq 21 18) 37 31) (lc' := [(3, .int (nI (3846 + (6 * N)))), (2, .int (nI N)), (1, .int 21), (0, .ref 0)]) (stk' := []) (mem' := fm g tp bt a b) (by intro _ _ _; eq_refl) ?_
  rw [show (fx_cb .eq 21 18) = false from by decide]
  dsimp only [cond]
  refine fe_s 2 (pc' := 34) (lc' := [(3, .int (nI (3846 + (6 * N)))), (2, .int (nI N)), (1, .int 21), (0, .ref 0)]) (stk' := [.int 19, .int 21]) (mem' := fm g tp bt a b) (by intro _ _ _; eq_refl) ?_
  refine fe_s 1 (pc' := cond (fx_cb .ne 21 19) 41 37) (lc' := [(3, .int (nI (3846 + (6 * N)))), (2, .int (nI N)), (1, .int 21), (0, .ref 0)]) (stk' := []) (mem' := fm g tp bt a b) (by intro _ _ _; eq_refl) ?_
  rw [show (fx_cb .ne 21 19) = true from by decide]
  dsimp only [cond]
  refine fe_s 4 (pc' := 47) (lc' := [(4, .int 0), (3, .int (nI (3846 + (6 * N)))), (2, .int (nI N)), (1, .int 21), (0, .ref 0)]) (stk' := [.int 11, .int 21]) (mem' := fm g tp bt a b) (by intro _ _ _; eq_refl) ?_
  refine fe_s 1 (pc' := cond (fx_cb .lt 21 11) 81 50) (lc' := [(4, .int 0), (3, .int (nI (3846 + (6 * N)))), (2, .int (nI N)), (1, .int 21), (0, .ref 0)]) (stk' := []) (mem' := fm g tp bt a b) (by intro _ _ _; eq_refl) ?_
  rw [show (fx_cb .lt 21 11) = false from by decide]
  dsimp only [cond]
  refine fe_s 2 (pc' := 53) (lc' := [(4, .int 0), (3, .int (nI (3846 + (6 * N)))), (2, .int (nI N)), (1, .int 21), (0, .ref 0)]) (stk' := [.int 21, .int 21]) (mem' := fm g tp bt a b) (by intro _ _ _; eq_refl) ?_
  refine fe_s 1 (pc' := cond (fx_cb .gt 21 21) 81 56) (lc' := [(4, .int 0), (3, .int (nI (3846 + (6 * N)))), (2, .int (nI N)), (1, .int 21), (0, .ref 0)]) (stk' := []) (mem' := fm g tp bt a b) (by intro _ _ _; eq_refl) ?_
  rw [show (fx_cb .gt 21 21) = false from by decide]
  dsimp only [cond]
  refine fe_s 2 (pc' := 59) (lc' := [(4, .int 0), (3, .int (nI (3846 + (6 * N)))), (2, .int (nI N)), (1, .int 21), (0, .ref 0)]) (stk' := [.int 16, .int 21]) (mem' := fm g tp bt a b) (by intro _ _ _; eq_refl) ?_
  refine fe_s 1 (pc' := cond (fx_cb .eq 21 16) 81 62) (lc' := [(4, .int 0), (3, .int (nI (3846 + (6 * N)))), (2, .int (nI N)), (1, .int 21), (0, .ref 0)]) (stk' := []) (mem' := fm g tp bt a b) (by intro _ _ _; eq_refl) ?_
  rw [show (fx_cb .eq 21 16) = false from by decide]
  dsimp only [cond]
  refine fe_s 2 (pc' := 65) (lc' := [(4, .int 0), (3, .int (nI (3846 + (6 * N)))), (2, .int (nI N)), (1, .int 21), (0, .ref 0)]) (stk' := [.int 17, .int 21]) (mem' := fm g tp bt a b) (by intro _ _ _; eq_refl) ?_
  refine fe_s 1 (pc' := cond (fx_cb .eq 21 17) 81 68) (lc' := [(4, .int 0), (3, .int (nI (3846 + (6 * N)))), (2, .int (nI N)), (1, .int 21), (0, .ref 0)]) (stk' := []) (mem' := fm g tp bt a b) (by intro _ _ _; eq_refl) ?_
  rw [show (fx_cb .eq 21 17) = false from by decide]
  dsimp only [cond]
  refine fe_s 2 (pc' := 71) (lc' := [(4, .int 0), (3, .int (nI (3846 + (6 * N)))), (2, .int (nI N)), (1, .int 21), (0, .ref 0)]) (stk' := [.int 20, .int 21]) (mem' := fm g tp bt a b) (by intro _ _ _; eq_refl) ?_
  refine fe_s 1 (pc' := cond (fx_cb .ne 21 20) 87 74) (lc' := [(4, .int 0), (3, .int (nI (3846 + (6 * N)))), (2, .int (nI N)), (1, .int 21), (0, .ref 0)]) (stk' := []) (mem' := fm g tp bt a b) (by intro _ _ _; eq_refl) ?_
  rw [show (fx_cb .ne 21 20) = true from by decide]
  dsimp only [cond]
  refine fe_s 2 (pc' := 90) (lc' := [(4, .int 0), (3, .int (nI (3846 + (6 * N)))), (2, .int (nI N)), (1, .int 21), (0, .ref 0)]) (stk' := [.int 20, .int 21]) (mem' := fm g tp bt a b) (by intro _ _ _; eq_refl) ?_
  refine fe_s 1 (pc' := cond (fx_cb .eq 21 20) 109 93) (lc' := [(4, .int 0), (3, .int (nI (3846 + (6 * N)))), (2, .int (nI N)), (1, .int 21), (0, .ref 0)]) (stk' := []) (mem' := fm g tp bt a b) (by intro _ _ _; eq_refl) ?_
  rw [show (fx_cb .eq 21 20) = false from by decide]
  dsimp only [cond]
  refine fe_s 3 (pc' := 99) (lc' := [(4, .int 0), (3, .int (nI (3846 + (6 * N)))), (2, .int (nI N)), (1, .int 21), (0, .ref 0)]) (stk' := [.int 30, .int (g 23)]) (mem' := fm g tp bt a b) (by intro _ _ _; eq_refl) ?_
  try rw [h23]
  refine fe_s 1 (pc' := cond (fx_cb .ne (nI c) 30) 109 102) (lc' := [(4, .int 0), (3, .int (nI (3846 + (6 * N)))), (2, .int (nI N)), (1, .int 21), (0, .ref 0)]) (stk' := []) (mem' := fm g tp bt a b) (by intro _ _ _; eq_refl) ?_
  by_cases y2 : c = 30
  · rw [show (fx_cb .ne (nI c) 30) = false from cb_neF (a := c) (b := 30) (by omega) (by omega) (by omega)]
    dsimp only [cond]
    refine fe_s 2 (pc' := 105) (lc' := [(4, .int 0), (3, .int (nI (3846 + (6 * N)))), (2, .int (nI N)), (1, .int 21), (0, .ref 0)]) (stk' := [.int 6, .ref 0]) (mem' := fm g tp bt a b) (by intro _ _ _; eq_refl) ?_
    obtain ⟨gc3, hrc3, txc3, hmc3⟩ := mr_failsx (tp := tp) (bt := bt) (a := a) (b := b) (x := 6) h (by decide) (by omega)
    refine fe_ivV hrc3 (by omega) (by rfl) (by rfl) (by rfl) (by rfl) (by rfl) (by rfl) ?_
    have fc3_23 : gc3 23 = nI c := (txc3 23 (by decide) (by decide) (by decide) (by decide) (by decide) (by decide)).trans h23
    have fc3_22 : gc3 22 = nI d := (txc3 22 (by decide) (by decide) (by decide) (by decide) (by decide) (by decide)).trans h22
    have hXc3 := txt_tr txt_rf (txt_8 txc3)
    exact fe_ret ⟨0, _, _, ⟨hXc3, Or.inr ⟨rfl, (6, sp_s T n p), by rw [show tl_k T n A c d p 22 = (if 30 ≤ c then .inl (6, sp_s T n p) else if false = true ∧ 3 ≤ d then .inl (7, sp_s T n p) else tl_rest T n A 22 (sp_n T n p) (fun q => sp_sign T n 59 q (fun q2 => .inr (A, 4 * (c + 1) + d, q2)))) from rfl, if_pos (by omega)], hmc3, hS.2.2.2.2⟩⟩, rfl⟩ (by rfl) (by rfl) (by rfl)
  · rw [show (fx_cb .ne (nI c) 30) = true from cb_neT (a := c) (b := 30) (by omega) (by omega) (by omega)]
    dsimp only [cond]
    refine fe_s 1 (pc' := 111) (lc' := [(4, .int 0), (3, .int (nI (3846 + (6 * N)))), (2, .int (nI N)), (1, .int 21), (0, .ref 0)]) (stk' := [.int 0]) (mem' := fm g tp bt a b) (by intro _ _ _; eq_refl) ?_
    refine fe_s 1 (pc' := cond (fx_cb .eq 0 0) 129 114) (lc' := [(4, .int 0), (3, .int (nI (3846 + (6 * N)))), (2, .int (nI N)), (1, .int 21), (0, .ref 0)]) (stk' := []) (mem' := fm g tp bt a b) (by intro _ _ _; eq_refl) ?_
    rw [show (fx_cb .eq 0 0) = true from by decide]
    dsimp only [cond]
    refine fe_s 5 (pc' := 137) (lc' := [(4, .int 0), (3, .int (nI (3846 + (6 * N)))), (2, .int (nI N)), (1, .int 21), (0, .ref 0)]) (stk' := [.int 20, .int 21, .int (g 23), .ref 0]) (mem' := fm g tp bt a b) (by intro _ _ _; eq_refl) ?_
    try rw [h23]
    refine fe_s 1 (pc' := cond (fx_cb .ne 21 20) 144 140) (lc' := [(4, .int 0), (3, .int (nI (3846 + (6 * N)))), (2, .int (nI N)), (1, .int 21), (0, .ref 0)]) (stk' := [.int (nI c), .ref 0]) (mem' := fm g tp bt a b) (by intro _ _ _; eq_refl) ?_
    rw [show (fx_cb .ne 21 20) = true from by decide]
    dsimp only [cond]
    refine fe_s 7 (pc' := 155) (lc' := [(4, .int 0), (3, .int (nI (3846 + (6 * N)))), (2, .int (nI N)), (1, .int 21), (0, .ref 0)]) (stk' := [.int 21, .int (nI (3846 + (6 * N))), .ref 1]) (mem' := fm (upd g 23 ((nI c) + 1)) tp bt a b) (by intro _ _ _; eq_refl) ?_
    rw [show ((nI c) + 1 : Int32) = nI (c + 1) from by simp only [show (1 : Int32) = nI 1 from rfl, nI_add, fm_mul]]
    have hmw4 : mo (upd g 23 (nI (c + 1))) T n p := mo_uk h (by decide)
    have hXw4 : fm_txs g (upd g 23 (nI (c + 1))) := txt_tr txt_rf (txt_u (by decide))
    have fw4_22 : (upd g 23 (nI (c + 1))) 22 = nI d := (pk_un (by decide)).trans h22
    have fw4_23 : (upd g 23 (nI (c + 1))) 23 = nI (c + 1) := pk_us
    refine fe_stI (mem' := fm (upd g 23 (nI (c + 1))) tp bt (fm_u a 1 (nI (3846 + (6 * N)) : Int32).toNatClampNeg 21) b) (by rfl) (by rfl) (fx_inN (i := 3846 + (6 * N)) (by omega) (by omega)) fm_si1 ?_
    rw [show Int32.toNatClampNeg (nI (3846 + (6 * N))) = 3846 + (6 * N) from nI_clamp (by omega)]
    have hSs5 : mTS T n A (N) a0 (fm_u a 1 (3846 + (6 * N)) 21) b := mTS_u hS (by omega)
    generalize (fm_u a 1 (3846 + (6 * N)) 21) = as5 at hSs5 ⊢
    refine fe_s 4 (pc' := 163) (lc' := [(5, .int 1), (4, .int 0), (3, .int (nI (3846 + (6 * N)))), (2, .int (nI N)), (1, .int 21), (0, .ref 0)]) (stk' := [.int 6, .int 1]) (mem' := fm (upd g 23 (nI (c + 1))) tp bt as5 b) (by intro _ _ _; eq_refl) ?_
    refine fe_s 1 (pc' := cond (fx_cb .ge 1 6) 182 166) (lc' := [(5, .int 1), (4, .int 0), (3, .int (nI (3846 + (6 * N)))), (2, .int (nI N)), (1, .int 21), (0, .ref 0)]) (stk' := []) (mem' := fm (upd g 23 (nI (c + 1))) tp bt as5 b) (by intro _ _ _; eq_refl) ?_
    rw [show (fx_cb .ge 1 6) = false from by decide]
    dsimp only [cond]
    refine fe_s 6 (pc' := 175) (lc' := [(5, .int 1), (4, .int 0), (3, .int (nI (3846 + (6 * N)))), (2, .int (nI N)), (1, .int 21), (0, .ref 0)]) (stk' := [.int 0, .int ((nI (3846 + (6 * N))) + 1), .ref 1]) (mem' := fm (upd g 23 (nI (c + 1))) tp bt as5 b) (by intro _ _ _; eq_refl) ?_
    rw [show ((nI (3846 + (6 * N))) + 1 : Int32) = nI ((3846 + (6 * N)) + 1) from by simp only [show (1 : Int32) = nI 1 from rfl, nI_add, fm_mul]]
    refine fe_stI (mem' := fm (upd g 23 (nI (c + 1))) tp bt (fm_u as5 1 (nI ((3846 + (6 * N)) + 1) : Int32).toNatClampNeg 0) b) (by rfl) (by rfl) (fx_inN (i := (3846 + (6 * N)) + 1) (by omega) (by omega)) fm_si1 ?_
    rw [show Int32.toNatClampNeg (nI ((3846 + (6 * N)) + 1)) = (3846 + (6 * N)) + 1 from nI_clamp (by omega)]
    have hSs6 : mTS T n A (N) a0 (fm_u as5 1 ((3846 + (6 * N)) + 1) 0) b := mTS_u hSs5 (by omega)
    generalize (fm_u as5 1 ((3846 + (6 * N)) + 1) 0) = as6 at hSs6 ⊢
    refine fe_s 4 (pc' := 163) (lc' := [(5, .int (1 + 1)), (4, .int 0), (3, .int (nI (3846 + (6 * N)))), (2, .int (nI N)), (1, .int 21), (0, .ref 0)]) (stk' := [.int 6, .int (1 + 1)]) (mem' := fm (upd g 23 (nI (c + 1))) tp bt as6 b) (by intro _ _ _; eq_refl) ?_
    rw [show (1 + 1 : Int32) = 2 from rfl]
    refine fe_s 1 (pc' := cond (fx_cb .ge 2 6) 182 166) (lc' := [(5, .int 2), (4, .int 0), (3, .int (nI (3846 + (6 * N)))), (2, .int (nI N)), (1, .int 21), (0, .ref 0)]) (stk' := []) (mem' := fm (upd g 23 (nI (c + 1))) tp bt as6 b) (by intro _ _ _; eq_refl) ?_
    rw [show (fx_cb .ge 2 6) = false from by decide]
    dsimp only [cond]
    refine fe_s 6 (pc' := 175) (lc' := [(5, .int 2), (4, .int 0), (3, .int (nI (3846 + (6 * N)))), (2, .int (nI N)), (1, .int 21), (0, .ref 0)]) (stk' := [.int 0, .int ((nI (3846 + (6 * N))) + 2), .ref 1]) (mem' := fm (upd g 23 (nI (c + 1))) tp bt as6 b) (by intro _ _ _; eq_refl) ?_
    rw [show ((nI (3846 + (6 * N))) + 2 : Int32) = nI ((3846 + (6 * N)) + 2) from by simp only [show (2 : Int32) = nI 2 from rfl, nI_add, fm_mul]]
    refine fe_stI (mem' := fm (upd g 23 (nI (c + 1))) tp bt (fm_u as6 1 (nI ((3846 + (6 * N)) + 2) : Int32).toNatClampNeg 0) b) (by rfl) (by rfl) (fx_inN (i := (3846 + (6 * N)) + 2) (by omega) (by omega)) fm_si1 ?_
    rw [show Int32.toNatClampNeg (nI ((3846 + (6 * N)) + 2)) = (3846 + (6 * N)) + 2 from nI_clamp (by omega)]
    have hSs7 : mTS T n A (N) a0 (fm_u as6 1 ((3846 + (6 * N)) + 2) 0) b := mTS_u hSs6 (by omega)
    generalize (fm_u as6 1 ((3846 + (6 * N)) + 2) 0) = as7 at hSs7 ⊢
    refine fe_s 4 (pc' := 163) (lc' := [(5, .int (2 + 1)), (4, .int 0), (3, .int (nI (3846 + (6 * N)))), (2, .int (nI N)), (1, .int 21), (0, .ref 0)]) (stk' := [.int 6, .int (2 + 1)]) (mem' := fm (upd g 23 (nI (c + 1))) tp bt as7 b) (by intro _ _ _; eq_refl) ?_
    rw [show (2 + 1 : Int32) = 3 from rfl]
    refine fe_s 1 (pc' := cond (fx_cb .ge 3 6) 182 166) (lc' := [(5, .int 3), (4, .int 0), (3, .int (nI (3846 + (6 * N)))), (2, .int (nI N)), (1, .int 21), (0, .ref 0)]) (stk' := []) (mem' := fm (upd g 23 (nI (c + 1))) tp bt as7 b) (by intro _ _ _; eq_refl) ?_
    rw [show (fx_cb .ge 3 6) = false from by decide]
    dsimp only [cond]
    refine fe_s 6 (pc' := 175) (lc' := [(5, .int 3), (4, .int 0), (3, .int (nI (3846 + (6 * N)))), (2, .int (nI N)), (1, .int 21), (0, .ref 0)]) (stk' := [.int 0, .int ((nI (3846 + (6 * N))) + 3), .ref 1]) (mem' := fm (upd g 23 (nI (c + 1))) tp bt as7 b) (by intro _ _ _; eq_refl) ?_
    rw [show ((nI (3846 + (6 * N))) + 3 : Int32) = nI ((3846 + (6 * N)) + 3) from by simp only [show (3 : Int32) = nI 3 from rfl, nI_add, fm_mul]]
    refine fe_stI (mem' := fm (upd g 23 (nI (c + 1))) tp bt (fm_u as7 1 (nI ((3846 + (6 * N)) + 3) : Int32).toNatClampNeg 0) b) (by rfl) (by rfl) (fx_inN (i := (3846 + (6 * N)) + 3) (by omega) (by omega)) fm_si1 ?_
    rw [show Int32.toNatClampNeg (nI ((3846 + (6 * N)) + 3)) = (3846 + (6 * N)) + 3 from nI_clamp (by omega)]
    have hSs8 : mTS T n A (N) a0 (fm_u as7 1 ((3846 + (6 * N)) + 3) 0) b := mTS_u hSs7 (by omega)
    generalize (fm_u as7 1 ((3846 + (6 * N)) + 3) 0) = as8 at hSs8 ⊢
    refine fe_s 4 (pc' := 163) (lc' := [(5, .int (3 + 1)), (4, .int 0), (3, .int (nI (3846 + (6 * N)))), (2, .int (nI N)), (1, .int 21), (0, .ref 0)]) (stk' := [.int 6, .int (3 + 1)]) (mem' := fm (upd g 23 (nI (c + 1))) tp bt as8 b) (by intro _ _ _; eq_refl) ?_
    rw [show (3 + 1 : Int32) = 4 from rfl]
    refine fe_s 1 (pc' := cond (fx_cb .ge 4 6) 182 166) (lc' := [(5, .int 4), (4, .int 0), (3, .int (nI (3846 + (6 * N)))), (2, .int (nI N)), (1, .int 21), (0, .ref 0)]) (stk' := []) (mem' := fm (upd g 23 (nI (c + 1))) tp bt as8 b) (by intro _ _ _; eq_refl) ?_
    rw [show (fx_cb .ge 4 6) = false from by decide]
    dsimp only [cond]
    refine fe_s 6 (pc' := 175) (lc' := [(5, .int 4), (4, .int 0), (3, .int (nI (3846 + (6 * N)))), (2, .int (nI N)), (1, .int 21), (0, .ref 0)]) (stk' := [.int 0, .int ((nI (3846 + (6 * N))) + 4), .ref 1]) (mem' := fm (upd g 23 (nI (c + 1))) tp bt as8 b) (by intro _ _ _; eq_refl) ?_
    rw [show ((nI (3846 + (6 * N))) + 4 : Int32) = nI ((3846 + (6 * N)) + 4) from by simp only [show (4 : Int32) = nI 4 from rfl, nI_add, fm_mul]]
    refine fe_stI (mem' := fm (upd g 23 (nI (c + 1))) tp bt (fm_u as8 1 (nI ((3846 + (6 * N)) + 4) : Int32).toNatClampNeg 0) b) (by rfl) (by rfl) (fx_inN (i := (3846 + (6 * N)) + 4) (by omega) (by omega)) fm_si1 ?_
    rw [show Int32.toNatClampNeg (nI ((3846 + (6 * N)) + 4)) = (3846 + (6 * N)) + 4 from nI_clamp (by omega)]
    have hSs9 : mTS T n A (N) a0 (fm_u as8 1 ((3846 + (6 * N)) + 4) 0) b := mTS_u hSs8 (by omega)
    generalize (fm_u as8 1 ((3846 + (6 * N)) + 4) 0) = as9 at hSs9 ⊢
    refine fe_s 4 (pc' := 163) (lc' := [(5, .int (4 + 1)), (4, .int 0), (3, .int (nI (3846 + (6 * N)))), (2, .int (nI N)), (1, .int 21), (0, .ref 0)]) (stk' := [.int 6, .int (4 + 1)]) (mem' := fm (upd g 23 (nI (c + 1))) tp bt as9 b) (by intro _ _ _; eq_refl) ?_
    rw [show (4 + 1 : Int32) = 5 from rfl]
    refine fe_s 1 (pc' := cond (fx_cb .ge 5 6) 182 166) (lc' := [(5, .int 5), (4, .int 0), (3, .int (nI (3846 + (6 * N)))), (2, .int (nI N)), (1, .int 21), (0, .ref 0)]) (stk' := []) (mem' := fm (upd g 23 (nI (c + 1))) tp bt as9 b) (by intro _ _ _; eq_refl) ?_
    rw [show (fx_cb .ge 5 6) = false from by decide]
    dsimp only [cond]
    refine fe_s 6 (pc' := 175) (lc' := [(5, .int 5), (4, .int 0), (3, .int (nI (3846 + (6 * N)))), (2, .int (nI N)), (1, .int 21), (0, .ref 0)]) (stk' := [.int 0, .int ((nI (3846 + (6 * N))) + 5), .ref 1]) (mem' := fm (upd g 23 (nI (c + 1))) tp bt as9 b) (by intro _ _ _; eq_refl) ?_
    rw [show ((nI (3846 + (6 * N))) + 5 : Int32) = nI ((3846 + (6 * N)) + 5) from by simp only [show (5 : Int32) = nI 5 from rfl, nI_add, fm_mul]]
    refine fe_stI (mem' := fm (upd g 23 (nI (c + 1))) tp bt (fm_u as9 1 (nI ((3846 + (6 * N)) + 5) : Int32).toNatClampNeg 0) b) (by rfl) (by rfl) (fx_inN (i := (3846 + (6 * N)) + 5) (by omega) (by omega)) fm_si1 ?_
    rw [show Int32.toNatClampNeg (nI ((3846 + (6 * N)) + 5)) = (3846 + (6 * N)) + 5 from nI_clamp (by omega)]
    have hSs10 : mTS T n A (N) a0 (fm_u as9 1 ((3846 + (6 * N)) + 5) 0) b := mTS_u hSs9 (by omega)
    generalize (fm_u as9 1 ((3846 + (6 * N)) + 5) 0) = as10 at hSs10 ⊢
    refine fe_s 4 (pc' := 163) (lc' := [(5, .int (5 + 1)), (4, .int 0), (3, .int (nI (3846 + (6 * N)))), (2, .int (nI N)), (1, .int 21), (0, .ref 0)]) (stk' := [.int 6, .int (5 + 1)]) (mem' := fm (upd g 23 (nI (c + 1))) tp bt as10 b) (by intro _ _ _; eq_refl) ?_
    rw [show (5 + 1 : Int32) = 6 from rfl]
    refine fe_s 1 (pc' := cond (fx_cb .ge 6 6) 182 166) (lc' := [(5, .int 6), (4, .int 0), (3, .int (nI (3846 + (6 * N)))), (2, .int (nI N)), (1, .int 21), (0, .ref 0)]) (stk' := []) (mem' := fm (upd g 23 (nI (c + 1))) tp bt as10 b) (by intro _ _ _; eq_refl) ?_
    rw [show (fx_cb .ge 6 6) = true from by decide]
    dsimp only [cond]
    refine fe_s 4 (pc' := 190) (lc' := [(5, .int 6), (4, .int 0), (3, .int (nI (3846 + (6 * N)))), (2, .int (nI N)), (1, .int 21), (0, .ref 0)]) (stk' := [.int 3374, .ref 1, .int 3374, .ref 1]) (mem' := fm (upd g 23 (nI (c + 1))) tp bt as10 b) (by intro _ _ _; eq_refl) ?_
    refine fe_ldI (by rfl) (by rfl) (fx_inN (i := 3374) (by omega) (by omega)) ?_
    rw [show Int32.toNatClampNeg (3374) = 3374 from rfl]
    rw [show as10 1 3374 = nI (N) from hSs10.2.2.2.1]
    refine fe_s 2 (pc' := 193) (lc' := [(5, .int 6), (4, .int 0), (3, .int (nI (3846 + (6 * N)))), (2, .int (nI N)), (1, .int 21), (0, .ref 0)]) (stk' := [.int ((nI N) + 1), .int 3374, .ref 1]) (mem' := fm (upd g 23 (nI (c + 1))) tp bt as10 b) (by intro _ _ _; eq_refl) ?_
    rw [show ((nI N) + 1 : Int32) = nI (N + 1) from by simp only [show (1 : Int32) = nI 1 from rfl, nI_add, fm_mul]]
    refine fe_stI (mem' := fm (upd g 23 (nI (c + 1))) tp bt (fm_u as10 1 (3374 : Int32).toNatClampNeg (nI (N + 1))) b) (by rfl) (by rfl) (fx_inN (i := 3374) (by omega) (by omega)) fm_si1 ?_
    rw [show Int32.toNatClampNeg (3374) = 3374 from rfl]
    have hSs11 : mTS T n A (N + 1) a0 (fm_u as10 1 3374 (nI (N + 1))) b := mTS_N hSs10
    generalize (fm_u as10 1 3374 (nI (N + 1))) = as11 at hSs11 ⊢
    refine fe_s 1 (pc' := 195) (lc' := [(5, .int 6), (4, .int 0), (3, .int (nI (3846 + (6 * N)))), (2, .int (nI N)), (1, .int 21), (0, .ref 0)]) (stk' := [.ref 0]) (mem' := fm (upd g 23 (nI (c + 1))) tp bt as11 b) (by intro _ _ _; eq_refl) ?_
    obtain ⟨gc12, hrc12, txc12, hmc12⟩ := mr_aheado (tp := tp) (bt := bt) (b := b) hSs11.1 hmw4 (by omega)
    refine fe_ivV hrc12 (by omega) (by rfl) (by rfl) (by rfl) (by rfl) (by rfl) (by rfl) ?_
    have fc12_22 : gc12 22 = nI d := (txc12 22 (by decide) (by decide) (by decide) (by decide) (by decide) (by decide)).trans fw4_22
    have fc12_23 : gc12 23 = nI (c + 1) := (txc12 23 (by decide) (by decide) (by decide) (by decide) (by decide) (by decide)).trans fw4_23
    have hXc12 := txt_tr hXw4 (txt_8 txc12)
    refine fe_s 3 (pc' := 201) (lc' := [(5, .int 6), (4, .int 0), (3, .int (nI (3846 + (6 * N)))), (2, .int (nI N)), (1, .int 21), (0, .ref 0)]) (stk' := [.int (nI (3846 + (6 * N))), .int 21, .ref 0]) (mem' := fm gc12 tp bt as11 b) (by intro _ _ _; eq_refl) ?_
    obtain ⟨xc13, gc13, ac13, hrc13, txc13, hSc13, hxc13⟩ := mt_ord22 (tp := tp) (bt := bt) (r := 3846 + (6 * N)) hSs11 hmc12 (by omega)
    refine fe_ivV hrc13 (by omega) (by rfl) (by rfl) (by rfl) (by rfl) (by rfl) (by rfl) ?_
    have fc13_22 : gc13 22 = nI d := (txc13 22 (by decide) (by decide) (by decide) (by decide) (by decide) (by decide)).trans fc12_22
    have fc13_23 : gc13 23 = nI (c + 1) := (txc13 23 (by decide) (by decide) (by decide) (by decide) (by decide) (by decide)).trans fc12_23
    have hXc13 := txt_tr hXc12 (txt_8 txc13)
    rcases hxc13 with ⟨rfl, qc13, hmc13, hqc13⟩ | ⟨rfl, zc13, hmc13, hqc13⟩
    · refine fe_s 1 (pc' := cond (fx_cb .ne 1 0) 209 207) (lc' := [(5, .int 6), (4, .int 0), (3, .int (nI (3846 + (6 * N)))), (2, .int (nI N)), (1, .int 21), (0, .ref 0)]) (stk' := []) (mem' := fm gc13 tp bt ac13 b) (by intro _ _ _; eq_refl) ?_
      rw [show (fx_cb .ne 1 0) = true from by decide]
      dsimp only [cond]
      refine fe_s 1 (pc' := 211) (lc' := [(5, .int 6), (4, .int 0), (3, .int (nI (3846 + (6 * N)))), (2, .int (nI N)), (1, .int 21), (0, .ref 0)]) (stk' := [.int 0]) (mem' := fm gc13 tp bt ac13 b) (by intro _ _ _; eq_refl) ?_
      refine fe_s 1 (pc' := cond (fx_cb .eq 0 0) 234 214) (lc' := [(5, .int 6), (4, .int 0), (3, .int (nI (3846 + (6 * N)))), (2, .int (nI N)), (1, .int 21), (0, .ref 0)]) (stk' := []) (mem' := fm gc13 tp bt ac13 b) (by intro _ _ _; eq_refl) ?_
      rw [show (fx_cb .eq 0 0) = true from by decide]
      dsimp only [cond]
      refine fe_s 2 (pc' := 237) (lc' := [(5, .int 6), (4, .int 0), (3, .int (nI (3846 + (6 * N)))), (2, .int (nI N)), (1, .int 21), (0, .ref 0)]) (stk' := [.int 20, .int 21]) (mem' := fm gc13 tp bt ac13 b) (by intro _ _ _; eq_refl) ?_
      refine fe_s 1 (pc' := cond (fx_cb .ne 21 20) 291 240) (lc' := [(5, .int 6), (4, .int 0), (3, .int (nI (3846 + (6 * N)))), (2, .int (nI N)), (1, .int 21), (0, .ref 0)]) (stk' := []) (mem' := fm gc13 tp bt ac13 b) (by intro _ _ _; eq_refl) ?_
      rw [show (fx_cb .ne 21 20) = true from by decide]
      dsimp only [cond]
      refine fe_s 2 (pc' := 294) (lc' := [(5, .int 6), (4, .int 0), (3, .int (nI (3846 + (6 * N)))), (2, .int (nI N)), (1, .int 21), (0, .ref 0)]) (stk' := [.int 59, .ref 0]) (mem' := fm gc13 tp bt ac13 b) (by intro _ _ _; eq_refl) ?_
      obtain ⟨xc14, gc14, hrc14, txc14, hxc14⟩ := mr_wantSign (tp := tp) (bt := bt) (b := b) (w := 59) hSc13.1 (by decide) hmc13
      refine fe_ivV hrc14 (by omega) (by rfl) (by rfl) (by rfl) (by rfl) (by rfl) (by rfl) ?_
      have fc14_22 : gc14 22 = nI d := (txc14 22 (by decide) (by decide) (by decide) (by decide) (by decide) (by decide)).trans fc13_22
      have fc14_23 : gc14 23 = nI (c + 1) := (txc14 23 (by decide) (by decide) (by decide) (by decide) (by decide) (by decide)).trans fc13_23
      have hXc14 := txt_tr hXc13 (txt_8 txc14)
      rcases hxc14 with ⟨hwc14, rfl, hmc14⟩ | ⟨hwc14, rfl, hmc14⟩
      · refine fe_ret ⟨1, _, _, ⟨hXc14, Or.inl ⟨rfl, (A, 4 * (c + 1) + d, (sp_n T n qc13)), by rw [show tl_k T n A c d p 22 = (if 30 ≤ c then .inl (6, sp_s T n p) else if false = true ∧ 3 ≤ d then .inl (7, sp_s T n p) else tl_rest T n A 22 (sp_n T n p) (fun q => sp_sign T n 59 q (fun q2 => .inr (A, 4 * (c + 1) + d, q2)))) from rfl, if_neg (by omega), if_neg (fun z => by cases z.1), hqc13, sp_sign_t hwc14], rfl, hmc14, ?_⟩⟩, rfl⟩ (by rfl) (by rfl) (by rfl)
        refine ⟨by dsimp only; omega, ?_, ?_, N + 1, by dsimp only; omega, hSc13⟩
        · rw [show (4 * (c + 1) + d) / 4 = c + 1 by omega]; exact fc14_23
        · rw [show (4 * (c + 1) + d) % 4 = d by omega]; exact fc14_22
      · exact fe_ret ⟨0, _, _, ⟨hXc14, Or.inr ⟨rfl, (sp_m T n qc13, sp_s T n qc13), by rw [show tl_k T n A c d p 22 = (if 30 ≤ c then .inl (6, sp_s T n p) else if false = true ∧ 3 ≤ d then .inl (7, sp_s T n p) else tl_rest T n A 22 (sp_n T n p) (fun q => sp_sign T n 59 q (fun q2 => .inr (A, 4 * (c + 1) + d, q2)))) from rfl, if_neg (by omega), if_neg (fun z => by cases z.1), hqc13, sp_sign_f hwc14], hmc14, hSc13.2.2.2.2⟩⟩, rfl⟩ (by rfl) (by rfl) (by rfl)
    · refine fe_s 1 (pc' := cond (fx_cb .ne 0 0) 209 207) (lc' := [(5, .int 6), (4, .int 0), (3, .int (nI (3846 + (6 * N)))), (2, .int (nI N)), (1, .int 21), (0, .ref 0)]) (stk' := []) (mem' := fm gc13 tp bt ac13 b) (by intro _ _ _; eq_refl) ?_
      rw [show (fx_cb .ne 0 0) = false from by decide]
      dsimp only [cond]
      refine fe_s 1 (pc' := 208) (lc' := [(5, .int 6), (4, .int 0), (3, .int (nI (3846 + (6 * N)))), (2, .int (nI N)), (1, .int 21), (0, .ref 0)]) (stk' := [.int 0]) (mem' := fm gc13 tp bt ac13 b) (by intro _ _ _; eq_refl) ?_
      exact fe_ret ⟨0, _, _, ⟨hXc13, Or.inr ⟨rfl, (zc13.1, zc13.2), by rw [show tl_k T n A c d p 22 = (if 30 ≤ c then .inl (6, sp_s T n p) else if false = true ∧ 3 ≤ d then .inl (7, sp_s T n p) else tl_rest T n A 22 (sp_n T n p) (fun q => sp_sign T n 59 q (fun q2 => .inr (A, 4 * (c + 1) + d, q2)))) from rfl, if_neg (by omega), if_neg (fun z => by cases z.1), hqc13], hmc13, hSc13.2.2.2.2⟩⟩, rfl⟩ (by rfl) (by rfl) (by rfl)
set_option maxRecDepth 8000 in
theorem mt_st21 (hS : mTS T n A N a0 a b) (h : mo g T n p) (hc : c ≤ 30) (hd : d ≤ 3) (hN : N + d ≤ 2 * c) (h23 : g 23 = nI c) (h22 : g 22 = nI d) (hd0 : 0 < d) (hk : sp_k T n p = 1) (hmw : sp_mw T n p = 20) : ∃ (v : Int32) (g' : Nat → Int32) (a' : Nat → Nat → Int32), fr_T 10 251 [.ref 0] (fm g tp bt a b) (some (.int v)) (fm g' tp bt a' b) ∧ fm_txs g g' ∧ mTR T n A a0 b (tl_k T n A c d p 21) v g' a' := by
  suffices h : ∃ (v : Option Value) (mem' : fx_M), (fun R => ∃ (v : Int32) (g' : Nat → Int32) (a' : Nat → Nat → Int32), (fm_txs g g' ∧ mTR T n A a0 b (tl_k T n A c d p 21) v g' a') ∧ R = (some (.int v), fm g' tp bt a' b)) (v, mem') ∧ fr_T 10 251 [.ref 0] (fm g tp bt a b) v mem' by
    obtain ⟨v, mem', ⟨w, g', a', h1, hR⟩, h2⟩ := h
    cases hR
    exact ⟨w, g', a', h2, h1⟩
  refine fe_meth (f := 251) (as := [.ref 0]) (F := fun R => ∃ (v : Int32) (g' : Nat → Int32) (a' : Nat → Nat → Int32), (fm_txs g g' ∧ mTR T n A a0 b (tl_k T n A c d p 21) v g' a') ∧ R = (some (.int v), fm g' tp bt a' b)) (M := gk_m251) (by rfl) (by rfl) ?_
  refine fe_s 2 (pc' := 3) (lc' := [(0, .ref 0)]) (stk' := [.ref 22, .ref 0]) (mem' := fm g tp bt a b) (by intro _ _ _; eq_refl) ?_
  refine fe_ivV (mr_inWords (tp := tp) (bt := bt) (b := b) hS.1 h.1 h.2.1) (by omega) (by rfl) (by rfl) (by rfl) (by rfl) (by rfl) (by rfl) ?_
  rw [hmw]
  refine fe_s 4 (pc' := 14) (lc' := [(1, .int 20), (0, .ref 0)]) (stk' := [.int 3374, .ref 1]) (mem' := fm g tp bt a b) (by intro _ _ _; eq_refl) ?_
  refine fe_ldI (by rfl) (by rfl) (fx_inN (i := 3374) (by omega) (by omega)) ?_
  rw [show Int32.toNatClampNeg (3374) = 3374 from rfl]
  rw [show a 1 3374 = nI (N) from hS.2.2.2.1]
  refine fe_s 9 (pc' := 28) (lc' := [(3, .int (3846 + (6 * (nI N)))), (2, .int (nI N)), (1, .int 20), (0, .ref 0)]) (stk' := [.int 18, .int 20]) (mem' := fm g tp bt a b) (by intro _ _ _; eq_refl) ?_
  rw [show (3846 + (6 * (nI N)) : Int32) = nI (3846 + (6 * N)) from by simp only [show (3846 : Int32) = nI 3846 from rfl, show (6 : Int32) = nI 6 from rfl, nI_add, fm_mul]]
  refine fe_s 1 (pc' := cond (fx_cb .eq 20 18) 37 31) (lc' := [(3, .int (nI (3846 + (6 * N)))), (2, .int (nI N)), (1, .int 20), (0, .ref 0)]) (stk' := []) (mem' := fm g tp bt a b) (by intro _ _ _; eq_refl) ?_
  rw [show (fx_cb .eq 20 18) = false from by decide]
  dsimp only [cond]
  refine fe_s 2 (pc' := 34) (lc' := [(3, .int (nI (3846 + (6 * N)))), (2, .int (nI N)), (1, .int 20), (0, .ref 0)]) (stk' := [.int 19, .int 20]) (mem' := fm g tp bt a b) (by intro _ _ _; eq_refl) ?_
  refine fe_s 1 (pc' := cond (fx_cb .ne 20 19) 41 37) (lc' := [(3, .int (nI (3846 + (6 * N)))), (2, .int (nI N)), (1, .int 20), (0, .ref 0)]) (stk' := []) (mem' := fm g tp bt a b) (by intro _ _ _; eq_refl) ?_
  rw [show (fx_cb .ne 20 19) = true from by decide]
  dsimp only [cond]
  refine fe_s 4 (pc' := 47) (lc' := [(4, .int 0), (3, .int (nI (3846 + (6 * N)))), (2, .int (nI N)), (1, .int 20), (0, .ref 0)]) (stk' := [.int 11, .int 20]) (mem' := fm g tp bt a b) (by intro _ _ _; eq_refl) ?_
  refine fe_s 1 (pc' := cond (fx_cb .lt 20 11) 81 50) (lc' := [(4, .int 0), (3, .int (nI (3846 + (6 * N)))), (2, .int (nI N)), (1, .int 20), (0, .ref 0)]) (stk' := []) (mem' := fm g tp bt a b) (by intro _ _ _; eq_refl) ?_
  rw [show (fx_cb .lt 20 11) = false from by decide]
  dsimp only [cond]
  refine fe_s 2 (pc' := 53) (lc' := [(4, .int 0), (3, .int (nI (3846 + (6 * N)))), (2, .int (nI N)), (1, .int 20), (0, .ref 0)]) (stk' := [.int 21, .int 20]) (mem' := fm g tp bt a b) (by intro _ _ _; eq_refl) ?_
  refine fe_s 1 (pc' := cond (fx_cb .gt 20 21) 81 56) (lc' := [(4, .int 0), (3, .int (nI (3846 + (6 * N)))), (2, .int (nI N)), (1, .int 20), (0, .ref 0)]) (stk' := []) (mem' := fm g tp bt a b) (by intro _ _ _; eq_refl) ?_
  rw [show (fx_cb .gt 20 21) = false from by decide]
  dsimp only [cond]
  refine fe_s 2 (pc' := 59) (lc' := [(4, .int 0), (3, .int (nI (3846 + (6 * N)))), (2, .int (nI N)), (1, .int 20), (0, .ref 0)]) (stk' := [.int 16, .int 20]) (mem' := fm g tp bt a b) (by intro _ _ _; eq_refl) ?_
  refine fe_s 1 (pc' := cond (fx_cb .eq 20 16) 81 62) (lc' := [(4, .int 0), (3, .int (nI (3846 + (6 * N)))), (2, .int (nI N)), (1, .int 20), (0, .ref 0)]) (stk' := []) (mem' := fm g tp bt a b) (by intro _ _ _; eq_refl) ?_
  rw [show (fx_cb .eq 20 16) = false from by decide]
  dsimp only [cond]
  refine fe_s 2 (pc' := 65) (lc' := [(4, .int 0), (3, .int (nI (3846 + (6 * N)))), (2, .int (nI N)), (1, .int 20), (0, .ref 0)]) (stk' := [.int 17, .int 20]) (mem' := fm g tp bt a b) (by intro _ _ _; eq_refl) ?_
  refine fe_s 1 (pc' := cond (fx_cb .eq 20 17) 81 68) (lc' := [(4, .int 0), (3, .int (nI (3846 + (6 * N)))), (2, .int (nI N)), (1, .int 20), (0, .ref 0)]) (stk' := []) (mem' := fm g tp bt a b) (by intro _ _ _; eq_refl) ?_
  rw [show (fx_cb .eq 20 17) = false from by decide]
  dsimp only [cond]
  refine fe_s 2 (pc' := 71) (lc' := [(4, .int 0), (3, .int (nI (3846 + (6 * N)))), (2, .int (nI N)), (1, .int 20), (0, .ref 0)]) (stk' := [.int 20, .int 20]) (mem' := fm g tp bt a b) (by intro _ _ _; eq_refl) ?_
  refine fe_s 1 (pc' := cond (fx_cb .ne 20 20) 87 74) (lc' := [(4, .int 0), (3, .int (nI (3846 + (6 * N)))), (2, .int (nI N)), (1, .int 20), (0, .ref 0)]) (stk' := []) (mem' := fm g tp bt a b) (by intro _ _ _; eq_refl) ?_
  rw [show (fx_cb .ne 20 20) = false from by decide]
  dsimp only [cond]
  refine fe_s 2 (pc' := 78) (lc' := [(4, .int 0), (3, .int (nI (3846 + (6 * N)))), (2, .int (nI N)), (1, .int 20), (0, .ref 0)]) (stk' := [.int (g 22)]) (mem' := fm g tp bt a b) (by intro _ _ _; eq_refl) ?_
  try rw [h22]
  refine fe_s 1 (pc' := cond (fx_cb .ne (nI d) 0) 87 81) (lc' := [(4, .int 0), (3, .int (nI (3846 + (6 * N)))), (2, .int (nI N)), (1, .int 20), (0, .ref 0)]) (stk' := []) (mem' := fm g tp bt a b) (by intro _ _ _; eq_refl) ?_
  rw [show (fx_cb .ne (nI d) 0) = true from cb_neT (a := d) (b := 0) (by omega) (by omega) (by omega)]
  dsimp only [cond]
  refine fe_s 2 (pc' := 90) (lc' := [(4, .int 0), (3, .int (nI (3846 + (6 * N)))), (2, .int (nI N)), (1, .int 20), (0, .ref 0)]) (stk' := [.int 20, .int 20]) (mem' := fm g tp bt a b) (by intro _ _ _; eq_refl) ?_
  refine fe_s 1 (pc' := cond (fx_cb .eq 20 20) 109 93) (lc' := [(4, .int 0), (3, .int (nI (3846 + (6 * N)))), (2, .int (nI N)), (1, .int 20), (0, .ref 0)]) (stk' := []) (mem' := fm g tp bt a b) (by intro _ _ _; eq_refl) ?_
  rw [show (fx_cb .eq 20 20) = true from by decide]
  dsimp only [cond]
  refine fe_s 1 (pc' := 111) (lc' := [(4, .int 0), (3, .int (nI (3846 + (6 * N)))), (2, .int (nI N)), (1, .int 20), (0, .ref 0)]) (stk' := [.int 0]) (mem' := fm g tp bt a b) (by intro _ _ _; eq_refl) ?_
  refine fe_s 1 (pc' := cond (fx_cb .eq 0 0) 129 114) (lc' := [(4, .int 0), (3, .int (nI (3846 + (6 * N)))), (2, .int (nI N)), (1, .int 20), (0, .ref 0)]) (stk' := []) (mem' := fm g tp bt a b) (by intro _ _ _; eq_refl) ?_
  rw [show (fx_cb .eq 0 0) = true from by decide]
  dsimp only [cond]
  refine fe_s 5 (pc' := 137) (lc' := [(4, .int 0), (3, .int (nI (3846 + (6 * N)))), (2, .int (nI N)), (1, .int 20), (0, .ref 0)]) (stk' := [.int 20, .int 20, .int (g 23), .ref 0]) (mem' := fm g tp bt a b) (by intro _ _ _; eq_refl) ?_
  try rw [h23]
  refine fe_s 1 (pc' := cond (fx_cb .ne 20 20) 144 140) (lc' := [(4, .int 0), (3, .int (nI (3846 + (6 * N)))), (2, .int (nI N)), (1, .int 20), (0, .ref 0)]) (stk' := [.int (nI c), .ref 0]) (mem' := fm g tp bt a b) (by intro _ _ _; eq_refl) ?_
  rw [show (fx_cb .ne 20 20) = false from by decide]
  dsimp only [cond]
  refine fe_s 8 (pc' := 155) (lc' := [(4, .int 0), (3, .int (nI (3846 + (6 * N)))), (2, .int (nI N)), (1, .int 20), (0, .ref 0)]) (stk' := [.int 20, .int (nI (3846 + (6 * N))), .ref 1]) (mem' := fm (upd g 23 ((nI c) + 0)) tp bt a b) (by intro _ _ _; eq_refl) ?_
  rw [show ((nI c) + 0 : Int32) = nI (c + 0) from by simp only [show (0 : Int32) = nI 0 from rfl, nI_add, fm_mul]]
  have hmw2 : mo (upd g 23 (nI (c + 0))) T n p := mo_uk h (by decide)
  have hXw2 : fm_txs g (upd g 23 (nI (c + 0))) := txt_tr txt_rf (txt_u (by decide))
  have fw2_22 : (upd g 23 (nI (c + 0))) 22 = nI d := (pk_un (by decide)).trans h22
  have fw2_23 : (upd g 23 (nI (c + 0))) 23 = nI (c + 0) := pk_us
  refine fe_stI (mem' := fm (upd g 23 (nI (c + 0))) tp bt (fm_u a 1 (nI (3846 + (6 * N)) : Int32).toNatClampNeg 20) b) (by rfl) (by rfl) (fx_inN (i := 3846 + (6 * N)) (by omega) (by omega)) fm_si1 ?_
  rw [show Int32.toNatClampNeg (nI (3846 + (6 * N))) = 3846 + (6 * N) from nI_clamp (by omega)]
  have hSs3 : mTS T n A (N) a0 (fm_u a 1 (3846 + (6 * N)) 20) b := mTS_u hS (by omega)
  generalize (fm_u a 1 (3846 + (6 * N)) 20) = as3 at hSs3 ⊢
  refine fe_s 4 (pc' := 163) (lc' := [(5, .int 1), (4, .int 0), (3, .int (nI (3846 + (6 * N)))), (2, .int (nI N)), (1, .int 20), (0, .ref 0)]) (stk' := [.int 6, .int 1]) (mem' := fm (upd g 23 (nI (c + 0))) tp bt as3 b) (by intro _ _ _; eq_refl) ?_
  refine fe_s 1 (pc' := cond (fx_cb .ge 1 6) 182 166) (lc' := [(5, .int 1), (4, .int 0), (3, .int (nI (3846 + (6 * N)))), (2, .int (nI N)), (1, .int 20), (0, .ref 0)]) (stk' := []) (mem' := fm (upd g 23 (nI (c + 0))) tp bt as3 b) (by intro _ _ _; eq_refl) ?_
  rw [show (fx_cb .ge 1 6) = false from by decide]
  dsimp only [cond]
  refine fe_s 6 (pc' := 175) (lc' := [(5, .int 1), (4, .int 0), (3, .int (nI (3846 + (6 * N)))), (2, .int (nI N)), (1, .int 20), (0, .ref 0)]) (stk' := [.int 0, .int ((nI (3846 + (6 * N))) + 1), .ref 1]) (mem' := fm (upd g 23 (nI (c + 0))) tp bt as3 b) (by intro _ _ _; eq_refl) ?_
  rw [show ((nI (3846 + (6 * N))) + 1 : Int32) = nI ((3846 + (6 * N)) + 1) from by simp only [show (1 : Int32) = nI 1 from rfl, nI_add, fm_mul]]
  refine fe_stI (mem' := fm (upd g 23 (nI (c + 0))) tp bt (fm_u as3 1 (nI ((3846 + (6 * N)) + 1) : Int32).toNatClampNeg 0) b) (by rfl) (by rfl) (fx_inN (i := (3846 + (6 * N)) + 1) (by omega) (by omega)) fm_si1 ?_
  rw [show Int32.toNatClampNeg (nI ((3846 + (6 * N)) + 1)) = (3846 + (6 * N)) + 1 from nI_clamp (by omega)]
  have hSs4 : mTS T n A (N) a0 (fm_u as3 1 ((3846 + (6 * N)) + 1) 0) b := mTS_u hSs3 (by omega)
  generalize (fm_u as3 1 ((3846 + (6 * N)) + 1) 0) = as4 at hSs4 ⊢
  refine fe_s 4 (pc' := 163) (lc' := [(5, .int (1 + 1)), (4, .int 0), (3, .int (nI (3846 + (6 * N)))), (2, .int (nI N)), (1, .int 20), (0, .ref 0)]) (stk' := [.int 6, .int (1 + 1)]) (mem' := fm (upd g 23 (nI (c + 0))) tp bt as4 b) (by intro _ _ _; eq_refl) ?_
  rw [show (1 + 1 : Int32) = 2 from rfl]
  refine fe_s 1 (pc' := cond (fx_cb .ge 2 6) 182 166) (lc' := [(5, .int 2), (4, .int 0), (3, .int (nI (3846 + (6 * N)))), (2, .int (nI N)), (1, .int 20), (0, .ref 0)]) (stk' := []) (mem' := fm (upd g 23 (nI (c + 0))) tp bt as4 b) (by intro _ _ _; eq_refl) ?_
  rw [show (fx_cb .ge 2 6) = false from by decide]
  dsimp only [cond]
  refine fe_s 6 (pc' := 175) (lc' := [(5, .int 2), (4, .int 0), (3, .int (nI (3846 + (6 * N)))), (2, .int (nI N)), (1, .int 20), (0, .ref 0)]) (stk' := [.int 0, .int ((nI (3846 + (6 * N))) + 2), .ref 1]) (mem' := fm (upd g 23 (nI (c + 0))) tp bt as4 b) (by intro _ _ _; eq_refl) ?_
  rw [show ((nI (3846 + (6 * N))) + 2 : Int32) = nI ((3846 + (6 * N)) + 2) from by simp only [show (2 : Int32) = nI 2 from rfl, nI_add, fm_mul]]
  refine fe_stI (mem' := fm (upd g 23 (nI (c + 0))) tp bt (fm_u as4 1 (nI ((3846 + (6 * N)) + 2) : Int32).toNatClampNeg 0) b) (by rfl) (by rfl) (fx_inN (i := (3846 + (6 * N)) + 2) (by omega) (by omega)) fm_si1 ?_
  rw [show Int32.toNatClampNeg (nI ((3846 + (6 * N)) + 2)) = (3846 + (6 * N)) + 2 from nI_clamp (by omega)]
  have hSs5 : mTS T n A (N) a0 (fm_u as4 1 ((3846 + (6 * N)) + 2) 0) b := mTS_u hSs4 (by omega)
  generalize (fm_u as4 1 ((3846 + (6 * N)) + 2) 0) = as5 at hSs5 ⊢
  refine fe_s 4 (pc' := 163) (lc' := [(5, .int (2 + 1)), (4, .int 0), (3, .int (nI (3846 + (6 * N)))), (2, .int (nI N)), (1, .int 20), (0, .ref 0)]) (stk' := [.int 6, .int (2 + 1)]) (mem' := fm (upd g 23 (nI (c + 0))) tp bt as5 b) (by intro _ _ _; eq_refl) ?_
  rw [show (2 + 1 : Int32) = 3 from rfl]
  refine fe_s 1 (pc' := cond (fx_cb .ge 3 6) 182 166) (lc' := [(5, .int 3), (4, .int 0), (3, .int (nI (3846 + (6 * N)))), (2, .int (nI N)), (1, .int 20), (0, .ref 0)]) (stk' := []) (mem' := fm (upd g 23 (nI (c + 0))) tp bt as5 b) (by intro _ _ _; eq_refl) ?_
  rw [show (fx_cb .ge 3 6) = false from by decide]
  dsimp only [cond]
  refine fe_s 6 (pc' := 175) (lc' := [(5, .int 3), (4, .int 0), (3, .int (nI (3846 + (6 * N)))), (2, .int (nI N)), (1, .int 20), (0, .ref 0)]) (stk' := [.int 0, .int ((nI (3846 + (6 * N))) + 3), .ref 1]) (mem' := fm (upd g 23 (nI (c + 0))) tp bt as5 b) (by intro _ _ _; eq_refl) ?_
  rw [show ((nI (3846 + (6 * N))) + 3 : Int32) = nI ((3846 + (6 * N)) + 3) from by simp only [show (3 : Int32) = nI 3 from rfl, nI_add, fm_mul]]
  refine fe_stI (mem' := fm (upd g 23 (nI (c + 0))) tp bt (fm_u as5 1 (nI ((3846 + (6 * N)) + 3) : Int32).toNatClampNeg 0) b) (by rfl) (by rfl) (fx_inN (i := (3846 + (6 * N)) + 3) (by omega) (by omega)) fm_si1 ?_
  rw [show Int32.toNatClampNeg (nI ((3846 + (6 * N)) + 3)) = (3846 + (6 * N)) + 3 from nI_clamp (by omega)]
  have hSs6 : mTS T n A (N) a0 (fm_u as5 1 ((3846 + (6 * N)) + 3) 0) b := mTS_u hSs5 (by omega)
  generalize (fm_u as5 1 ((3846 + (6 * N)) + 3) 0) = as6 at hSs6 ⊢
  refine fe_s 4 (pc' := 163) (lc' := [(5, .int (3 + 1)), (4, .int 0), (3, .int (nI (3846 + (6 * N)))), (2, .int (nI N)), (1, .int 20), (0, .ref 0)]) (stk' := [.int 6, .int (3 + 1)]) (mem' := fm (upd g 23 (nI (c + 0))) tp bt as6 b) (by intro _ _ _; eq_refl) ?_
  rw [show (3 + 1 : Int32) = 4 from rfl]
  refine fe_s 1 (pc' := cond (fx_cb .ge 4 6) 182 166) (lc' := [(5, .int 4), (4, .int 0), (3, .int (nI (3846 + (6 * N)))), (2, .int (nI N)), (1, .int 20), (0, .ref 0)]) (stk' := []) (mem' := fm (upd g 23 (nI (c + 0))) tp bt as6 b) (by intro _ _ _; eq_refl) ?_
  rw [show (fx_cb .ge 4 6) = false from by decide]
  dsimp only [cond]
  refine fe_s 6 (pc' := 175) (lc' := [(5, .int 4), (4, .int 0), (3, .int (nI (3846 + (6 * N)))), (2, .int (nI N)), (1, .int 20), (0, .ref 0)]) (stk' := [.int 0, .int ((nI (3846 + (6 * N))) + 4), .ref 1]) (mem' := fm (upd g 23 (nI (c + 0))) tp bt as6 b) (by intro _ _ _; eq_refl) ?_
  rw [show ((nI (3846 + (6 * N))) + 4 : Int32) = nI ((3846 + (6 * N)) + 4) from by simp only [show (4 : Int32) = nI 4 from rfl, nI_add, fm_mul]]
  refine fe_stI (mem' := fm (upd g 23 (nI (c + 0))) tp bt (fm_u as6 1 (nI ((3846 + (6 * N)) + 4) : Int32).toNatClampNeg 0) b) (by rfl) (by rfl) (fx_inN (i := (3846 + (6 * N)) + 4) (by omega) (by omega)) fm_si1 ?_
  rw [show Int32.toNatClampNeg (nI ((3846 + (6 * N)) + 4)) = (3846 + (6 * N)) + 4 from nI_clamp (by omega)]
  have hSs7 : mTS T n A (N) a0 (fm_u as6 1 ((3846 + (6 * N)) + 4) 0) b := mTS_u hSs6 (by omega)
  generalize (fm_u as6 1 ((3846 + (6 * N)) + 4) 0) = as7 at hSs7 ⊢
  refine fe_s 4 (pc' := 163) (lc' := [(5, .int (4 + 1)), (4, .int 0), (3, .int (nI (3846 + (6 * N)))), (2, .int (nI N)), (1, .int 20), (0, .ref 0)]) (stk' := [.int 6, .int (4 + 1)]) (mem' := fm (upd g 23 (nI (c + 0))) tp bt as7 b) (by intro _ _ _; eq_refl) ?_
  rw [show (4 + 1 : Int32) = 5 from rfl]
  refine fe_s 1 (pc' := cond (fx_cb .ge 5 6) 182 166) (lc' := [(5, .int 5), (4, .int 0), (3, .int (nI (3846 + (6 * N)))), (2, .int (nI N)), (1, .int 20), (0, .ref 0)]) (stk' := []) (mem' := fm (upd g 23 (nI (c + 0))) tp bt as7 b) (by intro _ _ _; eq_refl) ?_
  rw [show (fx_cb .ge 5 6) = false from by decide]
  dsimp only [cond]
  refine fe_s 6 (pc' := 175) (lc' := [(5, .int 5), (4, .int 0), (3, .int (nI (3846 + (6 * N)))), (2, .int (nI N)), (1, .int 20), (0, .ref 0)]) (stk' := [.int 0, .int ((nI (3846 + (6 * N))) + 5), .ref 1]) (mem' := fm (upd g 23 (nI (c + 0))) tp bt as7 b) (by intro _ _ _; eq_refl) ?_
  rw [show ((nI (3846 + (6 * N))) + 5 : Int32) = nI ((3846 + (6 * N)) + 5) from by simp only [show (5 : Int32) = nI 5 from rfl, nI_add, fm_mul]]
  refine fe_stI (mem' := fm (upd g 23 (nI (c + 0))) tp bt (fm_u as7 1 (nI ((3846 + (6 * N)) + 5) : Int32).toNatClampNeg 0) b) (by rfl) (by rfl) (fx_inN (i := (3846 + (6 * N)) + 5) (by omega) (by omega)) fm_si1 ?_
  rw [show Int32.toNatClampNeg (nI ((3846 + (6 * N)) + 5)) = (3846 + (6 * N)) + 5 from nI_clamp (by omega)]
  have hSs8 : mTS T n A (N) a0 (fm_u as7 1 ((3846 + (6 * N)) + 5) 0) b := mTS_u hSs7 (by omega)
  generalize (fm_u as7 1 ((3846 + (6 * N)) + 5) 0) = as8 at hSs8 ⊢
  refine fe_s 4 (pc' := 163) (lc' := [(5, .int (5 + 1)), (4, .int 0), (3, .int (nI (3846 + (6 * N)))), (2, .int (nI N)), (1, .int 20), (0, .ref 0)]) (stk' := [.int 6, .int (5 + 1)]) (mem' := fm (upd g 23 (nI (c + 0))) tp bt as8 b) (by intro _ _ _; eq_refl) ?_
  rw [show (5 + 1 : Int32) = 6 from rfl]
  refine fe_s 1 (pc' := cond (fx_cb .ge 6 6) 182 166) (lc' := [(5, .int 6), (4, .int 0), (3, .int (nI (3846 + (6 * N)))), (2, .int (nI N)), (1, .int 20), (0, .ref 0)]) (stk' := []) (mem' := fm (upd g 23 (nI (c + 0))) tp bt as8 b) (by intro _ _ _; eq_refl) ?_
  rw [show (fx_cb .ge 6 6) = true from by decide]
  dsimp only [cond]
  refine fe_s 4 (pc' := 190) (lc' := [(5, .int 6), (4, .int 0), (3, .int (nI (3846 + (6 * N)))), (2, .int (nI N)), (1, .int 20), (0, .ref 0)]) (stk' := [.int 3374, .ref 1, .int 3374, .ref 1]) (mem' := fm (upd g 23 (nI (c + 0))) tp bt as8 b) (by intro _ _ _; eq_refl) ?_
  refine fe_ldI (by rfl) (by rfl) (fx_inN (i := 3374) (by omega) (by omega)) ?_
  rw [show Int32.toNatClampNeg (3374) = 3374 from rfl]
  rw [show as8 1 3374 = nI (N) from hSs8.2.2.2.1]
  refine fe_s 2 (pc' := 193) (lc' := [(5, .int 6), (4, .int 0), (3, .int (nI (3846 + (6 * N)))), (2, .int (nI N)), (1, .int 20), (0, .ref 0)]) (stk' := [.int ((nI N) + 1), .int 3374, .ref 1]) (mem' := fm (upd g 23 (nI (c + 0))) tp bt as8 b) (by intro _ _ _; eq_refl) ?_
  rw [show ((nI N) + 1 : Int32) = nI (N + 1) from by simp only [show (1 : Int32) = nI 1 from rfl, nI_add, fm_mul]]
  refine fe_stI (mem' := fm (upd g 23 (nI (c + 0))) tp bt (fm_u as8 1 (3374 : Int32).toNatClampNeg (nI (N + 1))) b) (by rfl) (by rfl) (fx_inN (i := 3374) (by omega) (by omega)) fm_si1 ?_
  rw [show Int32.toNatClampNeg (3374) = 3374 from rfl]
  have hSs9 : mTS T n A (N + 1) a0 (fm_u as8 1 3374 (nI (N + 1))) b := mTS_N hSs8
  generalize (fm_u as8 1 3374 (nI (N + 1))) = as9 at hSs9 ⊢
  refine fe_s 1 (pc' := 195) (lc' := [(5, .int 6), (4, .int 0), (3, .int (nI (3846 + (6 * N)))), (2, .int (nI N)), (1, .int 20), (0, .ref 0)]) (stk' := [.ref 0]) (mem' := fm (upd g 23 (nI (c + 0))) tp bt as9 b) (by intro _ _ _; eq_refl) ?_
  obtain ⟨gc10, hrc10, txc10, hmc10⟩ := mr_aheado (tp := tp) (bt := bt) (b := b) hSs9.1 hmw2 (by omega)
  refine fe_ivV hrc10 (by omega) (by rfl) (by rfl) (by rfl) (by rfl) (by rfl) (by rfl) ?_
  have fc10_22 : gc10 22 = nI d := (txc10 22 (by decide) (by decide) (by decide) (by decide) (by decide) (by decide)).trans fw2_22
  have fc10_23 : gc10 23 = nI (c + 0) := (txc10 23 (by decide) (by decide) (by decide) (by decide) (by decide) (by decide)).trans fw2_23
  have hXc10 := txt_tr hXw2 (txt_8 txc10)
  refine fe_s 3 (pc' := 201) (lc' := [(5, .int 6), (4, .int 0), (3, .int (nI (3846 + (6 * N)))), (2, .int (nI N)), (1, .int 20), (0, .ref 0)]) (stk' := [.int (nI (3846 + (6 * N))), .int 20, .ref 0]) (mem' := fm gc10 tp bt as9 b) (by intro _ _ _; eq_refl) ?_
  obtain ⟨xc11, gc11, ac11, hrc11, txc11, hSc11, hxc11⟩ := mt_ord21 (tp := tp) (bt := bt) (r := 3846 + (6 * N)) hSs9 hmc10 (by omega)
  refine fe_ivV hrc11 (by omega) (by rfl) (by rfl) (by rfl) (by rfl) (by rfl) (by rfl) ?_
  have fc11_22 : gc11 22 = nI d := (txc11 22 (by decide) (by decide) (by decide) (by decide) (by decide) (by decide)).trans fc10_22
  have fc11_23 : gc11 23 = nI (c + 0) := (txc11 23 (by decide) (by decide) (by decide) (by decide) (by decide) (by decide)).trans fc10_23
  have hXc11 := txt_tr hXc10 (txt_8 txc11)
  rcases hxc11 with ⟨rfl, qc11, hmc11, hqc11⟩ | ⟨rfl, zc11, hmc11, hqc11⟩
  · refine fe_s 1 (pc' := cond (fx_cb .ne 1 0) 209 207) (lc' := [(5, .int 6), (4, .int 0), (3, .int (nI (3846 + (6 * N)))), (2, .int (nI N)), (1, .int 20), (0, .ref 0)]) (stk' := []) (mem' := fm gc11 tp bt ac11 b) (by intro _ _ _; eq_refl) ?_
    rw [show (fx_cb .ne 1 0) = true from by decide]
    dsimp only [cond]
    refine fe_s 1 (pc' := 211) (lc' := [(5, .int 6), (4, .int 0), (3, .int (nI (3846 + (6 * N)))), (2, .int (nI N)), (1, .int 20), (0, .ref 0)]) (stk' := [.int 0]) (mem' := fm gc11 tp bt ac11 b) (by intro _ _ _; eq_refl) ?_
    refine fe_s 1 (pc' := cond (fx_cb .eq 0 0) 234 214) (lc' := [(5, .int 6), (4, .int 0), (3, .int (nI (3846 + (6 * N)))), (2, .int (nI N)), (1, .int 20), (0, .ref 0)]) (stk' := []) (mem' := fm gc11 tp bt ac11 b) (by intro _ _ _; eq_refl) ?_
    rw [show (fx_cb .eq 0 0) = true from by decide]
    dsimp only [cond]
    refine fe_s 2 (pc' := 237) (lc' := [(5, .int 6), (4, .int 0), (3, .int (nI (3846 + (6 * N)))), (2, .int (nI N)), (1, .int 20), (0, .ref 0)]) (stk' := [.int 20, .int 20]) (mem' := fm gc11 tp bt ac11 b) (by intro _ _ _; eq_refl) ?_
    refine fe_s 1 (pc' := cond (fx_cb .ne 20 20) 291 240) (lc' := [(5, .int 6), (4, .int 0), (3, .int (nI (3846 + (6 * N)))), (2, .int (nI N)), (1, .int 20), (0, .ref 0)]) (stk' := []) (mem' := fm gc11 tp bt ac11 b) (by intro _ _ _; eq_refl) ?_
    rw [show (fx_cb .ne 20 20) = false from by decide]
    dsimp only [cond]
    refine fe_s 15 (pc' := 265) (lc' := [(5, .int 6), (4, .int 0), (3, .int (nI (3846 + (6 * N)))), (2, .int (nI N)), (1, .int 20), (0, .ref 0)]) (stk' := [.int ((gc11 22) - 1), .ref 8, .int ((nI (3846 + (6 * N))) + 4), .ref 1]) (mem' := fm (upd gc11 22 ((gc11 22) - 1)) tp bt ac11 b) (by intro _ _ _; eq_refl) ?_
    try rw [fc11_22]
    rw [show ((nI d) - 1 : Int32) = nI (d - 1) from by simp only [show (1 : Int32) = nI 1 from rfl, tg_sub2 (x := d) (y := 1) (by omega), nI_add, fm_mul]]
    rw [show ((nI (3846 + (6 * N))) + 4 : Int32) = nI ((3846 + (6 * N)) + 4) from by simp only [show (4 : Int32) = nI 4 from rfl, nI_add, fm_mul]]
    have hmw12 : mo (upd gc11 22 (nI (d - 1))) T n qc11 := mo_uk hmc11 (by decide)
    have hXw12 : fm_txs g (upd gc11 22 (nI (d - 1))) := txt_tr hXc11 (txt_u (by decide))
    have fw12_23 : (upd gc11 22 (nI (d - 1))) 23 = nI (c + 0) := (pk_un (by decide)).trans fc11_23
    have fw12_22 : (upd gc11 22 (nI (d - 1))) 22 = nI (d - 1) := pk_us
    refine fe_ldI (by rfl) (by rfl) (fx_inN (i := d - 1) (by omega) (by omega)) ?_
    rw [show Int32.toNatClampNeg (nI (d - 1)) = d - 1 from nI_clamp (by omega)]
    obtain ⟨ko13, hko13, eko13⟩ := nI_bd (x := ac11 8 (d - 1)) (n := 59) (hSc11.2.2.1 (d - 1) (by omega)).1 (hSc11.2.2.1 (d - 1) (by omega)).2
    rw [eko13]
    refine fe_stI (mem' := fm (upd gc11 22 (nI (d - 1))) tp bt (fm_u ac11 1 (nI ((3846 + (6 * N)) + 4) : Int32).toNatClampNeg (nI ko13)) b) (by rfl) (by rfl) (fx_inN (i := (3846 + (6 * N)) + 4) (by omega) (by omega)) fm_si1 ?_
    rw [show Int32.toNatClampNeg (nI ((3846 + (6 * N)) + 4)) = (3846 + (6 * N)) + 4 from nI_clamp (by omega)]
    have hSs14 : mTS T n A (N + 1) a0 (fm_u ac11 1 ((3846 + (6 * N)) + 4) (nI ko13)) b := mTS_u hSc11 (by omega)
    generalize (fm_u ac11 1 ((3846 + (6 * N)) + 4) (nI ko13)) = as14 at hSs14 ⊢
    refine fe_s 8 (pc' := 284) (lc' := [(5, .int 6), (4, .int 0), (3, .int (nI (3846 + (6 * N)))), (2, .int (nI N)), (1, .int 20), (0, .ref 0)]) (stk' := [.int ((upd gc11 22 (nI (d - 1))) 22), .ref 8, .int 6, .int 3846, .ref 1]) (mem' := fm (upd gc11 22 (nI (d - 1))) tp bt as14 b) (by intro _ _ _; eq_refl) ?_
    try rw [fw12_22]
    refine fe_ldI (by rfl) (by rfl) (fx_inN (i := d - 1) (by omega) (by omega)) ?_
    rw [show Int32.toNatClampNeg (nI (d - 1)) = d - 1 from nI_clamp (by omega)]
    obtain ⟨ko15, hko15, eko15⟩ := nI_bd (x := as14 8 (d - 1)) (n := 59) (hSs14.2.2.1 (d - 1) (by omega)).1 (hSs14.2.2.1 (d - 1) (by omega)).2
    rw [eko15]
    refine fe_s 5 (pc' := 290) (lc' := [(5, .int 6), (4, .int 0), (3, .int (nI (3846 + (6 * N)))), (2, .int (nI N)), (1, .int 20), (0, .ref 0)]) (stk' := [.int (nI N), .int ((3846 + (6 * (nI ko15))) + 4), .ref 1]) (mem' := fm (upd gc11 22 (nI (d - 1))) tp bt as14 b) (by intro _ _ _; eq_refl) ?_
    rw [show ((3846 + (6 * (nI ko15))) + 4 : Int32) = nI ((3846 + (6 * ko15)) + 4) from by simp only [show (3846 : Int32) = nI 3846 from rfl, show (6 : Int32) = nI 6 from rfl, show (4 : Int32) = nI 4 from rfl, nI_add, fm_mul]]
    refine fe_stI (mem' := fm (upd gc11 22 (nI (d - 1))) tp bt (fm_u as14 1 (nI ((3846 + (6 * ko15)) + 4) : Int32).toNatClampNeg (nI N)) b) (by rfl) (by rfl) (fx_inN (i := (3846 + (6 * ko15)) + 4) (by omega) (by omega)) fm_si1 ?_
    rw [show Int32.toNatClampNeg (nI ((3846 + (6 * ko15)) + 4)) = (3846 + (6 * ko15)) + 4 from nI_clamp (by omega)]
    have hSs16 : mTS T n A (N + 1) a0 (fm_u as14 1 ((3846 + (6 * ko15)) + 4) (nI N)) b := mTS_u hSs14 (by omega)
    generalize (fm_u as14 1 ((3846 + (6 * ko15)) + 4) (nI N)) = as16 at hSs16 ⊢
    refine fe_s 2 (pc' := 294) (lc' := [(5, .int 6), (4, .int 0), (3, .int (nI (3846 + (6 * N)))), (2, .int (nI N)), (1, .int 20), (0, .ref 0)]) (stk' := [.int 59, .ref 0]) (mem' := fm (upd gc11 22 (nI (d - 1))) tp bt as16 b) (by intro _ _ _; eq_refl) ?_
    obtain ⟨xc17, gc17, hrc17, txc17, hxc17⟩ := mr_wantSign (tp := tp) (bt := bt) (b := b) (w := 59) hSs16.1 (by decide) hmw12
    refine fe_ivV hrc17 (by omega) (by rfl) (by rfl) (by rfl) (by rfl) (by rfl) (by rfl) ?_
    have fc17_23 : gc17 23 = nI (c + 0) := (txc17 23 (by decide) (by decide) (by decide) (by decide) (by decide) (by decide)).trans fw12_23
    have fc17_22 : gc17 22 = nI (d - 1) := (txc17 22 (by decide) (by decide) (by decide) (by decide) (by decide) (by decide)).trans fw12_22
    have hXc17 := txt_tr hXw12 (txt_8 txc17)
    rcases hxc17 with ⟨hwc17, rfl, hmc17⟩ | ⟨hwc17, rfl, hmc17⟩
    · have eq1 : sp_n T n p = qc11 := by have z := hqc11 (fun x => .inr (A, 0, x)); injection z with z; injection z with _ z; injection z
      rw [← eq1] at hwc17
      have hm2 := hmc17
      rw [← eq1] at hm2
      refine fe_ret ⟨1, _, _, ⟨hXc17, Or.inl ⟨rfl, (A, 4 * c + (d - 1), sp_n T n (sp_n T n p)), by rw [show tl_k T n A c d p 21 = (if d = 0 then sp_mis T n p else sp_sign T n 59 (sp_n T n p) (fun q => .inr (A, 4 * c + (d - 1), q))) from rfl, if_neg (by omega), sp_sign_t hwc17], rfl, hm2, ?_⟩⟩, rfl⟩ (by rfl) (by rfl) (by rfl)
      refine ⟨by dsimp only; omega, ?_, ?_, N + 1, by dsimp only; omega, hSs16⟩
      · rw [show (4 * c + (d - 1)) / 4 = c by omega]; exact fc17_23
      · rw [show (4 * c + (d - 1)) % 4 = d - 1 by omega]; exact fc17_22
    · have eq1 : sp_n T n p = qc11 := by have z := hqc11 (fun x => .inr (A, 0, x)); injection z with z; injection z with _ z; injection z
      rw [← eq1] at hwc17
      have hm2 := hmc17
      rw [← eq1] at hm2
      exact fe_ret ⟨0, _, _, ⟨hXc17, Or.inr ⟨rfl, (sp_m T n (sp_n T n p), sp_s T n (sp_n T n p)), by rw [show tl_k T n A c d p 21 = (if d = 0 then sp_mis T n p else sp_sign T n 59 (sp_n T n p) (fun q => .inr (A, 4 * c + (d - 1), q))) from rfl, if_neg (by omega), sp_sign_f hwc17], hm2, hSs16.2.2.2.2⟩⟩, rfl⟩ (by rfl) (by rfl) (by rfl)
  · refine fe_s 1 (pc' := cond (fx_cb .ne 0 0) 209 207) (lc' := [(5, .int 6), (4, .int 0), (3, .int (nI (3846 + (6 * N)))), (2, .int (nI N)), (1, .int 20), (0, .ref 0)]) (stk' := []) (mem' := fm gc11 tp bt ac11 b) (by intro _ _ _; eq_refl) ?_
    rw [show (fx_cb .ne 0 0) = false from by decide]
    dsimp only [cond]
    refine fe_s 1 (pc' := 208) (lc' := [(5, .int 6), (4, .int 0), (3, .int (nI (3846 + (6 * N)))), (2, .int (nI N)), (1, .int 20), (0, .ref 0)]) (stk' := [.int 0]) (mem' := fm gc11 tp bt ac11 b) (by intro _ _ _; eq_refl) ?_
    exact absurd (hqc11 (fun x => .inr (A, 0, x))) (by intro z; cases z)
set_option maxRecDepth 8000 in
theorem mt_st12 (hS : mTS T n A N a0 a b) (h : mo g T n p) (hmw : sp_mw T n p = 16) : ∃ (v : Int32) (g' : Nat → Int32) (a' : Nat → Nat → Int32), fr_T 10 251 [.ref 0] (fm g tp bt a b) (some (.int v)) (fm g' tp bt a' b) ∧ fm_txs g g' ∧ v = 0 ∧ a' = a ∧ mf g' (sp_m T n p) (sp_s T n p) := by
  suffices h : ∃ (v : Option Value) (mem' : fx_M), (fun R => ∃ (v : Int32) (g' : Nat → Int32) (a' : Nat → Nat → Int32), (fm_txs g g' ∧ v = 0 ∧ a' = a ∧ mf g' (sp_m T n p) (sp_s T n p)) ∧ R = (some (.int v), fm g' tp bt a' b)) (v, mem') ∧ fr_T 10 251 [.ref 0] (fm g tp bt a b) v mem' by
    obtain ⟨v, mem', ⟨w, g', a', h1, hR⟩, h2⟩ := h
    cases hR
    exact ⟨w, g', a', h2, h1⟩
  refine fe_meth (f := 251) (as := [.ref 0]) (F := fun R => ∃ (v : Int32) (g' : Nat → Int32) (a' : Nat → Nat → Int32), (fm_txs g g' ∧ v = 0 ∧ a' = a ∧ mf g' (sp_m T n p) (sp_s T n p)) ∧ R = (some (.int v), fm g' tp bt a' b)) (M := gk_m251) (by rfl) (by rfl) ?_
  refine fe_s 2 (pc' := 3) (lc' := [(0, .ref 0)]) (stk' := [.ref 22, .ref 0]) (mem' := fm g tp bt a b) (by intro _ _ _; eq_refl) ?_
  refine fe_ivV (mr_inWords (tp := tp) (bt := bt) (b := b) hS.1 h.1 h.2.1) (by omega) (by rfl) (by rfl) (by rfl) (by rfl) (by rfl) (by rfl) ?_
  rw [hmw]
  refine fe_s 4 (pc' := 14) (lc' := [(1, .int 16), (0, .ref 0)]) (stk' := [.int 3374, .ref 1]) (mem' := fm g tp bt a b) (by intro _ _ _; eq_refl) ?_
  refine fe_ldI (by rfl) (by rfl) (fx_inN (i := 3374) (by omega) (by omega)) ?_
  rw [show Int32.toNatClampNeg (3374) = 3374 from rfl]
  rw [show a 1 3374 = nI (N) from hS.2.2.2.1]
  refine fe_s 9 (pc' := 28) (lc' := [(3, .int (3846 + (6 * (nI N)))), (2, .int (nI N)), (1, .int 16), (0, .ref 0)]) (stk' := [.int 18, .int 16]) (mem' := fm g tp bt a b) (by intro _ _ _; eq_refl) ?_
  rw [show (3846 + (6 * (nI N)) : Int32) = nI (3846 + (6 * N)) from by simp only [show (3846 : Int32) = nI 3846 from rfl, show (6 : Int32) = nI 6 from rfl, nI_add, fm_mul]]
  refine fe_s 1 (pc' := cond (fx_cb .eq 16 18) 37 31) (lc' := [(3, .int (nI (3846 + (6 * N)))), (2, .int (nI N)), (1, .int 16), (0, .ref 0)]) (stk' := []) (mem' := fm g tp bt a b) (by intro _ _ _; eq_refl) ?_
  rw [show (fx_cb .eq 16 18) = false from by decide]
  dsimp only [cond]
  refine fe_s 2 (pc' := 34) (lc' := [(3, .int (nI (3846 + (6 * N)))), (2, .int (nI N)), (1, .int 16), (0, .ref 0)]) (stk' := [.int 19, .int 16]) (mem' := fm g tp bt a b) (by intro _ _ _; eq_refl) ?_
  refine fe_s 1 (pc' := cond (fx_cb .ne 16 19) 41 37) (lc' := [(3, .int (nI (3846 + (6 * N)))), (2, .int (nI N)), (1, .int 16), (0, .ref 0)]) (stk' := []) (mem' := fm g tp bt a b) (by intro _ _ _; eq_refl) ?_
  rw [show (fx_cb .ne 16 19) = true from by decide]
  dsimp only [cond]
  refine fe_s 4 (pc' := 47) (lc' := [(4, .int 0), (3, .int (nI (3846 + (6 * N)))), (2, .int (nI N)), (1, .int 16), (0, .ref 0)]) (stk' := [.int 11, .int 16]) (mem' := fm g tp bt a b) (by intro _ _ _; eq_refl) ?_
  refine fe_s 1 (pc' := cond (fx_cb .lt 16 11) 81 50) (lc' := [(4, .int 0), (3, .int (nI (3846 + (6 * N)))), (2, .int (nI N)), (1, .int 16), (0, .ref 0)]) (stk' := []) (mem' := fm g tp bt a b) (by intro _ _ _; eq_refl) ?_
  rw [show (fx_cb .lt 16 11) = false from by decide]
  dsimp only [cond]
  refine fe_s 2 (pc' := 53) (lc' := [(4, .int 0), (3, .int (nI (3846 + (6 * N)))), (2, .int (nI N)), (1, .int 16), (0, .ref 0)]) (stk' := [.int 21, .int 16]) (mem' := fm g tp bt a b) (by intro _ _ _; eq_refl) ?_
  refine fe_s 1 (pc' := cond (fx_cb .gt 16 21) 81 56) (lc' := [(4, .int 0), (3, .int (nI (3846 + (6 * N)))), (2, .int (nI N)), (1, .int 16), (0, .ref 0)]) (stk' := []) (mem' := fm g tp bt a b) (by intro _ _ _; eq_refl) ?_
  rw [show (fx_cb .gt 16 21) = false from by decide]
  dsimp only [cond]
  refine fe_s 2 (pc' := 59) (lc' := [(4, .int 0), (3, .int (nI (3846 + (6 * N)))), (2, .int (nI N)), (1, .int 16), (0, .ref 0)]) (stk' := [.int 16, .int 16]) (mem' := fm g tp bt a b) (by intro _ _ _; eq_refl) ?_
  refine fe_s 1 (pc' := cond (fx_cb .eq 16 16) 81 62) (lc' := [(4, .int 0), (3, .int (nI (3846 + (6 * N)))), (2, .int (nI N)), (1, .int 16), (0, .ref 0)]) (stk' := []) (mem' := fm g tp bt a b) (by intro _ _ _; eq_refl) ?_
  rw [show (fx_cb .eq 16 16) = true from by decide]
  dsimp only [cond]
  refine fe_s 2 (pc' := 83) (lc' := [(4, .int 0), (3, .int (nI (3846 + (6 * N)))), (2, .int (nI N)), (1, .int 16), (0, .ref 0)]) (stk' := [.int 2, .ref 0]) (mem' := fm g tp bt a b) (by intro _ _ _; eq_refl) ?_
  obtain ⟨gc2, hrc2, txc2, hmc2⟩ := mr_fails2 (tp := tp) (bt := bt) (a := a) (b := b) h
  refine fe_ivV hrc2 (by omega) (by rfl) (by rfl) (by rfl) (by rfl) (by rfl) (by rfl) ?_
  have hXc2 := txt_tr txt_rf (txt_8 txc2)
  exact fe_ret ⟨0, _, _, ⟨hXc2, rfl, rfl, hmc2⟩, rfl⟩ (by rfl) (by rfl) (by rfl)
set_option maxRecDepth 8000 in
theorem mt_st18 (hS : mTS T n A N a0 a b) (h : mo g T n p) (hmw : sp_mw T n p = 17) : ∃ (v : Int32) (g' : Nat → Int32) (a' : Nat → Nat → Int32), fr_T 10 251 [.ref 0] (fm g tp bt a b) (some (.int v)) (fm g' tp bt a' b) ∧ fm_txs g g' ∧ v = 0 ∧ a' = a ∧ mf g' (sp_m T n p) (sp_s T n p) := by
  suffices h : ∃ (v : Option Value) (mem' : fx_M), (fun R => ∃ (v : Int32) (g' : Nat → Int32) (a' : Nat → Nat → Int32), (fm_txs g g' ∧ v = 0 ∧ a' = a ∧ mf g' (sp_m T n p) (sp_s T n p)) ∧ R = (some (.int v), fm g' tp bt a' b)) (v, mem') ∧ fr_T 10 251 [.ref 0] (fm g tp bt a b) v mem' by
    obtain ⟨v, mem', ⟨w, g', a', h1, hR⟩, h2⟩ := h
    cases hR
    exact ⟨w, g', a', h2, h1⟩
  refine fe_meth (f := 251) (as := [.ref 0]) (F := fun R => ∃ (v : Int32) (g' : Nat → Int32) (a' : Nat → Nat → Int32), (fm_txs g g' ∧ v = 0 ∧ a' = a ∧ mf g' (sp_m T n p) (sp_s T n p)) ∧ R = (some (.int v), fm g' tp bt a' b)) (M := gk_m251) (by rfl) (by rfl) ?_
  refine fe_s 2 (pc' := 3) (lc' := [(0, .ref 0)]) (stk' := [.ref 22, .ref 0]) (mem' := fm g tp bt a b) (by intro _ _ _; eq_refl) ?_
  refine fe_ivV (mr_inWords (tp := tp) (bt := bt) (b := b) hS.1 h.1 h.2.1) (by omega) (by rfl) (by rfl) (by rfl) (by rfl) (by rfl) (by rfl) ?_
  rw [hmw]
  refine fe_s 4 (pc' := 14) (lc' := [(1, .int 17), (0, .ref 0)]) (stk' := [.int 3374, .ref 1]) (mem' := fm g tp bt a b) (by intro _ _ _; eq_refl) ?_
  refine fe_ldI (by rfl) (by rfl) (fx_inN (i := 3374) (by omega) (by omega)) ?_
  rw [show Int32.toNatClampNeg (3374) = 3374 from rfl]
  rw [show a 1 3374 = nI (N) from hS.2.2.2.1]
  refine fe_s 9 (pc' := 28) (lc' := [(3, .int (3846 + (6 * (nI N)))), (2, .int (nI N)), (1, .int 17), (0, .ref 0)]) (stk' := [.int 18, .int 17]) (mem' := fm g tp bt a b) (by intro _ _ _; eq_refl) ?_
  rw [show (3846 + (6 * (nI N)) : Int32) = nI (3846 + (6 * N)) from by simp only [show (3846 : Int32) = nI 3846 from rfl, show (6 : Int32) = nI 6 from rfl, nI_add, fm_mul]]
  refine fe_s 1 (pc' := cond (fx_cb .eq 17 18) 37 31) (lc' := [(3, .int (nI (3846 + (6 * N)))), (2, .int (nI N)), (1, .int 17), (0, .ref 0)]) (stk' := []) (mem' := fm g tp bt a b) (by intro _ _ _; eq_refl) ?_
  rw [show (fx_cb .eq 17 18) = false from by decide]
  dsimp only [cond]
  refine fe_s 2 (pc' := 34) (lc' := [(3, .int (nI (3846 + (6 * N)))), (2, .int (nI N)), (1, .int 17), (0, .ref 0)]) (stk' := [.int 19, .int 17]) (mem' := fm g tp bt a b) (by intro _ _ _; eq_refl) ?_
  refine fe_s 1 (pc' := cond (fx_cb .ne 17 19) 41 37) (lc' := [(3, .int (nI (3846 + (6 * N)))), (2, .int (nI N)), (1, .int 17), (0, .ref 0)]) (stk' := []) (mem' := fm g tp bt a b) (by intro _ _ _; eq_refl) ?_
  rw [show (fx_cb .ne 17 19) = true from by decide]
  dsimp only [cond]
  refine fe_s 4 (pc' := 47) (lc' := [(4, .int 0), (3, .int (nI (3846 + (6 * N)))), (2, .int (nI N)), (1, .int 17), (0, .ref 0)]) (stk' := [.int 11, .int 17]) (mem' := fm g tp bt a b) (by intro _ _ _; eq_refl) ?_
  refine fe_s 1 (pc' := cond (fx_cb .lt 17 11) 81 50) (lc' := [(4, .int 0), (3, .int (nI (3846 + (6 * N)))), (2, .int (nI N)), (1, .int 17), (0, .ref 0)]) (stk' := []) (mem' := fm g tp bt a b) (by intro _ _ _; eq_refl) ?_
  rw [show (fx_cb .lt 17 11) = false from by decide]
  dsimp only [cond]
  refine fe_s 2 (pc' := 53) (lc' := [(4, .int 0), (3, .int (nI (3846 + (6 * N)))), (2, .int (nI N)), (1, .int 17), (0, .ref 0)]) (stk' := [.int 21, .int 17]) (mem' := fm g tp bt a b) (by intro _ _ _; eq_refl) ?_
  refine fe_s 1 (pc' := cond (fx_cb .gt 17 21) 81 56) (lc' := [(4, .int 0), (3, .int (nI (3846 + (6 * N)))), (2, .int (nI N)), (1, .int 17), (0, .ref 0)]) (stk' := []) (mem' := fm g tp bt a b) (by intro _ _ _; eq_refl) ?_
  rw [show (fx_cb .gt 17 21) = false from by decide]
  dsimp only [cond]
  refine fe_s 2 (pc' := 59) (lc' := [(4, .int 0), (3, .int (nI (3846 + (6 * N)))), (2, .int (nI N)), (1, .int 17), (0, .ref 0)]) (stk' := [.int 16, .int 17]) (mem' := fm g tp bt a b) (by intro _ _ _; eq_refl) ?_
  refine fe_s 1 (pc' := cond (fx_cb .eq 17 16) 81 62) (lc' := [(4, .int 0), (3, .int (nI (3846 + (6 * N)))), (2, .int (nI N)), (1, .int 17), (0, .ref 0)]) (stk' := []) (mem' := fm g tp bt a b) (by intro _ _ _; eq_refl) ?_
  rw [show (fx_cb .eq 17 16) = false from by decide]
  dsimp only [cond]
  refine fe_s 2 (pc' := 65) (lc' := [(4, .int 0), (3, .int (nI (3846 + (6 * N)))), (2, .int (nI N)), (1, .int 17), (0, .ref 0)]) (stk' := [.int 17, .int 17]) (mem' := fm g tp bt a b) (by intro _ _ _; eq_refl) ?_
  refine fe_s 1 (pc' := cond (fx_cb .eq 17 17) 81 68) (lc' := [(4, .int 0), (3, .int (nI (3846 + (6 * N)))), (2, .int (nI N)), (1, .int 17), (0, .ref 0)]) (stk' := []) (mem' := fm g tp bt a b) (by intro _ _ _; eq_refl) ?_
  rw [show (fx_cb .eq 17 17) = true from by decide]
  dsimp only [cond]
  refine fe_s 2 (pc' := 83) (lc' := [(4, .int 0), (3, .int (nI (3846 + (6 * N)))), (2, .int (nI N)), (1, .int 17), (0, .ref 0)]) (stk' := [.int 2, .ref 0]) (mem' := fm g tp bt a b) (by intro _ _ _; eq_refl) ?_
  obtain ⟨gc2, hrc2, txc2, hmc2⟩ := mr_fails2 (tp := tp) (bt := bt) (a := a) (b := b) h
  refine fe_ivV hrc2 (by omega) (by rfl) (by rfl) (by rfl) (by rfl) (by rfl) (by rfl) ?_
  have hXc2 := txt_tr txt_rf (txt_8 txc2)
  exact fe_ret ⟨0, _, _, ⟨hXc2, rfl, rfl, hmc2⟩, rfl⟩ (by rfl) (by rfl) (by rfl)
set_option maxRecDepth 8000 in
theorem mt_st19 (hS : mTS T n A N a0 a b) (h : mo g T n p) (hmw : sp_mw T n p = 22) : ∃ (v : Int32) (g' : Nat → Int32) (a' : Nat → Nat → Int32), fr_T 10 251 [.ref 0] (fm g tp bt a b) (some (.int v)) (fm g' tp bt a' b) ∧ fm_txs g g' ∧ v = 0 ∧ a' = a ∧ mf g' (sp_m T n p) (sp_s T n p) := by
  suffices h : ∃ (v : Option Value) (mem' : fx_M), (fun R => ∃ (v : Int32) (g' : Nat → Int32) (a' : Nat → Nat → Int32), (fm_txs g g' ∧ v = 0 ∧ a' = a ∧ mf g' (sp_m T n p) (sp_s T n p)) ∧ R = (some (.int v), fm g' tp bt a' b)) (v, mem') ∧ fr_T 10 251 [.ref 0] (fm g tp bt a b) v mem' by
    obtain ⟨v, mem', ⟨w, g', a', h1, hR⟩, h2⟩ := h
    cases hR
    exact ⟨w, g', a', h2, h1⟩
  refine fe_meth (f := 251) (as := [.ref 0]) (F := fun R => ∃ (v : Int32) (g' : Nat → Int32) (a' : Nat → Nat → Int32), (fm_txs g g' ∧ v = 0 ∧ a' = a ∧ mf g' (sp_m T n p) (sp_s T n p)) ∧ R = (some (.int v), fm g' tp bt a' b)) (M := gk_m251) (by rfl) (by rfl) ?_
  refine fe_s 2 (pc' := 3) (lc' := [(0, .ref 0)]) (stk' := [.ref 22, .ref 0]) (mem' := fm g tp bt a b) (by intro _ _ _; eq_refl) ?_
  refine fe_ivV (mr_inWords (tp := tp) (bt := bt) (b := b) hS.1 h.1 h.2.1) (by omega) (by rfl) (by rfl) (by rfl) (by rfl) (by rfl) (by rfl) ?_
  rw [hmw]
  refine fe_s 4 (pc' := 14) (lc' := [(1, .int 22), (0, .ref 0)]) (stk' := [.int 3374, .ref 1]) (mem' := fm g tp bt a b) (by intro _ _ _; eq_refl) ?_
  refine fe_ldI (by rfl) (by rfl) (fx_inN (i := 3374) (by omega) (by omega)) ?_
  rw [show Int32.toNatClampNeg (3374) = 3374 from rfl]
  rw [show a 1 3374 = nI (N) from hS.2.2.2.1]
  refine fe_s 9 (pc' := 28) (lc' := [(3, .int (3846 + (6 * (nI N)))), (2, .int (nI N)), (1, .int 22), (0, .ref 0)]) (stk' := [.int 18, .int 22]) (mem' := fm g tp bt a b) (by intro _ _ _; eq_refl) ?_
  rw [show (3846 + (6 * (nI N)) : Int32) = nI (3846 + (6 * N)) from by simp only [show (3846 : Int32) = nI 3846 from rfl, show (6 : Int32) = nI 6 from rfl, nI_add, fm_mul]]
  refine fe_s 1 (pc' := cond (fx_cb .eq 22 18) 37 31) (lc' := [(3, .int (nI (3846 + (6 * N)))), (2, .int (nI N)), (1, .int 22), (0, .ref 0)]) (stk' := []) (mem' := fm g tp bt a b) (by intro _ _ _; eq_refl) ?_
  rw [show (fx_cb .eq 22 18) = false from by decide]
  dsimp only [cond]
  refine fe_s 2 (pc' := 34) (lc' := [(3, .int (nI (3846 + (6 * N)))), (2, .int (nI N)), (1, .int 22), (0, .ref 0)]) (stk' := [.int 19, .int 22]) (mem' := fm g tp bt a b) (by intro _ _ _; eq_refl) ?_
  refine fe_s 1 (pc' := cond (fx_cb .ne 22 19) 41 37) (lc' := [(3, .int (nI (3846 + (6 * N)))), (2, .int (nI N)), (1, .int 22), (0, .ref 0)]) (stk' := []) (mem' := fm g tp bt a b) (by intro _ _ _; eq_refl) ?_
  rw [show (fx_cb .ne 22 19) = true from by decide]
  dsimp only [cond]
  refine fe_s 4 (pc' := 47) (lc' := [(4, .int 0), (3, .int (nI (3846 + (6 * N)))), (2, .int (nI N)), (1, .int 22), (0, .ref 0)]) (stk' := [.int 11, .int 22]) (mem' := fm g tp bt a b) (by intro _ _ _; eq_refl) ?_
  refine fe_s 1 (pc' := cond (fx_cb .lt 22 11) 81 50) (lc' := [(4, .int 0), (3, .int (nI (3846 + (6 * N)))), (2, .int (nI N)), (1, .int 22), (0, .ref 0)]) (stk' := []) (mem' := fm g tp bt a b) (by intro _ _ _; eq_refl) ?_
  rw [show (fx_cb .lt 22 11) = false from by decide]
  dsimp only [cond]
  refine fe_s 2 (pc' := 53) (lc' := [(4, .int 0), (3, .int (nI (3846 + (6 * N)))), (2, .int (nI N)), (1, .int 22), (0, .ref 0)]) (stk' := [.int 21, .int 22]) (mem' := fm g tp bt a b) (by intro _ _ _; eq_refl) ?_
  refine fe_s 1 (pc' := cond (fx_cb .gt 22 21) 81 56) (lc' := [(4, .int 0), (3, .int (nI (3846 + (6 * N)))), (2, .int (nI N)), (1, .int 22), (0, .ref 0)]) (stk' := []) (mem' := fm g tp bt a b) (by intro _ _ _; eq_refl) ?_
  rw [show (fx_cb .gt 22 21) = true from by decide]
  dsimp only [cond]
  refine fe_s 2 (pc' := 83) (lc' := [(4, .int 0), (3, .int (nI (3846 + (6 * N)))), (2, .int (nI N)), (1, .int 22), (0, .ref 0)]) (stk' := [.int 2, .ref 0]) (mem' := fm g tp bt a b) (by intro _ _ _; eq_refl) ?_
  obtain ⟨gc2, hrc2, txc2, hmc2⟩ := mr_fails2 (tp := tp) (bt := bt) (a := a) (b := b) h
  refine fe_ivV hrc2 (by omega) (by rfl) (by rfl) (by rfl) (by rfl) (by rfl) (by rfl) ?_
  have hXc2 := txt_tr txt_rf (txt_8 txc2)
  exact fe_ret ⟨0, _, _, ⟨hXc2, rfl, rfl, hmc2⟩, rfl⟩ (by rfl) (by rfl) (by rfl)
set_option maxRecDepth 8000 in
theorem mt_st21z (hS : mTS T n A N a0 a b) (h : mo g T n p) (h22 : g 22 = 0) (hmw : sp_mw T n p = 20) : ∃ (v : Int32) (g' : Nat → Int32) (a' : Nat → Nat → Int32), fr_T 10 251 [.ref 0] (fm g tp bt a b) (some (.int v)) (fm g' tp bt a' b) ∧ fm_txs g g' ∧ v = 0 ∧ a' = a ∧ mf g' (sp_m T n p) (sp_s T n p) := by
  suffices h : ∃ (v : Option Value) (mem' : fx_M), (fun R => ∃ (v : Int32) (g' : Nat → Int32) (a' : Nat → Nat → Int32), (fm_txs g g' ∧ v = 0 ∧ a' = a ∧ mf g' (sp_m T n p) (sp_s T n p)) ∧ R = (some (.int v), fm g' tp bt a' b)) (v, mem') ∧ fr_T 10 251 [.ref 0] (fm g tp bt a b) v mem' by
    obtain ⟨v, mem', ⟨w, g', a', h1, hR⟩, h2⟩ := h
    cases hR
    exact ⟨w, g', a', h2, h1⟩
  refine fe_meth (f := 251) (as := [.ref 0]) (F := fun R => ∃ (v : Int32) (g' : Nat → Int32) (a' : Nat → Nat → Int32), (fm_txs g g' ∧ v = 0 ∧ a' = a ∧ mf g' (sp_m T n p) (sp_s T n p)) ∧ R = (some (.int v), fm g' tp bt a' b)) (M := gk_m251) (by rfl) (by rfl) ?_
  refine fe_s 2 (pc' := 3) (lc' := [(0, .ref 0)]) (stk' := [.ref 22, .ref 0]) (mem' := fm g tp bt a b) (by intro _ _ _; eq_refl) ?_
  refine fe_ivV (mr_inWords (tp := tp) (bt := bt) (b := b) hS.1 h.1 h.2.1) (by omega) (by rfl) (by rfl) (by rfl) (by rfl) (by rfl) (by rfl) ?_
  rw [hmw]
  refine fe_s 4 (pc' := 14) (lc' := [(1, .int 20), (0, .ref 0)]) (stk' := [.int 3374, .ref 1]) (mem' := fm g tp bt a b) (by intro _ _ _; eq_refl) ?_
  refine fe_ldI (by rfl) (by rfl) (fx_inN (i := 3374) (by omega) (by omega)) ?_
  rw [show Int32.toNatClampNeg (3374) = 3374 from rfl]
  rw [show a 1 3374 = nI (N) from hS.2.2.2.1]
  refine fe_s 9 (pc' := 28) (lc' := [(3, .int (3846 + (6 * (nI N)))), (2, .int (nI N)), (1, .int 20), (0, .ref 0)]) (stk' := [.int 18, .int 20]) (mem' := fm g tp bt a b) (by intro _ _ _; eq_refl) ?_
  rw [show (3846 + (6 * (nI N)) : Int32) = nI (3846 + (6 * N)) from by simp only [show (3846 : Int32) = nI 3846 from rfl, show (6 : Int32) = nI 6 from rfl, nI_add, fm_mul]]
  refine fe_s 1 (pc' := cond (fx_cb .eq 20 18) 37 31) (lc' := [(3, .int (nI (3846 + (6 * N)))), (2, .int (nI N)), (1, .int 20), (0, .ref 0)]) (stk' := []) (mem' := fm g tp bt a b) (by intro _ _ _; eq_refl) ?_
  rw [show (fx_cb .eq 20 18) = false from by decide]
  dsimp only [cond]
  refine fe_s 2 (pc' := 34) (lc' := [(3, .int (nI (3846 + (6 * N)))), (2, .int (nI N)), (1, .int 20), (0, .ref 0)]) (stk' := [.int 19, .int 20]) (mem' := fm g tp bt a b) (by intro _ _ _; eq_refl) ?_
  refine fe_s 1 (pc' := cond (fx_cb .ne 20 19) 41 37) (lc' := [(3, .int (nI (3846 + (6 * N)))), (2, .int (nI N)), (1, .int 20), (0, .ref 0)]) (stk' := []) (mem' := fm g tp bt a b) (by intro _ _ _; eq_refl) ?_
  rw [show (fx_cb .ne 20 19) = true from by decide]
  dsimp only [cond]
  refine fe_s 4 (pc' := 47) (lc' := [(4, .int 0), (3, .int (nI (3846 + (6 * N)))), (2, .int (nI N)), (1, .int 20), (0, .ref 0)]) (stk' := [.int 11, .int 20]) (mem' := fm g tp bt a b) (by intro _ _ _; eq_refl) ?_
  refine fe_s 1 (pc' := cond (fx_cb .lt 20 11) 81 50) (lc' := [(4, .int 0), (3, .int (nI (3846 + (6 * N)))), (2, .int (nI N)), (1, .int 20), (0, .ref 0)]) (stk' := []) (mem' := fm g tp bt a b) (by intro _ _ _; eq_refl) ?_
  rw [show (fx_cb .lt 20 11) = false from by decide]
  dsimp only [cond]
  refine fe_s 2 (pc' := 53) (lc' := [(4, .int 0), (3, .int (nI (3846 + (6 * N)))), (2, .int (nI N)), (1, .int 20), (0, .ref 0)]) (stk' := [.int 21, .int 20]) (mem' := fm g tp bt a b) (by intro _ _ _; eq_refl) ?_
  refine fe_s 1 (pc' := cond (fx_cb .gt 20 21) 81 56) (lc' := [(4, .int 0), (3, .int (nI (3846 + (6 * N)))), (2, .int (nI N)), (1, .int 20), (0, .ref 0)]) (stk' := []) (mem' := fm g tp bt a b) (by intro _ _ _; eq_refl) ?_
  rw [show (fx_cb .gt 20 21) = false from by decide]
  dsimp only [cond]
  refine fe_s 2 (pc' := 59) (lc' := [(4, .int 0), (3, .int (nI (3846 + (6 * N)))), (2, .int (nI N)), (1, .int 20), (0, .ref 0)]) (stk' := [.int 16, .int 20]) (mem' := fm g tp bt a b) (by intro _ _ _; eq_refl) ?_
  refine fe_s 1 (pc' := cond (fx_cb .eq 20 16) 81 62) (lc' := [(4, .int 0), (3, .int (nI (3846 + (6 * N)))), (2, .int (nI N)), (1, .int 20), (0, .ref 0)]) (stk' := []) (mem' := fm g tp bt a b) (by intro _ _ _; eq_refl) ?_
  rw [show (fx_cb .eq 20 16) = false from by decide]
  dsimp only [cond]
  refine fe_s 2 (pc' := 65) (lc' := [(4, .int 0), (3, .int (nI (3846 + (6 * N)))), (2, .int (nI N)), (1, .int 20), (0, .ref 0)]) (stk' := [.int 17, .int 20]) (mem' := fm g tp bt a b) (by intro _ _ _; eq_refl) ?_
  refine fe_s 1 (pc' := cond (fx_cb .eq 20 17) 81 68) (lc' := [(4, .int 0), (3, .int (nI (3846 + (6 * N)))), (2, .int (nI N)), (1, .int 20), (0, .ref 0)]) (stk' := []) (mem' := fm g tp bt a b) (by intro _ _ _; eq_refl) ?_
  rw [show (fx_cb .eq 20 17) = false from by decide]
  dsimp only [cond]
  refine fe_s 2 (pc' := 71) (lc' := [(4, .int 0), (3, .int (nI (3846 + (6 * N)))), (2, .int (nI N)), (1, .int 20), (0, .ref 0)]) (stk' := [.int 20, .int 20]) (mem' := fm g tp bt a b) (by intro _ _ _; eq_refl) ?_
  refine fe_s 1 (pc' := cond (fx_cb .ne 20 20) 87 74) (lc' := [(4, .int 0), (3, .int (nI (3846 + (6 * N)))), (2, .int (nI N)), (1, .int 20), (0, .ref 0)]) (stk' := []) (mem' := fm g tp bt a b) (by intro _ _ _; eq_refl) ?_
  rw [show (fx_cb .ne 20 20) = false from by decide]
  dsimp only [cond]
  refine fe_s 2 (pc' := 78) (lc' := [(4, .int 0), (3, .int (nI (3846 + (6 * N)))), (2, .int (nI N)), (1, .int 20), (0, .ref 0)]) (stk' := [.int (g 22)]) (mem' := fm g tp bt a b) (by intro _ _ _; eq_refl) ?_
  try rw [h22]
  refine fe_s 1 (pc' := cond (fx_cb .ne 0 0) 87 81) (lc' := [(4, .int 0), (3, .int (nI (3846 + (6 * N)))), (2, .int (nI N)), (1, .int 20), (0, .ref 0)]) (stk' := []) (mem' := fm g tp bt a b) (by intro _ _ _; eq_refl) ?_
  rw [show (fx_cb .ne 0 0) = false from by decide]
  dsimp only [cond]
  refine fe_s 2 (pc' := 83) (lc' := [(4, .int 0), (3, .int (nI (3846 + (6 * N)))), (2, .int (nI N)), (1, .int 20), (0, .ref 0)]) (stk' := [.int 2, .ref 0]) (mem' := fm g tp bt a b) (by intro _ _ _; eq_refl) ?_
  obtain ⟨gc2, hrc2, txc2, hmc2⟩ := mr_fails2 (tp := tp) (bt := bt) (a := a) (b := b) h
  refine fe_ivV hrc2 (by omega) (by rfl) (by rfl) (by rfl) (by rfl) (by rfl) (by rfl) ?_
  have fc2_22 : gc2 22 = 0 := (txc2 22 (by decide) (by decide) (by decide) (by decide) (by decide) (by decide)).trans h22
  have hXc2 := txt_tr txt_rf (txt_8 txc2)
  exact fe_ret ⟨0, _, _, ⟨hXc2, rfl, rfl, hmc2⟩, rfl⟩ (by rfl) (by rfl) (by rfl)
set_option maxRecDepth 8000 in
theorem mt_stN {y : Int32} (hS : mTS T n A N a0 a b) (h : mo g T n p) (hmw : sp_mw T n p = y) (y18 : ¬ y = 18) (y19 : ¬ y = 19) (yl : fx_cb .lt y 11 = true) : ∃ (v : Int32) (g' : Nat → Int32) (a' : Nat → Nat → Int32), fr_T 10 251 [.ref 0] (fm g tp bt a b) (some (.int v)) (fm g' tp bt a' b) ∧ fm_txs g g' ∧ v = 0 ∧ a' = a ∧ mf g' (sp_m T n p) (sp_s T n p) := by
  suffices h : ∃ (v : Option Value) (mem' : fx_M), (fun R => ∃ (v : Int32) (g' : Nat → Int32) (a' : Nat → Nat → Int32), (fm_txs g g' ∧ v = 0 ∧ a' = a ∧ mf g' (sp_m T n p) (sp_s T n p)) ∧ R = (some (.int v), fm g' tp bt a' b)) (v, mem') ∧ fr_T 10 251 [.ref 0] (fm g tp bt a b) v mem' by
    obtain ⟨v, mem', ⟨w, g', a', h1, hR⟩, h2⟩ := h
    cases hR
    exact ⟨w, g', a', h2, h1⟩
  refine fe_meth (f := 251) (as := [.ref 0]) (F := fun R => ∃ (v : Int32) (g' : Nat → Int32) (a' : Nat → Nat → Int32), (fm_txs g g' ∧ v = 0 ∧ a' = a ∧ mf g' (sp_m T n p) (sp_s T n p)) ∧ R = (some (.int v), fm g' tp bt a' b)) (M := gk_m251) (by rfl) (by rfl) ?_
  refine fe_s 2 (pc' := 3) (lc' := [(0, .ref 0)]) (stk' := [.ref 22, .ref 0]) (mem' := fm g tp bt a b) (by intro _ _ _; eq_refl) ?_
  refine fe_ivV (mr_inWords (tp := tp) (bt := bt) (b := b) hS.1 h.1 h.2.1) (by omega) (by rfl) (by rfl) (by rfl) (by rfl) (by rfl) (by rfl) ?_
  rw [hmw]
  refine fe_s 4 (pc' := 14) (lc' := [(1, .int y), (0, .ref 0)]) (stk' := [.int 3374, .ref 1]) (mem' := fm g tp bt a b) (by intro _ _ _; eq_refl) ?_
  refine fe_ldI (by rfl) (by rfl) (fx_inN (i := 3374) (by omega) (by omega)) ?_
  rw [show Int32.toNatClampNeg (3374) = 3374 from rfl]
  rw [show a 1 3374 = nI (N) from hS.2.2.2.1]
  refine fe_s 9 (pc' := 28) (lc' := [(3, .int (3846 + (6 * (nI N)))), (2, .int (nI N)), (1, .int y), (0, .ref 0)]) (stk' := [.int 18, .int y]) (mem' := fm g tp bt a b) (by intro _ _ _; eq_refl) ?_
  rw [show (3846 + (6 * (nI N)) : Int32) = nI (3846 + (6 * N)) from by simp only [show (3846 : Int32) = nI 3846 from rfl, show (6 : Int32) = nI 6 from rfl, nI_add, fm_mul]]
  refine fe_s 1 (pc' := cond (fx_cb .eq y 18) 37 31) (lc' := [(3, .int (nI (3846 + (6 * N)))), (2, .int (nI N)), (1, .int y), (0, .ref 0)]) (stk' := []) (mem' := fm g tp bt a b) (by intro _ _ _; eq_refl) ?_
  rw [show (fx_cb .eq y 18) = false from decide_eq_false y18]
  dsimp only [cond]
  refine fe_s 2 (pc' := 34) (lc' := [(3, .int (nI (3846 + (6 * N)))), (2, .int (nI N)), (1, .int y), (0, .ref 0)]) (stk' := [.int 19, .int y]) (mem' := fm g tp bt a b) (by intro _ _ _; eq_refl) ?_
  refine fe_s 1 (pc' := cond (fx_cb .ne y 19) 41 37) (lc' := [(3, .int (nI (3846 + (6 * N)))), (2, .int (nI N)), (1, .int y), (0, .ref 0)]) (stk' := []) (mem' := fm g tp bt a b) (by intro _ _ _; eq_refl) ?_
  rw [show (fx_cb .ne y 19) = true from cb_nv_ne y19]
  dsimp only [cond]
  refine fe_s 4 (pc' := 47) (lc' := [(4, .int 0), (3, .int (nI (3846 + (6 * N)))), (2, .int (nI N)), (1, .int y), (0, .ref 0)]) (stk' := [.int 11, .int y]) (mem' := fm g tp bt a b) (by intro _ _ _; eq_refl) ?_
  refine fe_s 1 (pc' := cond (fx_cb .lt y 11) 81 50) (lc' := [(4, .int 0), (3, .int (nI (3846 + (6 * N)))), (2, .int (nI N)), (1, .int y), (0, .ref 0)]) (stk' := []) (mem' := fm g tp bt a b) (by intro _ _ _; eq_refl) ?_
  rw [show (fx_cb .lt y 11) = true from yl]
  dsimp only [cond]
  refine fe_s 2 (pc' := 83) (lc' := [(4, .int 0), (3, .int (nI (3846 + (6 * N)))), (2, .int (nI N)), (1, .int y), (0, .ref 0)]) (stk' := [.int 2, .ref 0]) (mem' := fm g tp bt a b) (by intro _ _ _; eq_refl) ?_
  obtain ⟨gc2, hrc2, txc2, hmc2⟩ := mr_fails2 (tp := tp) (bt := bt) (a := a) (b := b) h
  refine fe_ivV hrc2 (by omega) (by rfl) (by rfl) (by rfl) (by rfl) (by rfl) (by rfl) ?_
  have hXc2 := txt_tr txt_rf (txt_8 txc2)
  exact fe_ret ⟨0, _, _, ⟨hXc2, rfl, rfl, hmc2⟩, rfl⟩ (by rfl) (by rfl) (by rfl)
end MTS
