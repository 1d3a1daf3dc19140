/-! ===== the model reads the text of TALES ===== -/
/-- the names of the LAKE's cells and walkers -/
def mn_L (A : sp_A) (a : Nat → Nat → Int32) (b : Nat → Nat → Int64) : Prop := (a 1 0 = nI A.1.1.length ∧ A.1.1.length ≤ 10 ∧ a 1 1 = nI A.1.2.length ∧ A.1.2.length ≤ 8) ∧ (sp_nM (fun i => b 2 (0 + i)) (A.1.1.map Prod.fst) ∧ sp_nM (fun i => b 2 (10 + i)) (A.1.2.map Prod.fst)) ∧ True
def mop (a : Nat → Nat → Int32) : Prop := ∀ i, i < 3 → 0 ≤ (a 8 i).toInt ∧ (a 8 i).toInt ≤ 59
/-- only the draft of at[], and what is open -/
def mta (a a' : Nat → Nat → Int32) : Prop := (∀ t, t ≠ 1 → t ≠ 8 → a' t = a t) ∧ ∀ i, ¬ (3368 ≤ i ∧ i < 4210) → a' 1 i = a 1 i
def fm_txs (g g' : Nat → Int32) : Prop := ∀ j, j ≠ 12 → j ≠ 13 → j ≠ 14 → j ≠ 15 → j ≠ 17 → j ≠ 18 → j ≠ 22 → j ≠ 23 → g' j = g j
def mTS (T : Nat → Nat) (n : Nat) (A : sp_A) (N : Nat) (a0 a : Nat → Nat → Int32) (b : Nat → Nat → Int64) : Prop := mT a T n ∧ mn_L A a b ∧ mop a ∧ a 1 3374 = nI N ∧ mta a0 a
/-- a reading by f went on (1), or failed (0) -/
def mOut (f : (Nat → sp_R) → sp_R) (v : Int32) (g : Nat → Int32) (T : Nat → Nat) (n : Nat) : Prop := (v = 1 ∧ ∃ q, mo g T n q ∧ ∀ c, f c = c q) ∨ (v = 0 ∧ ∃ z : Int32 × Nat, mf g z.1 z.2 ∧ ∀ c, f c = .inl z)
section MTF
variable {g : Nat → Int32} {T : Nat → Nat} {n p N : Nat} {A : sp_A} {a0 a : Nat → Nat → Int32} {b : Nat → Nat → Int64}
theorem txt_rf : fm_txs g g := fun _ _ _ _ _ _ _ _ _ => rfl
theorem txt_tr {g1 g2 : Nat → Int32} (h : fm_txs g g1) (h2 : fm_txs g1 g2) : fm_txs g g2 := fun j p1 p2 p3 p4 p5 p6 p7 p8 => (h2 j p1 p2 p3 p4 p5 p6 p7 p8).trans (h j p1 p2 p3 p4 p5 p6 p7 p8)
theorem txt_8 {g1 : Nat → Int32} (h : fm_tx8 g g1) : fm_txs g g1 := fun j p1 p2 p3 p4 p5 p6 _ _ => h j p1 p2 p3 p4 p5 p6
theorem txt_u {k : Nat} {x : Int32} (hk : k = 22 ∨ k = 23) : fm_txs g (upd g k x) := fun j _ _ _ _ _ _ p7 p8 => pk_un (by omega)
theorem mo_uk {k : Nat} {x : Int32} (h : mo g T n p) (hk : k = 22 ∨ k = 23) : mo (upd g k x) T n p := by
  obtain ⟨h0, ⟨h11, h13, ⟨e, h14, q⟩, h12, h15, h16, h17, h18⟩, k1, k2⟩ := h
  have e15 : (upd g k x) 15 = g 15 := pk_un (by omega)
  exact ⟨h0, ⟨(pk_un (by omega)).trans h11, (pk_un (by omega)).trans h13, ⟨e, (pk_un (by omega)).trans h14, q⟩, (pk_un (by omega)).trans h12, fun z => e15.trans (h15 z), fun z => e15.trans (h16 z), by rw [e15]; exact h17, by rw [e15]; exact h18⟩, (pk_un (by omega)).trans k1, (pk_un (by omega)).trans k2⟩
theorem mta_rf : mta a a := ⟨fun _ _ _ => rfl, fun _ _ => rfl⟩
theorem fm_w1 {t i j : Nat} {x : Int32} (ht : t ≠ 1) : (fm_u a t i x) 1 j = a 1 j := by rw [show (fm_u a t i x) 1 = a 1 from if_neg (fun z => ht z.symm)]
theorem mTS_1 {i : Nat} {x : Int32} (h : mTS T n A N a0 a b) (hi : 3368 ≤ i ∧ i < 4210) (hN : i ≠ 3374) : mTS T n A N a0 (fm_u a 1 i x) b := by
  obtain ⟨h1, ⟨⟨k1, k2, k3, k4⟩, k5⟩, h3, h4, h5⟩ := h
  exact ⟨mT_u (by decide) h1, ⟨⟨(fm_v1 (by omega)).trans k1, k2, (fm_v1 (by omega)).trans k3, k4⟩, k5⟩, fun j hj => by rw [show (fm_u a 1 i x) 8 = a 8 from if_neg (by decide)]; exact h3 j hj, (fm_v1 (fun z => hN z.symm)).trans h4, fun t p1 p2 => (show (fm_u a 1 i x) t = a t from if_neg p1).trans (h5.1 t p1 p2), fun j hj => (fm_v1 (by omega)).trans (h5.2 j hj)⟩
theorem mTS_u {i : Nat} {x : Int32} (h : mTS T n A N a0 a b) (hi : 3375 ≤ i ∧ i < 4210) : mTS T n A N a0 (fm_u a 1 i x) b := mTS_1 h (by omega) (by omega)
theorem mTS_N {M : Nat} (h : mTS T n A N a0 a b) : mTS T n A M a0 (fm_u a 1 3374 (nI M)) b := by
  obtain ⟨h1, ⟨⟨k1, k2, k3, k4⟩, k5⟩, h3, h4, h5⟩ := h
  exact ⟨mT_u (by decide) h1, ⟨⟨(fm_v1 (by decide)).trans k1, k2, (fm_v1 (by decide)).trans k3, k4⟩, k5⟩, fun j hj => by rw [show (fm_u a 1 3374 (nI M)) 8 = a 8 from if_neg (by decide)]; exact h3 j hj, fm_v1s, fun t p1 p2 => (show (fm_u a 1 3374 (nI M)) t = a t from if_neg p1).trans (h5.1 t p1 p2), fun j hj => (fm_v1 (by omega)).trans (h5.2 j hj)⟩
theorem mTS_8 {i k : Nat} (h : mTS T n A N a0 a b) (hk : k ≤ 59) : mTS T n A N a0 (fm_u a 8 i (nI k)) b := by
  obtain ⟨h1, ⟨⟨k1, k2, k3, k4⟩, k5⟩, h3, h4, h5⟩ := h
  refine ⟨mT_u (by decide) h1, ⟨⟨(fm_w1 (by decide)).trans k1, k2, (fm_w1 (by decide)).trans k3, k4⟩, k5⟩, fun j hj => ?_, (fm_w1 (by decide)).trans h4, fun t p1 p2 => (show (fm_u a 8 i (nI k)) t = a t from if_neg p2).trans (h5.1 t p1 p2), fun j hj => (fm_w1 (by decide)).trans (h5.2 j hj)⟩
  show 0 ≤ ((fm_u a 8 i (nI k)) 8 j).toInt ∧ ((fm_u a 8 i (nI k)) 8 j).toInt ≤ 59
  unfold fm_u
  rw [if_pos rfl]
  by_cases e : j = i
  · rw [e, pk_us, nI_i32 (by omega)]; omega
  · rw [pk_un e]; exact h3 j hj
end MTF
section MTL
variable {g : Nat → Int32} {tp bt : Int64} {a0 a : Nat → Nat → Int32} {b : Nat → Nat → Int64} {T : Nat → Nat} {n p : Nat} {A : sp_A} {c d N r : Nat}
theorem mr_oldC {t : Nat} (hT : mT a T n) (hA : mn_L A a b) (h : mo g T n p) (ht : t < 5894) : ∃ (v : Int32) (g' : Nat → Int32) (a' : Nat → Nat → Int32) (b' : Nat → Nat → Int64), fr_T 6 238 [.ref 0, .int 0, .int (nI (A.1.1.length)), .int (nI t)] (fm g tp bt a b) (some (.int v)) (fm g' tp bt a' b') ∧ fm_tx8 g g' ∧ b' = b ∧ ((sp_nm T n p ∧ (sp_iC A.1.1 (sp_wd T n p)) < A.1.1.length ∧ v = 1 ∧ a' = fm_u a 1 t (nI (sp_iC A.1.1 (sp_wd T n p))) ∧ mo g' T n (sp_n T n p)) ∨ (sp_nm T n p ∧ ¬ (sp_iC A.1.1 (sp_wd T n p)) < A.1.1.length ∧ v = 0 ∧ a' = fm_u a 1 t (-1) ∧ mf g' 3 (sp_s T n p)) ∨ (¬ sp_nm T n p ∧ v = 0 ∧ a' = a ∧ mf g' (sp_m T n p) (sp_s T n p))) := by
  suffices h : ∃ (v : Option Value) (mem' : fx_M), (fun R => ∃ (v : Int32) (g' : Nat → Int32) (a' : Nat → Nat → Int32) (b' : Nat → Nat → Int64), (fm_tx8 g g' ∧ b' = b ∧ ((sp_nm T n p ∧ (sp_iC A.1.1 (sp_wd T n p)) < A.1.1.length ∧ v = 1 ∧ a' = fm_u a 1 t (nI (sp_iC A.1.1 (sp_wd T n p))) ∧ mo g' T n (sp_n T n p)) ∨ (sp_nm T n p ∧ ¬ (sp_iC A.1.1 (sp_wd T n p)) < A.1.1.length ∧ v = 0 ∧ a' = fm_u a 1 t (-1) ∧ mf g' 3 (sp_s T n p)) ∨ (¬ sp_nm T n p ∧ v = 0 ∧ a' = a ∧ mf g' (sp_m T n p) (sp_s T n p)))) ∧ R = (some (.int v), fm g' tp bt a' b')) (v, mem') ∧ fr_T 6 238 [.ref 0, .int 0, .int (nI (A.1.1.length)), .int (nI t)] (fm g tp bt a b) v mem' by
    obtain ⟨v, mem', ⟨w, g', a', b', h1, hR⟩, h2⟩ := h
    cases hR
    exact ⟨w, g', a', b', h2, h1⟩
  refine fe_meth (f := 238) (as := [.ref 0, .int 0, .int (nI (A.1.1.length)), .int (nI t)]) (F := fun R => ∃ (v : Int32) (g' : Nat → Int32) (a' : Nat → Nat → Int32) (b' : Nat → Nat → Int64), (fm_tx8 g g' ∧ b' = b ∧ ((sp_nm T n p ∧ (sp_iC A.1.1 (sp_wd T n p)) < A.1.1.length ∧ v = 1 ∧ a' = fm_u a 1 t (nI (sp_iC A.1.1 (sp_wd T n p))) ∧ mo g' T n (sp_n T n p)) ∨ (sp_nm T n p ∧ ¬ (sp_iC A.1.1 (sp_wd T n p)) < A.1.1.length ∧ v = 0 ∧ a' = fm_u a 1 t (-1) ∧ mf g' 3 (sp_s T n p)) ∨ (¬ sp_nm T n p ∧ v = 0 ∧ a' = a ∧ mf g' (sp_m T n p) (sp_s T n p)))) ∧ R = (some (.int v), fm g' tp bt a' b')) (M := gk_m238) (by rfl) (by rfl) ?_
  have hq0 := hA.1.2.1
  have hq1 := hA.1.2.2.2
  refine fe_s 2 (pc' := 3) (lc' := [(0, .ref 0), (1, .int 0), (2, .int (nI (A.1.1.length))), (3, .int (nI t))]) (stk' := [.ref 22, .ref 0]) (mem' := fm g tp bt a b) (by intro _ _ _; eq_refl) ?_
  obtain ⟨xc1, hrc1, hxc1⟩ := mr_isName (tp := tp) (bt := bt) (b := b) hT h
  refine fe_ivV hrc1 (by omega) (by rfl) (by rfl) (by rfl) (by rfl) (by rfl) (by rfl) ?_
  rcases hxc1 with ⟨nmc1, rfl⟩ | ⟨nmc1, rfl⟩
  · have nkc1 := nmc1.1
    have nlc1 := sp_nm_lt h.1 nmc1
    refine fe_s 1 (pc' := cond (fx_cb .ne 1 0) 15 9) (lc' := [(0, .ref 0), (1, .int 0), (2, .int (nI (A.1.1.length))), (3, .int (nI t))]) (stk' := []) (mem' := fm g tp bt a b) (by intro _ _ _; eq_refl) ?_
    rw [show (fx_cb .ne 1 0) = true from by decide]
    dsimp only [cond]
    refine fe_s 6 (pc' := 23) (lc' := [(0, .ref 0), (1, .int 0), (2, .int (nI (A.1.1.length))), (3, .int (nI t))]) (stk' := [.int (nI (A.1.1.length)), .int 0, .ref 0, .int (nI t), .ref 1]) (mem' := fm g tp bt a b) (by intro _ _ _; eq_refl) ?_
    obtain ⟨wc2, hrc2, hic2⟩ := mr_findHere (tp := tp) (bt := bt) (b := b) (base := 0) (many := (A.1.1.length)) hT h nmc1 (by omega)
    refine fe_ivV hrc2 (by omega) (by rfl) (by rfl) (by rfl) (by rfl) (by rfl) (by rfl) ?_
    have hzc2 := sp_fxM hA.2.1.1 nlc1.1 nlc1.2 (by rw [List.length_map]; exact hic2)
    rw [List.length_map, sp_iC_map] at hzc2
    rcases hzc2 with ⟨hzc2, rfl⟩ | ⟨hzc2, rfl⟩
    · refine fe_stI (mem' := fm g tp bt (fm_u a 1 (nI t : Int32).toNatClampNeg (-1)) b) (by rfl) (by rfl) (fx_inN (i := t) (by omega) (by omega)) fm_si1 ?_
      rw [show Int32.toNatClampNeg (nI t) = t from nI_clamp (by omega)]
      have hT2 := mT_u (t := 1) (i := t) (x := (-1)) (by decide) hT
      refine fe_s 3 (pc' := 32) (lc' := [(0, .ref 0), (1, .int 0), (2, .int (nI (A.1.1.length))), (3, .int (nI t))]) (stk' := [.int (nI t), .ref 1]) (mem' := fm g tp bt (fm_u a 1 t (-1)) b) (by intro _ _ _; eq_refl) ?_
      refine fe_ldI (by rfl) (by rfl) (fx_inN (i := t) (by omega) (by omega)) ?_
      rw [show Int32.toNatClampNeg (nI t) = t from nI_clamp (by omega)]
      rw [show (fm_u a 1 t (-1)) 1 t = (-1) from fm_v1s]
      refine fe_s 1 (pc' := 34) (lc' := [(0, .ref 0), (1, .int 0), (2, .int (nI (A.1.1.length))), (3, .int (nI t))]) (stk' := [.int (-1), .int (-1)]) (mem' := fm g tp bt (fm_u a 1 t (-1)) b) (by intro _ _ _; eq_refl) ?_
      refine fe_s 1 (pc' := cond (fx_cb .ne (-1) (-1)) 43 37) (lc' := [(0, .ref 0), (1, .int 0), (2, .int (nI (A.1.1.length))), (3, .int (nI t))]) (stk' := []) (mem' := fm g tp bt (fm_u a 1 t (-1)) b) (by intro _ _ _; eq_refl) ?_
      rw [show (fx_cb .ne (-1) (-1)) = false from by decide]
      dsimp only [cond]
      refine fe_s 2 (pc' := 39) (lc' := [(0, .ref 0), (1, .int 0), (2, .int (nI (A.1.1.length))), (3, .int (nI t))]) (stk' := [.int 3, .ref 0]) (mem' := fm g tp bt (fm_u a 1 t (-1)) b) (by intro _ _ _; eq_refl) ?_
      obtain ⟨gc4, hrc4, txc4, hmc4⟩ := mr_failsx (tp := tp) (bt := bt) (a := (fm_u a 1 t (-1))) (b := b) (x := 3) h (by decide) (by omega)
      refine fe_ivV hrc4 (by omega) (by rfl) (by rfl) (by rfl) (by rfl) (by rfl) (by rfl) ?_
      exact fe_ret ⟨_, _, _, _, ⟨(fm_tx8_tr fm_tx8_rf txc4), rfl, Or.inr (Or.inl ⟨nmc1, by omega, rfl, rfl, hmc4⟩)⟩, rfl⟩ (by rfl) (by rfl) (by rfl)
    · refine fe_stI (mem' := fm g tp bt (fm_u a 1 (nI t : Int32).toNatClampNeg (nI (sp_iC A.1.1 (sp_wd T n p)))) b) (by rfl) (by rfl) (fx_inN (i := t) (by omega) (by omega)) fm_si1 ?_
      rw [show Int32.toNatClampNeg (nI t) = t from nI_clamp (by omega)]
      have hT4 := mT_u (t := 1) (i := t) (x := nI (sp_iC A.1.1 (sp_wd T n p))) (by decide) hT
      refine fe_s 3 (pc' := 32) (lc' := [(0, .ref 0), (1, .int 0), (2, .int (nI (A.1.1.length))), (3, .int (nI t))]) (stk' := [.int (nI t), .ref 1]) (mem' := fm g tp bt (fm_u a 1 t (nI (sp_iC A.1.1 (sp_wd T n p)))) b) (by intro _ _ _; eq_refl) ?_
      refine fe_ldI (by rfl) (by rfl) (fx_inN (i := t) (by omega) (by omega)) ?_
      rw [show Int32.toNatClampNeg (nI t) = t from nI_clamp (by omega)]
      rw [show (fm_u a 1 t (nI (sp_iC A.1.1 (sp_wd T n p)))) 1 t = nI (sp_iC A.1.1 (sp_wd T n p)) from fm_v1s]
      refine fe_s 1 (pc' := 34) (lc' := [(0, .ref 0), (1, .int 0), (2, .int (nI (A.1.1.length))), (3, .int (nI t))]) (stk' := [.int (-1), .int (nI (sp_iC A.1.1 (sp_wd T n p)))]) (mem' := fm g tp bt (fm_u a 1 t (nI (sp_iC A.1.1 (sp_wd T n p)))) b) (by intro _ _ _; eq_refl) ?_
      refine fe_s 1 (pc' := cond (fx_cb .ne (nI (sp_iC A.1.1 (sp_wd T n p))) (-1)) 43 37) (lc' := [(0, .ref 0), (1, .int 0), (2, .int (nI (A.1.1.length))), (3, .int (nI t))]) (stk' := []) (mem' := fm g tp bt (fm_u a 1 t (nI (sp_iC A.1.1 (sp_wd T n p)))) b) (by intro _ _ _; eq_refl) ?_
      rw [show (fx_cb .ne (nI (sp_iC A.1.1 (sp_wd T n p))) (-1)) = true from cb_n_ne (by omega) (by decide)]
      dsimp only [cond]
      refine fe_s 1 (pc' := 44) (lc' := [(0, .ref 0), (1, .int 0), (2, .int (nI (A.1.1.length))), (3, .int (nI t))]) (stk' := [.ref 0]) (mem' := fm g tp bt (fm_u a 1 t (nI (sp_iC A.1.1 (sp_wd T n p)))) b) (by intro _ _ _; eq_refl) ?_
      obtain ⟨gc6, hrc6, txc6, hmc6⟩ := mr_aheado (tp := tp) (bt := bt) (b := b) hT4 h (by omega)
      refine fe_ivV hrc6 (by omega) (by rfl) (by rfl) (by rfl) (by rfl) (by rfl) (by rfl) ?_
      refine fe_s 1 (pc' := 48) (lc' := [(0, .ref 0), (1, .int 0), (2, .int (nI (A.1.1.length))), (3, .int (nI t))]) (stk' := [.int 1]) (mem' := fm gc6 tp bt (fm_u a 1 t (nI (sp_iC A.1.1 (sp_wd T n p)))) b) (by intro _ _ _; eq_refl) ?_
      exact fe_ret ⟨_, _, _, _, ⟨(fm_tx8_tr fm_tx8_rf txc6), rfl, Or.inl ⟨nmc1, by omega, rfl, rfl, hmc6⟩⟩, rfl⟩ (by rfl) (by rfl) (by rfl)
  · refine fe_s 1 (pc' := cond (fx_cb .ne 0 0) 15 9) (lc' := [(0, .ref 0), (1, .int 0), (2, .int (nI (A.1.1.length))), (3, .int (nI t))]) (stk' := []) (mem' := fm g tp bt a b) (by intro _ _ _; eq_refl) ?_
    rw [show (fx_cb .ne 0 0) = false from by decide]
    dsimp only [cond]
    refine fe_s 2 (pc' := 11) (lc' := [(0, .ref 0), (1, .int 0), (2, .int (nI (A.1.1.length))), (3, .int (nI t))]) (stk' := [.int 2, .ref 0]) (mem' := fm g tp bt a b) (by intro _ _ _; eq_refl) ?_
    obtain ⟨gc7, hrc7, txc7, hmc7⟩ := mr_fails2 (tp := tp) (bt := bt) (a := a) (b := b) h
    refine fe_ivV hrc7 (by omega) (by rfl) (by rfl) (by rfl) (by rfl) (by rfl) (by rfl) ?_
    exact fe_ret ⟨_, _, _, _, ⟨(fm_tx8_tr fm_tx8_rf txc7), rfl, Or.inr (Or.inr ⟨nmc1, rfl, rfl, hmc7⟩)⟩, rfl⟩ (by rfl) (by rfl) (by rfl)
theorem mr_toC {t : Nat} (hS : mTS T n A N a0 a b) (h : mo g T n p) (ht : 3375 ≤ t ∧ t < 4210) : ∃ (v : Int32) (g' : Nat → Int32) (a' : Nat → Nat → Int32), fr_T 7 247 [.ref 0, .int (nI t)] (fm g tp bt a b) (some (.int v)) (fm g' tp bt a' b) ∧ fm_tx8 g g' ∧ mTS T n A N a0 a' b ∧ ((sp_nm T n p ∧ (sp_iC A.1.1 (sp_wd T n p)) < A.1.1.length ∧ v = 1 ∧ mo g' T n (sp_n T n p)) ∨ (sp_nm T n p ∧ ¬ (sp_iC A.1.1 (sp_wd T n p)) < A.1.1.length ∧ v = 0 ∧ mf g' 3 (sp_s T n p)) ∨ (¬ sp_nm T n p ∧ v = 0 ∧ mf g' (sp_m T n p) (sp_s T n p))) := by
  obtain ⟨v, g', a', b', hr, tx, rfl, hx⟩ := mr_oldC (tp := tp) (bt := bt) (t := t) hS.1 hS.2.1 h (by omega)
  have hv : v = 0 ∨ v = 1 := by
    rcases hx with ⟨-, -, k, -⟩ | ⟨-, -, k, -⟩ | ⟨-, k, -⟩
    · exact Or.inr k
    · exact Or.inl k
    · exact Or.inl k
  have hr2 : fr_T 7 247 [.ref 0, .int (nI t)] (fm g tp bt a b') (some (.int v)) (fm g' tp bt a' b') := by
    refine fr_meth (by rfl) (by rfl) ?_
    refine fr_s 5 (pc' := 7) (lc' := [(0, .ref 0), (1, .int (nI t))]) (stk' := [.int 0, .ref 1, .int 0, .ref 0]) (mem' := fm g tp bt a b') (by intro _ _ _; eq_refl) ?_
    refine fr_ldI (by rfl) (by rfl) (fx_inN (i := 0) (by omega) (by omega)) ?_
    rw [show Int32.toNatClampNeg 0 = 0 from rfl, show a 1 0 = _ from hS.2.1.1.1]
    refine fr_s 1 (pc' := 9) (lc' := [(0, .ref 0), (1, .int (nI t))]) (stk' := [.int (nI t), .int (nI A.1.1.length), .int 0, .ref 0]) (mem' := fm g tp bt a b') (by intro _ _ _; eq_refl) ?_
    refine fr_ivV hr (by omega) (by rfl) (by rfl) (by rfl) (by rfl) (by rfl) (by rfl) ?_
    rcases hv with rfl | rfl
    · exact fr_ret (by rfl) (by rfl) (by rfl)
    · exact fr_ret (by rfl) (by rfl) (by rfl)
  rcases hx with ⟨k1, k2, k3, rfl, k4⟩ | ⟨k1, k2, k3, rfl, k4⟩ | ⟨k1, k3, rfl, k4⟩
  · exact ⟨v, g', _, hr2, tx, mTS_u hS ht, Or.inl ⟨k1, k2, k3, k4⟩⟩
  · exact ⟨v, g', _, hr2, tx, mTS_u hS ht, Or.inr (Or.inl ⟨k1, k2, k3, k4⟩)⟩
  · exact ⟨v, g', _, hr2, tx, hS, Or.inr (Or.inr ⟨k1, k3, k4⟩)⟩
theorem mr_oldW {t : Nat} (hT : mT a T n) (hA : mn_L A a b) (h : mo g T n p) (ht : t < 5894) : ∃ (v : Int32) (g' : Nat → Int32) (a' : Nat → Nat → Int32) (b' : Nat → Nat → Int64), fr_T 6 238 [.ref 0, .int 10, .int (nI (A.1.2.length)), .int (nI t)] (fm g tp bt a b) (some (.int v)) (fm g' tp bt a' b') ∧ fm_tx8 g g' ∧ b' = b ∧ ((sp_nm T n p ∧ (sp_iW A.1.2 (sp_wd T n p)) < A.1.2.length ∧ v = 1 ∧ a' = fm_u a 1 t (nI (sp_iW A.1.2 (sp_wd T n p))) ∧ mo g' T n (sp_n T n p)) ∨ (sp_nm T n p ∧ ¬ (sp_iW A.1.2 (sp_wd T n p)) < A.1.2.length ∧ v = 0 ∧ a' = fm_u a 1 t (-1) ∧ mf g' 3 (sp_s T n p)) ∨ (¬ sp_nm T n p ∧ v = 0 ∧ a' = a ∧ mf g' (sp_m T n p) (sp_s T n p))) := by
  suffices h : ∃ (v : Option Value) (mem' : fx_M), (fun R => ∃ (v : Int32) (g' : Nat → Int32) (a' : Nat → Nat → Int32) (b' : Nat → Nat → Int64), (fm_tx8 g g' ∧ b' = b ∧ ((sp_nm T n p ∧ (sp_iW A.1.2 (sp_wd T n p)) < A.1.2.length ∧ v = 1 ∧ a' = fm_u a 1 t (nI (sp_iW A.1.2 (sp_wd T n p))) ∧ mo g' T n (sp_n T n p)) ∨ (sp_nm T n p ∧ ¬ (sp_iW A.1.2 (sp_wd T n p)) < A.1.2.length ∧ v = 0 ∧ a' = fm_u a 1 t (-1) ∧ mf g' 3 (sp_s T n p)) ∨ (¬ sp_nm T n p ∧ v = 0 ∧ a' = a ∧ mf g' (sp_m T n p) (sp_s T n p)))) ∧ R = (some (.int v), fm g' tp bt a' b')) (v, mem') ∧ fr_T 6 238 [.ref 0, .int 10, .int (nI (A.1.2.length)), .int (nI t)] (fm g tp bt a b) v mem' by
    obtain ⟨v, mem', ⟨w, g', a', b', h1, hR⟩, h2⟩ := h
    cases hR
    exact ⟨w, g', a', b', h2, h1⟩
  refine fe_meth (f := 238) (as := [.ref 0, .int 10, .int (nI (A.1.2.length)), .int (nI t)]) (F := fun R => ∃ (v : Int32) (g' : Nat → Int32) (a' : Nat → Nat → Int32) (b' : Nat → Nat → Int64), (fm_tx8 g g' ∧ b' = b ∧ ((sp_nm T n p ∧ (sp_iW A.1.2 (sp_wd T n p)) < A.1.2.length ∧ v = 1 ∧ a' = fm_u a 1 t (nI (sp_iW A.1.2 (sp_wd T n p))) ∧ mo g' T n (sp_n T n p)) ∨ (sp_nm T n p ∧ ¬ (sp_iW A.1.2 (sp_wd T n p)) < A.1.2.length ∧ v = 0 ∧ a' = fm_u a 1 t (-1) ∧ mf g' 3 (sp_s T n p)) ∨ (¬ sp_nm T n p ∧ v = 0 ∧ a' = a ∧ mf g' (sp_m T n p) (sp_s T n p)))) ∧ R = (some (.int v), fm g' tp bt a' b')) (M := gk_m238) (by rfl) (by rfl) ?_
  have hq0 := hA.1.2.1
  have hq1 := hA.1.2.2.2
  refine fe_s 2 (pc' := 3) (lc' := [(0, .ref 0), (1, .int 10), (2, .int (nI (A.1.2.length))), (3, .int (nI t))]) (stk' := [.ref 22, .ref 0]) (mem' := fm g tp bt a b) (by intro _ _ _; eq_refl) ?_
  obtain ⟨xc1, hrc1, hxc1⟩ := mr_isName (tp := tp) (bt := bt) (b := b) hT h
  refine fe_ivV hrc1 (by omega) (by rfl) (by rfl) (by rfl) (by rfl) (by rfl) (by rfl) ?_
  rcases hxc1 with ⟨nmc1, rfl⟩ | ⟨nmc1, rfl⟩
  · have nkc1 := nmc1.1
    have nlc1 := sp_nm_lt h.1 nmc1
    refine fe_s 1 (pc' := cond (fx_cb .ne 1 0) 15 9) (lc' := [(0, .ref 0), (1, .int 10), (2, .int (nI (A.1.2.length))), (3, .int (nI t))]) (stk' := []) (mem' := fm g tp bt a b) (by intro _ _ _; eq_refl) ?_
    rw [show (fx_cb .ne 1 0) = true from by decide]
    dsimp only [cond]
    refine fe_s 6 (pc' := 23) (lc' := [(0, .ref 0), (1, .int 10), (2, .int (nI (A.1.2.length))), (3, .int (nI t))]) (stk' := [.int (nI (A.1.2.length)), .int 10, .ref 0, .int (nI t), .ref 1]) (mem' := fm g tp bt a b) (by intro _ _ _; eq_refl) ?_
    obtain ⟨wc2, hrc2, hic2⟩ := mr_findHere (tp := tp) (bt := bt) (b := b) (base := 10) (many := (A.1.2.length)) hT h nmc1 (by omega)
    refine fe_ivV hrc2 (by omega) (by rfl) (by rfl) (by rfl) (by rfl) (by rfl) (by rfl) ?_
    have hzc2 := sp_fxM hA.2.1.2 nlc1.1 nlc1.2 (by rw [List.length_map]; exact hic2)
    rw [List.length_map, sp_iW_map] at hzc2
    rcases hzc2 with ⟨hzc2, rfl⟩ | ⟨hzc2, rfl⟩
    · refine fe_stI (mem' := fm g tp bt (fm_u a 1 (nI t : Int32).toNatClampNeg (-1)) b) (by rfl) (by rfl) (fx_inN (i := t) (by omega) (by omega)) fm_si1 ?_
      rw [show Int32.toNatClampNeg (nI t) = t from nI_clamp (by omega)]
      have hT2 := mT_u (t := 1) (i := t) (x := (-1)) (by decide) hT
      refine fe_s 3 (pc' := 32) (lc' := [(0, .ref 0), (1, .int 10), (2, .int (nI (A.1.2.length))), (3, .int (nI t))]) (stk' := [.int (nI t), .ref 1]) (mem' := fm g tp bt (fm_u a 1 t (-1)) b) (by intro _ _ _; eq_refl) ?_
      refine fe_ldI (by rfl) (by rfl) (fx_inN (i := t) (by omega) (by omega)) ?_
      rw [show Int32.toNatClampNeg (nI t) = t from nI_clamp (by omega)]
      rw [show (fm_u a 1 t (-1)) 1 t = (-1) from fm_v1s]
      refine fe_s 1 (pc' := 34) (lc' := [(0, .ref 0), (1, .int 10), (2, .int (nI (A.1.2.length))), (3, .int (nI t))]) (stk' := [.int (-1), .int (-1)]) (mem' := fm g tp bt (fm_u a 1 t (-1)) b) (by intro _ _ _; eq_refl) ?_
      refine fe_s 1 (pc' := cond (fx_cb .ne (-1) (-1)) 43 37) (lc' := [(0, .ref 0), (1, .int 10), (2, .int (nI (A.1.2.length))), (3, .int (nI t))]) (stk' := []) (mem' := fm g tp bt (fm_u a 1 t (-1)) b) (by intro _ _ _; eq_refl) ?_
      rw [show (fx_cb .ne (-1) (-1)) = false from by decide]
      dsimp only [cond]
      refine fe_s 2 (pc' := 39) (lc' := [(0, .ref 0), (1, .int 10), (2, .int (nI (A.1.2.length))), (3, .int (nI t))]) (stk' := [.int 3, .ref 0]) (mem' := fm g tp bt (fm_u a 1 t (-1)) b) (by intro _ _ _; eq_refl) ?_
      obtain ⟨gc4, hrc4, txc4, hmc4⟩ := mr_failsx (tp := tp) (bt := bt) (a := (fm_u a 1 t (-1))) (b := b) (x := 3) h (by decide) (by omega)
      refine fe_ivV hrc4 (by omega) (by rfl) (by rfl) (by rfl) (by rfl) (by rfl) (by rfl) ?_
      exact fe_ret ⟨_, _, _, _, ⟨(fm_tx8_tr fm_tx8_rf txc4), rfl, Or.inr (Or.inl ⟨nmc1, by omega, rfl, rfl, hmc4⟩)⟩, rfl⟩ (by rfl) (by rfl) (by rfl)
    · refine fe_stI (mem' := fm g tp bt (fm_u a 1 (nI t : Int32).toNatClampNeg (nI (sp_iW A.1.2 (sp_wd T n p)))) b) (by rfl) (by rfl) (fx_inN (i := t) (by omega) (by omega)) fm_si1 ?_
      rw [show Int32.toNatClampNeg (nI t) = t from nI_clamp (by omega)]
      have hT4 := mT_u (t := 1) (i := t) (x := nI (sp_iW A.1.2 (sp_wd T n p))) (by decide) hT
      refine fe_s 3 (pc' := 32) (lc' := [(0, .ref 0), (1, .int 10), (2, .int (nI (A.1.2.length))), (3, .int (nI t))]) (stk' := [.int (nI t), .ref 1]) (mem' := fm g tp bt (fm_u a 1 t (nI (sp_iW A.1.2 (sp_wd T n p)))) b) (by intro _ _ _; eq_refl) ?_
      refine fe_ldI (by rfl) (by rfl) (fx_inN (i := t) (by omega) (by omega)) ?_
      rw [show Int32.toNatClampNeg (nI t) = t from nI_clamp (by omega)]
      rw [show (fm_u a 1 t (nI (sp_iW A.1.2 (sp_wd T n p)))) 1 t = nI (sp_iW A.1.2 (sp_wd T n p)) from fm_v1s]
      refine fe_s 1 (pc' := 34) (lc' := [(0, .ref 0), (1, .int 10), (2, .int (nI (A.1.2.length))), (3, .int (nI t))]) (stk' := [.int (-1), .int (nI (sp_iW A.1.2 (sp_wd T n p)))]) (mem' := fm g tp bt (fm_u a 1 t (nI (sp_iW A.1.2 (sp_wd T n p)))) b) (by intro _ _ _; eq_refl) ?_
      refine fe_s 1 (pc' := cond (fx_cb .ne (nI (sp_iW A.1.2 (sp_wd T n p))) (-1)) 43 37) (lc' := [(0, .ref 0), (1, .int 10), (2, .int (nI (A.1.2.length))), (3, .int (nI t))]) (stk' := []) (mem' := fm g tp bt (fm_u a 1 t (nI (sp_iW A.1.2 (sp_wd T n p)))) b) (by intro _ _ _; eq_refl) ?_
      rw [show (fx_cb .ne (nI (sp_iW A.1.2 (sp_wd T n p))) (-1)) = true from cb_n_ne (by omega) (by decide)]
      dsimp only [cond]
      refine fe_s 1 (pc' := 44) (lc' := [(0, .ref 0), (1, .int 10), (2, .int (nI (A.1.2.length))), (3, .int (nI t))]) (stk' := [.ref 0]) (mem' := fm g tp bt (fm_u a 1 t (nI (sp_iW A.1.2 (sp_wd T n p)))) b) (by intro _ _ _; eq_refl) ?_
      obtain ⟨gc6, hrc6, txc6, hmc6⟩ := mr_aheado (tp := tp) (bt := bt) (b := b) hT4 h (by omega)
      refine fe_ivV hrc6 (by omega) (by rfl) (by rfl) (by rfl) (by rfl) (by rfl) (by rfl) ?_
      refine fe_s 1 (pc' := 48) (lc' := [(0, .ref 0), (1, .int 10), (2, .int (nI (A.1.2.length))), (3, .int (nI t))]) (stk' := [.int 1]) (mem' := fm gc6 tp bt (fm_u a 1 t (nI (sp_iW A.1.2 (sp_wd T n p)))) b) (by intro _ _ _; eq_refl) ?_
      exact fe_ret ⟨_, _, _, _, ⟨(fm_tx8_tr fm_tx8_rf txc6), rfl, Or.inl ⟨nmc1, by omega, rfl, rfl, hmc6⟩⟩, rfl⟩ (by rfl) (by rfl) (by rfl)
  · refine fe_s 1 (pc' := cond (fx_cb .ne 0 0) 15 9) (lc' := [(0, .ref 0), (1, .int 10), (2, .int (nI (A.1.2.length))), (3, .int (nI t))]) (stk' := []) (mem' := fm g tp bt a b) (by intro _ _ _; eq_refl) ?_
    rw [show (fx_cb .ne 0 0) = false from by decide]
    dsimp only [cond]
    refine fe_s 2 (pc' := 11) (lc' := [(0, .ref 0), (1, .int 10), (2, .int (nI (A.1.2.length))), (3, .int (nI t))]) (stk' := [.int 2, .ref 0]) (mem' := fm g tp bt a b) (by intro _ _ _; eq_refl) ?_
    obtain ⟨gc7, hrc7, txc7, hmc7⟩ := mr_fails2 (tp := tp) (bt := bt) (a := a) (b := b) h
    refine fe_ivV hrc7 (by omega) (by rfl) (by rfl) (by rfl) (by rfl) (by rfl) (by rfl) ?_
    exact fe_ret ⟨_, _, _, _, ⟨(fm_tx8_tr fm_tx8_rf txc7), rfl, Or.inr (Or.inr ⟨nmc1, rfl, rfl, hmc7⟩)⟩, rfl⟩ (by rfl) (by rfl) (by rfl)
theorem mr_toW {t : Nat} (hS : mTS T n A N a0 a b) (h : mo g T n p) (ht : 3375 ≤ t ∧ t < 4210) : ∃ (v : Int32) (g' : Nat → Int32) (a' : Nat → Nat → Int32), fr_T 7 248 [.ref 0, .int (nI t)] (fm g tp bt a b) (some (.int v)) (fm g' tp bt a' b) ∧ fm_tx8 g g' ∧ mTS T n A N a0 a' b ∧ ((sp_nm T n p ∧ (sp_iW A.1.2 (sp_wd T n p)) < A.1.2.length ∧ v = 1 ∧ mo g' T n (sp_n T n p)) ∨ (sp_nm T n p ∧ ¬ (sp_iW A.1.2 (sp_wd T n p)) < A.1.2.length ∧ v = 0 ∧ mf g' 3 (sp_s T n p)) ∨ (¬ sp_nm T n p ∧ v = 0 ∧ mf g' (sp_m T n p) (sp_s T n p))) := by
  obtain ⟨v, g', a', b', hr, tx, rfl, hx⟩ := mr_oldW (tp := tp) (bt := bt) (t := t) hS.1 hS.2.1 h (by omega)
  have hv : v = 0 ∨ v = 1 := by
    rcases hx with ⟨-, -, k, -⟩ | ⟨-, -, k, -⟩ | ⟨-, k, -⟩
    · exact Or.inr k
    · exact Or.inl k
    · exact Or.inl k
  have hr2 : fr_T 7 248 [.ref 0, .int (nI t)] (fm g tp bt a b') (some (.int v)) (fm g' tp bt a' b') := by
    refine fr_meth (by rfl) (by rfl) ?_
    refine fr_s 5 (pc' := 8) (lc' := [(0, .ref 0), (1, .int (nI t))]) (stk' := [.int 1, .ref 1, .int 10, .ref 0]) (mem' := fm g tp bt a b') (by intro _ _ _; eq_refl) ?_
    refine fr_ldI (by rfl) (by rfl) (fx_inN (i := 1) (by omega) (by omega)) ?_
    rw [show Int32.toNatClampNeg 1 = 1 from rfl, show a 1 1 = _ from hS.2.1.1.2.2.1]
    refine fr_s 1 (pc' := 10) (lc' := [(0, .ref 0), (1, .int (nI t))]) (stk' := [.int (nI t), .int (nI A.1.2.length), .int 10, .ref 0]) (mem' := fm g tp bt a b') (by intro _ _ _; eq_refl) ?_
    refine fr_ivV hr (by omega) (by rfl) (by rfl) (by rfl) (by rfl) (by rfl) (by rfl) ?_
    rcases hv with rfl | rfl
    · exact fr_ret (by rfl) (by rfl) (by rfl)
    · exact fr_ret (by rfl) (by rfl) (by rfl)
  rcases hx with ⟨k1, k2, k3, rfl, k4⟩ | ⟨k1, k2, k3, rfl, k4⟩ | ⟨k1, k3, rfl, k4⟩
  · exact ⟨v, g', _, hr2, tx, mTS_u hS ht, Or.inl ⟨k1, k2, k3, k4⟩⟩
  · exact ⟨v, g', _, hr2, tx, mTS_u hS ht, Or.inr (Or.inl ⟨k1, k2, k3, k4⟩)⟩
  · exact ⟨v, g', _, hr2, tx, hS, Or.inr (Or.inr ⟨k1, k3, k4⟩)⟩
theorem mr_numS {t lo hi : Nat} (hS : mTS T n A N a0 a b) (h : mo g T n p) (ht : 3375 ≤ t ∧ t < 4210) (hlo : lo < 10000) (hhi : hi < 10000) : ∃ (v : Int32) (g' : Nat → Int32) (a' : Nat → Nat → Int32), fr_T 4 231 [.ref 0, .int (nI t), .int (nI lo), .int (nI hi)] (fm g tp bt a b) (some (.int v)) (fm g' tp bt a' b) ∧ fm_tx8 g g' ∧ mTS T n A N a0 a' b ∧ ((sp_k T n p = 2 ∧ (lo ≤ sp_v T n p ∧ sp_v T n p ≤ hi) ∧ v = 1 ∧ mo g' T n (sp_n T n p)) ∨ (sp_k T n p = 2 ∧ ¬ (lo ≤ sp_v T n p ∧ sp_v T n p ≤ hi) ∧ v = 0 ∧ mf g' 4 (sp_s T n p)) ∨ (¬ sp_k T n p = 2 ∧ v = 0 ∧ mf g' (sp_m T n p) (sp_s T n p))) := by
  obtain ⟨v, g', a', hr, tx, hx⟩ := mr_number (t := t) (lo := lo) (hi := hi) (tp := tp) (bt := bt) (b := b) hS.1 (by omega) hlo hhi h
  rcases hx with ⟨k1, k2, k3, rfl, k4⟩ | ⟨k1, k2, k3, rfl, k4⟩ | ⟨k1, k3, rfl, k4⟩
  · exact ⟨v, g', _, hr, tx, mTS_u hS ht, Or.inl ⟨k1, k2, k3, k4⟩⟩
  · exact ⟨v, g', _, hr, tx, hS, Or.inr (Or.inl ⟨k1, k2, k3, k4⟩)⟩
  · exact ⟨v, g', _, hr, tx, hS, Or.inr (Or.inr ⟨k1, k3, k4⟩)⟩
theorem tl_sg3 (hp : p ≤ n) (h : sp_k T n p = 3) : 59 ≤ T (sp_s T n p) ∧ T (sp_s T n p) ≤ 62 := by
  rcases sp_cs (T := T) hp with h2 | h2 | h2 | h2 | h2
  · omega
  · omega
  · omega
  · exact sp_sg_i.mp h2.2.1
  · omega
theorem mt_test1 (hS : mTS T n A N a0 a b) (h : mo g T n p) (hr1 : 3375 ≤ r ∧ r + 5 < 4210) (hk : sp_k T n p = 1) (hmw : sp_mw T n p = 8) : ∃ (v : Int32) (g' : Nat → Int32) (a' : Nat → Nat → Int32), fr_T 8 249 [.ref 0, .int (nI r)] (fm g tp bt a b) (some (.int v)) (fm g' tp bt a' b) ∧ fm_tx8 g g' ∧ mTS T n A N a0 a' b ∧ mOut (tl_tk T n A 1 p) v g' T n := by
  suffices h : ∃ (v : Option Value) (mem' : fx_M), (fun R => ∃ (v : Int32) (g' : Nat → Int32) (a' : Nat → Nat → Int32), (fm_tx8 g g' ∧ mTS T n A N a0 a' b ∧ mOut (tl_tk T n A 1 p) v g' T n) ∧ R = (some (.int v), fm g' tp bt a' b)) (v, mem') ∧ fr_T 8 249 [.ref 0, .int (nI r)] (fm g tp bt a b) v mem' by
    obtain ⟨v, mem', ⟨w, g', a', h1, hR⟩, h2⟩ := h
    cases hR
    exact ⟨w, g', a', h2, h1⟩
  refine fe_meth (f := 249) (as := [.ref 0, .int (nI r)]) (F := fun R => ∃ (v : Int32) (g' : Nat → Int32) (a' : Nat → Nat → Int32), (fm_tx8 g g' ∧ mTS T n A N a0 a' b ∧ mOut (tl_tk T n A 1 p) v g' T n) ∧ R = (some (.int v), fm g' tp bt a' b)) (M := gk_m249) (by rfl) (by rfl) ?_
  refine fe_s 2 (pc' := 3) (lc' := [(0, .ref 0), (1, .int (nI r))]) (stk' := [.ref 22, .ref 0]) (mem' := fm g tp bt a b) (by intro _ _ _; eq_refl) ?_
  refine fe_ivV (mr_inWords (tp := tp) (bt := bt) (b := b) hS.1 h.1 h.2.1) (by omega) (by rfl) (by rfl) (by rfl) (by rfl) (by rfl) (by rfl) ?_
  rw [hmw]
  refine fe_s 3 (pc' := 10) (lc' := [(2, .int 8), (0, .ref 0), (1, .int (nI r))]) (stk' := [.int 8, .int 8]) (mem' := fm g tp bt a b) (by intro _ _ _; eq_refl) ?_
  refine fe_s 1 (pc' := cond (fx_cb .eq 8 8) 31 13) (lc' := [(2, .int 8), (0, .ref 0), (1, .int (nI r))]) (stk' := []) (mem' := fm g tp bt a b) (by intro _ _ _; eq_refl) ?_
  rw [show (fx_cb .eq 8 8) = true from by decide]
  dsimp only [cond]
  refine fe_s 6 (pc' := 41) (lc' := [(2, .int 8), (0, .ref 0), (1, .int (nI r))]) (stk' := [.int (1800 + 8), .int (nI r), .ref 1]) (mem' := fm g tp bt a b) (by intro _ _ _; eq_refl) ?_
  rw [show (1800 + 8 : Int32) = 1808 from rfl]
  refine fe_stI (mem' := fm g tp bt (fm_u a 1 (nI r : Int32).toNatClampNeg 1808) b) (by rfl) (by rfl) (fx_inN (i := r) (by omega) (by omega)) fm_si1 ?_
  rw [show Int32.toNatClampNeg (nI r) = r from nI_clamp (by omega)]
  have hSs2 : mTS T n A (N) a0 (fm_u a 1 r 1808) b := mTS_u hS (by omega)
  generalize (fm_u a 1 r 1808) = as2 at hSs2 ⊢
  refine fe_s 1 (pc' := 43) (lc' := [(2, .int 8), (0, .ref 0), (1, .int (nI r))]) (stk' := [.ref 0]) (mem' := fm g tp bt as2 b) (by intro _ _ _; eq_refl) ?_
  obtain ⟨gc3, hrc3, txc3, hmc3⟩ := mr_aheado (tp := tp) (bt := bt) (b := b) hSs2.1 h (by omega)
  refine fe_ivV hrc3 (by omega) (by rfl) (by rfl) (by rfl) (by rfl) (by rfl) (by rfl) ?_
  have hXc3 := fm_tx8_tr fm_tx8_rf txc3
  refine fe_s 2 (pc' := 49) (lc' := [(2, .int 8), (0, .ref 0), (1, .int (nI r))]) (stk' := [.int 22, .int 8]) (mem' := fm gc3 tp bt as2 b) (by intro _ _ _; eq_refl) ?_
  refine fe_s 1 (pc' := cond (fx_cb .ne 8 22) 60 52) (lc' := [(2, .int 8), (0, .ref 0), (1, .int (nI r))]) (stk' := []) (mem' := fm gc3 tp bt as2 b) (by intro _ _ _; eq_refl) ?_
  rw [show (fx_cb .ne 8 22) = true from by decide]
  dsimp only [cond]
  refine fe_s 2 (pc' := 63) (lc' := [(2, .int 8), (0, .ref 0), (1, .int (nI r))]) (stk' := [.int 10, .int 8]) (mem' := fm gc3 tp bt as2 b) (by intro _ _ _; eq_refl) ?_
  refine fe_s 1 (pc' := cond (fx_cb .ne 8 10) 103 66) (lc' := [(2, .int 8), (0, .ref 0), (1, .int (nI r))]) (stk' := []) (mem' := fm gc3 tp bt as2 b) (by intro _ _ _; eq_refl) ?_
  rw [show (fx_cb .ne 8 10) = true from by decide]
  dsimp only [cond]
  refine fe_s 4 (pc' := 107) (lc' := [(2, .int 8), (0, .ref 0), (1, .int (nI r))]) (stk' := [.int ((nI r) + 1), .ref 0]) (mem' := fm gc3 tp bt as2 b) (by intro _ _ _; eq_refl) ?_
  rw [show ((nI r) + 1 : Int32) = nI (r + 1) from by simp only [show (1 : Int32) = nI 1 from rfl, nI_add, fm_mul]]
  obtain ⟨xc4, gc4, ac4, hrc4, txc4, hSc4, hxc4⟩ := mr_toC (tp := tp) (bt := bt) (t := r + 1) hSs2 hmc3 (by omega)
  refine fe_ivV hrc4 (by omega) (by rfl) (by rfl) (by rfl) (by rfl) (by rfl) (by rfl) ?_
  have hXc4 := fm_tx8_tr hXc3 txc4
  rcases hxc4 with ⟨hwc4, hvc4, rfl, hmc4⟩ | ⟨hwc4, hvc4, rfl, hmc4⟩ | ⟨hwc4, rfl, hmc4⟩
  · refine fe_s 1 (pc' := cond (fx_cb .ne 1 0) 115 113) (lc' := [(2, .int 8), (0, .ref 0), (1, .int (nI r))]) (stk' := []) (mem' := fm gc4 tp bt ac4 b) (by intro _ _ _; eq_refl) ?_
    rw [show (fx_cb .ne 1 0) = true from by decide]
    dsimp only [cond]
    refine fe_s 2 (pc' := 118) (lc' := [(2, .int 8), (0, .ref 0), (1, .int (nI r))]) (stk' := [.int 60, .ref 0]) (mem' := fm gc4 tp bt ac4 b) (by intro _ _ _; eq_refl) ?_
    refine fe_ivV (mr_isSign (tp := tp) (bt := bt) (b := b) (w := 60) hSc4.1 (by decide) hmc4) (by omega) (by rfl) (by rfl) (by rfl) (by rfl) (by rfl) (by rfl) ?_
    by_cases hsc5 : sp_k T n (sp_n T n (sp_n T n p)) = 3 ∧ T (sp_s T n (sp_n T n (sp_n T n p))) = 60
    · rw [if_pos hsc5]
      have hk3c5 := hsc5.1
      refine fe_s 1 (pc' := cond (fx_cb .ne 1 0) 148 124) (lc' := [(2, .int 8), (0, .ref 0), (1, .int (nI r))]) (stk' := []) (mem' := fm gc4 tp bt ac4 b) (by intro _ _ _; eq_refl) ?_
      rw [show (fx_cb .ne 1 0) = true from by decide]
      dsimp only [cond]
      refine fe_s 7 (pc' := 159) (lc' := [(2, .int 8), (0, .ref 0), (1, .int (nI r))]) (stk' := [.int (gc4 15), .int ((nI r) + 5), .ref 1]) (mem' := fm gc4 tp bt ac4 b) (by intro _ _ _; eq_refl) ?_
      rw [show ((nI r) + 5 : Int32) = nI (r + 5) from by simp only [show (5 : Int32) = nI 5 from rfl, nI_add, fm_mul]]
      refine fe_stI (mem' := fm gc4 tp bt (fm_u ac4 1 (nI (r + 5) : Int32).toNatClampNeg (gc4 15)) b) (by rfl) (by rfl) (fx_inN (i := r + 5) (by omega) (by omega)) fm_si1 ?_
      rw [show Int32.toNatClampNeg (nI (r + 5)) = r + 5 from nI_clamp (by omega)]
      have hSs6 : mTS T n A (N) a0 (fm_u ac4 1 (r + 5) (gc4 15)) b := mTS_u hSc4 (by omega)
      generalize (fm_u ac4 1 (r + 5) (gc4 15)) = as6 at hSs6 ⊢
      refine fe_s 1 (pc' := 161) (lc' := [(2, .int 8), (0, .ref 0), (1, .int (nI r))]) (stk' := [.ref 0]) (mem' := fm gc4 tp bt as6 b) (by intro _ _ _; eq_refl) ?_
      obtain ⟨gc7, hrc7, txc7, hmc7⟩ := mr_aheado (tp := tp) (bt := bt) (b := b) hSs6.1 hmc4 (by omega)
      refine fe_ivV hrc7 (by omega) (by rfl) (by rfl) (by rfl) (by rfl) (by rfl) (by rfl) ?_
      have hXc7 := fm_tx8_tr hXc4 txc7
      refine fe_s 6 (pc' := 172) (lc' := [(2, .int 8), (0, .ref 0), (1, .int (nI r))]) (stk' := [.int 999, .int 0, .int ((nI r) + 2), .ref 0]) (mem' := fm gc7 tp bt as6 b) (by intro _ _ _; eq_refl) ?_
      rw [show ((nI r) + 2 : Int32) = nI (r + 2) from by simp only [show (2 : Int32) = nI 2 from rfl, nI_add, fm_mul]]
      obtain ⟨xc8, gc8, ac8, hrc8, txc8, hSc8, hxc8⟩ := mr_numS (tp := tp) (bt := bt) (t := r + 2) (lo := 0) (hi := 999) hSs6 hmc7 (by omega) (by decide) (by decide)
      refine fe_ivV hrc8 (by omega) (by rfl) (by rfl) (by rfl) (by rfl) (by rfl) (by rfl) ?_
      have hXc8 := fm_tx8_tr hXc7 txc8
      rcases hxc8 with ⟨hwc8, hvc8, rfl, hmc8⟩ | ⟨hwc8, hvc8, rfl, hmc8⟩ | ⟨hwc8, rfl, hmc8⟩
      · exact fe_ret ⟨1, _, _, ⟨hXc8, hSc8, Or.inl ⟨rfl, _, hmc8, fun c' => by rw [show tl_tk T n A 1 p c' = sp_cell T n A (sp_n T n p) (fun _ => tl_cmp T n (sp_n T n (sp_n T n p)) (fun q => sp_num T n 0 999 q c')) from rfl, sp_cell_t hwc4 hvc4, tl_cmp_t hsc5.1 (by omega), sp_num_t hwc8 hvc8]⟩⟩, rfl⟩ (by rfl) (by rfl) (by rfl)
      · exact fe_ret ⟨0, _, _, ⟨hXc8, hSc8, Or.inr ⟨rfl, (4, sp_s T n (sp_n T n (sp_n T n (sp_n T n p)))), hmc8, fun c' => by rw [show tl_tk T n A 1 p c' = sp_cell T n A (sp_n T n p) (fun _ => tl_cmp T n (sp_n T n (sp_n T n p)) (fun q => sp_num T n 0 999 q c')) from rfl, sp_cell_t hwc4 hvc4, tl_cmp_t hsc5.1 (by omega), sp_num_4 hwc8 hvc8]⟩⟩, rfl⟩ (by rfl) (by rfl) (by rfl)
      · exact fe_ret ⟨0, _, _, ⟨hXc8, hSc8, Or.inr ⟨rfl, (sp_m T n (sp_n T n (sp_n T n (sp_n T n p))), sp_s T n (sp_n T n (sp_n T n (sp_n T n p)))), hmc8, fun c' => by rw [show tl_tk T n A 1 p c' = sp_cell T n A (sp_n T n p) (fun _ => tl_cmp T n (sp_n T n (sp_n T n p)) (fun q => sp_num T n 0 999 q c')) from rfl, sp_cell_t hwc4 hvc4, tl_cmp_t hsc5.1 (by omega), sp_num_f hwc8]⟩⟩, rfl⟩ (by rfl) (by rfl) (by rfl)
    · rw [if_neg hsc5]
      refine fe_s 1 (pc' := cond (fx_cb .ne 0 0) 148 124) (lc' := [(2, .int 8), (0, .ref 0), (1, .int (nI r))]) (stk' := []) (mem' := fm gc4 tp bt ac4 b) (by intro _ _ _; eq_refl) ?_
      rw [show (fx_cb .ne 0 0) = false from by decide]
      dsimp only [cond]
      refine fe_s 2 (pc' := 127) (lc' := [(2, .int 8), (0, .ref 0), (1, .int (nI r))]) (stk' := [.int 62, .ref 0]) (mem' := fm gc4 tp bt ac4 b) (by intro _ _ _; eq_refl) ?_
      refine fe_ivV (mr_isSign (tp := tp) (bt := bt) (b := b) (w := 62) hSc4.1 (by decide) hmc4) (by omega) (by rfl) (by rfl) (by rfl) (by rfl) (by rfl) (by rfl) ?_
      by_cases hsc9 : sp_k T n (sp_n T n (sp_n T n p)) = 3 ∧ T (sp_s T n (sp_n T n (sp_n T n p))) = 62
      · rw [if_pos hsc9]
        have hk3c9 := hsc9.1
        refine fe_s 1 (pc' := cond (fx_cb .ne 1 0) 148 133) (lc' := [(2, .int 8), (0, .ref 0), (1, .int (nI r))]) (stk' := []) (mem' := fm gc4 tp bt ac4 b) (by intro _ _ _; eq_refl) ?_
        rw [show (fx_cb .ne 1 0) = true from by decide]
        dsimp only [cond]
        refine fe_s 7 (pc' := 159) (lc' := [(2, .int 8), (0, .ref 0), (1, .int (nI r))]) (stk' := [.int (gc4 15), .int ((nI r) + 5), .ref 1]) (mem' := fm gc4 tp bt ac4 b) (by intro _ _ _; eq_refl) ?_
        rw [show ((nI r) + 5 : Int32) = nI (r + 5) from by simp only [show (5 : Int32) = nI 5 from rfl, nI_add, fm_mul]]
        refine fe_stI (mem' := fm gc4 tp bt (fm_u ac4 1 (nI (r + 5) : Int32).toNatClampNeg (gc4 15)) b) (by rfl) (by rfl) (fx_inN (i := r + 5) (by omega) (by omega)) fm_si1 ?_
        rw [show Int32.toNatClampNeg (nI (r + 5)) = r + 5 from nI_clamp (by omega)]
        have hSs10 : mTS T n A (N) a0 (fm_u ac4 1 (r + 5) (gc4 15)) b := mTS_u hSc4 (by omega)
        generalize (fm_u ac4 1 (r + 5) (gc4 15)) = as10 at hSs10 ⊢
        refine fe_s 1 (pc' := 161) (lc' := [(2, .int 8), (0, .ref 0), (1, .int (nI r))]) (stk' := [.ref 0]) (mem' := fm gc4 tp bt as10 b) (by intro _ _ _; eq_refl) ?_
        obtain ⟨gc11, hrc11, txc11, hmc11⟩ := mr_aheado (tp := tp) (bt := bt) (b := b) hSs10.1 hmc4 (by omega)
        refine fe_ivV hrc11 (by omega) (by rfl) (by rfl) (by rfl) (by rfl) (by rfl) (by rfl) ?_
        have hXc11 := fm_tx8_tr hXc4 txc11
        refine fe_s 6 (pc' := 172) (lc' := [(2, .int 8), (0, .ref 0), (1, .int (nI r))]) (stk' := [.int 999, .int 0, .int ((nI r) + 2), .ref 0]) (mem' := fm gc11 tp bt as10 b) (by intro _ _ _; eq_refl) ?_
        rw [show ((nI r) + 2 : Int32) = nI (r + 2) from by simp only [show (2 : Int32) = nI 2 from rfl, nI_add, fm_mul]]
        obtain ⟨xc12, gc12, ac12, hrc12, txc12, hSc12, hxc12⟩ := mr_numS (tp := tp) (bt := bt) (t := r + 2) (lo := 0) (hi := 999) hSs10 hmc11 (by omega) (by decide) (by decide)
        refine fe_ivV hrc12 (by omega) (by rfl) (by rfl) (by rfl) (by rfl) (by rfl) (by rfl) ?_
        have hXc12 := fm_tx8_tr hXc11 txc12
        rcases hxc12 with ⟨hwc12, hvc12, rfl, hmc12⟩ | ⟨hwc12, hvc12, rfl, hmc12⟩ | ⟨hwc12, rfl, hmc12⟩
        · exact fe_ret ⟨1, _, _, ⟨hXc12, hSc12, Or.inl ⟨rfl, _, hmc12, fun c' => by rw [show tl_tk T n A 1 p c' = sp_cell T n A (sp_n T n p) (fun _ => tl_cmp T n (sp_n T n (sp_n T n p)) (fun q => sp_num T n 0 999 q c')) from rfl, sp_cell_t hwc4 hvc4, tl_cmp_t hsc9.1 (by omega), sp_num_t hwc12 hvc12]⟩⟩, rfl⟩ (by rfl) (by rfl) (by rfl)
        · exact fe_ret ⟨0, _, _, ⟨hXc12, hSc12, Or.inr ⟨rfl, (4, sp_s T n (sp_n T n (sp_n T n (sp_n T n p)))), hmc12, fun c' => by rw [show tl_tk T n A 1 p c' = sp_cell T n A (sp_n T n p) (fun _ => tl_cmp T n (sp_n T n (sp_n T n p)) (fun q => sp_num T n 0 999 q c')) from rfl, sp_cell_t hwc4 hvc4, tl_cmp_t hsc9.1 (by omega), sp_num_4 hwc12 hvc12]⟩⟩, rfl⟩ (by rfl) (by rfl) (by rfl)
        · exact fe_ret ⟨0, _, _, ⟨hXc12, hSc12, Or.inr ⟨rfl, (sp_m T n (sp_n T n (sp_n T n (sp_n T n p))), sp_s T n (sp_n T n (sp_n T n (sp_n T n p)))), hmc12, fun c' => by rw [show tl_tk T n A 1 p c' = sp_cell T n A (sp_n T n p) (fun _ => tl_cmp T n (sp_n T n (sp_n T n p)) (fun q => sp_num T n 0 999 q c')) from rfl, sp_cell_t hwc4 hvc4, tl_cmp_t hsc9.1 (by omega), sp_num_f hwc12]⟩⟩, rfl⟩ (by rfl) (by rfl) (by rfl)
      · rw [if_neg hsc9]
        refine fe_s 1 (pc' := cond (fx_cb .ne 0 0) 148 133) (lc' := [(2, .int 8), (0, .ref 0), (1, .int (nI r))]) (stk' := []) (mem' := fm gc4 tp bt ac4 b) (by intro _ _ _; eq_refl) ?_
        rw [show (fx_cb .ne 0 0) = false from by decide]
        dsimp only [cond]
        refine fe_s 2 (pc' := 136) (lc' := [(2, .int 8), (0, .ref 0), (1, .int (nI r))]) (stk' := [.int 61, .ref 0]) (mem' := fm gc4 tp bt ac4 b) (by intro _ _ _; eq_refl) ?_
        refine fe_ivV (mr_isSign (tp := tp) (bt := bt) (b := b) (w := 61) hSc4.1 (by decide) hmc4) (by omega) (by rfl) (by rfl) (by rfl) (by rfl) (by rfl) (by rfl) ?_
        by_cases hsc13 : sp_k T n (sp_n T n (sp_n T n p)) = 3 ∧ T (sp_s T n (sp_n T n (sp_n T n p))) = 61
        · rw [if_pos hsc13]
          have hk3c13 := hsc13.1
          refine fe_s 1 (pc' := cond (fx_cb .ne 1 0) 148 142) (lc' := [(2, .int 8), (0, .ref 0), (1, .int (nI r))]) (stk' := []) (mem' := fm gc4 tp bt ac4 b) (by intro _ _ _; eq_refl) ?_
          rw [show (fx_cb .ne 1 0) = true from by decide]
          dsimp only [cond]
          refine fe_s 7 (pc' := 159) (lc' := [(2, .int 8), (0, .ref 0), (1, .int (nI r))]) (stk' := [.int (gc4 15), .int ((nI r) + 5), .ref 1]) (mem' := fm gc4 tp bt ac4 b) (by intro _ _ _; eq_refl) ?_
          rw [show ((nI r) + 5 : Int32) = nI (r + 5) from by simp only [show (5 : Int32) = nI 5 from rfl, nI_add, fm_mul]]
          refine fe_stI (mem' := fm gc4 tp bt (fm_u ac4 1 (nI (r + 5) : Int32).toNatClampNeg (gc4 15)) b) (by rfl) (by rfl) (fx_inN (i := r + 5) (by omega) (by omega)) fm_si1 ?_
          rw [show Int32.toNatClampNeg (nI (r + 5)) = r + 5 from nI_clamp (by omega)]
          have hSs14 : mTS T n A (N) a0 (fm_u ac4 1 (r + 5) (gc4 15)) b := mTS_u hSc4 (by omega)
          generalize (fm_u ac4 1 (r + 5) (gc4 15)) = as14 at hSs14 ⊢
          refine fe_s 1 (pc' := 161) (lc' := [(2, .int 8), (0, .ref 0), (1, .int (nI r))]) (stk' := [.ref 0]) (mem' := fm gc4 tp bt as14 b) (by intro _ _ _; eq_refl) ?_
          obtain ⟨gc15, hrc15, txc15, hmc15⟩ := mr_aheado (tp := tp) (bt := bt) (b := b) hSs14.1 hmc4 (by omega)
          refine fe_ivV hrc15 (by omega) (by rfl) (by rfl) (by rfl) (by rfl) (by rfl) (by rfl) ?_
          have hXc15 := fm_tx8_tr hXc4 txc15
          refine fe_s 6 (pc' := 172) (lc' := [(2, .int 8), (0, .ref 0), (1, .int (nI r))]) (stk' := [.int 999, .int 0, .int ((nI r) + 2), .ref 0]) (mem' := fm gc15 tp bt as14 b) (by intro _ _ _; eq_refl) ?_
          rw [show ((nI r) + 2 : Int32) = nI (r + 2) from by simp only [show (2 : Int32) = nI 2 from rfl, nI_add, fm_mul]]
          obtain ⟨xc16, gc16, ac16, hrc16, txc16, hSc16, hxc16⟩ := mr_numS (tp := tp) (bt := bt) (t := r + 2) (lo := 0) (hi := 999) hSs14 hmc15 (by omega) (by decide) (by decide)
          refine fe_ivV hrc16 (by omega) (by rfl) (by rfl) (by rfl) (by rfl) (by rfl) (by rfl) ?_
          have hXc16 := fm_tx8_tr hXc15 txc16
          rcases hxc16 with ⟨hwc16, hvc16, rfl, hmc16⟩ | ⟨hwc16, hvc16, rfl, hmc16⟩ | ⟨hwc16, rfl, hmc16⟩
          · exact fe_ret ⟨1, _, _, ⟨hXc16, hSc16, Or.inl ⟨rfl, _, hmc16, fun c' => by rw [show tl_tk T n A 1 p c' = sp_cell T n A (sp_n T n p) (fun _ => tl_cmp T n (sp_n T n (sp_n T n p)) (fun q => sp_num T n 0 999 q c')) from rfl, sp_cell_t hwc4 hvc4, tl_cmp_t hsc13.1 (by omega), sp_num_t hwc16 hvc16]⟩⟩, rfl⟩ (by rfl) (by rfl) (by rfl)
          · exact fe_ret ⟨0, _, _, ⟨hXc16, hSc16, Or.inr ⟨rfl, (4, sp_s T n (sp_n T n (sp_n T n (sp_n T n p)))), hmc16, fun c' => by rw [show tl_tk T n A 1 p c' = sp_cell T n A (sp_n T n p) (fun _ => tl_cmp T n (sp_n T n (sp_n T n p)) (fun q => sp_num T n 0 999 q c')) from rfl, sp_cell_t hwc4 hvc4, tl_cmp_t hsc13.1 (by omega), sp_num_4 hwc16 hvc16]⟩⟩, rfl⟩ (by rfl) (by rfl) (by rfl)
          · exact fe_ret ⟨0, _, _, ⟨hXc16, hSc16, Or.inr ⟨rfl, (sp_m T n (sp_n T n (sp_n T n (sp_n T n p))), sp_s T n (sp_n T n (sp_n T n (sp_n T n p)))), hmc16, fun c' => by rw [show tl_tk T n A 1 p c' = sp_cell T n A (sp_n T n p) (fun _ => tl_cmp T n (sp_n T n (sp_n T n p)) (fun q => sp_num T n 0 999 q c')) from rfl, sp_cell_t hwc4 hvc4, tl_cmp_t hsc13.1 (by omega), sp_num_f hwc16]⟩⟩, rfl⟩ (by rfl) (by rfl) (by rfl)
        · rw [if_neg hsc13]
          refine fe_s 1 (pc' := cond (fx_cb .ne 0 0) 148 142) (lc' := [(2, .int 8), (0, .ref 0), (1, .int (nI r))]) (stk' := []) (mem' := fm gc4 tp bt ac4 b) (by intro _ _ _; eq_refl) ?_
          rw [show (fx_cb .ne 0 0) = false from by decide]
          dsimp only [cond]
          refine fe_s 2 (pc' := 144) (lc' := [(2, .int 8), (0, .ref 0), (1, .int (nI r))]) (stk' := [.int 2, .ref 0]) (mem' := fm gc4 tp bt ac4 b) (by intro _ _ _; eq_refl) ?_
          obtain ⟨gc17, hrc17, txc17, hmc17⟩ := mr_fails2 (tp := tp) (bt := bt) (a := ac4) (b := b) hmc4
          refine fe_ivV hrc17 (by omega) (by rfl) (by rfl) (by rfl) (by rfl) (by rfl) (by rfl) ?_
          have hXc17 := fm_tx8_tr hXc4 txc17
          exact fe_ret ⟨0, _, _, ⟨hXc17, hSc4, Or.inr ⟨rfl, (sp_m T n (sp_n T n (sp_n T n p)), sp_s T n (sp_n T n (sp_n T n p))), hmc17, fun c' => by rw [show tl_tk T n A 1 p c' = sp_cell T n A (sp_n T n p) (fun _ => tl_cmp T n (sp_n T n (sp_n T n p)) (fun q => sp_num T n 0 999 q c')) from rfl, sp_cell_t hwc4 hvc4, tl_cmp_f (fun z => by have := tl_sg3 (T := T) (n := n) (p := (sp_n T n (sp_n T n p))) hmc4.1 z.1; omega)]⟩⟩, rfl⟩ (by rfl) (by rfl) (by rfl)
  · refine fe_s 1 (pc' := cond (fx_cb .ne 0 0) 115 113) (lc' := [(2, .int 8), (0, .ref 0), (1, .int (nI r))]) (stk' := []) (mem' := fm gc4 tp bt ac4 b) (by intro _ _ _; eq_refl) ?_
    rw [show (fx_cb .ne 0 0) = false from by decide]
    dsimp only [cond]
    refine fe_s 1 (pc' := 114) (lc' := [(2, .int 8), (0, .ref 0), (1, .int (nI r))]) (stk' := [.int 0]) (mem' := fm gc4 tp bt ac4 b) (by intro _ _ _; eq_refl) ?_
    exact fe_ret ⟨0, _, _, ⟨hXc4, hSc4, Or.inr ⟨rfl, (3, sp_s T n (sp_n T n p)), hmc4, fun c' => by rw [show tl_tk T n A 1 p c' = sp_cell T n A (sp_n T n p) (fun _ => tl_cmp T n (sp_n T n (sp_n T n p)) (fun q => sp_num T n 0 999 q c')) from rfl, sp_cell_3 hwc4 hvc4]⟩⟩, rfl⟩ (by rfl) (by rfl) (by rfl)
  · refine fe_s 1 (pc' := cond (fx_cb .ne 0 0) 115 113) (lc' := [(2, .int 8), (0, .ref 0), (1, .int (nI r))]) (stk' := []) (mem' := fm gc4 tp bt ac4 b) (by intro _ _ _; eq_refl) ?_
    rw [show (fx_cb .ne 0 0) = false from by decide]
    dsimp only [cond]
    refine fe_s 1 (pc' := 114) (lc' := [(2, .int 8), (0, .ref 0), (1, .int (nI r))]) (stk' := [.int 0]) (mem' := fm gc4 tp bt ac4 b) (by intro _ _ _; eq_refl) ?_
    exact fe_ret ⟨0, _, _, ⟨hXc4, hSc4, Or.inr ⟨rfl, (sp_m T n (sp_n T n p), sp_s T n (sp_n T n p)), hmc4, fun c' => by rw [show tl_tk T n A 1 p c' = sp_cell T n A (sp_n T n p) (fun _ => tl_cmp T n (sp_n T n (sp_n T n p)) (fun q => sp_num T n 0 999 q c')) from rfl, sp_cell_f hwc4]⟩⟩, rfl⟩ (by rfl) (by rfl) (by rfl)
theorem mt_test7 (hS : mTS T n A N a0 a b) (h : mo g T n p) (hr1 : 3375 ≤ r ∧ r + 5 < 4210) (hk : sp_k T n p = 1) (hmw : sp_mw T n p = 10) : ∃ (v : Int32) (g' : Nat → Int32) (a' : Nat → Nat → Int32), fr_T 8 249 [.ref 0, .int (nI r)] (fm g tp bt a b) (some (.int v)) (fm g' tp bt a' b) ∧ fm_tx8 g g' ∧ mTS T n A N a0 a' b ∧ mOut (tl_tk T n A 7 p) v g' T n := by
  suffices h : ∃ (v : Option Value) (mem' : fx_M), (fun R => ∃ (v : Int32) (g' : Nat → Int32) (a' : Nat → Nat → Int32), (fm_tx8 g g' ∧ mTS T n A N a0 a' b ∧ mOut (tl_tk T n A 7 p) v g' T n) ∧ R = (some (.int v), fm g' tp bt a' b)) (v, mem') ∧ fr_T 8 249 [.ref 0, .int (nI r)] (fm g tp bt a b) v mem' by
    obtain ⟨v, mem', ⟨w, g', a', h1, hR⟩, h2⟩ := h
    cases hR
    exact ⟨w, g', a', h2, h1⟩
  refine fe_meth (f := 249) (as := [.ref 0, .int (nI r)]) (F := fun R => ∃ (v : Int32) (g' : Nat → Int32) (a' : Nat → Nat → Int32), (fm_tx8 g g' ∧ mTS T n A N a0 a' b ∧ mOut (tl_tk T n A 7 p) v g' T n) ∧ R = (some (.int v), fm g' tp bt a' b)) (M := gk_m249) (by rfl) (by rfl) ?_
  refine fe_s 2 (pc' := 3) (lc' := [(0, .ref 0), (1, .int (nI r))]) (stk' := [.ref 22, .ref 0]) (mem' := fm g tp bt a b) (by intro _ _ _; eq_refl) ?_
  refine fe_ivV (mr_inWords (tp := tp) (bt := bt) (b := b) hS.1 h.1 h.2.1) (by omega) (by rfl) (by rfl) (by rfl) (by rfl) (by rfl) (by rfl) ?_
  rw [hmw]
  refine fe_s 3 (pc' := 10) (lc' := [(2, .int 10), (0, .ref 0), (1, .int (nI r))]) (stk' := [.int 8, .int 10]) (mem' := fm g tp bt a b) (by intro _ _ _; eq_refl) ?_
  refine fe_s 1 (pc' := cond (fx_cb .eq 10 8) 31 13) (lc' := [(2, .int 10), (0, .ref 0), (1, .int (nI r))]) (stk' := []) (mem' := fm g tp bt a b) (by intro _ _ _; eq_refl) ?_
  rw [show (fx_cb .eq 10 8) = false from by decide]
  dsimp only [cond]
  refine fe_s 2 (pc' := 16) (lc' := [(2, .int 10), (0, .ref 0), (1, .int (nI r))]) (stk' := [.int 10, .int 10]) (mem' := fm g tp bt a b) (by intro _ _ _; eq_refl) ?_
  refine fe_s 1 (pc' := cond (fx_cb .eq 10 10) 31 19) (lc' := [(2, .int 10), (0, .ref 0), (1, .int (nI r))]) (stk' := []) (mem' := fm g tp bt a b) (by intro _ _ _; eq_refl) ?_
  rw [show (fx_cb .eq 10 10) = true from by decide]
  dsimp only [cond]
  refine fe_s 6 (pc' := 41) (lc' := [(2, .int 10), (0, .ref 0), (1, .int (nI r))]) (stk' := [.int (1800 + 10), .int (nI r), .ref 1]) (mem' := fm g tp bt a b) (by intro _ _ _; eq_refl) ?_
  rw [show (1800 + 10 : Int32) = 1810 from rfl]
  refine fe_stI (mem' := fm g tp bt (fm_u a 1 (nI r : Int32).toNatClampNeg 1810) b) (by rfl) (by rfl) (fx_inN (i := r) (by omega) (by omega)) fm_si1 ?_
  rw [show Int32.toNatClampNeg (nI r) = r from nI_clamp (by omega)]
  have hSs2 : mTS T n A (N) a0 (fm_u a 1 r 1810) b := mTS_u hS (by omega)
  generalize (fm_u a 1 r 1810) = as2 at hSs2 ⊢
  refine fe_s 1 (pc' := 43) (lc' := [(2, .int 10), (0, .ref 0), (1, .int (nI r))]) (stk' := [.ref 0]) (mem' := fm g tp bt as2 b) (by intro _ _ _; eq_refl) ?_
  obtain ⟨gc3, hrc3, txc3, hmc3⟩ := mr_aheado (tp := tp) (bt := bt) (b := b) hSs2.1 h (by omega)
  refine fe_ivV hrc3 (by omega) (by rfl) (by rfl) (by rfl) (by rfl) (by rfl) (by rfl) ?_
  have hXc3 := fm_tx8_tr fm_tx8_rf txc3
  refine fe_s 2 (pc' := 49) (lc' := [(2, .int 10), (0, .ref 0), (1, .int (nI r))]) (stk' := [.int 22, .int 10]) (mem' := fm gc3 tp bt as2 b) (by intro _ _ _; eq_refl) ?_
  refine fe_s 1 (pc' := cond (fx_cb .ne 10 22) 60 52) (lc' := [(2, .int 10), (0, .ref 0), (1, .int (nI r))]) (stk' := []) (mem' := fm gc3 tp bt as2 b) (by intro _ _ _; eq_refl) ?_
  rw [show (fx_cb .ne 10 22) = true from by decide]
  dsimp only [cond]
  refine fe_s 2 (pc' := 63) (lc' := [(2, .int 10), (0, .ref 0), (1, .int (nI r))]) (stk' := [.int 10, .int 10]) (mem' := fm gc3 tp bt as2 b) (by intro _ _ _; eq_refl) ?_
  refine fe_s 1 (pc' := cond (fx_cb .ne 10 10) 103 66) (lc' := [(2, .int 10), (0, .ref 0), (1, .int (nI r))]) (stk' := []) (mem' := fm gc3 tp bt as2 b) (by intro _ _ _; eq_refl) ?_
  rw [show (fx_cb .ne 10 10) = false from by decide]
  dsimp only [cond]
  refine fe_s 4 (pc' := 70) (lc' := [(2, .int 10), (0, .ref 0), (1, .int (nI r))]) (stk' := [.int ((nI r) + 1), .ref 0]) (mem' := fm gc3 tp bt as2 b) (by intro _ _ _; eq_refl) ?_
  rw [show ((nI r) + 1 : Int32) = nI (r + 1) from by simp only [show (1 : Int32) = nI 1 from rfl, nI_add, fm_mul]]
  obtain ⟨xc4, gc4, ac4, hrc4, txc4, hSc4, hxc4⟩ := mr_toW (tp := tp) (bt := bt) (t := r + 1) hSs2 hmc3 (by omega)
  refine fe_ivV hrc4 (by omega) (by rfl) (by rfl) (by rfl) (by rfl) (by rfl) (by rfl) ?_
  have hXc4 := fm_tx8_tr hXc3 txc4
  rcases hxc4 with ⟨hwc4, hvc4, rfl, hmc4⟩ | ⟨hwc4, hvc4, rfl, hmc4⟩ | ⟨hwc4, rfl, hmc4⟩
  · refine fe_s 1 (pc' := cond (fx_cb .eq 1 0) 101 76) (lc' := [(2, .int 10), (0, .ref 0), (1, .int (nI r))]) (stk' := []) (mem' := fm gc4 tp bt ac4 b) (by intro _ _ _; eq_refl) ?_
    rw [show (fx_cb .eq 1 0) = false from by decide]
    dsimp only [cond]
    refine fe_s 3 (pc' := 81) (lc' := [(2, .int 10), (0, .ref 0), (1, .int (nI r))]) (stk' := [.int 17, .ref 22, .ref 0]) (mem' := fm gc4 tp bt ac4 b) (by intro _ _ _; eq_refl) ?_
    obtain ⟨xc5, gc5, hrc5, txc5, hxc5⟩ := mr_wantWord (m := 17) (c := 18) (tp := tp) (bt := bt) (b := b) hSc4.1 (by decide) (by decide) (by decide) hmc4
    refine fe_ivV hrc5 (by omega) (by rfl) (by rfl) (by rfl) (by rfl) (by rfl) (by rfl) ?_
    have hXc5 := fm_tx8_tr hXc4 txc5
    rcases hxc5 with ⟨hwc5, rfl, hmc5⟩ | ⟨hwc5, rfl, hmc5⟩
    · refine fe_s 1 (pc' := cond (fx_cb .eq 1 0) 101 87) (lc' := [(2, .int 10), (0, .ref 0), (1, .int (nI r))]) (stk' := []) (mem' := fm gc5 tp bt ac4 b) (by intro _ _ _; eq_refl) ?_
      rw [show (fx_cb .eq 1 0) = false from by decide]
      dsimp only [cond]
      refine fe_s 4 (pc' := 91) (lc' := [(2, .int 10), (0, .ref 0), (1, .int (nI r))]) (stk' := [.int ((nI r) + 2), .ref 0]) (mem' := fm gc5 tp bt ac4 b) (by intro _ _ _; eq_refl) ?_
      rw [show ((nI r) + 2 : Int32) = nI (r + 2) from by simp only [show (2 : Int32) = nI 2 from rfl, nI_add, fm_mul]]
      obtain ⟨xc6, gc6, ac6, hrc6, txc6, hSc6, hxc6⟩ := mr_toC (tp := tp) (bt := bt) (t := r + 2) hSc4 hmc5 (by omega)
      refine fe_ivV hrc6 (by omega) (by rfl) (by rfl) (by rfl) (by rfl) (by rfl) (by rfl) ?_
      have hXc6 := fm_tx8_tr hXc5 txc6
      rcases hxc6 with ⟨hwc6, hvc6, rfl, hmc6⟩ | ⟨hwc6, hvc6, rfl, hmc6⟩ | ⟨hwc6, rfl, hmc6⟩
      · refine fe_s 1 (pc' := cond (fx_cb .eq 1 0) 101 97) (lc' := [(2, .int 10), (0, .ref 0), (1, .int (nI r))]) (stk' := []) (mem' := fm gc6 tp bt ac6 b) (by intro _ _ _; eq_refl) ?_
        rw [show (fx_cb .eq 1 0) = false from by decide]
        dsimp only [cond]
        refine fe_s 2 (pc' := 102) (lc' := [(2, .int 10), (0, .ref 0), (1, .int (nI r))]) (stk' := [.int 1]) (mem' := fm gc6 tp bt ac6 b) (by intro _ _ _; eq_refl) ?_
        exact fe_ret ⟨1, _, _, ⟨hXc6, hSc6, Or.inl ⟨rfl, _, hmc6, fun c' => by rw [show tl_tk T n A 7 p c' = sp_walk T n A (sp_n T n p) (fun _ => sp_word T n 18 (sp_n T n (sp_n T n p)) (fun q => sp_cell T n A q (fun _ => c' (sp_n T n q)))) from rfl, sp_walk_t hwc4 hvc4, sp_word_t hwc5, sp_cell_t hwc6 hvc6]⟩⟩, rfl⟩ (by rfl) (by rfl) (by rfl)
      · refine fe_s 1 (pc' := cond (fx_cb .eq 0 0) 101 97) (lc' := [(2, .int 10), (0, .ref 0), (1, .int (nI r))]) (stk' := []) (mem' := fm gc6 tp bt ac6 b) (by intro _ _ _; eq_refl) ?_
        rw [show (fx_cb .eq 0 0) = true from by decide]
        dsimp only [cond]
        refine fe_s 1 (pc' := 102) (lc' := [(2, .int 10), (0, .ref 0), (1, .int (nI r))]) (stk' := [.int 0]) (mem' := fm gc6 tp bt ac6 b) (by intro _ _ _; eq_refl) ?_
        exact fe_ret ⟨0, _, _, ⟨hXc6, hSc6, Or.inr ⟨rfl, (3, sp_s T n (sp_n T n (sp_n T n (sp_n T n p)))), hmc6, fun c' => by rw [show tl_tk T n A 7 p c' = sp_walk T n A (sp_n T n p) (fun _ => sp_word T n 18 (sp_n T n (sp_n T n p)) (fun q => sp_cell T n A q (fun _ => c' (sp_n T n q)))) from rfl, sp_walk_t hwc4 hvc4, sp_word_t hwc5, sp_cell_3 hwc6 hvc6]⟩⟩, rfl⟩ (by rfl) (by rfl) (by rfl)
      · refine fe_s 1 (pc' := cond (fx_cb .eq 0 0) 101 97) (lc' := [(2, .int 10), (0, .ref 0), (1, .int (nI r))]) (stk' := []) (mem' := fm gc6 tp bt ac6 b) (by intro _ _ _; eq_refl) ?_
        rw [show (fx_cb .eq 0 0) = true from by decide]
        dsimp only [cond]
        refine fe_s 1 (pc' := 102) (lc' := [(2, .int 10), (0, .ref 0), (1, .int (nI r))]) (stk' := [.int 0]) (mem' := fm gc6 tp bt ac6 b) (by intro _ _ _; eq_refl) ?_
        exact fe_ret ⟨0, _, _, ⟨hXc6, hSc6, Or.inr ⟨rfl, (sp_m T n (sp_n T n (sp_n T n (sp_n T n p))), sp_s T n (sp_n T n (sp_n T n (sp_n T n p)))), hmc6, fun c' => by rw [show tl_tk T n A 7 p c' = sp_walk T n A (sp_n T n p) (fun _ => sp_word T n 18 (sp_n T n (sp_n T n p)) (fun q => sp_cell T n A q (fun _ => c' (sp_n T n q)))) from rfl, sp_walk_t hwc4 hvc4, sp_word_t hwc5, sp_cell_f hwc6]⟩⟩, rfl⟩ (by rfl) (by rfl) (by rfl)
    · refine fe_s 1 (pc' := cond (fx_cb .eq 0 0) 101 87) (lc' := [(2, .int 10), (0, .ref 0), (1, .int (nI r))]) (stk' := []) (mem' := fm gc5 tp bt ac4 b) (by intro _ _ _; eq_refl) ?_
      rw [show (fx_cb .eq 0 0) = true from by decide]
      dsimp only [cond]
      refine fe_s 1 (pc' := 102) (lc' := [(2, .int 10), (0, .ref 0), (1, .int (nI r))]) (stk' := [.int 0]) (mem' := fm gc5 tp bt ac4 b) (by intro _ _ _; eq_refl) ?_
      exact fe_ret ⟨0, _, _, ⟨hXc5, hSc4, Or.inr ⟨rfl, (sp_m T n (sp_n T n (sp_n T n p)), sp_s T n (sp_n T n (sp_n T n p))), hmc5, fun c' => by rw [show tl_tk T n A 7 p c' = sp_walk T n A (sp_n T n p) (fun _ => sp_word T n 18 (sp_n T n (sp_n T n p)) (fun q => sp_cell T n A q (fun _ => c' (sp_n T n q)))) from rfl, sp_walk_t hwc4 hvc4, sp_word_f hwc5]⟩⟩, rfl⟩ (by rfl) (by rfl) (by rfl)
  · refine fe_s 1 (pc' := cond (fx_cb .eq 0 0) 101 76) (lc' := [(2, .int 10), (0, .ref 0), (1, .int (nI r))]) (stk' := []) (mem' := fm gc4 tp bt ac4 b) (by intro _ _ _; eq_refl) ?_
    rw [show (fx_cb .eq 0 0) = true from by decide]
    dsimp only [cond]
    refine fe_s 1 (pc' := 102) (lc' := [(2, .int 10), (0, .ref 0), (1, .int (nI r))]) (stk' := [.int 0]) (mem' := fm gc4 tp bt ac4 b) (by intro _ _ _; eq_refl) ?_
    exact fe_ret ⟨0, _, _, ⟨hXc4, hSc4, Or.inr ⟨rfl, (3, sp_s T n (sp_n T n p)), hmc4, fun c' => by rw [show tl_tk T n A 7 p c' = sp_walk T n A (sp_n T n p) (fun _ => sp_word T n 18 (sp_n T n (sp_n T n p)) (fun q => sp_cell T n A q (fun _ => c' (sp_n T n q)))) from rfl, sp_walk_3 hwc4 hvc4]⟩⟩, rfl⟩ (by rfl) (by rfl) (by rfl)
  · refine fe_s 1 (pc' := cond (fx_cb .eq 0 0) 101 76) (lc' := [(2, .int 10), (0, .ref 0), (1, .int (nI r))]) (stk' := []) (mem' := fm gc4 tp bt ac4 b) (by intro _ _ _; eq_refl) ?_
    rw [show (fx_cb .eq 0 0) = true from by decide]
    dsimp only [cond]
    refine fe_s 1 (pc' := 102) (lc' := [(2, .int 10), (0, .ref 0), (1, .int (nI r))]) (stk' := [.int 0]) (mem' := fm gc4 tp bt ac4 b) (by intro _ _ _; eq_refl) ?_
    exact fe_ret ⟨0, _, _, ⟨hXc4, hSc4, Or.inr ⟨rfl, (sp_m T n (sp_n T n p), sp_s T n (sp_n T n p)), hmc4, fun c' => by rw [show tl_tk T n A 7 p c' = sp_walk T n A (sp_n T n p) (fun _ => sp_word T n 18 (sp_n T n (sp_n T n p)) (fun q => sp_cell T n A q (fun _ => c' (sp_n T n q)))) from rfl, sp_walk_f hwc4]⟩⟩, rfl⟩ (by rfl) (by rfl) (by rfl)
theorem mt_test19 (hS : mTS T n A N a0 a b) (h : mo g T n p) (hr1 : 3375 ≤ r ∧ r + 5 < 4210) (hk : sp_k T n p = 1) (hmw : sp_mw T n p = 22) : ∃ (v : Int32) (g' : Nat → Int32) (a' : Nat → Nat → Int32), fr_T 8 249 [.ref 0, .int (nI r)] (fm g tp bt a b) (some (.int v)) (fm g' tp bt a' b) ∧ fm_tx8 g g' ∧ mTS T n A N a0 a' b ∧ mOut (tl_tk T n A 19 p) v g' T n := by
  suffices h : ∃ (v : Option Value) (mem' : fx_M), (fun R => ∃ (v : Int32) (g' : Nat → Int32) (a' : Nat → Nat → Int32), (fm_tx8 g g' ∧ mTS T n A N a0 a' b ∧ mOut (tl_tk T n A 19 p) v g' T n) ∧ R = (some (.int v), fm g' tp bt a' b)) (v, mem') ∧ fr_T 8 249 [.ref 0, .int (nI r)] (fm g tp bt a b) v mem' by
    obtain ⟨v, mem', ⟨w, g', a', h1, hR⟩, h2⟩ := h
    cases hR
    exact ⟨w, g', a', h2, h1⟩
  refine fe_meth (f := 249) (as := [.ref 0, .int (nI r)]) (F := fun R => ∃ (v : Int32) (g' : Nat → Int32) (a' : Nat → Nat → Int32), (fm_tx8 g g' ∧ mTS T n A N a0 a' b ∧ mOut (tl_tk T n A 19 p) v g' T n) ∧ R = (some (.int v), fm g' tp bt a' b)) (M := gk_m249) (by rfl) (by rfl) ?_
  refine fe_s 2 (pc' := 3) (lc' := [(0, .ref 0), (1, .int (nI r))]) (stk' := [.ref 22, .ref 0]) (mem' := fm g tp bt a b) (by intro _ _ _; eq_refl) ?_
  refine fe_ivV (mr_inWords (tp := tp) (bt := bt) (b := b) hS.1 h.1 h.2.1) (by omega) (by rfl) (by rfl) (by rfl) (by rfl) (by rfl) (by rfl) ?_
  rw [hmw]
  refine fe_s 3 (pc' := 10) (lc' := [(2, .int 22), (0, .ref 0), (1, .int (nI r))]) (stk' := [.int 8, .int 22]) (mem' := fm g tp bt a b) (by intro _ _ _; eq_refl) ?_
  refine fe_s 1 (pc' := cond (fx_cb .eq 22 8) 31 13) (lc' := [(2, .int 22), (0, .ref 0), (1, .int (nI r))]) (stk' := []) (mem' := fm g tp bt a b) (by intro _ _ _; eq_refl) ?_
  rw [show (fx_cb .eq 22 8) = false from by decide]
  dsimp only [cond]
  refine fe_s 2 (pc' := 16) (lc' := [(2, .int 22), (0, .ref 0), (1, .int (nI r))]) (stk' := [.int 10, .int 22]) (mem' := fm g tp bt a b) (by intro _ _ _; eq_refl) ?_
  refine fe_s 1 (pc' := cond (fx_cb .eq 22 10) 31 19) (lc' := [(2, .int 22), (0, .ref 0), (1, .int (nI r))]) (stk' := []) (mem' := fm g tp bt a b) (by intro _ _ _; eq_refl) ?_
  rw [show (fx_cb .eq 22 10) = false from by decide]
  dsimp only [cond]
  refine fe_s 2 (pc' := 22) (lc' := [(2, .int 22), (0, .ref 0), (1, .int (nI r))]) (stk' := [.int 22, .int 22]) (mem' := fm g tp bt a b) (by intro _ _ _; eq_refl) ?_
  refine fe_s 1 (pc' := cond (fx_cb .eq 22 22) 31 25) (lc' := [(2, .int 22), (0, .ref 0), (1, .int (nI r))]) (stk' := []) (mem' := fm g tp bt a b) (by intro _ _ _; eq_refl) ?_
  rw [show (fx_cb .eq 22 22) = true from by decide]
  dsimp only [cond]
  refine fe_s 6 (pc' := 41) (lc' := [(2, .int 22), (0, .ref 0), (1, .int (nI r))]) (stk' := [.int (1800 + 22), .int (nI r), .ref 1]) (mem' := fm g tp bt a b) (by intro _ _ _; eq_refl) ?_
  rw [show (1800 + 22 : Int32) = 1822 from rfl]
  refine fe_stI (mem' := fm g tp bt (fm_u a 1 (nI r : Int32).toNatClampNeg 1822) b) (by rfl) (by rfl) (fx_inN (i := r) (by omega) (by omega)) fm_si1 ?_
  rw [show Int32.toNatClampNeg (nI r) = r from nI_clamp (by omega)]
  have hSs2 : mTS T n A (N) a0 (fm_u a 1 r 1822) b := mTS_u hS (by omega)
  generalize (fm_u a 1 r 1822) = as2 at hSs2 ⊢
  refine fe_s 1 (pc' := 43) (lc' := [(2, .int 22), (0, .ref 0), (1, .int (nI r))]) (stk' := [.ref 0]) (mem' := fm g tp bt as2 b) (by intro _ _ _; eq_refl) ?_
  obtain ⟨gc3, hrc3, txc3, hmc3⟩ := mr_aheado (tp := tp) (bt := bt) (b := b) hSs2.1 h (by omega)
  refine fe_ivV hrc3 (by omega) (by rfl) (by rfl) (by rfl) (by rfl) (by rfl) (by rfl) ?_
  have hXc3 := fm_tx8_tr fm_tx8_rf txc3
  refine fe_s 2 (pc' := 49) (lc' := [(2, .int 22), (0, .ref 0), (1, .int (nI r))]) (stk' := [.int 22, .int 22]) (mem' := fm gc3 tp bt as2 b) (by intro _ _ _; eq_refl) ?_
  refine fe_s 1 (pc' := cond (fx_cb .ne 22 22) 60 52) (lc' := [(2, .int 22), (0, .ref 0), (1, .int (nI r))]) (stk' := []) (mem' := fm gc3 tp bt as2 b) (by intro _ _ _; eq_refl) ?_
  rw [show (fx_cb .ne 22 22) = false from by decide]
  dsimp only [cond]
  refine fe_s 4 (pc' := 56) (lc' := [(2, .int 22), (0, .ref 0), (1, .int (nI r))]) (stk' := [.int ((nI r) + 1), .ref 0]) (mem' := fm gc3 tp bt as2 b) (by intro _ _ _; eq_refl) ?_
  rw [show ((nI r) + 1 : Int32) = nI (r + 1) from by simp only [show (1 : Int32) = nI 1 from rfl, nI_add, fm_mul]]
  obtain ⟨xc4, gc4, ac4, hrc4, txc4, hSc4, hxc4⟩ := mr_toW (tp := tp) (bt := bt) (t := r + 1) hSs2 hmc3 (by omega)
  refine fe_ivV hrc4 (by omega) (by rfl) (by rfl) (by rfl) (by rfl) (by rfl) (by rfl) ?_
  have hXc4 := fm_tx8_tr hXc3 txc4
  rcases hxc4 with ⟨hwc4, hvc4, rfl, hmc4⟩ | ⟨hwc4, hvc4, rfl, hmc4⟩ | ⟨hwc4, rfl, hmc4⟩
  · exact fe_ret ⟨1, _, _, ⟨hXc4, hSc4, Or.inl ⟨rfl, _, hmc4, fun c' => by rw [show tl_tk T n A 19 p c' = sp_walk T n A (sp_n T n p) (fun _ => c' (sp_n T n (sp_n T n p))) from rfl, sp_walk_t hwc4 hvc4]⟩⟩, rfl⟩ (by rfl) (by rfl) (by rfl)
  · exact fe_ret ⟨0, _, _, ⟨hXc4, hSc4, Or.inr ⟨rfl, (3, sp_s T n (sp_n T n p)), hmc4, fun c' => by rw [show tl_tk T n A 19 p c' = sp_walk T n A (sp_n T n p) (fun _ => c' (sp_n T n (sp_n T n p))) from rfl, sp_walk_3 hwc4 hvc4]⟩⟩, rfl⟩ (by rfl) (by rfl) (by rfl)
  · exact fe_ret ⟨0, _, _, ⟨hXc4, hSc4, Or.inr ⟨rfl, (sp_m T n (sp_n T n p), sp_s T n (sp_n T n p)), hmc4, fun c' => by rw [show tl_tk T n A 19 p c' = sp_walk T n A (sp_n T n p) (fun _ => c' (sp_n T n (sp_n T n p))) from rfl, sp_walk_f hwc4]⟩⟩, rfl⟩ (by rfl) (by rfl) (by rfl)
theorem mt_testN {y : Int32} (hS : mTS T n A N a0 a b) (h : mo g T n p) (hmw : sp_mw T n p = y) (y8 : ¬ y = 8) (y10 : ¬ y = 10) (y22 : ¬ y = 22) : ∃ (v : Int32) (g' : Nat → Int32) (a' : Nat → Nat → Int32), fr_T 8 249 [.ref 0, .int (nI r)] (fm g tp bt a b) (some (.int v)) (fm g' tp bt a' b) ∧ fm_tx8 g g' ∧ mTS T n A N a0 a' b ∧ v = 0 ∧ mf g' (sp_m T n p) (sp_s T n p) := by
  suffices h : ∃ (v : Option Value) (mem' : fx_M), (fun R => ∃ (v : Int32) (g' : Nat → Int32) (a' : Nat → Nat → Int32), (fm_tx8 g g' ∧ mTS T n A N a0 a' b ∧ v = 0 ∧ mf g' (sp_m T n p) (sp_s T n p)) ∧ R = (some (.int v), fm g' tp bt a' b)) (v, mem') ∧ fr_T 8 249 [.ref 0, .int (nI r)] (fm g tp bt a b) v mem' by
    obtain ⟨v, mem', ⟨w, g', a', h1, hR⟩, h2⟩ := h
    cases hR
    exact ⟨w, g', a', h2, h1⟩
  refine fe_meth (f := 249) (as := [.ref 0, .int (nI r)]) (F := fun R => ∃ (v : Int32) (g' : Nat → Int32) (a' : Nat → Nat → Int32), (fm_tx8 g g' ∧ mTS T n A N a0 a' b ∧ v = 0 ∧ mf g' (sp_m T n p) (sp_s T n p)) ∧ R = (some (.int v), fm g' tp bt a' b)) (M := gk_m249) (by rfl) (by rfl) ?_
  refine fe_s 2 (pc' := 3) (lc' := [(0, .ref 0), (1, .int (nI r))]) (stk' := [.ref 22, .ref 0]) (mem' := fm g tp bt a b) (by intro _ _ _; eq_refl) ?_
  refine fe_ivV (mr_inWords (tp := tp) (bt := bt) (b := b) hS.1 h.1 h.2.1) (by omega) (by rfl) (by rfl) (by rfl) (by rfl) (by rfl) (by rfl) ?_
  rw [hmw]
  refine fe_s 3 (pc' := 10) (lc' := [(2, .int y), (0, .ref 0), (1, .int (nI r))]) (stk' := [.int 8, .int y]) (mem' := fm g tp bt a b) (by intro _ _ _; eq_refl) ?_
  refine fe_s 1 (pc' := cond (fx_cb .eq y 8) 31 13) (lc' := [(2, .int y), (0, .ref 0), (1, .int (nI r))]) (stk' := []) (mem' := fm g tp bt a b) (by intro _ _ _; eq_refl) ?_
  rw [show (fx_cb .eq y 8) = false from decide_eq_false y8]
  dsimp only [cond]
  refine fe_s 2 (pc' := 16) (lc' := [(2, .int y), (0, .ref 0), (1, .int (nI r))]) (stk' := [.int 10, .int y]) (mem' := fm g tp bt a b) (by intro _ _ _; eq_refl) ?_
  refine fe_s 1 (pc' := cond (fx_cb .eq y 10) 31 19) (lc' := [(2, .int y), (0, .ref 0), (1, .int (nI r))]) (stk' := []) (mem' := fm g tp bt a b) (by intro _ _ _; eq_refl) ?_
  rw [show (fx_cb .eq y 10) = false from decide_eq_false y10]
  dsimp only [cond]
  refine fe_s 2 (pc' := 22) (lc' := [(2, .int y), (0, .ref 0), (1, .int (nI r))]) (stk' := [.int 22, .int y]) (mem' := fm g tp bt a b) (by intro _ _ _; eq_refl) ?_
  refine fe_s 1 (pc' := cond (fx_cb .eq y 22) 31 25) (lc' := [(2, .int y), (0, .ref 0), (1, .int (nI r))]) (stk' := []) (mem' := fm g tp bt a b) (by intro _ _ _; eq_refl) ?_
  rw [show (fx_cb .eq y 22) = false from decide_eq_false y22]
  dsimp only [cond]
  refine fe_s 2 (pc' := 27) (lc' := [(2, .int y), (0, .ref 0), (1, .int (nI r))]) (stk' := [.int 2, .ref 0]) (mem' := fm g tp bt a b) (by intro _ _ _; eq_refl) ?_
  obtain ⟨gc2, hrc2, txc2, hmc2⟩ := mr_fails2 (tp := tp) (bt := bt) (a := a) (b := b) h
  refine fe_ivV hrc2 (by omega) (by rfl) (by rfl) (by rfl) (by rfl) (by rfl) (by rfl) ?_
  have hXc2 := fm_tx8_tr fm_tx8_rf txc2
  exact fe_ret ⟨0, _, _, ⟨hXc2, hS, rfl, hmc2⟩, rfl⟩ (by rfl) (by rfl) (by rfl)
theorem mt_test (hS : mTS T n A N a0 a b) (h : mo g T n p) (hr1 : 3375 ≤ r ∧ r + 5 < 4210) : ∃ (v : Int32) (g' : Nat → Int32) (a' : Nat → Nat → Int32), fr_T 8 249 [.ref 0, .int (nI r)] (fm g tp bt a b) (some (.int v)) (fm g' tp bt a' b) ∧ fm_tx8 g g' ∧ mTS T n A N a0 a' b ∧ mOut (tl_test T n A p) v g' T n := by
  by_cases e1 : sp_k T n p = 1 ∧ sp_kw (sp_wd T n p) = 1
  · have ht : ∀ c', tl_test T n A p c' = tl_tk T n A 1 p c' := fun c' => (if_pos e1.1).trans (by rw [e1.2])
    obtain ⟨v, g', a', hr, k1, k2, k3⟩ := mt_test1 (tp := tp) (bt := bt) hS h hr1 e1.1 ((sp_mw_eq (m := 8) (c := 1) (by decide) (by decide) (by decide)).mpr e1)
    refine ⟨v, g', a', hr, k1, k2, ?_⟩
    rcases k3 with ⟨q1, q, q2, q3⟩ | ⟨q1, z, q2, q3⟩
    · exact Or.inl ⟨q1, q, q2, fun c' => (ht c').trans (q3 c')⟩
    · exact Or.inr ⟨q1, z, q2, fun c' => (ht c').trans (q3 c')⟩
  by_cases e7 : sp_k T n p = 1 ∧ sp_kw (sp_wd T n p) = 7
  · have ht : ∀ c', tl_test T n A p c' = tl_tk T n A 7 p c' := fun c' => (if_pos e7.1).trans (by rw [e7.2])
    obtain ⟨v, g', a', hr, k1, k2, k3⟩ := mt_test7 (tp := tp) (bt := bt) hS h hr1 e7.1 ((sp_mw_eq (m := 10) (c := 7) (by decide) (by decide) (by decide)).mpr e7)
    refine ⟨v, g', a', hr, k1, k2, ?_⟩
    rcases k3 with ⟨q1, q, q2, q3⟩ | ⟨q1, z, q2, q3⟩
    · exact Or.inl ⟨q1, q, q2, fun c' => (ht c').trans (q3 c')⟩
    · exact Or.inr ⟨q1, z, q2, fun c' => (ht c').trans (q3 c')⟩
  by_cases e19 : sp_k T n p = 1 ∧ sp_kw (sp_wd T n p) = 19
  · have ht : ∀ c', tl_test T n A p c' = tl_tk T n A 19 p c' := fun c' => (if_pos e19.1).trans (by rw [e19.2])
    obtain ⟨v, g', a', hr, k1, k2, k3⟩ := mt_test19 (tp := tp) (bt := bt) hS h hr1 e19.1 ((sp_mw_eq (m := 22) (c := 19) (by decide) (by decide) (by decide)).mpr e19)
    refine ⟨v, g', a', hr, k1, k2, ?_⟩
    rcases k3 with ⟨q1, q, q2, q3⟩ | ⟨q1, z, q2, q3⟩
    · exact Or.inl ⟨q1, q, q2, fun c' => (ht c').trans (q3 c')⟩
    · exact Or.inr ⟨q1, z, q2, fun c' => (ht c').trans (q3 c')⟩
  have hm : ∀ c', tl_test T n A p c' = .inl (sp_m T n p, sp_s T n p) := fun c' => by
    unfold tl_test
    by_cases hk : sp_k T n p = 1
    · rw [if_pos hk]
      have f1 : ¬ sp_kw (sp_wd T n p) = 1 := fun z => e1 ⟨hk, z⟩
      have f7 : ¬ sp_kw (sp_wd T n p) = 7 := fun z => e7 ⟨hk, z⟩
      have f19 : ¬ sp_kw (sp_wd T n p) = 19 := fun z => e19 ⟨hk, z⟩
      generalize sp_kw (sp_wd T n p) = k at f1 f7 f19
      unfold tl_tk
      split
      · exact absurd rfl f1
      · exact absurd rfl f7
      · exact absurd rfl f19
      · rfl
    · rw [if_neg hk]; rfl
  obtain ⟨v, g', a', hr, k1, k2, k3, k4⟩ := mt_testN (tp := tp) (bt := bt) (r := r) hS h rfl (fun z => e1 ((sp_mw_eq (m := 8) (c := 1) (by decide) (by decide) (by decide)).mp z)) (fun z => e7 ((sp_mw_eq (m := 10) (c := 7) (by decide) (by decide) (by decide)).mp z)) (fun z => e19 ((sp_mw_eq (m := 22) (c := 19) (by decide) (by decide) (by decide)).mp z))
  exact ⟨v, g', a', hr, k1, k2, Or.inr ⟨k3, _, k4, hm⟩⟩
theorem mt_ord11 (hS : mTS T n A N a0 a b) (h : mo g T n p) (hr1 : 3375 ≤ r ∧ r + 5 < 4210) : ∃ (v : Int32) (g' : Nat → Int32) (a' : Nat → Nat → Int32), fr_T 9 250 [.ref 0, .int 11, .int (nI r)] (fm g tp bt a b) (some (.int v)) (fm g' tp bt a' b) ∧ fm_tx8 g g' ∧ mTS T n A N a0 a' b ∧ mOut (tl_rest T n A 11 p) v g' T n := by
  suffices h : ∃ (v : Option Value) (mem' : fx_M), (fun R => ∃ (v : Int32) (g' : Nat → Int32) (a' : Nat → Nat → Int32), (fm_tx8 g g' ∧ mTS T n A N a0 a' b ∧ mOut (tl_rest T n A 11 p) v g' T n) ∧ R = (some (.int v), fm g' tp bt a' b)) (v, mem') ∧ fr_T 9 250 [.ref 0, .int 11, .int (nI r)] (fm g tp bt a b) v mem' by
    obtain ⟨v, mem', ⟨w, g', a', h1, hR⟩, h2⟩ := h
    cases hR
    exact ⟨w, g', a', h2, h1⟩
  refine fe_meth (f := 250) (as := [.ref 0, .int 11, .int (nI r)]) (F := fun R => ∃ (v : Int32) (g' : Nat → Int32) (a' : Nat → Nat → Int32), (fm_tx8 g g' ∧ mTS T n A N a0 a' b ∧ mOut (tl_rest T n A 11 p) v g' T n) ∧ R = (some (.int v), fm g' tp bt a' b)) (M := gk_m250) (by rfl) (by rfl) ?_
  refine fe_s 2 (pc' := 52) (lc' := [(0, .ref 0), (1, .int 11), (2, .int (nI r))]) (stk' := []) (mem' := fm g tp bt a b) (by intro _ _ _; eq_refl) ?_
  refine fe_s 4 (pc' := 56) (lc' := [(0, .ref 0), (1, .int 11), (2, .int (nI r))]) (stk' := [.int ((nI r) + 1), .ref 0]) (mem' := fm g tp bt a b) (by intro _ _ _; eq_refl) ?_
  rw [show ((nI r) + 1 : Int32) = nI (r + 1) from by simp only [show (1 : Int32) = nI 1 from rfl, nI_add, fm_mul]]
  obtain ⟨xc1, gc1, ac1, hrc1, txc1, hSc1, hxc1⟩ := mr_toW (tp := tp) (bt := bt) (t := r + 1) hS h (by omega)
  refine fe_ivV hrc1 (by omega) (by rfl) (by rfl) (by rfl) (by rfl) (by rfl) (by rfl) ?_
  have hXc1 := fm_tx8_tr fm_tx8_rf txc1
  rcases hxc1 with ⟨hwc1, hvc1, rfl, hmc1⟩ | ⟨hwc1, hvc1, rfl, hmc1⟩ | ⟨hwc1, rfl, hmc1⟩
  · refine fe_s 1 (pc' := cond (fx_cb .eq 1 0) 87 62) (lc' := [(0, .ref 0), (1, .int 11), (2, .int (nI r))]) (stk' := []) (mem' := fm gc1 tp bt ac1 b) (by intro _ _ _; eq_refl) ?_
    rw [show (fx_cb .eq 1 0) = false from by decide]
    dsimp only [cond]
    refine fe_s 3 (pc' := 67) (lc' := [(0, .ref 0), (1, .int 11), (2, .int (nI r))]) (stk' := [.int 16, .ref 22, .ref 0]) (mem' := fm gc1 tp bt ac1 b) (by intro _ _ _; eq_refl) ?_
    obtain ⟨xc2, gc2, hrc2, txc2, hxc2⟩ := mr_wantWord (m := 16) (c := 12) (tp := tp) (bt := bt) (b := b) hSc1.1 (by decide) (by decide) (by decide) hmc1
    refine fe_ivV hrc2 (by omega) (by rfl) (by rfl) (by rfl) (by rfl) (by rfl) (by rfl) ?_
    have hXc2 := fm_tx8_tr hXc1 txc2
    rcases hxc2 with ⟨hwc2, rfl, hmc2⟩ | ⟨hwc2, rfl, hmc2⟩
    · refine fe_s 1 (pc' := cond (fx_cb .eq 1 0) 87 73) (lc' := [(0, .ref 0), (1, .int 11), (2, .int (nI r))]) (stk' := []) (mem' := fm gc2 tp bt ac1 b) (by intro _ _ _; eq_refl) ?_
      rw [show (fx_cb .eq 1 0) = false from by decide]
      dsimp only [cond]
      refine fe_s 4 (pc' := 77) (lc' := [(0, .ref 0), (1, .int 11), (2, .int (nI r))]) (stk' := [.int ((nI r) + 2), .ref 0]) (mem' := fm gc2 tp bt ac1 b) (by intro _ _ _; eq_refl) ?_
      rw [show ((nI r) + 2 : Int32) = nI (r + 2) from by simp only [show (2 : Int32) = nI 2 from rfl, nI_add, fm_mul]]
      obtain ⟨xc3, gc3, ac3, hrc3, txc3, hSc3, hxc3⟩ := mr_toC (tp := tp) (bt := bt) (t := r + 2) hSc1 hmc2 (by omega)
      refine fe_ivV hrc3 (by omega) (by rfl) (by rfl) (by rfl) (by rfl) (by rfl) (by rfl) ?_
      have hXc3 := fm_tx8_tr hXc2 txc3
      rcases hxc3 with ⟨hwc3, hvc3, rfl, hmc3⟩ | ⟨hwc3, hvc3, rfl, hmc3⟩ | ⟨hwc3, rfl, hmc3⟩
      · refine fe_s 1 (pc' := cond (fx_cb .eq 1 0) 87 83) (lc' := [(0, .ref 0), (1, .int 11), (2, .int (nI r))]) (stk' := []) (mem' := fm gc3 tp bt ac3 b) (by intro _ _ _; eq_refl) ?_
        rw [show (fx_cb .eq 1 0) = false from by decide]
        dsimp only [cond]
        refine fe_s 2 (pc' := 88) (lc' := [(0, .ref 0), (1, .int 11), (2, .int (nI r))]) (stk' := [.int 1]) (mem' := fm gc3 tp bt ac3 b) (by intro _ _ _; eq_refl) ?_
        exact fe_ret ⟨1, _, _, ⟨hXc3, hSc3, Or.inl ⟨rfl, _, hmc3, fun c' => by rw [show tl_rest T n A 11 p c' = sp_walk T n A p (fun _ => sp_word T n 12 (sp_n T n p) (fun q => sp_cell T n A q (fun _ => c' (sp_n T n q)))) from rfl, sp_walk_t hwc1 hvc1, sp_word_t hwc2, sp_cell_t hwc3 hvc3]⟩⟩, rfl⟩ (by rfl) (by rfl) (by rfl)
      · refine fe_s 1 (pc' := cond (fx_cb .eq 0 0) 87 83) (lc' := [(0, .ref 0), (1, .int 11), (2, .int (nI r))]) (stk' := []) (mem' := fm gc3 tp bt ac3 b) (by intro _ _ _; eq_refl) ?_
        rw [show (fx_cb .eq 0 0) = true from by decide]
        dsimp only [cond]
        refine fe_s 1 (pc' := 88) (lc' := [(0, .ref 0), (1, .int 11), (2, .int (nI r))]) (stk' := [.int 0]) (mem' := fm gc3 tp bt ac3 b) (by intro _ _ _; eq_refl) ?_
        exact fe_ret ⟨0, _, _, ⟨hXc3, hSc3, Or.inr ⟨rfl, (3, sp_s T n (sp_n T n (sp_n T n p))), hmc3, fun c' => by rw [show tl_rest T n A 11 p c' = sp_walk T n A p (fun _ => sp_word T n 12 (sp_n T n p) (fun q => sp_cell T n A q (fun _ => c' (sp_n T n q)))) from rfl, sp_walk_t hwc1 hvc1, sp_word_t hwc2, sp_cell_3 hwc3 hvc3]⟩⟩, rfl⟩ (by rfl) (by rfl) (by rfl)
      · refine fe_s 1 (pc' := cond (fx_cb .eq 0 0) 87 83) (lc' := [(0, .ref 0), (1, .int 11), (2, .int (nI r))]) (stk' := []) (mem' := fm gc3 tp bt ac3 b) (by intro _ _ _; eq_refl) ?_
        rw [show (fx_cb .eq 0 0) = true from by decide]
        dsimp only [cond]
        refine fe_s 1 (pc' := 88) (lc' := [(0, .ref 0), (1, .int 11), (2, .int (nI r))]) (stk' := [.int 0]) (mem' := fm gc3 tp bt ac3 b) (by intro _ _ _; eq_refl) ?_
        exact fe_ret ⟨0, _, _, ⟨hXc3, hSc3, Or.inr ⟨rfl, (sp_m T n (sp_n T n (sp_n T n p)), sp_s T n (sp_n T n (sp_n T n p))), hmc3, fun c' => by rw [show tl_rest T n A 11 p c' = sp_walk T n A p (fun _ => sp_word T n 12 (sp_n T n p) (fun q => sp_cell T n A q (fun _ => c' (sp_n T n q)))) from rfl, sp_walk_t hwc1 hvc1, sp_word_t hwc2, sp_cell_f hwc3]⟩⟩, rfl⟩ (by rfl) (by rfl) (by rfl)
    · refine fe_s 1 (pc' := cond (fx_cb .eq 0 0) 87 73) (lc' := [(0, .ref 0), (1, .int 11), (2, .int (nI r))]) (stk' := []) (mem' := fm gc2 tp bt ac1 b) (by intro _ _ _; eq_refl) ?_
      rw [show (fx_cb .eq 0 0) = true from by decide]
      dsimp only [cond]
      refine fe_s 1 (pc' := 88) (lc' := [(0, .ref 0), (1, .int 11), (2, .int (nI r))]) (stk' := [.int 0]) (mem' := fm gc2 tp bt ac1 b) (by intro _ _ _; eq_refl) ?_
      exact fe_ret ⟨0, _, _, ⟨hXc2, hSc1, Or.inr ⟨rfl, (sp_m T n (sp_n T n p), sp_s T n (sp_n T n p)), hmc2, fun c' => by rw [show tl_rest T n A 11 p c' = sp_walk T n A p (fun _ => sp_word T n 12 (sp_n T n p) (fun q => sp_cell T n A q (fun _ => c' (sp_n T n q)))) from rfl, sp_walk_t hwc1 hvc1, sp_word_f hwc2]⟩⟩, rfl⟩ (by rfl) (by rfl) (by rfl)
  · refine fe_s 1 (pc' := cond (fx_cb .eq 0 0) 87 62) (lc' := [(0, .ref 0), (1, .int 11), (2, .int (nI r))]) (stk' := []) (mem' := fm gc1 tp bt ac1 b) (by intro _ _ _; eq_refl) ?_
    rw [show (fx_cb .eq 0 0) = true from by decide]
    dsimp only [cond]
    refine fe_s 1 (pc' := 88) (lc' := [(0, .ref 0), (1, .int 11), (2, .int (nI r))]) (stk' := [.int 0]) (mem' := fm gc1 tp bt ac1 b) (by intro _ _ _; eq_refl) ?_
    exact fe_ret ⟨0, _, _, ⟨hXc1, hSc1, Or.inr ⟨rfl, (3, sp_s T n p), hmc1, fun c' => by rw [show tl_rest T n A 11 p c' = sp_walk T n A p (fun _ => sp_word T n 12 (sp_n T n p) (fun q => sp_cell T n A q (fun _ => c' (sp_n T n q)))) from rfl, sp_walk_3 hwc1 hvc1]⟩⟩, rfl⟩ (by rfl) (by rfl) (by rfl)
  · refine fe_s 1 (pc' := cond (fx_cb .eq 0 0) 87 62) (lc' := [(0, .ref 0), (1, .int 11), (2, .int (nI r))]) (stk' := []) (mem' := fm gc1 tp bt ac1 b) (by intro _ _ _; eq_refl) ?_
    rw [show (fx_cb .eq 0 0) = true from by decide]
    dsimp only [cond]
    refine fe_s 1 (pc' := 88) (lc' := [(0, .ref 0), (1, .int 11), (2, .int (nI r))]) (stk' := [.int 0]) (mem' := fm gc1 tp bt ac1 b) (by intro _ _ _; eq_refl) ?_
    exact fe_ret ⟨0, _, _, ⟨hXc1, hSc1, Or.inr ⟨rfl, (sp_m T n p, sp_s T n p), hmc1, fun c' => by rw [show tl_rest T n A 11 p c' = sp_walk T n A p (fun _ => sp_word T n 12 (sp_n T n p) (fun q => sp_cell T n A q (fun _ => c' (sp_n T n q)))) from rfl, sp_walk_f hwc1]⟩⟩, rfl⟩ (by rfl) (by rfl) (by rfl)
theorem mt_ord13 (hS : mTS T n A N a0 a b) (h : mo g T n p) (hr1 : 3375 ≤ r ∧ r + 5 < 4210) : ∃ (v : Int32) (g' : Nat → Int32) (a' : Nat → Nat → Int32), fr_T 9 250 [.ref 0, .int 12, .int (nI r)] (fm g tp bt a b) (some (.int v)) (fm g' tp bt a' b) ∧ fm_tx8 g g' ∧ mTS T n A N a0 a' b ∧ mOut (tl_rest T n A 13 p) v g' T n := by
  suffices h : ∃ (v : Option Value) (mem' : fx_M), (fun R => ∃ (v : Int32) (g' : Nat → Int32) (a' : Nat → Nat → Int32), (fm_tx8 g g' ∧ mTS T n A N a0 a' b ∧ mOut (tl_rest T n A 13 p) v g' T n) ∧ R = (some (.int v), fm g' tp bt a' b)) (v, mem') ∧ fr_T 9 250 [.ref 0, .int 12, .int (nI r)] (fm g tp bt a b) v mem' by
    obtain ⟨v, mem', ⟨w, g', a', h1, hR⟩, h2⟩ := h
    cases hR
    exact ⟨w, g', a', h2, h1⟩
  refine fe_meth (f := 250) (as := [.ref 0, .int 12, .int (nI r)]) (F := fun R => ∃ (v : Int32) (g' : Nat → Int32) (a' : Nat → Nat → Int32), (fm_tx8 g g' ∧ mTS T n A N a0 a' b ∧ mOut (tl_rest T n A 13 p) v g' T n) ∧ R = (some (.int v), fm g' tp bt a' b)) (M := gk_m250) (by rfl) (by rfl) ?_
  refine fe_s 2 (pc' := 89) (lc' := [(0, .ref 0), (1, .int 12), (2, .int (nI r))]) (stk' := []) (mem' := fm g tp bt a b) (by intro _ _ _; eq_refl) ?_
  refine fe_s 6 (pc' := 96) (lc' := [(0, .ref 0), (1, .int 12), (2, .int (nI r))]) (stk' := [.int 20, .int 1, .int ((nI r) + 1), .ref 0]) (mem' := fm g tp bt a b) (by intro _ _ _; eq_refl) ?_
  rw [show ((nI r) + 1 : Int32) = nI (r + 1) from by simp only [show (1 : Int32) = nI 1 from rfl, nI_add, fm_mul]]
  obtain ⟨xc1, gc1, ac1, hrc1, txc1, hSc1, hxc1⟩ := mr_numS (tp := tp) (bt := bt) (t := r + 1) (lo := 1) (hi := 20) hS h (by omega) (by decide) (by decide)
  refine fe_ivV hrc1 (by omega) (by rfl) (by rfl) (by rfl) (by rfl) (by rfl) (by rfl) ?_
  have hXc1 := fm_tx8_tr fm_tx8_rf txc1
  rcases hxc1 with ⟨hwc1, hvc1, rfl, hmc1⟩ | ⟨hwc1, hvc1, rfl, hmc1⟩ | ⟨hwc1, rfl, hmc1⟩
  · exact fe_ret ⟨1, _, _, ⟨hXc1, hSc1, Or.inl ⟨rfl, _, hmc1, fun c' => by rw [show tl_rest T n A 13 p c' = sp_num T n 1 20 p c' from rfl, sp_num_t hwc1 hvc1]⟩⟩, rfl⟩ (by rfl) (by rfl) (by rfl)
  · exact fe_ret ⟨0, _, _, ⟨hXc1, hSc1, Or.inr ⟨rfl, (4, sp_s T n p), hmc1, fun c' => by rw [show tl_rest T n A 13 p c' = sp_num T n 1 20 p c' from rfl, sp_num_4 hwc1 hvc1]⟩⟩, rfl⟩ (by rfl) (by rfl) (by rfl)
  · exact fe_ret ⟨0, _, _, ⟨hXc1, hSc1, Or.inr ⟨rfl, (sp_m T n p, sp_s T n p), hmc1, fun c' => by rw [show tl_rest T n A 13 p c' = sp_num T n 1 20 p c' from rfl, sp_num_f hwc1]⟩⟩, rfl⟩ (by rfl) (by rfl) (by rfl)
theorem mt_ord14 (hS : mTS T n A N a0 a b) (h : mo g T n p) (hr1 : 3375 ≤ r ∧ r + 5 < 4210) : ∃ (v : Int32) (g' : Nat → Int32) (a' : Nat → Nat → Int32), fr_T 9 250 [.ref 0, .int 13, .int (nI r)] (fm g tp bt a b) (some (.int v)) (fm g' tp bt a' b) ∧ fm_tx8 g g' ∧ mTS T n A N a0 a' b ∧ mOut (tl_rest T n A 14 p) v g' T n := by
  suffices h : ∃ (v : Option Value) (mem' : fx_M), (fun R => ∃ (v : Int32) (g' : Nat → Int32) (a' : Nat → Nat → Int32), (fm_tx8 g g' ∧ mTS T n A N a0 a' b ∧ mOut (tl_rest T n A 14 p) v g' T n) ∧ R = (some (.int v), fm g' tp bt a' b)) (v, mem') ∧ fr_T 9 250 [.ref 0, .int 13, .int (nI r)] (fm g tp bt a b) v mem' by
    obtain ⟨v, mem', ⟨w, g', a', h1, hR⟩, h2⟩ := h
    cases hR
    exact ⟨w, g', a', h2, h1⟩
  refine fe_meth (f := 250) (as := [.ref 0, .int 13, .int (nI r)]) (F := fun R => ∃ (v : Int32) (g' : Nat → Int32) (a' : Nat → Nat → Int32), (fm_tx8 g g' ∧ mTS T n A N a0 a' b ∧ mOut (tl_rest T n A 14 p) v g' T n) ∧ R = (some (.int v), fm g' tp bt a' b)) (M := gk_m250) (by rfl) (by rfl) ?_
  refine fe_s 2 (pc' := 89) (lc' := [(0, .ref 0), (1, .int 13), (2, .int (nI r))]) (stk' := []) (mem' := fm g tp bt a b) (by intro _ _ _; eq_refl) ?_
  refine fe_s 6 (pc' := 96) (lc' := [(0, .ref 0), (1, .int 13), (2, .int (nI r))]) (stk' := [.int 20, .int 1, .int ((nI r) + 1), .ref 0]) (mem' := fm g tp bt a b) (by intro _ _ _; eq_refl) ?_
  rw [show ((nI r) + 1 : Int32) = nI (r + 1) from by simp only [show (1 : Int32) = nI 1 from rfl, nI_add, fm_mul]]
  obtain ⟨xc1, gc1, ac1, hrc1, txc1, hSc1, hxc1⟩ := mr_numS (tp := tp) (bt := bt) (t := r + 1) (lo := 1) (hi := 20) hS h (by omega) (by decide) (by decide)
  refine fe_ivV hrc1 (by omega) (by rfl) (by rfl) (by rfl) (by rfl) (by rfl) (by rfl) ?_
  have hXc1 := fm_tx8_tr fm_tx8_rf txc1
  rcases hxc1 with ⟨hwc1, hvc1, rfl, hmc1⟩ | ⟨hwc1, hvc1, rfl, hmc1⟩ | ⟨hwc1, rfl, hmc1⟩
  · exact fe_ret ⟨1, _, _, ⟨hXc1, hSc1, Or.inl ⟨rfl, _, hmc1, fun c' => by rw [show tl_rest T n A 14 p c' = sp_num T n 1 20 p c' from rfl, sp_num_t hwc1 hvc1]⟩⟩, rfl⟩ (by rfl) (by rfl) (by rfl)
  · exact fe_ret ⟨0, _, _, ⟨hXc1, hSc1, Or.inr ⟨rfl, (4, sp_s T n p), hmc1, fun c' => by rw [show tl_rest T n A 14 p c' = sp_num T n 1 20 p c' from rfl, sp_num_4 hwc1 hvc1]⟩⟩, rfl⟩ (by rfl) (by rfl) (by rfl)
  · exact fe_ret ⟨0, _, _, ⟨hXc1, hSc1, Or.inr ⟨rfl, (sp_m T n p, sp_s T n p), hmc1, fun c' => by rw [show tl_rest T n A 14 p c' = sp_num T n 1 20 p c' from rfl, sp_num_f hwc1]⟩⟩, rfl⟩ (by rfl) (by rfl) (by rfl)
theorem mt_ord15 (hS : mTS T n A N a0 a b) (h : mo g T n p) (hr1 : 3375 ≤ r ∧ r + 5 < 4210) : ∃ (v : Int32) (g' : Nat → Int32) (a' : Nat → Nat → Int32), fr_T 9 250 [.ref 0, .int 14, .int (nI r)] (fm g tp bt a b) (some (.int v)) (fm g' tp bt a' b) ∧ fm_tx8 g g' ∧ mTS T n A N a0 a' b ∧ mOut (tl_rest T n A 15 p) v g' T n := by
  suffices h : ∃ (v : Option Value) (mem' : fx_M), (fun R => ∃ (v : Int32) (g' : Nat → Int32) (a' : Nat → Nat → Int32), (fm_tx8 g g' ∧ mTS T n A N a0 a' b ∧ mOut (tl_rest T n A 15 p) v g' T n) ∧ R = (some (.int v), fm g' tp bt a' b)) (v, mem') ∧ fr_T 9 250 [.ref 0, .int 14, .int (nI r)] (fm g tp bt a b) v mem' by
    obtain ⟨v, mem', ⟨w, g', a', h1, hR⟩, h2⟩ := h
    cases hR
    exact ⟨w, g', a', h2, h1⟩
  refine fe_meth (f := 250) (as := [.ref 0, .int 14, .int (nI r)]) (F := fun R => ∃ (v : Int32) (g' : Nat → Int32) (a' : Nat → Nat → Int32), (fm_tx8 g g' ∧ mTS T n A N a0 a' b ∧ mOut (tl_rest T n A 15 p) v g' T n) ∧ R = (some (.int v), fm g' tp bt a' b)) (M := gk_m250) (by rfl) (by rfl) ?_
  refine fe_s 2 (pc' := 89) (lc' := [(0, .ref 0), (1, .int 14), (2, .int (nI r))]) (stk' := []) (mem' := fm g tp bt a b) (by intro _ _ _; eq_refl) ?_
  refine fe_s 6 (pc' := 96) (lc' := [(0, .ref 0), (1, .int 14), (2, .int (nI r))]) (stk' := [.int 20, .int 1, .int ((nI r) + 1), .ref 0]) (mem' := fm g tp bt a b) (by intro _ _ _; eq_refl) ?_
  rw [show ((nI r) + 1 : Int32) = nI (r + 1) from by simp only [show (1 : Int32) = nI 1 from rfl, nI_add, fm_mul]]
  obtain ⟨xc1, gc1, ac1, hrc1, txc1, hSc1, hxc1⟩ := mr_numS (tp := tp) (bt := bt) (t := r + 1) (lo := 1) (hi := 20) hS h (by omega) (by decide) (by decide)
  refine fe_ivV hrc1 (by omega) (by rfl) (by rfl) (by rfl) (by rfl) (by rfl) (by rfl) ?_
  have hXc1 := fm_tx8_tr fm_tx8_rf txc1
  rcases hxc1 with ⟨hwc1, hvc1, rfl, hmc1⟩ | ⟨hwc1, hvc1, rfl, hmc1⟩ | ⟨hwc1, rfl, hmc1⟩
  · exact fe_ret ⟨1, _, _, ⟨hXc1, hSc1, Or.inl ⟨rfl, _, hmc1, fun c' => by rw [show tl_rest T n A 15 p c' = sp_num T n 1 20 p c' from rfl, sp_num_t hwc1 hvc1]⟩⟩, rfl⟩ (by rfl) (by rfl) (by rfl)
  · exact fe_ret ⟨0, _, _, ⟨hXc1, hSc1, Or.inr ⟨rfl, (4, sp_s T n p), hmc1, fun c' => by rw [show tl_rest T n A 15 p c' = sp_num T n 1 20 p c' from rfl, sp_num_4 hwc1 hvc1]⟩⟩, rfl⟩ (by rfl) (by rfl) (by rfl)
  · exact fe_ret ⟨0, _, _, ⟨hXc1, hSc1, Or.inr ⟨rfl, (sp_m T n p, sp_s T n p), hmc1, fun c' => by rw [show tl_rest T n A 15 p c' = sp_num T n 1 20 p c' from rfl, sp_num_f hwc1]⟩⟩, rfl⟩ (by rfl) (by rfl) (by rfl)
theorem mt_ord16 (hS : mTS T n A N a0 a b) (h : mo g T n p) (hr1 : 3375 ≤ r ∧ r + 5 < 4210) : ∃ (v : Int32) (g' : Nat → Int32) (a' : Nat → Nat → Int32), fr_T 9 250 [.ref 0, .int 15, .int (nI r)] (fm g tp bt a b) (some (.int v)) (fm g' tp bt a' b) ∧ fm_tx8 g g' ∧ mTS T n A N a0 a' b ∧ mOut (tl_rest T n A 16 p) v g' T n := by
  suffices h : ∃ (v : Option Value) (mem' : fx_M), (fun R => ∃ (v : Int32) (g' : Nat → Int32) (a' : Nat → Nat → Int32), (fm_tx8 g g' ∧ mTS T n A N a0 a' b ∧ mOut (tl_rest T n A 16 p) v g' T n) ∧ R = (some (.int v), fm g' tp bt a' b)) (v, mem') ∧ fr_T 9 250 [.ref 0, .int 15, .int (nI r)] (fm g tp bt a b) v mem' by
    obtain ⟨v, mem', ⟨w, g', a', h1, hR⟩, h2⟩ := h
    cases hR
    exact ⟨w, g', a', h2, h1⟩
  refine fe_meth (f := 250) (as := [.ref 0, .int 15, .int (nI r)]) (F := fun R => ∃ (v : Int32) (g' : Nat → Int32) (a' : Nat → Nat → Int32), (fm_tx8 g g' ∧ mTS T n A N a0 a' b ∧ mOut (tl_rest T n A 16 p) v g' T n) ∧ R = (some (.int v), fm g' tp bt a' b)) (M := gk_m250) (by rfl) (by rfl) ?_
  refine fe_s 2 (pc' := 117) (lc' := [(0, .ref 0), (1, .int 15), (2, .int (nI r))]) (stk' := []) (mem' := fm g tp bt a b) (by intro _ _ _; eq_refl) ?_
  refine fe_s 1 (pc' := 118) (lc' := [(0, .ref 0), (1, .int 15), (2, .int (nI r))]) (stk' := [.int 1]) (mem' := fm g tp bt a b) (by intro _ _ _; eq_refl) ?_
  exact fe_ret ⟨1, _, _, ⟨fm_tx8_rf, hS, Or.inl ⟨rfl, _, h, fun c' => by rfl⟩⟩, rfl⟩ (by rfl) (by rfl) (by rfl)
theorem mt_ord17 (hS : mTS T n A N a0 a b) (h : mo g T n p) (hr1 : 3375 ≤ r ∧ r + 5 < 4210) : ∃ (v : Int32) (g' : Nat → Int32) (a' : Nat → Nat → Int32), fr_T 9 250 [.ref 0, .int 18, .int (nI r)] (fm g tp bt a b) (some (.int v)) (fm g' tp bt a' b) ∧ fm_tx8 g g' ∧ mTS T n A N a0 a' b ∧ mOut (tl_rest T n A 17 p) v g' T n := by
  suffices h : ∃ (v : Option Value) (mem' : fx_M), (fun R => ∃ (v : Int32) (g' : Nat → Int32) (a' : Nat → Nat → Int32), (fm_tx8 g g' ∧ mTS T n A N a0 a' b ∧ mOut (tl_rest T n A 17 p) v g' T n) ∧ R = (some (.int v), fm g' tp bt a' b)) (v, mem') ∧ fr_T 9 250 [.ref 0, .int 18, .int (nI r)] (fm g tp bt a b) v mem' by
    obtain ⟨v, mem', ⟨w, g', a', h1, hR⟩, h2⟩ := h
    cases hR
    exact ⟨w, g', a', h2, h1⟩
  refine fe_meth (f := 250) (as := [.ref 0, .int 18, .int (nI r)]) (F := fun R => ∃ (v : Int32) (g' : Nat → Int32) (a' : Nat → Nat → Int32), (fm_tx8 g g' ∧ mTS T n A N a0 a' b ∧ mOut (tl_rest T n A 17 p) v g' T n) ∧ R = (some (.int v), fm g' tp bt a' b)) (M := gk_m250) (by rfl) (by rfl) ?_
  refine fe_s 2 (pc' := 100) (lc' := [(0, .ref 0), (1, .int 18), (2, .int (nI r))]) (stk' := []) (mem' := fm g tp bt a b) (by intro _ _ _; eq_refl) ?_
  refine fe_s 2 (pc' := 102) (lc' := [(0, .ref 0), (1, .int 18), (2, .int (nI r))]) (stk' := [.int (nI r), .ref 0]) (mem' := fm g tp bt a b) (by intro _ _ _; eq_refl) ?_
  obtain ⟨xc1, gc1, ac1, hrc1, txc1, hSc1, hxc1⟩ := mt_test (tp := tp) (bt := bt) hS h hr1
  refine fe_ivV hrc1 (by omega) (by rfl) (by rfl) (by rfl) (by rfl) (by rfl) (by rfl) ?_
  rcases hxc1 with ⟨rfl, k1⟩ | ⟨rfl, k1⟩
  · exact fe_ret ⟨1, _, _, ⟨txc1, hSc1, Or.inl ⟨rfl, k1⟩⟩, rfl⟩ (by rfl) (by rfl) (by rfl)
  · exact fe_ret ⟨0, _, _, ⟨txc1, hSc1, Or.inr ⟨rfl, k1⟩⟩, rfl⟩ (by rfl) (by rfl) (by rfl)
theorem mt_ord20 (hS : mTS T n A N a0 a b) (h : mo g T n p) (hr1 : 3375 ≤ r ∧ r + 5 < 4210) : ∃ (v : Int32) (g' : Nat → Int32) (a' : Nat → Nat → Int32), fr_T 9 250 [.ref 0, .int 19, .int (nI r)] (fm g tp bt a b) (some (.int v)) (fm g' tp bt a' b) ∧ fm_tx8 g g' ∧ mTS T n A N a0 a' b ∧ mOut (tl_rest T n A 20 p) v g' T n := by
  suffices h : ∃ (v : Option Value) (mem' : fx_M), (fun R => ∃ (v : Int32) (g' : Nat → Int32) (a' : Nat → Nat → Int32), (fm_tx8 g g' ∧ mTS T n A N a0 a' b ∧ mOut (tl_rest T n A 20 p) v g' T n) ∧ R = (some (.int v), fm g' tp bt a' b)) (v, mem') ∧ fr_T 9 250 [.ref 0, .int 19, .int (nI r)] (fm g tp bt a b) v mem' by
    obtain ⟨v, mem', ⟨w, g', a', h1, hR⟩, h2⟩ := h
    cases hR
    exact ⟨w, g', a', h2, h1⟩
  refine fe_meth (f := 250) (as := [.ref 0, .int 19, .int (nI r)]) (F := fun R => ∃ (v : Int32) (g' : Nat → Int32) (a' : Nat → Nat → Int32), (fm_tx8 g g' ∧ mTS T n A N a0 a' b ∧ mOut (tl_rest T n A 20 p) v g' T n) ∧ R = (some (.int v), fm g' tp bt a' b)) (M := gk_m250) (by rfl) (by rfl) ?_
  refine fe_s 2 (pc' := 106) (lc' := [(0, .ref 0), (1, .int 19), (2, .int (nI r))]) (stk' := []) (mem' := fm g tp bt a b) (by intro _ _ _; eq_refl) ?_
  refine fe_s 6 (pc' := 113) (lc' := [(0, .ref 0), (1, .int 19), (2, .int (nI r))]) (stk' := [.int 99, .int 1, .int ((nI r) + 1), .ref 0]) (mem' := fm g tp bt a b) (by intro _ _ _; eq_refl) ?_
  rw [show ((nI r) + 1 : Int32) = nI (r + 1) from by simp only [show (1 : Int32) = nI 1 from rfl, nI_add, fm_mul]]
  obtain ⟨xc1, gc1, ac1, hrc1, txc1, hSc1, hxc1⟩ := mr_numS (tp := tp) (bt := bt) (t := r + 1) (lo := 1) (hi := 99) hS h (by omega) (by decide) (by decide)
  refine fe_ivV hrc1 (by omega) (by rfl) (by rfl) (by rfl) (by rfl) (by rfl) (by rfl) ?_
  have hXc1 := fm_tx8_tr fm_tx8_rf txc1
  rcases hxc1 with ⟨hwc1, hvc1, rfl, hmc1⟩ | ⟨hwc1, hvc1, rfl, hmc1⟩ | ⟨hwc1, rfl, hmc1⟩
  · exact fe_ret ⟨1, _, _, ⟨hXc1, hSc1, Or.inl ⟨rfl, _, hmc1, fun c' => by rw [show tl_rest T n A 20 p c' = sp_num T n 1 99 p c' from rfl, sp_num_t hwc1 hvc1]⟩⟩, rfl⟩ (by rfl) (by rfl) (by rfl)
  · exact fe_ret ⟨0, _, _, ⟨hXc1, hSc1, Or.inr ⟨rfl, (4, sp_s T n p), hmc1, fun c' => by rw [show tl_rest T n A 20 p c' = sp_num T n 1 99 p c' from rfl, sp_num_4 hwc1 hvc1]⟩⟩, rfl⟩ (by rfl) (by rfl) (by rfl)
  · exact fe_ret ⟨0, _, _, ⟨hXc1, hSc1, Or.inr ⟨rfl, (sp_m T n p, sp_s T n p), hmc1, fun c' => by rw [show tl_rest T n A 20 p c' = sp_num T n 1 99 p c' from rfl, sp_num_f hwc1]⟩⟩, rfl⟩ (by rfl) (by rfl) (by rfl)
theorem mt_ord21 (hS : mTS T n A N a0 a b) (h : mo g T n p) (hr1 : 3375 ≤ r ∧ r + 5 < 4210) : ∃ (v : Int32) (g' : Nat → Int32) (a' : Nat → Nat → Int32), fr_T 9 250 [.ref 0, .int 20, .int (nI r)] (fm g tp bt a b) (some (.int v)) (fm g' tp bt a' b) ∧ fm_tx8 g g' ∧ mTS T n A N a0 a' b ∧ mOut (tl_rest T n A 21 p) v g' T n := by
  suffices h : ∃ (v : Option Value) (mem' : fx_M), (fun R => ∃ (v : Int32) (g' : Nat → Int32) (a' : Nat → Nat → Int32), (fm_tx8 g g' ∧ mTS T n A N a0 a' b ∧ mOut (tl_rest T n A 21 p) v g' T n) ∧ R = (some (.int v), fm g' tp bt a' b)) (v, mem') ∧ fr_T 9 250 [.ref 0, .int 20, .int (nI r)] (fm g tp bt a b) v mem' by
    obtain ⟨v, mem', ⟨w, g', a', h1, hR⟩, h2⟩ := h
    cases hR
    exact ⟨w, g', a', h2, h1⟩
  refine fe_meth (f := 250) (as := [.ref 0, .int 20, .int (nI r)]) (F := fun R => ∃ (v : Int32) (g' : Nat → Int32) (a' : Nat → Nat → Int32), (fm_tx8 g g' ∧ mTS T n A N a0 a' b ∧ mOut (tl_rest T n A 21 p) v g' T n) ∧ R = (some (.int v), fm g' tp bt a' b)) (M := gk_m250) (by rfl) (by rfl) ?_
  refine fe_s 2 (pc' := 117) (lc' := [(0, .ref 0), (1, .int 20), (2, .int (nI r))]) (stk' := []) (mem' := fm g tp bt a b) (by intro _ _ _; eq_refl) ?_
  refine fe_s 1 (pc' := 118) (lc' := [(0, .ref 0), (1, .int 20), (2, .int (nI r))]) (stk' := [.int 1]) (mem' := fm g tp bt a b) (by intro _ _ _; eq_refl) ?_
  exact fe_ret ⟨1, _, _, ⟨fm_tx8_rf, hS, Or.inl ⟨rfl, _, h, fun c' => by rfl⟩⟩, rfl⟩ (by rfl) (by rfl) (by rfl)
theorem mt_ord22 (hS : mTS T n A N a0 a b) (h : mo g T n p) (hr1 : 3375 ≤ r ∧ r + 5 < 4210) : ∃ (v : Int32) (g' : Nat → Int32) (a' : Nat → Nat → Int32), fr_T 9 250 [.ref 0, .int 21, .int (nI r)] (fm g tp bt a b) (some (.int v)) (fm g' tp bt a' b) ∧ fm_tx8 g g' ∧ mTS T n A N a0 a' b ∧ mOut (tl_rest T n A 22 p) v g' T n := by
  suffices h : ∃ (v : Option Value) (mem' : fx_M), (fun R => ∃ (v : Int32) (g' : Nat → Int32) (a' : Nat → Nat → Int32), (fm_tx8 g g' ∧ mTS T n A N a0 a' b ∧ mOut (tl_rest T n A 22 p) v g' T n) ∧ R = (some (.int v), fm g' tp bt a' b)) (v, mem') ∧ fr_T 9 250 [.ref 0, .int 21, .int (nI r)] (fm g tp bt a b) v mem' by
    obtain ⟨v, mem', ⟨w, g', a', h1, hR⟩, h2⟩ := h
    cases hR
    exact ⟨w, g', a', h2, h1⟩
  refine fe_meth (f := 250) (as := [.ref 0, .int 21, .int (nI r)]) (F := fun R => ∃ (v : Int32) (g' : Nat → Int32) (a' : Nat → Nat → Int32), (fm_tx8 g g' ∧ mTS T n A N a0 a' b ∧ mOut (tl_rest T n A 22 p) v g' T n) ∧ R = (some (.int v), fm g' tp bt a' b)) (M := gk_m250) (by rfl) (by rfl) ?_
  refine fe_s 2 (pc' := 117) (lc' := [(0, .ref 0), (1, .int 21), (2, .int (nI r))]) (stk' := []) (mem' := fm g tp bt a b) (by intro _ _ _; eq_refl) ?_
  refine fe_s 1 (pc' := 118) (lc' := [(0, .ref 0), (1, .int 21), (2, .int (nI r))]) (stk' := [.int 1]) (mem' := fm g tp bt a b) (by intro _ _ _; eq_refl) ?_
  exact fe_ret ⟨1, _, _, ⟨fm_tx8_rf, hS, Or.inl ⟨rfl, _, h, fun c' => by rfl⟩⟩, rfl⟩ (by rfl) (by rfl) (by rfl)
end MTL
