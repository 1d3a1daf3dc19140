/-! ===== the class reads the text of TALES ===== -/
/-- only the rows of the TALES change -/
def tfr (a a' : Nat → Nat → Int32) : Prop := ∀ j, ¬ (61 ≤ j ∧ j ≤ 66) → a' j = a j
/-- only the reader's token, the TALES and what is open -/
def tfd (g : Nat → Nat → Int32) (l : Nat → Nat → Int64) (a : Nat → Nat → Int32) (g' : Nat → Nat → Int32) (l' : Nat → Nat → Int64) (a' : Nat → Nat → Int32) : Prop := ((∀ j, j ≠ 9 → j ≠ 13 → j ≠ 60 → g' j = g j) ∧ ∀ k, k < 4 → g' 9 k = g 9 k) ∧ (∀ j, j ≠ 9 → l' j = l j) ∧ ∀ j, j ≠ 14 → ¬ (61 ≤ j ∧ j ≤ 66) → a' j = a j
def opn (a : Nat → Nat → Int32) : Prop := ∀ i, i < 3 → 0 ≤ (a 14 i).toInt ∧ (a 14 i).toInt ≤ 29
/-- a reading by f went on, or failed -/
def tOut (f : (Nat → sp_R) → sp_R) (g : Nat → Nat → Int32) (l : Nat → Nat → Int64) (T : Nat → Nat) (n : Nat) : Prop := (∃ q, co g l T n q ∧ ∀ c, f c = c q) ∨ ∃ z : Int32 × Nat, cq g l T n z.1 z.2 ∧ ∀ c, f c = .inl z
def tSt (g : Nat → Nat → Int32) (a : Nat → Nat → Int32) (x : Nat) : Prop := x / 4 ≤ 30 ∧ g 60 6 = nI (x / 4) ∧ g 13 2 = nI (x % 4) ∧ opn a ∧ g 60 7 = 1
def tRes (g : Nat → Nat → Int32) (l : Nat → Nat → Int64) (a : Nat → Nat → Int32) (T : Nat → Nat) (n : Nat) (A : sp_A) : sp_R → Prop
  | .inl z => cq g l T n z.1 z.2
  | .inr z => z.1 = A ∧ co g l T n z.2.2 ∧ tSt g a z.2.1
section CTL
variable {g : Nat → Nat → Int32} {l : Nat → Nat → Int64} {a : Nat → Nat → Int32} {b : Nat → Nat → Int64} {R : fx_M} {T : Nat → Nat} {n p : Nat}
variable {F : Int32} {P : Nat} {A : sp_A} {c d : Nat}
theorem tfr_rf : tfr a a := fun _ _ => rfl
theorem cb_nv_ne {x y : Int32} (h : ¬ x = y) : fx_cb .ne x y = true := by
  show (!decide (x = y)) = true
  rw [decide_eq_false h]
  rfl
theorem tfr_u {a1 : Nat → Nat → Int32} {t i : Nat} {x : Int32} (h : tfr a a1) (ht : 61 ≤ t ∧ t ≤ 66) : tfr a (fm_u a1 t i x) := fun j hj => (fm_un (by omega)).trans (h j hj)
theorem ctx_t {t i : Nat} {x : Int32} (h : ctx a b T n) (ht : t ≠ 10) : ctx (fm_u a t i x) b T n := by
  have e : (fm_u a t i x) 10 = a 10 := fm_un (fun z => ht z.symm)
  exact ⟨h.1, by rw [e]; exact h.2.1, h.2.2⟩
theorem ctx_r {a1 : Nat → Nat → Int32} (h : ctx a b T n) (hf : tfr a a1) : ctx a1 b T n := by
  have e : a1 10 = a 10 := hf 10 (by decide)
  exact ⟨h.1, by rw [e]; exact h.2.1, h.2.2⟩
theorem tfd_rf : tfd g l a g l a := ⟨⟨fun _ _ _ _ => rfl, fun _ _ => rfl⟩, fun _ _ => rfl, fun _ _ _ => rfl⟩
section TFD
variable {g1 g2 a1 a2 : Nat → Nat → Int32} {l1 l2 : Nat → Nat → Int64}
theorem tfd_tr (h : tfd g l a g1 l1 a1) (h2 : tfd g1 l1 a1 g2 l2 a2) : tfd g l a g2 l2 a2 := ⟨⟨fun j p q r => (h2.1.1 j p q r).trans (h.1.1 j p q r), fun k hk => (h2.1.2 k hk).trans (h.1.2 k hk)⟩, fun j p => (h2.2.1 j p).trans (h.2.1 j p), fun j p q => (h2.2.2 j p q).trans (h.2.2 j p q)⟩
theorem tfd_c (h : cfr g l g1 l1) : tfd g l a g1 l1 a := ⟨⟨fun j p _ _ => h.1 j p, h.2.1⟩, h.2.2, fun _ _ _ => rfl⟩
theorem tfd_g {j k : Nat} {x : Int32} (hj : j = 13 ∨ j = 60) : tfd g l a (fm_u g j k x) l a := ⟨⟨fun i _ q r => fm_un (by omega), fun i _ => by rw [fm_un (by omega)]⟩, fun _ _ => rfl, fun _ _ _ => rfl⟩
theorem tfd_a {t i : Nat} {x : Int32} (ht : t = 14 ∨ 61 ≤ t ∧ t ≤ 66) : tfd g l a g l (fm_u a t i x) := ⟨⟨fun _ _ _ _ => rfl, fun _ _ => rfl⟩, fun _ _ => rfl, fun j p q => fm_un (by omega)⟩
theorem tfd_r (h : tfr a a1) : tfd g l a g l a1 := ⟨⟨fun _ _ _ _ => rfl, fun _ _ => rfl⟩, fun _ _ => rfl, fun j _ q => h j q⟩
theorem opn_r (h : opn a) (hf : tfr a a1) : opn a1 := fun i hi => by rw [hf 14 (by decide)]; exact h i hi
theorem opn_n {t i : Nat} {x : Int32} (h : opn a) (ht : t ≠ 14) : opn (fm_u a t i x) := fun j hj => by rw [fm_un (fun z => ht z.symm)]; exact h j hj
theorem opn_u {i c : Nat} (h : opn a) (hc : c < 30) : opn (fm_u a 14 i (nI c)) := fun j hj => by
  by_cases e : j = i
  · rw [e, fm_ue, nI_i32 (by omega)]; omega
  · rw [fm_uo e]; exact h j hj
theorem cn_15u {j k : Nat} {x : Int32} (h : cn_L 15 A g b) (h1 : j ≠ 15) (h2 : j ≠ 26) : cn_L 15 A (fm_u g j k x) b := ⟨(congrFun (fm_un (fun z => h1 z.symm)) 8).trans h.1, h.2.1, (congrFun (fm_un (fun z => h2 z.symm)) 7).trans h.2.2.1, h.2.2.2⟩
theorem co_t {j k : Nat} {x : Int32} (h : co g l T n p) (hj : j ≠ 9) : co (fm_u g j k x) l T n p := by
  have e : (fm_u g j k x) 9 = g 9 := fm_un (fun z => hj z.symm)
  exact ⟨h.1, ck_f h.2.1 (fun i _ => by rw [e]), by rw [e]; exact h.2.2.1, by rw [e]; exact h.2.2.2⟩
theorem cq_t {j k : Nat} {x : Int32} (h : cq g l T n F P) (hj : j ≠ 9) : cq (fm_u g j k x) l T n F P := by
  have e : (fm_u g j k x) 9 = g 9 := fm_un (fun z => hj z.symm)
  obtain ⟨p, h0, h1⟩ := h.2.1
  exact ⟨h.1, ⟨p, h0, ck_f h1 (fun i _ => by rw [e])⟩, by rw [e]; exact h.2.2.1, by rw [e]; exact h.2.2.2⟩
end TFD
theorem ha_tc0 (hg : ctx a b T n) (h : co g l T n p) : ∃ (v : Option Value) (mem' : fx_M), (fun R1 => ∃ (v : Int32) (g' : Nat → Nat → Int32) (l' : Nat → Nat → Int64), cfr g l g' l' ∧ ((sp_k T n p = 3 ∧ ¬ T (sp_s T n p) = 59 ∧ co g' l' T n (sp_n T n p)) ∨ ¬ (sp_k T n p = 3 ∧ ¬ T (sp_s T n p) = 59) ∧ cq g' l' T n (sp_m T n p) (sp_s T n p)) ∧ R1 = (some (.int v), cm g' l' a b R)) (v, mem') ∧ hr_T 4 125 [.ref 13] (cm g l a b R) v mem' := by
  refine he_meth (F := fun R1 => ∃ (v : Int32) (g' : Nat → Nat → Int32) (l' : Nat → Nat → Int64), cfr g l g' l' ∧ ((sp_k T n p = 3 ∧ ¬ T (sp_s T n p) = 59 ∧ co g' l' T n (sp_n T n p)) ∨ ¬ (sp_k T n p = 3 ∧ ¬ T (sp_s T n p) = 59) ∧ cq g' l' T n (sp_m T n p) (sp_s T n p)) ∧ R1 = (some (.int v), cm g' l' a b R)) (M := gk_m125) (by rfl) (by rfl) ?_
  obtain ⟨-, -, -, h6, -, -, -, h9⟩ := h.2.1
  have hk4 := sp_k4 (T := T) (n := n) (p := p)
  have hsg : sp_k T n p = 3 → T (sp_s T n p) < 128 := fun z => by
    rcases sp_cs (T := T) h.1 with h2 | h2 | h2 | h2 | h2
    · omega
    · omega
    · omega
    · have := sp_sg_i.mp h2.2.1; omega
    · omega
  by_cases hk : sp_k T n p = 3
  · have h6a : g 9 6 = 3 := h6.trans (by rw [hk]; rfl)
    have hsg1 := hsg hk
    refine he_s 8 (pc' := 16) (lc' := [(1, .int (g 9 9)), (0, .ref 13)]) (stk' := [.int 3, .int (g 9 6)]) (mem' := cm g l a b R) (by intro _ _ _; eq_refl) ?_
    try rw [(h9 hk)]
    try rw [h6a]
    refine he_s 1 (pc' := cond (fx_cb .ne 3 3) 25 19) (lc' := [(1, .int (nI (T (sp_s T n p)))), (0, .ref 13)]) (stk' := []) (mem' := cm g l a b R) (by intro _ _ _; eq_refl) ?_
    rw [show (fx_cb .ne 3 3) = false from by decide]
    dsimp only [cond]
    refine he_s 2 (pc' := 22) (lc' := [(1, .int (nI (T (sp_s T n p)))), (0, .ref 13)]) (stk' := [.int 59, .int (nI (T (sp_s T n p)))]) (mem' := cm g l a b R) (by intro _ _ _; eq_refl) ?_
    refine he_s 1 (pc' := cond (fx_cb .ne (nI (T (sp_s T n p))) 59) 34 25) (lc' := [(1, .int (nI (T (sp_s T n p)))), (0, .ref 13)]) (stk' := []) (mem' := cm g l a b R) (by intro _ _ _; eq_refl) ?_
    by_cases y1 : (T (sp_s T n p)) = 59
    · rw [show (fx_cb .ne (nI (T (sp_s T n p))) 59) = false from cb_neF (a := (T (sp_s T n p))) (b := 59) (by omega) (by omega) (by omega)]
      dsimp only [cond]
      refine he_s 2 (pc' := 29) (lc' := [(1, .int (nI (T (sp_s T n p)))), (0, .ref 13)]) (stk' := [.ref 9]) (mem' := cm g l a b R) (by intro _ _ _; eq_refl) ?_
      obtain ⟨gc2, hrc2, hmc2, frc2⟩ := ha_misfit (a := a) (b := b) (R := R) h
      refine he_ivV hrc2 (by omega) (by rfl) (by rfl) (by rfl) (by rfl) (by rfl) (by rfl) ?_
      have hfc2 := cfr_tr cfr_rf frc2
      refine he_s 1 (pc' := 33) (lc' := [(1, .int (nI (T (sp_s T n p)))), (0, .ref 13)]) (stk' := [.int (-1)]) (mem' := cm gc2 l a b R) (by intro _ _ _; eq_refl) ?_
      exact he_ret ⟨_, _, _, hfc2, Or.inr ⟨fun z => by omega, hmc2⟩, rfl⟩ (by rfl) (by rfl) (by rfl)
    · rw [show (fx_cb .ne (nI (T (sp_s T n p))) 59) = true from cb_neT (a := (T (sp_s T n p))) (b := 59) (by omega) (by omega) (by omega)]
      dsimp only [cond]
      refine he_s 2 (pc' := 38) (lc' := [(1, .int (nI (T (sp_s T n p)))), (0, .ref 13)]) (stk' := [.ref 9]) (mem' := cm g l a b R) (by intro _ _ _; eq_refl) ?_
      obtain ⟨gc3, lc3, hrc3, hmc3, frc3⟩ := ha_scano (R := R) hg h
      refine he_ivV hrc3 (by omega) (by rfl) (by rfl) (by rfl) (by rfl) (by rfl) (by rfl) ?_
      have hfc3 := cfr_tr cfr_rf frc3
      refine he_s 1 (pc' := 42) (lc' := [(1, .int (nI (T (sp_s T n p)))), (0, .ref 13)]) (stk' := [.int (nI (T (sp_s T n p)))]) (mem' := cm gc3 lc3 a b R) (by intro _ _ _; eq_refl) ?_
      exact he_ret ⟨_, _, _, hfc3, Or.inl ⟨by omega, by omega, hmc3⟩, rfl⟩ (by rfl) (by rfl) (by rfl)
  · refine he_s 8 (pc' := 16) (lc' := [(1, .int (g 9 9)), (0, .ref 13)]) (stk' := [.int 3, .int (g 9 6)]) (mem' := cm g l a b R) (by intro _ _ _; eq_refl) ?_
    try rw [h6]
    refine he_s 1 (pc' := cond (fx_cb .ne (nI (sp_k T n p)) 3) 25 19) (lc' := [(1, .int (g 9 9)), (0, .ref 13)]) (stk' := []) (mem' := cm g l a b R) (by intro _ _ _; eq_refl) ?_
    rw [show (fx_cb .ne (nI (sp_k T n p)) 3) = true from cb_neT (a := (sp_k T n p)) (b := 3) (by omega) (by omega) (by omega)]
    dsimp only [cond]
    refine he_s 2 (pc' := 29) (lc' := [(1, .int (g 9 9)), (0, .ref 13)]) (stk' := [.ref 9]) (mem' := cm g l a b R) (by intro _ _ _; eq_refl) ?_
    obtain ⟨gc4, hrc4, hmc4, frc4⟩ := ha_misfit (a := a) (b := b) (R := R) h
    refine he_ivV hrc4 (by omega) (by rfl) (by rfl) (by rfl) (by rfl) (by rfl) (by rfl) ?_
    have hfc4 := cfr_tr cfr_rf frc4
    refine he_s 1 (pc' := 33) (lc' := [(1, .int (g 9 9)), (0, .ref 13)]) (stk' := [.int (-1)]) (mem' := cm gc4 l a b R) (by intro _ _ _; eq_refl) ?_
    exact he_ret ⟨_, _, _, hfc4, Or.inr ⟨fun z => by omega, hmc4⟩, rfl⟩ (by rfl) (by rfl) (by rfl)
theorem ha_tcq0 (hg : ctx a b T n) (h : cq g l T n F P) : ∃ (v : Option Value) (mem' : fx_M), (fun R1 => ∃ (g' : Nat → Nat → Int32) (l' : Nat → Nat → Int64) (v : Int32), cfr g l g' l' ∧ cq g' l' T n F P ∧ R1 = (some (.int v), cm g' l' a b R)) (v, mem') ∧ hr_T 4 125 [.ref 13] (cm g l a b R) v mem' := by
  refine he_meth (F := fun R1 => ∃ (g' : Nat → Nat → Int32) (l' : Nat → Nat → Int64) (v : Int32), cfr g l g' l' ∧ cq g' l' T n F P ∧ R1 = (some (.int v), cm g' l' a b R)) (M := gk_m125) (by rfl) (by rfl) ?_
  refine he_s 8 (pc' := 16) (lc' := [(1, .int (g 9 9)), (0, .ref 13)]) (stk' := [.int 3, .int (g 9 6)]) (mem' := cm g l a b R) (by intro _ _ _; eq_refl) ?_
  refine he_s 1 (pc' := cond (fx_cb .ne (g 9 6) 3) 25 19) (lc' := [(1, .int (g 9 9)), (0, .ref 13)]) (stk' := []) (mem' := cm g l a b R) (by intro _ _ _; eq_refl) ?_
  cases y1 : fx_cb .ne (g 9 6) 3
  · refine he_s 2 (pc' := 22) (lc' := [(1, .int (g 9 9)), (0, .ref 13)]) (stk' := [.int 59, .int (g 9 9)]) (mem' := cm g l a b R) (by intro _ _ _; eq_refl) ?_
    refine he_s 1 (pc' := cond (fx_cb .ne (g 9 9) 59) 34 25) (lc' := [(1, .int (g 9 9)), (0, .ref 13)]) (stk' := []) (mem' := cm g l a b R) (by intro _ _ _; eq_refl) ?_
    cases y2 : fx_cb .ne (g 9 9) 59
    · refine he_s 2 (pc' := 29) (lc' := [(1, .int (g 9 9)), (0, .ref 13)]) (stk' := [.ref 9]) (mem' := cm g l a b R) (by intro _ _ _; eq_refl) ?_
      refine he_ivV (ha_misfitq (a := a) (b := b) (R := R) h) (by omega) (by rfl) (by rfl) (by rfl) (by rfl) (by rfl) (by rfl) ?_
      refine he_s 1 (pc' := 33) (lc' := [(1, .int (g 9 9)), (0, .ref 13)]) (stk' := [.int (-1)]) (mem' := cm g l a b R) (by intro _ _ _; eq_refl) ?_
      exact he_ret ⟨_, _, _, cfr_rf, h, rfl⟩ (by rfl) (by rfl) (by rfl)
    · refine he_s 2 (pc' := 38) (lc' := [(1, .int (g 9 9)), (0, .ref 13)]) (stk' := [.ref 9]) (mem' := cm g l a b R) (by intro _ _ _; eq_refl) ?_
      obtain ⟨gc4, lc4, hrc4, hmc4, frc4⟩ := ha_scanq (R := R) hg h
      refine he_ivV hrc4 (by omega) (by rfl) (by rfl) (by rfl) (by rfl) (by rfl) (by rfl) ?_
      have hfc4 := cfr_tr cfr_rf frc4
      refine he_s 1 (pc' := 42) (lc' := [(1, .int (g 9 9)), (0, .ref 13)]) (stk' := [.int (g 9 9)]) (mem' := cm gc4 lc4 a b R) (by intro _ _ _; eq_refl) ?_
      exact he_ret ⟨_, _, _, hfc4, hmc4, rfl⟩ (by rfl) (by rfl) (by rfl)
  · refine he_s 2 (pc' := 29) (lc' := [(1, .int (g 9 9)), (0, .ref 13)]) (stk' := [.ref 9]) (mem' := cm g l a b R) (by intro _ _ _; eq_refl) ?_
    refine he_ivV (ha_misfitq (a := a) (b := b) (R := R) h) (by omega) (by rfl) (by rfl) (by rfl) (by rfl) (by rfl) (by rfl) ?_
    refine he_s 1 (pc' := 33) (lc' := [(1, .int (g 9 9)), (0, .ref 13)]) (stk' := [.int (-1)]) (mem' := cm g l a b R) (by intro _ _ _; eq_refl) ?_
    exact he_ret ⟨_, _, _, cfr_rf, h, rfl⟩ (by rfl) (by rfl) (by rfl)
theorem ha_tt1 (hg : ctx a b T n) (hA : cn_L 15 A g b) (hO : opn a) (h : co g l T n p) (hc : c < 30) (hw : g 9 7 = 1) : ∃ (v : Option Value) (mem' : fx_M), (fun R1 => ∃ (g' : Nat → Nat → Int32) (l' : Nat → Nat → Int64) (a' : Nat → Nat → Int32), (cfr g l g' l' ∧ tfr a a') ∧ tOut (tl_tk T n A 1 p) g' l' T n ∧ R1 = (none, cm g' l' a' b R)) (v, mem') ∧ hr_T 5 124 [.ref 13, .ref 15, .ref 60, .int (nI c)] (cm g l a b R) v mem' := by
  refine he_meth (F := fun R1 => ∃ (g' : Nat → Nat → Int32) (l' : Nat → Nat → Int64) (a' : Nat → Nat → Int32), (cfr g l g' l' ∧ tfr a a') ∧ tOut (tl_tk T n A 1 p) g' l' T n ∧ R1 = (none, cm g' l' a' b R)) (M := gk_m124) (by rfl) (by rfl) ?_
  refine he_s 8 (pc' := 16) (lc' := [(4, .int (g 9 7)), (0, .ref 13), (1, .ref 15), (2, .ref 60), (3, .int (nI c))]) (stk' := [.int (g 9 7), .int (nI c), .ref 62]) (mem' := cm g l a b R) (by intro _ _ _; eq_refl) ?_
  try rw [hw]
  refine he_stI (mem' := cm g l (fm_u a 62 (nI c : Int32).toNatClampNeg 1) b R) (by rfl) (by rfl) (fx_inN (i := c) (by omega) (by omega)) cm_si62 ?_
  rw [show Int32.toNatClampNeg (nI c) = c from nI_clamp (by omega)]
  have hgs1 : ctx (fm_u a 62 c 1) b T n := ctx_t hg (by decide)
  have hTs1 : tfd g l a g l (fm_u a 62 c 1) := tfd_tr tfd_rf (tfd_a (by decide))
  have hOs1 : opn (fm_u a 62 c 1) := opn_n hO (by decide)
  have ras1 : tfr a (fm_u a 62 c 1) := tfr_u tfr_rf (by decide)
  refine he_s 2 (pc' := 20) (lc' := [(4, .int 1), (0, .ref 13), (1, .ref 15), (2, .ref 60), (3, .int (nI c))]) (stk' := [.int 1, .int 1]) (mem' := cm g l (fm_u a 62 c 1) b R) (by intro _ _ _; eq_refl) ?_
  refine he_s 1 (pc' := cond (fx_cb .eq 1 1) 45 23) (lc' := [(4, .int 1), (0, .ref 13), (1, .ref 15), (2, .ref 60), (3, .int (nI c))]) (stk' := []) (mem' := cm g l (fm_u a 62 c 1) b R) (by intro _ _ _; eq_refl) ?_
  rw [show (fx_cb .eq 1 1) = true from by decide]
  dsimp only [cond]
  refine he_s 2 (pc' := 49) (lc' := [(4, .int 1), (0, .ref 13), (1, .ref 15), (2, .ref 60), (3, .int (nI c))]) (stk' := [.ref 9]) (mem' := cm g l (fm_u a 62 c 1) b R) (by intro _ _ _; eq_refl) ?_
  obtain ⟨gc2, lc2, hrc2, hmc2, frc2⟩ := ha_scano (R := R) hgs1 h
  refine he_ivV hrc2 (by omega) (by rfl) (by rfl) (by rfl) (by rfl) (by rfl) (by rfl) ?_
  have hfc2 := cfr_tr cfr_rf frc2
  have hAc2 := cn_L_fr hA frc2 (by decide) (by decide)
  have hTc2 := tfd_tr hTs1 (tfd_c (a := (fm_u a 62 c 1)) frc2)
  refine he_s 5 (pc' := 60) (lc' := [(4, .int 1), (0, .ref 13), (1, .ref 15), (2, .ref 60), (3, .int (nI c))]) (stk' := [.int 1, .int 1, .int (nI c), .ref 63]) (mem' := cm gc2 lc2 (fm_u a 62 c 1) b R) (by intro _ _ _; eq_refl) ?_
  refine he_s 1 (pc' := cond (fx_cb .ne 1 1) 74 63) (lc' := [(4, .int 1), (0, .ref 13), (1, .ref 15), (2, .ref 60), (3, .int (nI c))]) (stk' := [.int (nI c), .ref 63]) (mem' := cm gc2 lc2 (fm_u a 62 c 1) b R) (by intro _ _ _; eq_refl) ?_
  rw [show (fx_cb .ne 1 1) = false from by decide]
  dsimp only [cond]
  refine he_s 3 (pc' := 68) (lc' := [(4, .int 1), (0, .ref 13), (1, .ref 15), (2, .ref 60), (3, .int (nI c))]) (stk' := [.ref 15, .ref 9, .int (nI c), .ref 63]) (mem' := cm gc2 lc2 (fm_u a 62 c 1) b R) (by intro _ _ _; eq_refl) ?_
  obtain ⟨vc3, memc3, ⟨xc3, gc3, frc3, hxc3, hRc3⟩, hrc3⟩ := ha_ch150 (R := R) hgs1 hAc2 hmc2
  cases hRc3
  refine he_ivV hrc3 (by omega) (by rfl) (by rfl) (by rfl) (by rfl) (by rfl) (by rfl) ?_
  have hfc3 := cfr_tr hfc2 frc3
  have hAc3 := cn_L_fr hAc2 frc3 (by decide) (by decide)
  have hTc3 := tfd_tr hTc2 (tfd_c (a := (fm_u a 62 c 1)) frc3)
  rcases hxc3 with ⟨hwc3, hvc3, rfl, hmc3⟩ | ⟨hwc3, hvc3, rfl, hmc3⟩ | ⟨hwc3, rfl, hmc3⟩
  · refine he_s 1 (pc' := 82) (lc' := [(4, .int 1), (0, .ref 13), (1, .ref 15), (2, .ref 60), (3, .int (nI c))]) (stk' := [.int (nI (sp_iC A.1.1 (sp_wd T n (sp_n T n p)))), .int (nI c), .ref 63]) (mem' := cm gc3 lc2 (fm_u a 62 c 1) b R) (by intro _ _ _; eq_refl) ?_
    refine he_stI (mem' := cm gc3 lc2 (fm_u (fm_u a 62 c 1) 63 (nI c : Int32).toNatClampNeg (nI (sp_iC A.1.1 (sp_wd T n (sp_n T n p))))) b R) (by rfl) (by rfl) (fx_inN (i := c) (by omega) (by omega)) cm_si63 ?_
    rw [show Int32.toNatClampNeg (nI c) = c from nI_clamp (by omega)]
    have hgs4 : ctx (fm_u (fm_u a 62 c 1) 63 c (nI (sp_iC A.1.1 (sp_wd T n (sp_n T n p))))) b T n := ctx_t hgs1 (by decide)
    have hTs4 : tfd g l a gc3 lc2 (fm_u (fm_u a 62 c 1) 63 c (nI (sp_iC A.1.1 (sp_wd T n (sp_n T n p))))) := tfd_tr hTc3 (tfd_a (by decide))
    have hOs4 : opn (fm_u (fm_u a 62 c 1) 63 c (nI (sp_iC A.1.1 (sp_wd T n (sp_n T n p))))) := opn_n hOs1 (by decide)
    have ras4 : tfr a (fm_u (fm_u a 62 c 1) 63 c (nI (sp_iC A.1.1 (sp_wd T n (sp_n T n p))))) := tfr_u ras1 (by decide)
    refine he_s 2 (pc' := 87) (lc' := [(4, .int 1), (0, .ref 13), (1, .ref 15), (2, .ref 60), (3, .int (nI c))]) (stk' := [.ref 9]) (mem' := cm gc3 lc2 (fm_u (fm_u a 62 c 1) 63 c (nI (sp_iC A.1.1 (sp_wd T n (sp_n T n p))))) b R) (by intro _ _ _; eq_refl) ?_
    obtain ⟨gc5, lc5, hrc5, hmc5, frc5⟩ := ha_scano (R := R) hgs4 hmc3
    refine he_ivV hrc5 (by omega) (by rfl) (by rfl) (by rfl) (by rfl) (by rfl) (by rfl) ?_
    have hfc5 := cfr_tr hfc3 frc5
    have hAc5 := cn_L_fr hAc3 frc5 (by decide) (by decide)
    have hTc5 := tfd_tr hTs4 (tfd_c (a := (fm_u (fm_u a 62 c 1) 63 c (nI (sp_iC A.1.1 (sp_wd T n (sp_n T n p)))))) frc5)
    refine he_s 2 (pc' := 93) (lc' := [(4, .int 1), (0, .ref 13), (1, .ref 15), (2, .ref 60), (3, .int (nI c))]) (stk' := [.int 1, .int 1]) (mem' := cm gc5 lc5 (fm_u (fm_u a 62 c 1) 63 c (nI (sp_iC A.1.1 (sp_wd T n (sp_n T n p))))) b R) (by intro _ _ _; eq_refl) ?_
    refine he_s 1 (pc' := cond (fx_cb .ne 1 1) 126 96) (lc' := [(4, .int 1), (0, .ref 13), (1, .ref 15), (2, .ref 60), (3, .int (nI c))]) (stk' := []) (mem' := cm gc5 lc5 (fm_u (fm_u a 62 c 1) 63 c (nI (sp_iC A.1.1 (sp_wd T n (sp_n T n p))))) b R) (by intro _ _ _; eq_refl) ?_
    rw [show (fx_cb .ne 1 1) = false from by decide]
    dsimp only [cond]
    refine he_s 4 (pc' := 102) (lc' := [(4, .int 1), (0, .ref 13), (1, .ref 15), (2, .ref 60), (3, .int (nI c))]) (stk' := [.ref 13, .int (nI c), .ref 64]) (mem' := cm gc5 lc5 (fm_u (fm_u a 62 c 1) 63 c (nI (sp_iC A.1.1 (sp_wd T n (sp_n T n p))))) b R) (by intro _ _ _; eq_refl) ?_
    obtain ⟨vc6, memc6, ⟨xc6, gc6, lc6, frc6, hxc6, hRc6⟩, hrc6⟩ := ha_tc0 (R := R) hgs4 hmc5
    cases hRc6
    refine he_ivV hrc6 (by omega) (by rfl) (by rfl) (by rfl) (by rfl) (by rfl) (by rfl) ?_
    have hfc6 := cfr_tr hfc5 frc6
    have hAc6 := cn_L_fr hAc5 frc6 (by decide) (by decide)
    have hTc6 := tfd_tr hTc5 (tfd_c (a := (fm_u (fm_u a 62 c 1) 63 c (nI (sp_iC A.1.1 (sp_wd T n (sp_n T n p)))))) frc6)
    rcases hxc6 with ⟨hwc6, hvc6, hmc6⟩ | ⟨hwc6, hmc6⟩
    · refine he_stI (mem' := cm gc6 lc6 (fm_u (fm_u (fm_u a 62 c 1) 63 c (nI (sp_iC A.1.1 (sp_wd T n (sp_n T n p))))) 64 (nI c : Int32).toNatClampNeg xc6) b R) (by rfl) (by rfl) (fx_inN (i := c) (by omega) (by omega)) cm_si64 ?_
      rw [show Int32.toNatClampNeg (nI c) = c from nI_clamp (by omega)]
      have hgs7 : ctx (fm_u (fm_u (fm_u a 62 c 1) 63 c (nI (sp_iC A.1.1 (sp_wd T n (sp_n T n p))))) 64 c xc6) b T n := ctx_t hgs4 (by decide)
      have hTs7 : tfd g l a gc6 lc6 (fm_u (fm_u (fm_u a 62 c 1) 63 c (nI (sp_iC A.1.1 (sp_wd T n (sp_n T n p))))) 64 c xc6) := tfd_tr hTc6 (tfd_a (by decide))
      have hOs7 : opn (fm_u (fm_u (fm_u a 62 c 1) 63 c (nI (sp_iC A.1.1 (sp_wd T n (sp_n T n p))))) 64 c xc6) := opn_n hOs4 (by decide)
      have ras7 : tfr a (fm_u (fm_u (fm_u a 62 c 1) 63 c (nI (sp_iC A.1.1 (sp_wd T n (sp_n T n p))))) 64 c xc6) := tfr_u ras4 (by decide)
      refine he_s 7 (pc' := 119) (lc' := [(4, .int 1), (0, .ref 13), (1, .ref 15), (2, .ref 60), (3, .int (nI c))]) (stk' := [.int 999, .int 0, .ref 9, .int (nI c), .ref 65]) (mem' := cm gc6 lc6 (fm_u (fm_u (fm_u a 62 c 1) 63 c (nI (sp_iC A.1.1 (sp_wd T n (sp_n T n p))))) 64 c xc6) b R) (by intro _ _ _; eq_refl) ?_
      obtain ⟨vc8, memc8, ⟨xc8, gc8, lc8, frc8, hxc8, hRc8⟩, hrc8⟩ := ha_pn0 (lo := 0) (hi := 999) (R := R) hgs7 (by omega) (by decide) hmc6
      cases hRc8
      refine he_ivV hrc8 (by omega) (by rfl) (by rfl) (by rfl) (by rfl) (by rfl) (by rfl) ?_
      have hfc8 := cfr_tr hfc6 frc8
      have hAc8 := cn_L_fr hAc6 frc8 (by decide) (by decide)
      have hTc8 := tfd_tr hTs7 (tfd_c (a := (fm_u (fm_u (fm_u a 62 c 1) 63 c (nI (sp_iC A.1.1 (sp_wd T n (sp_n T n p))))) 64 c xc6)) frc8)
      rcases hxc8 with ⟨hwc8, hvc8, rfl, hmc8⟩ | ⟨hwc8, hvc8, hmc8⟩ | ⟨hwc8, hmc8⟩
      · refine he_stI (mem' := cm gc8 lc8 (fm_u (fm_u (fm_u (fm_u a 62 c 1) 63 c (nI (sp_iC A.1.1 (sp_wd T n (sp_n T n p))))) 64 c xc6) 65 (nI c : Int32).toNatClampNeg (nI (sp_v T n (sp_n T n (sp_n T n (sp_n T n p)))))) b R) (by rfl) (by rfl) (fx_inN (i := c) (by omega) (by omega)) cm_si65 ?_
        rw [show Int32.toNatClampNeg (nI c) = c from nI_clamp (by omega)]
        have hgs9 : ctx (fm_u (fm_u (fm_u (fm_u a 62 c 1) 63 c (nI (sp_iC A.1.1 (sp_wd T n (sp_n T n p))))) 64 c xc6) 65 c (nI (sp_v T n (sp_n T n (sp_n T n (sp_n T n p)))))) b T n := ctx_t hgs7 (by decide)
        have hTs9 : tfd g l a gc8 lc8 (fm_u (fm_u (fm_u (fm_u a 62 c 1) 63 c (nI (sp_iC A.1.1 (sp_wd T n (sp_n T n p))))) 64 c xc6) 65 c (nI (sp_v T n (sp_n T n (sp_n T n (sp_n T n p)))))) := tfd_tr hTc8 (tfd_a (by decide))
        have hOs9 : opn (fm_u (fm_u (fm_u (fm_u a 62 c 1) 63 c (nI (sp_iC A.1.1 (sp_wd T n (sp_n T n p))))) 64 c xc6) 65 c (nI (sp_v T n (sp_n T n (sp_n T n (sp_n T n p)))))) := opn_n hOs7 (by decide)
        have ras9 : tfr a (fm_u (fm_u (fm_u (fm_u a 62 c 1) 63 c (nI (sp_iC A.1.1 (sp_wd T n (sp_n T n p))))) 64 c xc6) 65 c (nI (sp_v T n (sp_n T n (sp_n T n (sp_n T n p)))))) := tfr_u ras7 (by decide)
        refine he_s 1 (pc' := 163) (lc' := [(4, .int 1), (0, .ref 13), (1, .ref 15), (2, .ref 60), (3, .int (nI c))]) (stk' := []) (mem' := cm gc8 lc8 (fm_u (fm_u (fm_u (fm_u a 62 c 1) 63 c (nI (sp_iC A.1.1 (sp_wd T n (sp_n T n p))))) 64 c xc6) 65 c (nI (sp_v T n (sp_n T n (sp_n T n (sp_n T n p)))))) b R) (by intro _ _ _; eq_refl) ?_
        exact he_ret ⟨_, _, _, ⟨hfc8, ras9⟩, Or.inl ⟨_, hmc8, fun c => by rw [show tl_tk T n A 1 p c = sp_cell T n A (sp_n T n p) (fun _ => tl_cmp T n (sp_n T n (sp_n T n p)) (fun q => sp_num T n 0 999 q c)) from rfl, sp_cell_t hwc3 hvc3, tl_cmp_t hwc6 hvc6, sp_num_t hwc8 hvc8]⟩, rfl⟩ (by rfl) (by rfl) (by rfl)
      · refine he_stI (mem' := cm gc8 lc8 (fm_u (fm_u (fm_u (fm_u a 62 c 1) 63 c (nI (sp_iC A.1.1 (sp_wd T n (sp_n T n p))))) 64 c xc6) 65 (nI c : Int32).toNatClampNeg xc8) b R) (by rfl) (by rfl) (fx_inN (i := c) (by omega) (by omega)) cm_si65 ?_
        rw [show Int32.toNatClampNeg (nI c) = c from nI_clamp (by omega)]
        have hgs10 : ctx (fm_u (fm_u (fm_u (fm_u a 62 c 1) 63 c (nI (sp_iC A.1.1 (sp_wd T n (sp_n T n p))))) 64 c xc6) 65 c xc8) b T n := ctx_t hgs7 (by decide)
        have hTs10 : tfd g l a gc8 lc8 (fm_u (fm_u (fm_u (fm_u a 62 c 1) 63 c (nI (sp_iC A.1.1 (sp_wd T n (sp_n T n p))))) 64 c xc6) 65 c xc8) := tfd_tr hTc8 (tfd_a (by decide))
        have hOs10 : opn (fm_u (fm_u (fm_u (fm_u a 62 c 1) 63 c (nI (sp_iC A.1.1 (sp_wd T n (sp_n T n p))))) 64 c xc6) 65 c xc8) := opn_n hOs7 (by decide)
        have ras10 : tfr a (fm_u (fm_u (fm_u (fm_u a 62 c 1) 63 c (nI (sp_iC A.1.1 (sp_wd T n (sp_n T n p))))) 64 c xc6) 65 c xc8) := tfr_u ras7 (by decide)
        refine he_s 1 (pc' := 163) (lc' := [(4, .int 1), (0, .ref 13), (1, .ref 15), (2, .ref 60), (3, .int (nI c))]) (stk' := []) (mem' := cm gc8 lc8 (fm_u (fm_u (fm_u (fm_u a 62 c 1) 63 c (nI (sp_iC A.1.1 (sp_wd T n (sp_n T n p))))) 64 c xc6) 65 c xc8) b R) (by intro _ _ _; eq_refl) ?_
        exact he_ret ⟨_, _, _, ⟨hfc8, ras10⟩, Or.inr ⟨(4, sp_s T n (sp_n T n (sp_n T n (sp_n T n p)))), hmc8, fun c => by rw [show tl_tk T n A 1 p c = sp_cell T n A (sp_n T n p) (fun _ => tl_cmp T n (sp_n T n (sp_n T n p)) (fun q => sp_num T n 0 999 q c)) from rfl, sp_cell_t hwc3 hvc3, tl_cmp_t hwc6 hvc6, sp_num_4 hwc8 hvc8]⟩, rfl⟩ (by rfl) (by rfl) (by rfl)
      · refine he_stI (mem' := cm gc8 lc8 (fm_u (fm_u (fm_u (fm_u a 62 c 1) 63 c (nI (sp_iC A.1.1 (sp_wd T n (sp_n T n p))))) 64 c xc6) 65 (nI c : Int32).toNatClampNeg xc8) b R) (by rfl) (by rfl) (fx_inN (i := c) (by omega) (by omega)) cm_si65 ?_
        rw [show Int32.toNatClampNeg (nI c) = c from nI_clamp (by omega)]
        have hgs11 : ctx (fm_u (fm_u (fm_u (fm_u a 62 c 1) 63 c (nI (sp_iC A.1.1 (sp_wd T n (sp_n T n p))))) 64 c xc6) 65 c xc8) b T n := ctx_t hgs7 (by decide)
        have hTs11 : tfd g l a gc8 lc8 (fm_u (fm_u (fm_u (fm_u a 62 c 1) 63 c (nI (sp_iC A.1.1 (sp_wd T n (sp_n T n p))))) 64 c xc6) 65 c xc8) := tfd_tr hTc8 (tfd_a (by decide))
        have hOs11 : opn (fm_u (fm_u (fm_u (fm_u a 62 c 1) 63 c (nI (sp_iC A.1.1 (sp_wd T n (sp_n T n p))))) 64 c xc6) 65 c xc8) := opn_n hOs7 (by decide)
        have ras11 : tfr a (fm_u (fm_u (fm_u (fm_u a 62 c 1) 63 c (nI (sp_iC A.1.1 (sp_wd T n (sp_n T n p))))) 64 c xc6) 65 c xc8) := tfr_u ras7 (by decide)
        refine he_s 1 (pc' := 163) (lc' := [(4, .int 1), (0, .ref 13), (1, .ref 15), (2, .ref 60), (3, .int (nI c))]) (stk' := []) (mem' := cm gc8 lc8 (fm_u (fm_u (fm_u (fm_u a 62 c 1) 63 c (nI (sp_iC A.1.1 (sp_wd T n (sp_n T n p))))) 64 c xc6) 65 c xc8) b R) (by intro _ _ _; eq_refl) ?_
        exact he_ret ⟨_, _, _, ⟨hfc8, ras11⟩, Or.inr ⟨(sp_m T n (sp_n T n (sp_n T n (sp_n T n p))), sp_s T n (sp_n T n (sp_n T n (sp_n T n p)))), hmc8, fun c => by rw [show tl_tk T n A 1 p c = sp_cell T n A (sp_n T n p) (fun _ => tl_cmp T n (sp_n T n (sp_n T n p)) (fun q => sp_num T n 0 999 q c)) from rfl, sp_cell_t hwc3 hvc3, tl_cmp_t hwc6 hvc6, sp_num_f hwc8]⟩, rfl⟩ (by rfl) (by rfl) (by rfl)
    · refine he_stI (mem' := cm gc6 lc6 (fm_u (fm_u (fm_u a 62 c 1) 63 c (nI (sp_iC A.1.1 (sp_wd T n (sp_n T n p))))) 64 (nI c : Int32).toNatClampNeg xc6) b R) (by rfl) (by rfl) (fx_inN (i := c) (by omega) (by omega)) cm_si64 ?_
      rw [show Int32.toNatClampNeg (nI c) = c from nI_clamp (by omega)]
      have hgs12 : ctx (fm_u (fm_u (fm_u a 62 c 1) 63 c (nI (sp_iC A.1.1 (sp_wd T n (sp_n T n p))))) 64 c xc6) b T n := ctx_t hgs4 (by decide)
      have hTs12 : tfd g l a gc6 lc6 (fm_u (fm_u (fm_u a 62 c 1) 63 c (nI (sp_iC A.1.1 (sp_wd T n (sp_n T n p))))) 64 c xc6) := tfd_tr hTc6 (tfd_a (by decide))
      have hOs12 : opn (fm_u (fm_u (fm_u a 62 c 1) 63 c (nI (sp_iC A.1.1 (sp_wd T n (sp_n T n p))))) 64 c xc6) := opn_n hOs4 (by decide)
      have ras12 : tfr a (fm_u (fm_u (fm_u a 62 c 1) 63 c (nI (sp_iC A.1.1 (sp_wd T n (sp_n T n p))))) 64 c xc6) := tfr_u ras4 (by decide)
      refine he_s 7 (pc' := 119) (lc' := [(4, .int 1), (0, .ref 13), (1, .ref 15), (2, .ref 60), (3, .int (nI c))]) (stk' := [.int 999, .int 0, .ref 9, .int (nI c), .ref 65]) (mem' := cm gc6 lc6 (fm_u (fm_u (fm_u a 62 c 1) 63 c (nI (sp_iC A.1.1 (sp_wd T n (sp_n T n p))))) 64 c xc6) b R) (by intro _ _ _; eq_refl) ?_
      obtain ⟨vc13, memc13, ⟨gc13, lc13, xc13, frc13, hmc13, hRc13⟩, hrc13⟩ := ha_pnq0 (x := 0) (y := 999) (R := R) hgs12 hmc6
      cases hRc13
      refine he_ivV hrc13 (by omega) (by rfl) (by rfl) (by rfl) (by rfl) (by rfl) (by rfl) ?_
      have hfc13 := cfr_tr hfc6 frc13
      have hAc13 := cn_L_fr hAc6 frc13 (by decide) (by decide)
      have hTc13 := tfd_tr hTs12 (tfd_c (a := (fm_u (fm_u (fm_u a 62 c 1) 63 c (nI (sp_iC A.1.1 (sp_wd T n (sp_n T n p))))) 64 c xc6)) frc13)
      refine he_stI (mem' := cm gc13 lc13 (fm_u (fm_u (fm_u (fm_u a 62 c 1) 63 c (nI (sp_iC A.1.1 (sp_wd T n (sp_n T n p))))) 64 c xc6) 65 (nI c : Int32).toNatClampNeg xc13) b R) (by rfl) (by rfl) (fx_inN (i := c) (by omega) (by omega)) cm_si65 ?_
      rw [show Int32.toNatClampNeg (nI c) = c from nI_clamp (by omega)]
      have hgs14 : ctx (fm_u (fm_u (fm_u (fm_u a 62 c 1) 63 c (nI (sp_iC A.1.1 (sp_wd T n (sp_n T n p))))) 64 c xc6) 65 c xc13) b T n := ctx_t hgs12 (by decide)
      have hTs14 : tfd g l a gc13 lc13 (fm_u (fm_u (fm_u (fm_u a 62 c 1) 63 c (nI (sp_iC A.1.1 (sp_wd T n (sp_n T n p))))) 64 c xc6) 65 c xc13) := tfd_tr hTc13 (tfd_a (by decide))
      have hOs14 : opn (fm_u (fm_u (fm_u (fm_u a 62 c 1) 63 c (nI (sp_iC A.1.1 (sp_wd T n (sp_n T n p))))) 64 c xc6) 65 c xc13) := opn_n hOs12 (by decide)
      have ras14 : tfr a (fm_u (fm_u (fm_u (fm_u a 62 c 1) 63 c (nI (sp_iC A.1.1 (sp_wd T n (sp_n T n p))))) 64 c xc6) 65 c xc13) := tfr_u ras12 (by decide)
      refine he_s 1 (pc' := 163) (lc' := [(4, .int 1), (0, .ref 13), (1, .ref 15), (2, .ref 60), (3, .int (nI c))]) (stk' := []) (mem' := cm gc13 lc13 (fm_u (fm_u (fm_u (fm_u a 62 c 1) 63 c (nI (sp_iC A.1.1 (sp_wd T n (sp_n T n p))))) 64 c xc6) 65 c xc13) b R) (by intro _ _ _; eq_refl) ?_
      exact he_ret ⟨_, _, _, ⟨hfc13, ras14⟩, Or.inr ⟨(sp_m T n (sp_n T n (sp_n T n p)), sp_s T n (sp_n T n (sp_n T n p))), hmc13, fun c => by rw [show tl_tk T n A 1 p c = sp_cell T n A (sp_n T n p) (fun _ => tl_cmp T n (sp_n T n (sp_n T n p)) (fun q => sp_num T n 0 999 q c)) from rfl, sp_cell_t hwc3 hvc3, tl_cmp_f hwc6]⟩, rfl⟩ (by rfl) (by rfl) (by rfl)
  · refine he_s 1 (pc' := 82) (lc' := [(4, .int 1), (0, .ref 13), (1, .ref 15), (2, .ref 60), (3, .int (nI c))]) (stk' := [.int (-1), .int (nI c), .ref 63]) (mem' := cm gc3 lc2 (fm_u a 62 c 1) b R) (by intro _ _ _; eq_refl) ?_
    refine he_stI (mem' := cm gc3 lc2 (fm_u (fm_u a 62 c 1) 63 (nI c : Int32).toNatClampNeg (-1)) b R) (by rfl) (by rfl) (fx_inN (i := c) (by omega) (by omega)) cm_si63 ?_
    rw [show Int32.toNatClampNeg (nI c) = c from nI_clamp (by omega)]
    have hgs15 : ctx (fm_u (fm_u a 62 c 1) 63 c (-1)) b T n := ctx_t hgs1 (by decide)
    have hTs15 : tfd g l a gc3 lc2 (fm_u (fm_u a 62 c 1) 63 c (-1)) := tfd_tr hTc3 (tfd_a (by decide))
    have hOs15 : opn (fm_u (fm_u a 62 c 1) 63 c (-1)) := opn_n hOs1 (by decide)
    have ras15 : tfr a (fm_u (fm_u a 62 c 1) 63 c (-1)) := tfr_u ras1 (by decide)
    refine he_s 2 (pc' := 87) (lc' := [(4, .int 1), (0, .ref 13), (1, .ref 15), (2, .ref 60), (3, .int (nI c))]) (stk' := [.ref 9]) (mem' := cm gc3 lc2 (fm_u (fm_u a 62 c 1) 63 c (-1)) b R) (by intro _ _ _; eq_refl) ?_
    obtain ⟨gc16, lc16, hrc16, hmc16, frc16⟩ := ha_scanq (R := R) hgs15 hmc3
    refine he_ivV hrc16 (by omega) (by rfl) (by rfl) (by rfl) (by rfl) (by rfl) (by rfl) ?_
    have hfc16 := cfr_tr hfc3 frc16
    have hAc16 := cn_L_fr hAc3 frc16 (by decide) (by decide)
    have hTc16 := tfd_tr hTs15 (tfd_c (a := (fm_u (fm_u a 62 c 1) 63 c (-1))) frc16)
    refine he_s 2 (pc' := 93) (lc' := [(4, .int 1), (0, .ref 13), (1, .ref 15), (2, .ref 60), (3, .int (nI c))]) (stk' := [.int 1, .int 1]) (mem' := cm gc16 lc16 (fm_u (fm_u a 62 c 1) 63 c (-1)) b R) (by intro _ _ _; eq_refl) ?_
    refine he_s 1 (pc' := cond (fx_cb .ne 1 1) 126 96) (lc' := [(4, .int 1), (0, .ref 13), (1, .ref 15), (2, .ref 60), (3, .int (nI c))]) (stk' := []) (mem' := cm gc16 lc16 (fm_u (fm_u a 62 c 1) 63 c (-1)) b R) (by intro _ _ _; eq_refl) ?_
    rw [show (fx_cb .ne 1 1) = false from by decide]
    dsimp only [cond]
    refine he_s 4 (pc' := 102) (lc' := [(4, .int 1), (0, .ref 13), (1, .ref 15), (2, .ref 60), (3, .int (nI c))]) (stk' := [.ref 13, .int (nI c), .ref 64]) (mem' := cm gc16 lc16 (fm_u (fm_u a 62 c 1) 63 c (-1)) b R) (by intro _ _ _; eq_refl) ?_
    obtain ⟨vc17, memc17, ⟨gc17, lc17, xc17, frc17, hmc17, hRc17⟩, hrc17⟩ := ha_tcq0 (R := R) hgs15 hmc16
    cases hRc17
    refine he_ivV hrc17 (by omega) (by rfl) (by rfl) (by rfl) (by rfl) (by rfl) (by rfl) ?_
    have hfc17 := cfr_tr hfc16 frc17
    have hAc17 := cn_L_fr hAc16 frc17 (by decide) (by decide)
    have hTc17 := tfd_tr hTc16 (tfd_c (a := (fm_u (fm_u a 62 c 1) 63 c (-1))) frc17)
    refine he_stI (mem' := cm gc17 lc17 (fm_u (fm_u (fm_u a 62 c 1) 63 c (-1)) 64 (nI c : Int32).toNatClampNeg xc17) b R) (by rfl) (by rfl) (fx_inN (i := c) (by omega) (by omega)) cm_si64 ?_
    rw [show Int32.toNatClampNeg (nI c) = c from nI_clamp (by omega)]
    have hgs18 : ctx (fm_u (fm_u (fm_u a 62 c 1) 63 c (-1)) 64 c xc17) b T n := ctx_t hgs15 (by decide)
    have hTs18 : tfd g l a gc17 lc17 (fm_u (fm_u (fm_u a 62 c 1) 63 c (-1)) 64 c xc17) := tfd_tr hTc17 (tfd_a (by decide))
    have hOs18 : opn (fm_u (fm_u (fm_u a 62 c 1) 63 c (-1)) 64 c xc17) := opn_n hOs15 (by decide)
    have ras18 : tfr a (fm_u (fm_u (fm_u a 62 c 1) 63 c (-1)) 64 c xc17) := tfr_u ras15 (by decide)
    refine he_s 7 (pc' := 119) (lc' := [(4, .int 1), (0, .ref 13), (1, .ref 15), (2, .ref 60), (3, .int (nI c))]) (stk' := [.int 999, .int 0, .ref 9, .int (nI c), .ref 65]) (mem' := cm gc17 lc17 (fm_u (fm_u (fm_u a 62 c 1) 63 c (-1)) 64 c xc17) b R) (by intro _ _ _; eq_refl) ?_
    obtain ⟨vc19, memc19, ⟨gc19, lc19, xc19, frc19, hmc19, hRc19⟩, hrc19⟩ := ha_pnq0 (x := 0) (y := 999) (R := R) hgs18 hmc17
    cases hRc19
    refine he_ivV hrc19 (by omega) (by rfl) (by rfl) (by rfl) (by rfl) (by rfl) (by rfl) ?_
    have hfc19 := cfr_tr hfc17 frc19
    have hAc19 := cn_L_fr hAc17 frc19 (by decide) (by decide)
    have hTc19 := tfd_tr hTs18 (tfd_c (a := (fm_u (fm_u (fm_u a 62 c 1) 63 c (-1)) 64 c xc17)) frc19)
    refine he_stI (mem' := cm gc19 lc19 (fm_u (fm_u (fm_u (fm_u a 62 c 1) 63 c (-1)) 64 c xc17) 65 (nI c : Int32).toNatClampNeg xc19) b R) (by rfl) (by rfl) (fx_inN (i := c) (by omega) (by omega)) cm_si65 ?_
    rw [show Int32.toNatClampNeg (nI c) = c from nI_clamp (by omega)]
    have hgs20 : ctx (fm_u (fm_u (fm_u (fm_u a 62 c 1) 63 c (-1)) 64 c xc17) 65 c xc19) b T n := ctx_t hgs18 (by decide)
    have hTs20 : tfd g l a gc19 lc19 (fm_u (fm_u (fm_u (fm_u a 62 c 1) 63 c (-1)) 64 c xc17) 65 c xc19) := tfd_tr hTc19 (tfd_a (by decide))
    have hOs20 : opn (fm_u (fm_u (fm_u (fm_u a 62 c 1) 63 c (-1)) 64 c xc17) 65 c xc19) := opn_n hOs18 (by decide)
    have ras20 : tfr a (fm_u (fm_u (fm_u (fm_u a 62 c 1) 63 c (-1)) 64 c xc17) 65 c xc19) := tfr_u ras18 (by decide)
    refine he_s 1 (pc' := 163) (lc' := [(4, .int 1), (0, .ref 13), (1, .ref 15), (2, .ref 60), (3, .int (nI c))]) (stk' := []) (mem' := cm gc19 lc19 (fm_u (fm_u (fm_u (fm_u a 62 c 1) 63 c (-1)) 64 c xc17) 65 c xc19) b R) (by intro _ _ _; eq_refl) ?_
    exact he_ret ⟨_, _, _, ⟨hfc19, ras20⟩, Or.inr ⟨(3, sp_s T n (sp_n T n p)), hmc19, fun c => by rw [show tl_tk T n A 1 p c = sp_cell T n A (sp_n T n p) (fun _ => tl_cmp T n (sp_n T n (sp_n T n p)) (fun q => sp_num T n 0 999 q c)) from rfl, sp_cell_3 hwc3 hvc3]⟩, rfl⟩ (by rfl) (by rfl) (by rfl)
  · refine he_s 1 (pc' := 82) (lc' := [(4, .int 1), (0, .ref 13), (1, .ref 15), (2, .ref 60), (3, .int (nI c))]) (stk' := [.int (-1), .int (nI c), .ref 63]) (mem' := cm gc3 lc2 (fm_u a 62 c 1) b R) (by intro _ _ _; eq_refl) ?_
    refine he_stI (mem' := cm gc3 lc2 (fm_u (fm_u a 62 c 1) 63 (nI c : Int32).toNatClampNeg (-1)) b R) (by rfl) (by rfl) (fx_inN (i := c) (by omega) (by omega)) cm_si63 ?_
    rw [show Int32.toNatClampNeg (nI c) = c from nI_clamp (by omega)]
    have hgs21 : ctx (fm_u (fm_u a 62 c 1) 63 c (-1)) b T n := ctx_t hgs1 (by decide)
    have hTs21 : tfd g l a gc3 lc2 (fm_u (fm_u a 62 c 1) 63 c (-1)) := tfd_tr hTc3 (tfd_a (by decide))
    have hOs21 : opn (fm_u (fm_u a 62 c 1) 63 c (-1)) := opn_n hOs1 (by decide)
    have ras21 : tfr a (fm_u (fm_u a 62 c 1) 63 c (-1)) := tfr_u ras1 (by decide)
    refine he_s 2 (pc' := 87) (lc' := [(4, .int 1), (0, .ref 13), (1, .ref 15), (2, .ref 60), (3, .int (nI c))]) (stk' := [.ref 9]) (mem' := cm gc3 lc2 (fm_u (fm_u a 62 c 1) 63 c (-1)) b R) (by intro _ _ _; eq_refl) ?_
    obtain ⟨gc22, lc22, hrc22, hmc22, frc22⟩ := ha_scanq (R := R) hgs21 hmc3
    refine he_ivV hrc22 (by omega) (by rfl) (by rfl) (by rfl) (by rfl) (by rfl) (by rfl) ?_
    have hfc22 := cfr_tr hfc3 frc22
    have hAc22 := cn_L_fr hAc3 frc22 (by decide) (by decide)
    have hTc22 := tfd_tr hTs21 (tfd_c (a := (fm_u (fm_u a 62 c 1) 63 c (-1))) frc22)
    refine he_s 2 (pc' := 93) (lc' := [(4, .int 1), (0, .ref 13), (1, .ref 15), (2, .ref 60), (3, .int (nI c))]) (stk' := [.int 1, .int 1]) (mem' := cm gc22 lc22 (fm_u (fm_u a 62 c 1) 63 c (-1)) b R) (by intro _ _ _; eq_refl) ?_
    refine he_s 1 (pc' := cond (fx_cb .ne 1 1) 126 96) (lc' := [(4, .int 1), (0, .ref 13), (1, .ref 15), (2, .ref 60), (3, .int (nI c))]) (stk' := []) (mem' := cm gc22 lc22 (fm_u (fm_u a 62 c 1) 63 c (-1)) b R) (by intro _ _ _; eq_refl) ?_
    rw [show (fx_cb .ne 1 1) = false from by decide]
    dsimp only [cond]
    refine he_s 4 (pc' := 102) (lc' := [(4, .int 1), (0, .ref 13), (1, .ref 15), (2, .ref 60), (3, .int (nI c))]) (stk' := [.ref 13, .int (nI c), .ref 64]) (mem' := cm gc22 lc22 (fm_u (fm_u a 62 c 1) 63 c (-1)) b R) (by intro _ _ _; eq_refl) ?_
    obtain ⟨vc23, memc23, ⟨gc23, lc23, xc23, frc23, hmc23, hRc23⟩, hrc23⟩ := ha_tcq0 (R := R) hgs21 hmc22
    cases hRc23
    refine he_ivV hrc23 (by omega) (by rfl) (by rfl) (by rfl) (by rfl) (by rfl) (by rfl) ?_
    have hfc23 := cfr_tr hfc22 frc23
    have hAc23 := cn_L_fr hAc22 frc23 (by decide) (by decide)
    have hTc23 := tfd_tr hTc22 (tfd_c (a := (fm_u (fm_u a 62 c 1) 63 c (-1))) frc23)
    refine he_stI (mem' := cm gc23 lc23 (fm_u (fm_u (fm_u a 62 c 1) 63 c (-1)) 64 (nI c : Int32).toNatClampNeg xc23) b R) (by rfl) (by rfl) (fx_inN (i := c) (by omega) (by omega)) cm_si64 ?_
    rw [show Int32.toNatClampNeg (nI c) = c from nI_clamp (by omega)]
    have hgs24 : ctx (fm_u (fm_u (fm_u a 62 c 1) 63 c (-1)) 64 c xc23) b T n := ctx_t hgs21 (by decide)
    have hTs24 : tfd g l a gc23 lc23 (fm_u (fm_u (fm_u a 62 c 1) 63 c (-1)) 64 c xc23) := tfd_tr hTc23 (tfd_a (by decide))
    have hOs24 : opn (fm_u (fm_u (fm_u a 62 c 1) 63 c (-1)) 64 c xc23) := opn_n hOs21 (by decide)
    have ras24 : tfr a (fm_u (fm_u (fm_u a 62 c 1) 63 c (-1)) 64 c xc23) := tfr_u ras21 (by decide)
    refine he_s 7 (pc' := 119) (lc' := [(4, .int 1), (0, .ref 13), (1, .ref 15), (2, .ref 60), (3, .int (nI c))]) (stk' := [.int 999, .int 0, .ref 9, .int (nI c), .ref 65]) (mem' := cm gc23 lc23 (fm_u (fm_u (fm_u a 62 c 1) 63 c (-1)) 64 c xc23) b R) (by intro _ _ _; eq_refl) ?_
    obtain ⟨vc25, memc25, ⟨gc25, lc25, xc25, frc25, hmc25, hRc25⟩, hrc25⟩ := ha_pnq0 (x := 0) (y := 999) (R := R) hgs24 hmc23
    cases hRc25
    refine he_ivV hrc25 (by omega) (by rfl) (by rfl) (by rfl) (by rfl) (by rfl) (by rfl) ?_
    have hfc25 := cfr_tr hfc23 frc25
    have hAc25 := cn_L_fr hAc23 frc25 (by decide) (by decide)
    have hTc25 := tfd_tr hTs24 (tfd_c (a := (fm_u (fm_u (fm_u a 62 c 1) 63 c (-1)) 64 c xc23)) frc25)
    refine he_stI (mem' := cm gc25 lc25 (fm_u (fm_u (fm_u (fm_u a 62 c 1) 63 c (-1)) 64 c xc23) 65 (nI c : Int32).toNatClampNeg xc25) b R) (by rfl) (by rfl) (fx_inN (i := c) (by omega) (by omega)) cm_si65 ?_
    rw [show Int32.toNatClampNeg (nI c) = c from nI_clamp (by omega)]
    have hgs26 : ctx (fm_u (fm_u (fm_u (fm_u a 62 c 1) 63 c (-1)) 64 c xc23) 65 c xc25) b T n := ctx_t hgs24 (by decide)
    have hTs26 : tfd g l a gc25 lc25 (fm_u (fm_u (fm_u (fm_u a 62 c 1) 63 c (-1)) 64 c xc23) 65 c xc25) := tfd_tr hTc25 (tfd_a (by decide))
    have hOs26 : opn (fm_u (fm_u (fm_u (fm_u a 62 c 1) 63 c (-1)) 64 c xc23) 65 c xc25) := opn_n hOs24 (by decide)
    have ras26 : tfr a (fm_u (fm_u (fm_u (fm_u a 62 c 1) 63 c (-1)) 64 c xc23) 65 c xc25) := tfr_u ras24 (by decide)
    refine he_s 1 (pc' := 163) (lc' := [(4, .int 1), (0, .ref 13), (1, .ref 15), (2, .ref 60), (3, .int (nI c))]) (stk' := []) (mem' := cm gc25 lc25 (fm_u (fm_u (fm_u (fm_u a 62 c 1) 63 c (-1)) 64 c xc23) 65 c xc25) b R) (by intro _ _ _; eq_refl) ?_
    exact he_ret ⟨_, _, _, ⟨hfc25, ras26⟩, Or.inr ⟨(sp_m T n (sp_n T n p), sp_s T n (sp_n T n p)), hmc25, fun c => by rw [show tl_tk T n A 1 p c = sp_cell T n A (sp_n T n p) (fun _ => tl_cmp T n (sp_n T n (sp_n T n p)) (fun q => sp_num T n 0 999 q c)) from rfl, sp_cell_f hwc3]⟩, rfl⟩ (by rfl) (by rfl) (by rfl)
theorem ha_tt7 (hg : ctx a b T n) (hA : cn_L 15 A g b) (hO : opn a) (h : co g l T n p) (hc : c < 30) (hw : g 9 7 = 7) : ∃ (v : Option Value) (mem' : fx_M), (fun R1 => ∃ (g' : Nat → Nat → Int32) (l' : Nat → Nat → Int64) (a' : Nat → Nat → Int32), (cfr g l g' l' ∧ tfr a a') ∧ tOut (tl_tk T n A 7 p) g' l' T n ∧ R1 = (none, cm g' l' a' b R)) (v, mem') ∧ hr_T 5 124 [.ref 13, .ref 15, .ref 60, .int (nI c)] (cm g l a b R) v mem' := by
  refine he_meth (F := fun R1 => ∃ (g' : Nat → Nat → Int32) (l' : Nat → Nat → Int64) (a' : Nat → Nat → Int32), (cfr g l g' l' ∧ tfr a a') ∧ tOut (tl_tk T n A 7 p) g' l' T n ∧ R1 = (none, cm g' l' a' b R)) (M := gk_m124) (by rfl) (by rfl) ?_
  refine he_s 8 (pc' := 16) (lc' := [(4, .int (g 9 7)), (0, .ref 13), (1, .ref 15), (2, .ref 60), (3, .int (nI c))]) (stk' := [.int (g 9 7), .int (nI c), .ref 62]) (mem' := cm g l a b R) (by intro _ _ _; eq_refl) ?_
  try rw [hw]
  refine he_stI (mem' := cm g l (fm_u a 62 (nI c : Int32).toNatClampNeg 7) b R) (by rfl) (by rfl) (fx_inN (i := c) (by omega) (by omega)) cm_si62 ?_
  rw [show Int32.toNatClampNeg (nI c) = c from nI_clamp (by omega)]
  have hgs1 : ctx (fm_u a 62 c 7) b T n := ctx_t hg (by decide)
  have hTs1 : tfd g l a g l (fm_u a 62 c 7) := tfd_tr tfd_rf (tfd_a (by decide))
  have hOs1 : opn (fm_u a 62 c 7) := opn_n hO (by decide)
  have ras1 : tfr a (fm_u a 62 c 7) := tfr_u tfr_rf (by decide)
  refine he_s 2 (pc' := 20) (lc' := [(4, .int 7), (0, .ref 13), (1, .ref 15), (2, .ref 60), (3, .int (nI c))]) (stk' := [.int 1, .int 7]) (mem' := cm g l (fm_u a 62 c 7) b R) (by intro _ _ _; eq_refl) ?_
  refine he_s 1 (pc' := cond (fx_cb .eq 7 1) 45 23) (lc' := [(4, .int 7), (0, .ref 13), (1, .ref 15), (2, .ref 60), (3, .int (nI c))]) (stk' := []) (mem' := cm g l (fm_u a 62 c 7) b R) (by intro _ _ _; eq_refl) ?_
  rw [show (fx_cb .eq 7 1) = false from by decide]
  dsimp only [cond]
  refine he_s 2 (pc' := 27) (lc' := [(4, .int 7), (0, .ref 13), (1, .ref 15), (2, .ref 60), (3, .int (nI c))]) (stk' := [.int 7, .int 7]) (mem' := cm g l (fm_u a 62 c 7) b R) (by intro _ _ _; eq_refl) ?_
  refine he_s 1 (pc' := cond (fx_cb .eq 7 7) 45 30) (lc' := [(4, .int 7), (0, .ref 13), (1, .ref 15), (2, .ref 60), (3, .int (nI c))]) (stk' := []) (mem' := cm g l (fm_u a 62 c 7) b R) (by intro _ _ _; eq_refl) ?_
  rw [show (fx_cb .eq 7 7) = true from by decide]
  dsimp only [cond]
  refine he_s 2 (pc' := 49) (lc' := [(4, .int 7), (0, .ref 13), (1, .ref 15), (2, .ref 60), (3, .int (nI c))]) (stk' := [.ref 9]) (mem' := cm g l (fm_u a 62 c 7) b R) (by intro _ _ _; eq_refl) ?_
  obtain ⟨gc2, lc2, hrc2, hmc2, frc2⟩ := ha_scano (R := R) hgs1 h
  refine he_ivV hrc2 (by omega) (by rfl) (by rfl) (by rfl) (by rfl) (by rfl) (by rfl) ?_
  have hfc2 := cfr_tr cfr_rf frc2
  have hAc2 := cn_L_fr hA frc2 (by decide) (by decide)
  have hTc2 := tfd_tr hTs1 (tfd_c (a := (fm_u a 62 c 7)) frc2)
  refine he_s 5 (pc' := 60) (lc' := [(4, .int 7), (0, .ref 13), (1, .ref 15), (2, .ref 60), (3, .int (nI c))]) (stk' := [.int 1, .int 7, .int (nI c), .ref 63]) (mem' := cm gc2 lc2 (fm_u a 62 c 7) b R) (by intro _ _ _; eq_refl) ?_
  refine he_s 1 (pc' := cond (fx_cb .ne 7 1) 74 63) (lc' := [(4, .int 7), (0, .ref 13), (1, .ref 15), (2, .ref 60), (3, .int (nI c))]) (stk' := [.int (nI c), .ref 63]) (mem' := cm gc2 lc2 (fm_u a 62 c 7) b R) (by intro _ _ _; eq_refl) ?_
  rw [show (fx_cb .ne 7 1) = true from by decide]
  dsimp only [cond]
  refine he_s 3 (pc' := 79) (lc' := [(4, .int 7), (0, .ref 13), (1, .ref 15), (2, .ref 60), (3, .int (nI c))]) (stk' := [.ref 15, .ref 9, .int (nI c), .ref 63]) (mem' := cm gc2 lc2 (fm_u a 62 c 7) b R) (by intro _ _ _; eq_refl) ?_
  obtain ⟨vc3, memc3, ⟨xc3, gc3, frc3, hxc3, hRc3⟩, hrc3⟩ := ha_wh150 (R := R) hgs1 hAc2 hmc2
  cases hRc3
  refine he_ivV hrc3 (by omega) (by rfl) (by rfl) (by rfl) (by rfl) (by rfl) (by rfl) ?_
  have hfc3 := cfr_tr hfc2 frc3
  have hAc3 := cn_L_fr hAc2 frc3 (by decide) (by decide)
  have hTc3 := tfd_tr hTc2 (tfd_c (a := (fm_u a 62 c 7)) frc3)
  rcases hxc3 with ⟨hwc3, hvc3, rfl, hmc3⟩ | ⟨hwc3, hvc3, rfl, hmc3⟩ | ⟨hwc3, rfl, hmc3⟩
  · refine he_stI (mem' := cm gc3 lc2 (fm_u (fm_u a 62 c 7) 63 (nI c : Int32).toNatClampNeg (nI (sp_iW A.1.2 (sp_wd T n (sp_n T n p))))) b R) (by rfl) (by rfl) (fx_inN (i := c) (by omega) (by omega)) cm_si63 ?_
    rw [show Int32.toNatClampNeg (nI c) = c from nI_clamp (by omega)]
    have hgs4 : ctx (fm_u (fm_u a 62 c 7) 63 c (nI (sp_iW A.1.2 (sp_wd T n (sp_n T n p))))) b T n := ctx_t hgs1 (by decide)
    have hTs4 : tfd g l a gc3 lc2 (fm_u (fm_u a 62 c 7) 63 c (nI (sp_iW A.1.2 (sp_wd T n (sp_n T n p))))) := tfd_tr hTc3 (tfd_a (by decide))
    have hOs4 : opn (fm_u (fm_u a 62 c 7) 63 c (nI (sp_iW A.1.2 (sp_wd T n (sp_n T n p))))) := opn_n hOs1 (by decide)
    have ras4 : tfr a (fm_u (fm_u a 62 c 7) 63 c (nI (sp_iW A.1.2 (sp_wd T n (sp_n T n p))))) := tfr_u ras1 (by decide)
    refine he_s 2 (pc' := 87) (lc' := [(4, .int 7), (0, .ref 13), (1, .ref 15), (2, .ref 60), (3, .int (nI c))]) (stk' := [.ref 9]) (mem' := cm gc3 lc2 (fm_u (fm_u a 62 c 7) 63 c (nI (sp_iW A.1.2 (sp_wd T n (sp_n T n p))))) b R) (by intro _ _ _; eq_refl) ?_
    obtain ⟨gc5, lc5, hrc5, hmc5, frc5⟩ := ha_scano (R := R) hgs4 hmc3
    refine he_ivV hrc5 (by omega) (by rfl) (by rfl) (by rfl) (by rfl) (by rfl) (by rfl) ?_
    have hfc5 := cfr_tr hfc3 frc5
    have hAc5 := cn_L_fr hAc3 frc5 (by decide) (by decide)
    have hTc5 := tfd_tr hTs4 (tfd_c (a := (fm_u (fm_u a 62 c 7) 63 c (nI (sp_iW A.1.2 (sp_wd T n (sp_n T n p)))))) frc5)
    refine he_s 2 (pc' := 93) (lc' := [(4, .int 7), (0, .ref 13), (1, .ref 15), (2, .ref 60), (3, .int (nI c))]) (stk' := [.int 1, .int 7]) (mem' := cm gc5 lc5 (fm_u (fm_u a 62 c 7) 63 c (nI (sp_iW A.1.2 (sp_wd T n (sp_n T n p))))) b R) (by intro _ _ _; eq_refl) ?_
    refine he_s 1 (pc' := cond (fx_cb .ne 7 1) 126 96) (lc' := [(4, .int 7), (0, .ref 13), (1, .ref 15), (2, .ref 60), (3, .int (nI c))]) (stk' := []) (mem' := cm gc5 lc5 (fm_u (fm_u a 62 c 7) 63 c (nI (sp_iW A.1.2 (sp_wd T n (sp_n T n p))))) b R) (by intro _ _ _; eq_refl) ?_
    rw [show (fx_cb .ne 7 1) = true from by decide]
    dsimp only [cond]
    refine he_s 2 (pc' := 130) (lc' := [(4, .int 7), (0, .ref 13), (1, .ref 15), (2, .ref 60), (3, .int (nI c))]) (stk' := [.int 7, .int 7]) (mem' := cm gc5 lc5 (fm_u (fm_u a 62 c 7) 63 c (nI (sp_iW A.1.2 (sp_wd T n (sp_n T n p))))) b R) (by intro _ _ _; eq_refl) ?_
    refine he_s 1 (pc' := cond (fx_cb .ne 7 7) 163 133) (lc' := [(4, .int 7), (0, .ref 13), (1, .ref 15), (2, .ref 60), (3, .int (nI c))]) (stk' := []) (mem' := cm gc5 lc5 (fm_u (fm_u a 62 c 7) 63 c (nI (sp_iW A.1.2 (sp_wd T n (sp_n T n p))))) b R) (by intro _ _ _; eq_refl) ?_
    rw [show (fx_cb .ne 7 7) = false from by decide]
    dsimp only [cond]
    refine he_s 3 (pc' := 139) (lc' := [(4, .int 7), (0, .ref 13), (1, .ref 15), (2, .ref 60), (3, .int (nI c))]) (stk' := [.int 18, .ref 9]) (mem' := cm gc5 lc5 (fm_u (fm_u a 62 c 7) 63 c (nI (sp_iW A.1.2 (sp_wd T n (sp_n T n p))))) b R) (by intro _ _ _; eq_refl) ?_
    obtain ⟨vc6, memc6, ⟨gc6, lc6, frc6, hxc6, hRc6⟩, hrc6⟩ := ha_pw0 (w := 18) (R := R) hgs4 (by decide) hmc5
    cases hRc6
    refine he_ivV hrc6 (by omega) (by rfl) (by rfl) (by rfl) (by rfl) (by rfl) (by rfl) ?_
    have hfc6 := cfr_tr hfc5 frc6
    have hAc6 := cn_L_fr hAc5 frc6 (by decide) (by decide)
    have hTc6 := tfd_tr hTc5 (tfd_c (a := (fm_u (fm_u a 62 c 7) 63 c (nI (sp_iW A.1.2 (sp_wd T n (sp_n T n p)))))) frc6)
    rcases hxc6 with ⟨hwc6, hmc6⟩ | ⟨hwc6, hmc6⟩
    · refine he_s 6 (pc' := 152) (lc' := [(4, .int 7), (0, .ref 13), (1, .ref 15), (2, .ref 60), (3, .int (nI c))]) (stk' := [.ref 15, .ref 9, .int (nI c), .ref 64]) (mem' := cm gc6 lc6 (fm_u (fm_u a 62 c 7) 63 c (nI (sp_iW A.1.2 (sp_wd T n (sp_n T n p))))) b R) (by intro _ _ _; eq_refl) ?_
      obtain ⟨vc7, memc7, ⟨xc7, gc7, frc7, hxc7, hRc7⟩, hrc7⟩ := ha_ch150 (R := R) hgs4 hAc6 hmc6
      cases hRc7
      refine he_ivV hrc7 (by omega) (by rfl) (by rfl) (by rfl) (by rfl) (by rfl) (by rfl) ?_
      have hfc7 := cfr_tr hfc6 frc7
      have hAc7 := cn_L_fr hAc6 frc7 (by decide) (by decide)
      have hTc7 := tfd_tr hTc6 (tfd_c (a := (fm_u (fm_u a 62 c 7) 63 c (nI (sp_iW A.1.2 (sp_wd T n (sp_n T n p)))))) frc7)
      rcases hxc7 with ⟨hwc7, hvc7, rfl, hmc7⟩ | ⟨hwc7, hvc7, rfl, hmc7⟩ | ⟨hwc7, rfl, hmc7⟩
      · refine he_stI (mem' := cm gc7 lc6 (fm_u (fm_u (fm_u a 62 c 7) 63 c (nI (sp_iW A.1.2 (sp_wd T n (sp_n T n p))))) 64 (nI c : Int32).toNatClampNeg (nI (sp_iC A.1.1 (sp_wd T n (sp_n T n (sp_n T n (sp_n T n p))))))) b R) (by rfl) (by rfl) (fx_inN (i := c) (by omega) (by omega)) cm_si64 ?_
        rw [show Int32.toNatClampNeg (nI c) = c from nI_clamp (by omega)]
        have hgs8 : ctx (fm_u (fm_u (fm_u a 62 c 7) 63 c (nI (sp_iW A.1.2 (sp_wd T n (sp_n T n p))))) 64 c (nI (sp_iC A.1.1 (sp_wd T n (sp_n T n (sp_n T n (sp_n T n p))))))) b T n := ctx_t hgs4 (by decide)
        have hTs8 : tfd g l a gc7 lc6 (fm_u (fm_u (fm_u a 62 c 7) 63 c (nI (sp_iW A.1.2 (sp_wd T n (sp_n T n p))))) 64 c (nI (sp_iC A.1.1 (sp_wd T n (sp_n T n (sp_n T n (sp_n T n p))))))) := tfd_tr hTc7 (tfd_a (by decide))
        have hOs8 : opn (fm_u (fm_u (fm_u a 62 c 7) 63 c (nI (sp_iW A.1.2 (sp_wd T n (sp_n T n p))))) 64 c (nI (sp_iC A.1.1 (sp_wd T n (sp_n T n (sp_n T n (sp_n T n p))))))) := opn_n hOs4 (by decide)
        have ras8 : tfr a (fm_u (fm_u (fm_u a 62 c 7) 63 c (nI (sp_iW A.1.2 (sp_wd T n (sp_n T n p))))) 64 c (nI (sp_iC A.1.1 (sp_wd T n (sp_n T n (sp_n T n (sp_n T n p))))))) := tfr_u ras4 (by decide)
        refine he_s 2 (pc' := 160) (lc' := [(4, .int 7), (0, .ref 13), (1, .ref 15), (2, .ref 60), (3, .int (nI c))]) (stk' := [.ref 9]) (mem' := cm gc7 lc6 (fm_u (fm_u (fm_u a 62 c 7) 63 c (nI (sp_iW A.1.2 (sp_wd T n (sp_n T n p))))) 64 c (nI (sp_iC A.1.1 (sp_wd T n (sp_n T n (sp_n T n (sp_n T n p))))))) b R) (by intro _ _ _; eq_refl) ?_
        obtain ⟨gc9, lc9, hrc9, hmc9, frc9⟩ := ha_scano (R := R) hgs8 hmc7
        refine he_ivV hrc9 (by omega) (by rfl) (by rfl) (by rfl) (by rfl) (by rfl) (by rfl) ?_
        have hfc9 := cfr_tr hfc7 frc9
        have hAc9 := cn_L_fr hAc7 frc9 (by decide) (by decide)
        have hTc9 := tfd_tr hTs8 (tfd_c (a := (fm_u (fm_u (fm_u a 62 c 7) 63 c (nI (sp_iW A.1.2 (sp_wd T n (sp_n T n p))))) 64 c (nI (sp_iC A.1.1 (sp_wd T n (sp_n T n (sp_n T n (sp_n T n p)))))))) frc9)
        exact he_ret ⟨_, _, _, ⟨hfc9, ras8⟩, Or.inl ⟨_, hmc9, fun c => by rw [show tl_tk T n A 7 p c = sp_walk T n A (sp_n T n p) (fun _ => sp_word T n 18 (sp_n T n (sp_n T n p)) (fun q => sp_cell T n A q (fun _ => c (sp_n T n q)))) from rfl, sp_walk_t hwc3 hvc3, sp_word_t hwc6, sp_cell_t hwc7 hvc7]⟩, rfl⟩ (by rfl) (by rfl) (by rfl)
      · refine he_stI (mem' := cm gc7 lc6 (fm_u (fm_u (fm_u a 62 c 7) 63 c (nI (sp_iW A.1.2 (sp_wd T n (sp_n T n p))))) 64 (nI c : Int32).toNatClampNeg (-1)) b R) (by rfl) (by rfl) (fx_inN (i := c) (by omega) (by omega)) cm_si64 ?_
        rw [show Int32.toNatClampNeg (nI c) = c from nI_clamp (by omega)]
        have hgs10 : ctx (fm_u (fm_u (fm_u a 62 c 7) 63 c (nI (sp_iW A.1.2 (sp_wd T n (sp_n T n p))))) 64 c (-1)) b T n := ctx_t hgs4 (by decide)
        have hTs10 : tfd g l a gc7 lc6 (fm_u (fm_u (fm_u a 62 c 7) 63 c (nI (sp_iW A.1.2 (sp_wd T n (sp_n T n p))))) 64 c (-1)) := tfd_tr hTc7 (tfd_a (by decide))
        have hOs10 : opn (fm_u (fm_u (fm_u a 62 c 7) 63 c (nI (sp_iW A.1.2 (sp_wd T n (sp_n T n p))))) 64 c (-1)) := opn_n hOs4 (by decide)
        have ras10 : tfr a (fm_u (fm_u (fm_u a 62 c 7) 63 c (nI (sp_iW A.1.2 (sp_wd T n (sp_n T n p))))) 64 c (-1)) := tfr_u ras4 (by decide)
        refine he_s 2 (pc' := 160) (lc' := [(4, .int 7), (0, .ref 13), (1, .ref 15), (2, .ref 60), (3, .int (nI c))]) (stk' := [.ref 9]) (mem' := cm gc7 lc6 (fm_u (fm_u (fm_u a 62 c 7) 63 c (nI (sp_iW A.1.2 (sp_wd T n (sp_n T n p))))) 64 c (-1)) b R) (by intro _ _ _; eq_refl) ?_
        obtain ⟨gc11, lc11, hrc11, hmc11, frc11⟩ := ha_scanq (R := R) hgs10 hmc7
        refine he_ivV hrc11 (by omega) (by rfl) (by rfl) (by rfl) (by rfl) (by rfl) (by rfl) ?_
        have hfc11 := cfr_tr hfc7 frc11
        have hAc11 := cn_L_fr hAc7 frc11 (by decide) (by decide)
        have hTc11 := tfd_tr hTs10 (tfd_c (a := (fm_u (fm_u (fm_u a 62 c 7) 63 c (nI (sp_iW A.1.2 (sp_wd T n (sp_n T n p))))) 64 c (-1))) frc11)
        exact he_ret ⟨_, _, _, ⟨hfc11, ras10⟩, Or.inr ⟨(3, sp_s T n (sp_n T n (sp_n T n (sp_n T n p)))), hmc11, fun c => by rw [show tl_tk T n A 7 p c = sp_walk T n A (sp_n T n p) (fun _ => sp_word T n 18 (sp_n T n (sp_n T n p)) (fun q => sp_cell T n A q (fun _ => c (sp_n T n q)))) from rfl, sp_walk_t hwc3 hvc3, sp_word_t hwc6, sp_cell_3 hwc7 hvc7]⟩, rfl⟩ (by rfl) (by rfl) (by rfl)
      · refine he_stI (mem' := cm gc7 lc6 (fm_u (fm_u (fm_u a 62 c 7) 63 c (nI (sp_iW A.1.2 (sp_wd T n (sp_n T n p))))) 64 (nI c : Int32).toNatClampNeg (-1)) b R) (by rfl) (by rfl) (fx_inN (i := c) (by omega) (by omega)) cm_si64 ?_
        rw [show Int32.toNatClampNeg (nI c) = c from nI_clamp (by omega)]
        have hgs12 : ctx (fm_u (fm_u (fm_u a 62 c 7) 63 c (nI (sp_iW A.1.2 (sp_wd T n (sp_n T n p))))) 64 c (-1)) b T n := ctx_t hgs4 (by decide)
        have hTs12 : tfd g l a gc7 lc6 (fm_u (fm_u (fm_u a 62 c 7) 63 c (nI (sp_iW A.1.2 (sp_wd T n (sp_n T n p))))) 64 c (-1)) := tfd_tr hTc7 (tfd_a (by decide))
        have hOs12 : opn (fm_u (fm_u (fm_u a 62 c 7) 63 c (nI (sp_iW A.1.2 (sp_wd T n (sp_n T n p))))) 64 c (-1)) := opn_n hOs4 (by decide)
        have ras12 : tfr a (fm_u (fm_u (fm_u a 62 c 7) 63 c (nI (sp_iW A.1.2 (sp_wd T n (sp_n T n p))))) 64 c (-1)) := tfr_u ras4 (by decide)
        refine he_s 2 (pc' := 160) (lc' := [(4, .int 7), (0, .ref 13), (1, .ref 15), (2, .ref 60), (3, .int (nI c))]) (stk' := [.ref 9]) (mem' := cm gc7 lc6 (fm_u (fm_u (fm_u a 62 c 7) 63 c (nI (sp_iW A.1.2 (sp_wd T n (sp_n T n p))))) 64 c (-1)) b R) (by intro _ _ _; eq_refl) ?_
        obtain ⟨gc13, lc13, hrc13, hmc13, frc13⟩ := ha_scanq (R := R) hgs12 hmc7
        refine he_ivV hrc13 (by omega) (by rfl) (by rfl) (by rfl) (by rfl) (by rfl) (by rfl) ?_
        have hfc13 := cfr_tr hfc7 frc13
        have hAc13 := cn_L_fr hAc7 frc13 (by decide) (by decide)
        have hTc13 := tfd_tr hTs12 (tfd_c (a := (fm_u (fm_u (fm_u a 62 c 7) 63 c (nI (sp_iW A.1.2 (sp_wd T n (sp_n T n p))))) 64 c (-1))) frc13)
        exact he_ret ⟨_, _, _, ⟨hfc13, ras12⟩, Or.inr ⟨(sp_m T n (sp_n T n (sp_n T n (sp_n T n p))), sp_s T n (sp_n T n (sp_n T n (sp_n T n p)))), hmc13, fun c => by rw [show tl_tk T n A 7 p c = sp_walk T n A (sp_n T n p) (fun _ => sp_word T n 18 (sp_n T n (sp_n T n p)) (fun q => sp_cell T n A q (fun _ => c (sp_n T n q)))) from rfl, sp_walk_t hwc3 hvc3, sp_word_t hwc6, sp_cell_f hwc7]⟩, rfl⟩ (by rfl) (by rfl) (by rfl)
    · refine he_s 6 (pc' := 152) (lc' := [(4, .int 7), (0, .ref 13), (1, .ref 15), (2, .ref 60), (3, .int (nI c))]) (stk' := [.ref 15, .ref 9, .int (nI c), .ref 64]) (mem' := cm gc6 lc6 (fm_u (fm_u a 62 c 7) 63 c (nI (sp_iW A.1.2 (sp_wd T n (sp_n T n p))))) b R) (by intro _ _ _; eq_refl) ?_
      obtain ⟨vc14, memc14, ⟨xc14, gc14, lc14, frc14, hmc14, hbc14, hRc14⟩, hrc14⟩ := ha_ch15q0 (R := R) hgs4 hAc6 hmc6
      cases hRc14
      refine he_ivV hrc14 (by omega) (by rfl) (by rfl) (by rfl) (by rfl) (by rfl) (by rfl) ?_
      have hfc14 := cfr_tr hfc6 frc14
      have hAc14 := cn_L_fr hAc6 frc14 (by decide) (by decide)
      have hTc14 := tfd_tr hTc6 (tfd_c (a := (fm_u (fm_u a 62 c 7) 63 c (nI (sp_iW A.1.2 (sp_wd T n (sp_n T n p)))))) frc14)
      refine he_stI (mem' := cm gc14 lc14 (fm_u (fm_u (fm_u a 62 c 7) 63 c (nI (sp_iW A.1.2 (sp_wd T n (sp_n T n p))))) 64 (nI c : Int32).toNatClampNeg xc14) b R) (by rfl) (by rfl) (fx_inN (i := c) (by omega) (by omega)) cm_si64 ?_
      rw [show Int32.toNatClampNeg (nI c) = c from nI_clamp (by omega)]
      have hgs15 : ctx (fm_u (fm_u (fm_u a 62 c 7) 63 c (nI (sp_iW A.1.2 (sp_wd T n (sp_n T n p))))) 64 c xc14) b T n := ctx_t hgs4 (by decide)
      have hTs15 : tfd g l a gc14 lc14 (fm_u (fm_u (fm_u a 62 c 7) 63 c (nI (sp_iW A.1.2 (sp_wd T n (sp_n T n p))))) 64 c xc14) := tfd_tr hTc14 (tfd_a (by decide))
      have hOs15 : opn (fm_u (fm_u (fm_u a 62 c 7) 63 c (nI (sp_iW A.1.2 (sp_wd T n (sp_n T n p))))) 64 c xc14) := opn_n hOs4 (by decide)
      have ras15 : tfr a (fm_u (fm_u (fm_u a 62 c 7) 63 c (nI (sp_iW A.1.2 (sp_wd T n (sp_n T n p))))) 64 c xc14) := tfr_u ras4 (by decide)
      refine he_s 2 (pc' := 160) (lc' := [(4, .int 7), (0, .ref 13), (1, .ref 15), (2, .ref 60), (3, .int (nI c))]) (stk' := [.ref 9]) (mem' := cm gc14 lc14 (fm_u (fm_u (fm_u a 62 c 7) 63 c (nI (sp_iW A.1.2 (sp_wd T n (sp_n T n p))))) 64 c xc14) b R) (by intro _ _ _; eq_refl) ?_
      obtain ⟨gc16, lc16, hrc16, hmc16, frc16⟩ := ha_scanq (R := R) hgs15 hmc14
      refine he_ivV hrc16 (by omega) (by rfl) (by rfl) (by rfl) (by rfl) (by rfl) (by rfl) ?_
      have hfc16 := cfr_tr hfc14 frc16
      have hAc16 := cn_L_fr hAc14 frc16 (by decide) (by decide)
      have hTc16 := tfd_tr hTs15 (tfd_c (a := (fm_u (fm_u (fm_u a 62 c 7) 63 c (nI (sp_iW A.1.2 (sp_wd T n (sp_n T n p))))) 64 c xc14)) frc16)
      exact he_ret ⟨_, _, _, ⟨hfc16, ras15⟩, Or.inr ⟨(sp_m T n (sp_n T n (sp_n T n p)), sp_s T n (sp_n T n (sp_n T n p))), hmc16, fun c => by rw [show tl_tk T n A 7 p c = sp_walk T n A (sp_n T n p) (fun _ => sp_word T n 18 (sp_n T n (sp_n T n p)) (fun q => sp_cell T n A q (fun _ => c (sp_n T n q)))) from rfl, sp_walk_t hwc3 hvc3, sp_word_f hwc6]⟩, rfl⟩ (by rfl) (by rfl) (by rfl)
  · refine he_stI (mem' := cm gc3 lc2 (fm_u (fm_u a 62 c 7) 63 (nI c : Int32).toNatClampNeg (-1)) b R) (by rfl) (by rfl) (fx_inN (i := c) (by omega) (by omega)) cm_si63 ?_
    rw [show Int32.toNatClampNeg (nI c) = c from nI_clamp (by omega)]
    have hgs17 : ctx (fm_u (fm_u a 62 c 7) 63 c (-1)) b T n := ctx_t hgs1 (by decide)
    have hTs17 : tfd g l a gc3 lc2 (fm_u (fm_u a 62 c 7) 63 c (-1)) := tfd_tr hTc3 (tfd_a (by decide))
    have hOs17 : opn (fm_u (fm_u a 62 c 7) 63 c (-1)) := opn_n hOs1 (by decide)
    have ras17 : tfr a (fm_u (fm_u a 62 c 7) 63 c (-1)) := tfr_u ras1 (by decide)
    refine he_s 2 (pc' := 87) (lc' := [(4, .int 7), (0, .ref 13), (1, .ref 15), (2, .ref 60), (3, .int (nI c))]) (stk' := [.ref 9]) (mem' := cm gc3 lc2 (fm_u (fm_u a 62 c 7) 63 c (-1)) b R) (by intro _ _ _; eq_refl) ?_
    obtain ⟨gc18, lc18, hrc18, hmc18, frc18⟩ := ha_scanq (R := R) hgs17 hmc3
    refine he_ivV hrc18 (by omega) (by rfl) (by rfl) (by rfl) (by rfl) (by rfl) (by rfl) ?_
    have hfc18 := cfr_tr hfc3 frc18
    have hAc18 := cn_L_fr hAc3 frc18 (by decide) (by decide)
    have hTc18 := tfd_tr hTs17 (tfd_c (a := (fm_u (fm_u a 62 c 7) 63 c (-1))) frc18)
    refine he_s 2 (pc' := 93) (lc' := [(4, .int 7), (0, .ref 13), (1, .ref 15), (2, .ref 60), (3, .int (nI c))]) (stk' := [.int 1, .int 7]) (mem' := cm gc18 lc18 (fm_u (fm_u a 62 c 7) 63 c (-1)) b R) (by intro _ _ _; eq_refl) ?_
    refine he_s 1 (pc' := cond (fx_cb .ne 7 1) 126 96) (lc' := [(4, .int 7), (0, .ref 13), (1, .ref 15), (2, .ref 60), (3, .int (nI c))]) (stk' := []) (mem' := cm gc18 lc18 (fm_u (fm_u a 62 c 7) 63 c (-1)) b R) (by intro _ _ _; eq_refl) ?_
    rw [show (fx_cb .ne 7 1) = true from by decide]
    dsimp only [cond]
    refine he_s 2 (pc' := 130) (lc' := [(4, .int 7), (0, .ref 13), (1, .ref 15), (2, .ref 60), (3, .int (nI c))]) (stk' := [.int 7, .int 7]) (mem' := cm gc18 lc18 (fm_u (fm_u a 62 c 7) 63 c (-1)) b R) (by intro _ _ _; eq_refl) ?_
    refine he_s 1 (pc' := cond (fx_cb .ne 7 7) 163 133) (lc' := [(4, .int 7), (0, .ref 13), (1, .ref 15), (2, .ref 60), (3, .int (nI c))]) (stk' := []) (mem' := cm gc18 lc18 (fm_u (fm_u a 62 c 7) 63 c (-1)) b R) (by intro _ _ _; eq_refl) ?_
    rw [show (fx_cb .ne 7 7) = false from by decide]
    dsimp only [cond]
    refine he_s 3 (pc' := 139) (lc' := [(4, .int 7), (0, .ref 13), (1, .ref 15), (2, .ref 60), (3, .int (nI c))]) (stk' := [.int 18, .ref 9]) (mem' := cm gc18 lc18 (fm_u (fm_u a 62 c 7) 63 c (-1)) b R) (by intro _ _ _; eq_refl) ?_
    obtain ⟨vc19, memc19, ⟨gc19, lc19, frc19, hmc19, hRc19⟩, hrc19⟩ := ha_pwq0 (x := 18) (R := R) hgs17 hmc18
    cases hRc19
    refine he_ivV hrc19 (by omega) (by rfl) (by rfl) (by rfl) (by rfl) (by rfl) (by rfl) ?_
    have hfc19 := cfr_tr hfc18 frc19
    have hAc19 := cn_L_fr hAc18 frc19 (by decide) (by decide)
    have hTc19 := tfd_tr hTc18 (tfd_c (a := (fm_u (fm_u a 62 c 7) 63 c (-1))) frc19)
    refine he_s 6 (pc' := 152) (lc' := [(4, .int 7), (0, .ref 13), (1, .ref 15), (2, .ref 60), (3, .int (nI c))]) (stk' := [.ref 15, .ref 9, .int (nI c), .ref 64]) (mem' := cm gc19 lc19 (fm_u (fm_u a 62 c 7) 63 c (-1)) b R) (by intro _ _ _; eq_refl) ?_
    obtain ⟨vc20, memc20, ⟨xc20, gc20, lc20, frc20, hmc20, hbc20, hRc20⟩, hrc20⟩ := ha_ch15q0 (R := R) hgs17 hAc19 hmc19
    cases hRc20
    refine he_ivV hrc20 (by omega) (by rfl) (by rfl) (by rfl) (by rfl) (by rfl) (by rfl) ?_
    have hfc20 := cfr_tr hfc19 frc20
    have hAc20 := cn_L_fr hAc19 frc20 (by decide) (by decide)
    have hTc20 := tfd_tr hTc19 (tfd_c (a := (fm_u (fm_u a 62 c 7) 63 c (-1))) frc20)
    refine he_stI (mem' := cm gc20 lc20 (fm_u (fm_u (fm_u a 62 c 7) 63 c (-1)) 64 (nI c : Int32).toNatClampNeg xc20) b R) (by rfl) (by rfl) (fx_inN (i := c) (by omega) (by omega)) cm_si64 ?_
    rw [show Int32.toNatClampNeg (nI c) = c from nI_clamp (by omega)]
    have hgs21 : ctx (fm_u (fm_u (fm_u a 62 c 7) 63 c (-1)) 64 c xc20) b T n := ctx_t hgs17 (by decide)
    have hTs21 : tfd g l a gc20 lc20 (fm_u (fm_u (fm_u a 62 c 7) 63 c (-1)) 64 c xc20) := tfd_tr hTc20 (tfd_a (by decide))
    have hOs21 : opn (fm_u (fm_u (fm_u a 62 c 7) 63 c (-1)) 64 c xc20) := opn_n hOs17 (by decide)
    have ras21 : tfr a (fm_u (fm_u (fm_u a 62 c 7) 63 c (-1)) 64 c xc20) := tfr_u ras17 (by decide)
    refine he_s 2 (pc' := 160) (lc' := [(4, .int 7), (0, .ref 13), (1, .ref 15), (2, .ref 60), (3, .int (nI c))]) (stk' := [.ref 9]) (mem' := cm gc20 lc20 (fm_u (fm_u (fm_u a 62 c 7) 63 c (-1)) 64 c xc20) b R) (by intro _ _ _; eq_refl) ?_
    obtain ⟨gc22, lc22, hrc22, hmc22, frc22⟩ := ha_scanq (R := R) hgs21 hmc20
    refine he_ivV hrc22 (by omega) (by rfl) (by rfl) (by rfl) (by rfl) (by rfl) (by rfl) ?_
    have hfc22 := cfr_tr hfc20 frc22
    have hAc22 := cn_L_fr hAc20 frc22 (by decide) (by decide)
    have hTc22 := tfd_tr hTs21 (tfd_c (a := (fm_u (fm_u (fm_u a 62 c 7) 63 c (-1)) 64 c xc20)) frc22)
    exact he_ret ⟨_, _, _, ⟨hfc22, ras21⟩, Or.inr ⟨(3, sp_s T n (sp_n T n p)), hmc22, fun c => by rw [show tl_tk T n A 7 p c = sp_walk T n A (sp_n T n p) (fun _ => sp_word T n 18 (sp_n T n (sp_n T n p)) (fun q => sp_cell T n A q (fun _ => c (sp_n T n q)))) from rfl, sp_walk_3 hwc3 hvc3]⟩, rfl⟩ (by rfl) (by rfl) (by rfl)
  · refine he_stI (mem' := cm gc3 lc2 (fm_u (fm_u a 62 c 7) 63 (nI c : Int32).toNatClampNeg (-1)) b R) (by rfl) (by rfl) (fx_inN (i := c) (by omega) (by omega)) cm_si63 ?_
    rw [show Int32.toNatClampNeg (nI c) = c from nI_clamp (by omega)]
    have hgs23 : ctx (fm_u (fm_u a 62 c 7) 63 c (-1)) b T n := ctx_t hgs1 (by decide)
    have hTs23 : tfd g l a gc3 lc2 (fm_u (fm_u a 62 c 7) 63 c (-1)) := tfd_tr hTc3 (tfd_a (by decide))
    have hOs23 : opn (fm_u (fm_u a 62 c 7) 63 c (-1)) := opn_n hOs1 (by decide)
    have ras23 : tfr a (fm_u (fm_u a 62 c 7) 63 c (-1)) := tfr_u ras1 (by decide)
    refine he_s 2 (pc' := 87) (lc' := [(4, .int 7), (0, .ref 13), (1, .ref 15), (2, .ref 60), (3, .int (nI c))]) (stk' := [.ref 9]) (mem' := cm gc3 lc2 (fm_u (fm_u a 62 c 7) 63 c (-1)) b R) (by intro _ _ _; eq_refl) ?_
    obtain ⟨gc24, lc24, hrc24, hmc24, frc24⟩ := ha_scanq (R := R) hgs23 hmc3
    refine he_ivV hrc24 (by omega) (by rfl) (by rfl) (by rfl) (by rfl) (by rfl) (by rfl) ?_
    have hfc24 := cfr_tr hfc3 frc24
    have hAc24 := cn_L_fr hAc3 frc24 (by decide) (by decide)
    have hTc24 := tfd_tr hTs23 (tfd_c (a := (fm_u (fm_u a 62 c 7) 63 c (-1))) frc24)
    refine he_s 2 (pc' := 93) (lc' := [(4, .int 7), (0, .ref 13), (1, .ref 15), (2, .ref 60), (3, .int (nI c))]) (stk' := [.int 1, .int 7]) (mem' := cm gc24 lc24 (fm_u (fm_u a 62 c 7) 63 c (-1)) b R) (by intro _ _ _; eq_refl) ?_
    refine he_s 1 (pc' := cond (fx_cb .ne 7 1) 126 96) (lc' := [(4, .int 7), (0, .ref 13), (1, .ref 15), (2, .ref 60), (3, .int (nI c))]) (stk' := []) (mem' := cm gc24 lc24 (fm_u (fm_u a 62 c 7) 63 c (-1)) b R) (by intro _ _ _; eq_refl) ?_
    rw [show (fx_cb .ne 7 1) = true from by decide]
    dsimp only [cond]
    refine he_s 2 (pc' := 130) (lc' := [(4, .int 7), (0, .ref 13), (1, .ref 15), (2, .ref 60), (3, .int (nI c))]) (stk' := [.int 7, .int 7]) (mem' := cm gc24 lc24 (fm_u (fm_u a 62 c 7) 63 c (-1)) b R) (by intro _ _ _; eq_refl) ?_
    refine he_s 1 (pc' := cond (fx_cb .ne 7 7) 163 133) (lc' := [(4, .int 7), (0, .ref 13), (1, .ref 15), (2, .ref 60), (3, .int (nI c))]) (stk' := []) (mem' := cm gc24 lc24 (fm_u (fm_u a 62 c 7) 63 c (-1)) b R) (by intro _ _ _; eq_refl) ?_
    rw [show (fx_cb .ne 7 7) = false from by decide]
    dsimp only [cond]
    refine he_s 3 (pc' := 139) (lc' := [(4, .int 7), (0, .ref 13), (1, .ref 15), (2, .ref 60), (3, .int (nI c))]) (stk' := [.int 18, .ref 9]) (mem' := cm gc24 lc24 (fm_u (fm_u a 62 c 7) 63 c (-1)) b R) (by intro _ _ _; eq_refl) ?_
    obtain ⟨vc25, memc25, ⟨gc25, lc25, frc25, hmc25, hRc25⟩, hrc25⟩ := ha_pwq0 (x := 18) (R := R) hgs23 hmc24
    cases hRc25
    refine he_ivV hrc25 (by omega) (by rfl) (by rfl) (by rfl) (by rfl) (by rfl) (by rfl) ?_
    have hfc25 := cfr_tr hfc24 frc25
    have hAc25 := cn_L_fr hAc24 frc25 (by decide) (by decide)
    have hTc25 := tfd_tr hTc24 (tfd_c (a := (fm_u (fm_u a 62 c 7) 63 c (-1))) frc25)
    refine he_s 6 (pc' := 152) (lc' := [(4, .int 7), (0, .ref 13), (1, .ref 15), (2, .ref 60), (3, .int (nI c))]) (stk' := [.ref 15, .ref 9, .int (nI c), .ref 64]) (mem' := cm gc25 lc25 (fm_u (fm_u a 62 c 7) 63 c (-1)) b R) (by intro _ _ _; eq_refl) ?_
    obtain ⟨vc26, memc26, ⟨xc26, gc26, lc26, frc26, hmc26, hbc26, hRc26⟩, hrc26⟩ := ha_ch15q0 (R := R) hgs23 hAc25 hmc25
    cases hRc26
    refine he_ivV hrc26 (by omega) (by rfl) (by rfl) (by rfl) (by rfl) (by rfl) (by rfl) ?_
    have hfc26 := cfr_tr hfc25 frc26
    have hAc26 := cn_L_fr hAc25 frc26 (by decide) (by decide)
    have hTc26 := tfd_tr hTc25 (tfd_c (a := (fm_u (fm_u a 62 c 7) 63 c (-1))) frc26)
    refine he_stI (mem' := cm gc26 lc26 (fm_u (fm_u (fm_u a 62 c 7) 63 c (-1)) 64 (nI c : Int32).toNatClampNeg xc26) b R) (by rfl) (by rfl) (fx_inN (i := c) (by omega) (by omega)) cm_si64 ?_
    rw [show Int32.toNatClampNeg (nI c) = c from nI_clamp (by omega)]
    have hgs27 : ctx (fm_u (fm_u (fm_u a 62 c 7) 63 c (-1)) 64 c xc26) b T n := ctx_t hgs23 (by decide)
    have hTs27 : tfd g l a gc26 lc26 (fm_u (fm_u (fm_u a 62 c 7) 63 c (-1)) 64 c xc26) := tfd_tr hTc26 (tfd_a (by decide))
    have hOs27 : opn (fm_u (fm_u (fm_u a 62 c 7) 63 c (-1)) 64 c xc26) := opn_n hOs23 (by decide)
    have ras27 : tfr a (fm_u (fm_u (fm_u a 62 c 7) 63 c (-1)) 64 c xc26) := tfr_u ras23 (by decide)
    refine he_s 2 (pc' := 160) (lc' := [(4, .int 7), (0, .ref 13), (1, .ref 15), (2, .ref 60), (3, .int (nI c))]) (stk' := [.ref 9]) (mem' := cm gc26 lc26 (fm_u (fm_u (fm_u a 62 c 7) 63 c (-1)) 64 c xc26) b R) (by intro _ _ _; eq_refl) ?_
    obtain ⟨gc28, lc28, hrc28, hmc28, frc28⟩ := ha_scanq (R := R) hgs27 hmc26
    refine he_ivV hrc28 (by omega) (by rfl) (by rfl) (by rfl) (by rfl) (by rfl) (by rfl) ?_
    have hfc28 := cfr_tr hfc26 frc28
    have hAc28 := cn_L_fr hAc26 frc28 (by decide) (by decide)
    have hTc28 := tfd_tr hTs27 (tfd_c (a := (fm_u (fm_u (fm_u a 62 c 7) 63 c (-1)) 64 c xc26)) frc28)
    exact he_ret ⟨_, _, _, ⟨hfc28, ras27⟩, Or.inr ⟨(sp_m T n (sp_n T n p), sp_s T n (sp_n T n p)), hmc28, fun c => by rw [show tl_tk T n A 7 p c = sp_walk T n A (sp_n T n p) (fun _ => sp_word T n 18 (sp_n T n (sp_n T n p)) (fun q => sp_cell T n A q (fun _ => c (sp_n T n q)))) from rfl, sp_walk_f hwc3]⟩, rfl⟩ (by rfl) (by rfl) (by rfl)
theorem ha_tt19 (hg : ctx a b T n) (hA : cn_L 15 A g b) (hO : opn a) (h : co g l T n p) (hc : c < 30) (hw : g 9 7 = 19) : ∃ (v : Option Value) (mem' : fx_M), (fun R1 => ∃ (g' : Nat → Nat → Int32) (l' : Nat → Nat → Int64) (a' : Nat → Nat → Int32), (cfr g l g' l' ∧ tfr a a') ∧ tOut (tl_tk T n A 19 p) g' l' T n ∧ R1 = (none, cm g' l' a' b R)) (v, mem') ∧ hr_T 5 124 [.ref 13, .ref 15, .ref 60, .int (nI c)] (cm g l a b R) v mem' := by
  refine he_meth (F := fun R1 => ∃ (g' : Nat → Nat → Int32) (l' : Nat → Nat → Int64) (a' : Nat → Nat → Int32), (cfr g l g' l' ∧ tfr a a') ∧ tOut (tl_tk T n A 19 p) g' l' T n ∧ R1 = (none, cm g' l' a' b R)) (M := gk_m124) (by rfl) (by rfl) ?_
  refine he_s 8 (pc' := 16) (lc' := [(4, .int (g 9 7)), (0, .ref 13), (1, .ref 15), (2, .ref 60), (3, .int (nI c))]) (stk' := [.int (g 9 7), .int (nI c), .ref 62]) (mem' := cm g l a b R) (by intro _ _ _; eq_refl) ?_
  try rw [hw]
  refine he_stI (mem' := cm g l (fm_u a 62 (nI c : Int32).toNatClampNeg 19) b R) (by rfl) (by rfl) (fx_inN (i := c) (by omega) (by omega)) cm_si62 ?_
  rw [show Int32.toNatClampNeg (nI c) = c from nI_clamp (by omega)]
  have hgs1 : ctx (fm_u a 62 c 19) b T n := ctx_t hg (by decide)
  have hTs1 : tfd g l a g l (fm_u a 62 c 19) := tfd_tr tfd_rf (tfd_a (by decide))
  have hOs1 : opn (fm_u a 62 c 19) := opn_n hO (by decide)
  have ras1 : tfr a (fm_u a 62 c 19) := tfr_u tfr_rf (by decide)
  refine he_s 2 (pc' := 20) (lc' := [(4, .int 19), (0, .ref 13), (1, .ref 15), (2, .ref 60), (3, .int (nI c))]) (stk' := [.int 1, .int 19]) (mem' := cm g l (fm_u a 62 c 19) b R) (by intro _ _ _; eq_refl) ?_
  refine he_s 1 (pc' := cond (fx_cb .eq 19 1) 45 23) (lc' := [(4, .int 19), (0, .ref 13), (1, .ref 15), (2, .ref 60), (3, .int (nI c))]) (stk' := []) (mem' := cm g l (fm_u a 62 c 19) b R) (by intro _ _ _; eq_refl) ?_
  rw [show (fx_cb .eq 19 1) = false from by decide]
  dsimp only [cond]
  refine he_s 2 (pc' := 27) (lc' := [(4, .int 19), (0, .ref 13), (1, .ref 15), (2, .ref 60), (3, .int (nI c))]) (stk' := [.int 7, .int 19]) (mem' := cm g l (fm_u a 62 c 19) b R) (by intro _ _ _; eq_refl) ?_
  refine he_s 1 (pc' := cond (fx_cb .eq 19 7) 45 30) (lc' := [(4, .int 19), (0, .ref 13), (1, .ref 15), (2, .ref 60), (3, .int (nI c))]) (stk' := []) (mem' := cm g l (fm_u a 62 c 19) b R) (by intro _ _ _; eq_refl) ?_
  rw [show (fx_cb .eq 19 7) = false from by decide]
  dsimp only [cond]
  refine he_s 2 (pc' := 34) (lc' := [(4, .int 19), (0, .ref 13), (1, .ref 15), (2, .ref 60), (3, .int (nI c))]) (stk' := [.int 19, .int 19]) (mem' := cm g l (fm_u a 62 c 19) b R) (by intro _ _ _; eq_refl) ?_
  refine he_s 1 (pc' := cond (fx_cb .eq 19 19) 45 37) (lc' := [(4, .int 19), (0, .ref 13), (1, .ref 15), (2, .ref 60), (3, .int (nI c))]) (stk' := []) (mem' := cm g l (fm_u a 62 c 19) b R) (by intro _ _ _; eq_refl) ?_
  rw [show (fx_cb .eq 19 19) = true from by decide]
  dsimp only [cond]
  refine he_s 2 (pc' := 49) (lc' := [(4, .int 19), (0, .ref 13), (1, .ref 15), (2, .ref 60), (3, .int (nI c))]) (stk' := [.ref 9]) (mem' := cm g l (fm_u a 62 c 19) b R) (by intro _ _ _; eq_refl) ?_
  obtain ⟨gc2, lc2, hrc2, hmc2, frc2⟩ := ha_scano (R := R) hgs1 h
  refine he_ivV hrc2 (by omega) (by rfl) (by rfl) (by rfl) (by rfl) (by rfl) (by rfl) ?_
  have hfc2 := cfr_tr cfr_rf frc2
  have hAc2 := cn_L_fr hA frc2 (by decide) (by decide)
  have hTc2 := tfd_tr hTs1 (tfd_c (a := (fm_u a 62 c 19)) frc2)
  refine he_s 5 (pc' := 60) (lc' := [(4, .int 19), (0, .ref 13), (1, .ref 15), (2, .ref 60), (3, .int (nI c))]) (stk' := [.int 1, .int 19, .int (nI c), .ref 63]) (mem' := cm gc2 lc2 (fm_u a 62 c 19) b R) (by intro _ _ _; eq_refl) ?_
  refine he_s 1 (pc' := cond (fx_cb .ne 19 1) 74 63) (lc' := [(4, .int 19), (0, .ref 13), (1, .ref 15), (2, .ref 60), (3, .int (nI c))]) (stk' := [.int (nI c), .ref 63]) (mem' := cm gc2 lc2 (fm_u a 62 c 19) b R) (by intro _ _ _; eq_refl) ?_
  rw [show (fx_cb .ne 19 1) = true from by decide]
  dsimp only [cond]
  refine he_s 3 (pc' := 79) (lc' := [(4, .int 19), (0, .ref 13), (1, .ref 15), (2, .ref 60), (3, .int (nI c))]) (stk' := [.ref 15, .ref 9, .int (nI c), .ref 63]) (mem' := cm gc2 lc2 (fm_u a 62 c 19) b R) (by intro _ _ _; eq_refl) ?_
  obtain ⟨vc3, memc3, ⟨xc3, gc3, frc3, hxc3, hRc3⟩, hrc3⟩ := ha_wh150 (R := R) hgs1 hAc2 hmc2
  cases hRc3
  refine he_ivV hrc3 (by omega) (by rfl) (by rfl) (by rfl) (by rfl) (by rfl) (by rfl) ?_
  have hfc3 := cfr_tr hfc2 frc3
  have hAc3 := cn_L_fr hAc2 frc3 (by decide) (by decide)
  have hTc3 := tfd_tr hTc2 (tfd_c (a := (fm_u a 62 c 19)) frc3)
  rcases hxc3 with ⟨hwc3, hvc3, rfl, hmc3⟩ | ⟨hwc3, hvc3, rfl, hmc3⟩ | ⟨hwc3, rfl, hmc3⟩
  · refine he_stI (mem' := cm gc3 lc2 (fm_u (fm_u a 62 c 19) 63 (nI c : Int32).toNatClampNeg (nI (sp_iW A.1.2 (sp_wd T n (sp_n T n p))))) b R) (by rfl) (by rfl) (fx_inN (i := c) (by omega) (by omega)) cm_si63 ?_
    rw [show Int32.toNatClampNeg (nI c) = c from nI_clamp (by omega)]
    have hgs4 : ctx (fm_u (fm_u a 62 c 19) 63 c (nI (sp_iW A.1.2 (sp_wd T n (sp_n T n p))))) b T n := ctx_t hgs1 (by decide)
    have hTs4 : tfd g l a gc3 lc2 (fm_u (fm_u a 62 c 19) 63 c (nI (sp_iW A.1.2 (sp_wd T n (sp_n T n p))))) := tfd_tr hTc3 (tfd_a (by decide))
    have hOs4 : opn (fm_u (fm_u a 62 c 19) 63 c (nI (sp_iW A.1.2 (sp_wd T n (sp_n T n p))))) := opn_n hOs1 (by decide)
    have ras4 : tfr a (fm_u (fm_u a 62 c 19) 63 c (nI (sp_iW A.1.2 (sp_wd T n (sp_n T n p))))) := tfr_u ras1 (by decide)
    refine he_s 2 (pc' := 87) (lc' := [(4, .int 19), (0, .ref 13), (1, .ref 15), (2, .ref 60), (3, .int (nI c))]) (stk' := [.ref 9]) (mem' := cm gc3 lc2 (fm_u (fm_u a 62 c 19) 63 c (nI (sp_iW A.1.2 (sp_wd T n (sp_n T n p))))) b R) (by intro _ _ _; eq_refl) ?_
    obtain ⟨gc5, lc5, hrc5, hmc5, frc5⟩ := ha_scano (R := R) hgs4 hmc3
    refine he_ivV hrc5 (by omega) (by rfl) (by rfl) (by rfl) (by rfl) (by rfl) (by rfl) ?_
    have hfc5 := cfr_tr hfc3 frc5
    have hAc5 := cn_L_fr hAc3 frc5 (by decide) (by decide)
    have hTc5 := tfd_tr hTs4 (tfd_c (a := (fm_u (fm_u a 62 c 19) 63 c (nI (sp_iW A.1.2 (sp_wd T n (sp_n T n p)))))) frc5)
    refine he_s 2 (pc' := 93) (lc' := [(4, .int 19), (0, .ref 13), (1, .ref 15), (2, .ref 60), (3, .int (nI c))]) (stk' := [.int 1, .int 19]) (mem' := cm gc5 lc5 (fm_u (fm_u a 62 c 19) 63 c (nI (sp_iW A.1.2 (sp_wd T n (sp_n T n p))))) b R) (by intro _ _ _; eq_refl) ?_
    refine he_s 1 (pc' := cond (fx_cb .ne 19 1) 126 96) (lc' := [(4, .int 19), (0, .ref 13), (1, .ref 15), (2, .ref 60), (3, .int (nI c))]) (stk' := []) (mem' := cm gc5 lc5 (fm_u (fm_u a 62 c 19) 63 c (nI (sp_iW A.1.2 (sp_wd T n (sp_n T n p))))) b R) (by intro _ _ _; eq_refl) ?_
    rw [show (fx_cb .ne 19 1) = true from by decide]
    dsimp only [cond]
    refine he_s 2 (pc' := 130) (lc' := [(4, .int 19), (0, .ref 13), (1, .ref 15), (2, .ref 60), (3, .int (nI c))]) (stk' := [.int 7, .int 19]) (mem' := cm gc5 lc5 (fm_u (fm_u a 62 c 19) 63 c (nI (sp_iW A.1.2 (sp_wd T n (sp_n T n p))))) b R) (by intro _ _ _; eq_refl) ?_
    refine he_s 1 (pc' := cond (fx_cb .ne 19 7) 163 133) (lc' := [(4, .int 19), (0, .ref 13), (1, .ref 15), (2, .ref 60), (3, .int (nI c))]) (stk' := []) (mem' := cm gc5 lc5 (fm_u (fm_u a 62 c 19) 63 c (nI (sp_iW A.1.2 (sp_wd T n (sp_n T n p))))) b R) (by intro _ _ _; eq_refl) ?_
    rw [show (fx_cb .ne 19 7) = true from by decide]
    dsimp only [cond]
    exact he_ret ⟨_, _, _, ⟨hfc5, ras4⟩, Or.inl ⟨_, hmc5, fun c => by rw [show tl_tk T n A 19 p c = sp_walk T n A (sp_n T n p) (fun _ => c (sp_n T n (sp_n T n p))) from rfl, sp_walk_t hwc3 hvc3]⟩, rfl⟩ (by rfl) (by rfl) (by rfl)
  · refine he_stI (mem' := cm gc3 lc2 (fm_u (fm_u a 62 c 19) 63 (nI c : Int32).toNatClampNeg (-1)) b R) (by rfl) (by rfl) (fx_inN (i := c) (by omega) (by omega)) cm_si63 ?_
    rw [show Int32.toNatClampNeg (nI c) = c from nI_clamp (by omega)]
    have hgs6 : ctx (fm_u (fm_u a 62 c 19) 63 c (-1)) b T n := ctx_t hgs1 (by decide)
    have hTs6 : tfd g l a gc3 lc2 (fm_u (fm_u a 62 c 19) 63 c (-1)) := tfd_tr hTc3 (tfd_a (by decide))
    have hOs6 : opn (fm_u (fm_u a 62 c 19) 63 c (-1)) := opn_n hOs1 (by decide)
    have ras6 : tfr a (fm_u (fm_u a 62 c 19) 63 c (-1)) := tfr_u ras1 (by decide)
    refine he_s 2 (pc' := 87) (lc' := [(4, .int 19), (0, .ref 13), (1, .ref 15), (2, .ref 60), (3, .int (nI c))]) (stk' := [.ref 9]) (mem' := cm gc3 lc2 (fm_u (fm_u a 62 c 19) 63 c (-1)) b R) (by intro _ _ _; eq_refl) ?_
    obtain ⟨gc7, lc7, hrc7, hmc7, frc7⟩ := ha_scanq (R := R) hgs6 hmc3
    refine he_ivV hrc7 (by omega) (by rfl) (by rfl) (by rfl) (by rfl) (by rfl) (by rfl) ?_
    have hfc7 := cfr_tr hfc3 frc7
    have hAc7 := cn_L_fr hAc3 frc7 (by decide) (by decide)
    have hTc7 := tfd_tr hTs6 (tfd_c (a := (fm_u (fm_u a 62 c 19) 63 c (-1))) frc7)
    refine he_s 2 (pc' := 93) (lc' := [(4, .int 19), (0, .ref 13), (1, .ref 15), (2, .ref 60), (3, .int (nI c))]) (stk' := [.int 1, .int 19]) (mem' := cm gc7 lc7 (fm_u (fm_u a 62 c 19) 63 c (-1)) b R) (by intro _ _ _; eq_refl) ?_
    refine he_s 1 (pc' := cond (fx_cb .ne 19 1) 126 96) (lc' := [(4, .int 19), (0, .ref 13), (1, .ref 15), (2, .ref 60), (3, .int (nI c))]) (stk' := []) (mem' := cm gc7 lc7 (fm_u (fm_u a 62 c 19) 63 c (-1)) b R) (by intro _ _ _; eq_refl) ?_
    rw [show (fx_cb .ne 19 1) = true from by decide]
    dsimp only [cond]
    refine he_s 2 (pc' := 130) (lc' := [(4, .int 19), (0, .ref 13), (1, .ref 15), (2, .ref 60), (3, .int (nI c))]) (stk' := [.int 7, .int 19]) (mem' := cm gc7 lc7 (fm_u (fm_u a 62 c 19) 63 c (-1)) b R) (by intro _ _ _; eq_refl) ?_
    refine he_s 1 (pc' := cond (fx_cb .ne 19 7) 163 133) (lc' := [(4, .int 19), (0, .ref 13), (1, .ref 15), (2, .ref 60), (3, .int (nI c))]) (stk' := []) (mem' := cm gc7 lc7 (fm_u (fm_u a 62 c 19) 63 c (-1)) b R) (by intro _ _ _; eq_refl) ?_
    rw [show (fx_cb .ne 19 7) = true from by decide]
    dsimp only [cond]
    exact he_ret ⟨_, _, _, ⟨hfc7, ras6⟩, Or.inr ⟨(3, sp_s T n (sp_n T n p)), hmc7, fun c => by rw [show tl_tk T n A 19 p c = sp_walk T n A (sp_n T n p) (fun _ => c (sp_n T n (sp_n T n p))) from rfl, sp_walk_3 hwc3 hvc3]⟩, rfl⟩ (by rfl) (by rfl) (by rfl)
  · refine he_stI (mem' := cm gc3 lc2 (fm_u (fm_u a 62 c 19) 63 (nI c : Int32).toNatClampNeg (-1)) b R) (by rfl) (by rfl) (fx_inN (i := c) (by omega) (by omega)) cm_si63 ?_
    rw [show Int32.toNatClampNeg (nI c) = c from nI_clamp (by omega)]
    have hgs8 : ctx (fm_u (fm_u a 62 c 19) 63 c (-1)) b T n := ctx_t hgs1 (by decide)
    have hTs8 : tfd g l a gc3 lc2 (fm_u (fm_u a 62 c 19) 63 c (-1)) := tfd_tr hTc3 (tfd_a (by decide))
    have hOs8 : opn (fm_u (fm_u a 62 c 19) 63 c (-1)) := opn_n hOs1 (by decide)
    have ras8 : tfr a (fm_u (fm_u a 62 c 19) 63 c (-1)) := tfr_u ras1 (by decide)
    refine he_s 2 (pc' := 87) (lc' := [(4, .int 19), (0, .ref 13), (1, .ref 15), (2, .ref 60), (3, .int (nI c))]) (stk' := [.ref 9]) (mem' := cm gc3 lc2 (fm_u (fm_u a 62 c 19) 63 c (-1)) b R) (by intro _ _ _; eq_refl) ?_
    obtain ⟨gc9, lc9, hrc9, hmc9, frc9⟩ := ha_scanq (R := R) hgs8 hmc3
    refine he_ivV hrc9 (by omega) (by rfl) (by rfl) (by rfl) (by rfl) (by rfl) (by rfl) ?_
    have hfc9 := cfr_tr hfc3 frc9
    have hAc9 := cn_L_fr hAc3 frc9 (by decide) (by decide)
    have hTc9 := tfd_tr hTs8 (tfd_c (a := (fm_u (fm_u a 62 c 19) 63 c (-1))) frc9)
    refine he_s 2 (pc' := 93) (lc' := [(4, .int 19), (0, .ref 13), (1, .ref 15), (2, .ref 60), (3, .int (nI c))]) (stk' := [.int 1, .int 19]) (mem' := cm gc9 lc9 (fm_u (fm_u a 62 c 19) 63 c (-1)) b R) (by intro _ _ _; eq_refl) ?_
    refine he_s 1 (pc' := cond (fx_cb .ne 19 1) 126 96) (lc' := [(4, .int 19), (0, .ref 13), (1, .ref 15), (2, .ref 60), (3, .int (nI c))]) (stk' := []) (mem' := cm gc9 lc9 (fm_u (fm_u a 62 c 19) 63 c (-1)) b R) (by intro _ _ _; eq_refl) ?_
    rw [show (fx_cb .ne 19 1) = true from by decide]
    dsimp only [cond]
    refine he_s 2 (pc' := 130) (lc' := [(4, .int 19), (0, .ref 13), (1, .ref 15), (2, .ref 60), (3, .int (nI c))]) (stk' := [.int 7, .int 19]) (mem' := cm gc9 lc9 (fm_u (fm_u a 62 c 19) 63 c (-1)) b R) (by intro _ _ _; eq_refl) ?_
    refine he_s 1 (pc' := cond (fx_cb .ne 19 7) 163 133) (lc' := [(4, .int 19), (0, .ref 13), (1, .ref 15), (2, .ref 60), (3, .int (nI c))]) (stk' := []) (mem' := cm gc9 lc9 (fm_u (fm_u a 62 c 19) 63 c (-1)) b R) (by intro _ _ _; eq_refl) ?_
    rw [show (fx_cb .ne 19 7) = true from by decide]
    dsimp only [cond]
    exact he_ret ⟨_, _, _, ⟨hfc9, ras8⟩, Or.inr ⟨(sp_m T n (sp_n T n p), sp_s T n (sp_n T n p)), hmc9, fun c => by rw [show tl_tk T n A 19 p c = sp_walk T n A (sp_n T n p) (fun _ => c (sp_n T n (sp_n T n p))) from rfl, sp_walk_f hwc3]⟩, rfl⟩ (by rfl) (by rfl) (by rfl)
theorem ha_ttN {y : Int32} (hg : ctx a b T n) (hA : cn_L 15 A g b) (hO : opn a) (h : co g l T n p) (hc : c < 30) (hw : g 9 7 = y) (y1 : ¬ y = 1) (y7 : ¬ y = 7) (y19 : ¬ y = 19) : ∃ (v : Option Value) (mem' : fx_M), (fun R1 => ∃ (g' : Nat → Nat → Int32) (a' : Nat → Nat → Int32), (cfr g l g' l ∧ tfr a a') ∧ cq g' l T n (sp_m T n p) (sp_s T n p) ∧ R1 = (none, cm g' l a' b R)) (v, mem') ∧ hr_T 5 124 [.ref 13, .ref 15, .ref 60, .int (nI c)] (cm g l a b R) v mem' := by
  refine he_meth (F := fun R1 => ∃ (g' : Nat → Nat → Int32) (a' : Nat → Nat → Int32), (cfr g l g' l ∧ tfr a a') ∧ cq g' l T n (sp_m T n p) (sp_s T n p) ∧ R1 = (none, cm g' l a' b R)) (M := gk_m124) (by rfl) (by rfl) ?_
  refine he_s 8 (pc' := 16) (lc' := [(4, .int (g 9 7)), (0, .ref 13), (1, .ref 15), (2, .ref 60), (3, .int (nI c))]) (stk' := [.int (g 9 7), .int (nI c), .ref 62]) (mem' := cm g l a b R) (by intro _ _ _; eq_refl) ?_
  try rw [hw]
  refine he_stI (mem' := cm g l (fm_u a 62 (nI c : Int32).toNatClampNeg y) b R) (by rfl) (by rfl) (fx_inN (i := c) (by omega) (by omega)) cm_si62 ?_
  rw [show Int32.toNatClampNeg (nI c) = c from nI_clamp (by omega)]
  have hgs1 : ctx (fm_u a 62 c y) b T n := ctx_t hg (by decide)
  have hTs1 : tfd g l a g l (fm_u a 62 c y) := tfd_tr tfd_rf (tfd_a (by decide))
  have hOs1 : opn (fm_u a 62 c y) := opn_n hO (by decide)
  have ras1 : tfr a (fm_u a 62 c y) := tfr_u tfr_rf (by decide)
  refine he_s 2 (pc' := 20) (lc' := [(4, .int y), (0, .ref 13), (1, .ref 15), (2, .ref 60), (3, .int (nI c))]) (stk' := [.int 1, .int y]) (mem' := cm g l (fm_u a 62 c y) b R) (by intro _ _ _; eq_refl) ?_
  refine he_s 1 (pc' := cond (fx_cb .eq y 1) 45 23) (lc' := [(4, .int y), (0, .ref 13), (1, .ref 15), (2, .ref 60), (3, .int (nI c))]) (stk' := []) (mem' := cm g l (fm_u a 62 c y) b R) (by intro _ _ _; eq_refl) ?_
  rw [show (fx_cb .eq y 1) = false from decide_eq_false y1]
  dsimp only [cond]
  refine he_s 2 (pc' := 27) (lc' := [(4, .int y), (0, .ref 13), (1, .ref 15), (2, .ref 60), (3, .int (nI c))]) (stk' := [.int 7, .int y]) (mem' := cm g l (fm_u a 62 c y) b R) (by intro _ _ _; eq_refl) ?_
  refine he_s 1 (pc' := cond (fx_cb .eq y 7) 45 30) (lc' := [(4, .int y), (0, .ref 13), (1, .ref 15), (2, .ref 60), (3, .int (nI c))]) (stk' := []) (mem' := cm g l (fm_u a 62 c y) b R) (by intro _ _ _; eq_refl) ?_
  rw [show (fx_cb .eq y 7) = false from decide_eq_false y7]
  dsimp only [cond]
  refine he_s 2 (pc' := 34) (lc' := [(4, .int y), (0, .ref 13), (1, .ref 15), (2, .ref 60), (3, .int (nI c))]) (stk' := [.int 19, .int y]) (mem' := cm g l (fm_u a 62 c y) b R) (by intro _ _ _; eq_refl) ?_
  refine he_s 1 (pc' := cond (fx_cb .eq y 19) 45 37) (lc' := [(4, .int y), (0, .ref 13), (1, .ref 15), (2, .ref 60), (3, .int (nI c))]) (stk' := []) (mem' := cm g l (fm_u a 62 c y) b R) (by intro _ _ _; eq_refl) ?_
  rw [show (fx_cb .eq y 19) = false from decide_eq_false y19]
  dsimp only [cond]
  refine he_s 2 (pc' := 41) (lc' := [(4, .int y), (0, .ref 13), (1, .ref 15), (2, .ref 60), (3, .int (nI c))]) (stk' := [.ref 9]) (mem' := cm g l (fm_u a 62 c y) b R) (by intro _ _ _; eq_refl) ?_
  obtain ⟨gc2, hrc2, hmc2, frc2⟩ := ha_misfit (a := (fm_u a 62 c y)) (b := b) (R := R) h
  refine he_ivV hrc2 (by omega) (by rfl) (by rfl) (by rfl) (by rfl) (by rfl) (by rfl) ?_
  have hfc2 := cfr_tr cfr_rf frc2
  have hAc2 := cn_L_fr hA frc2 (by decide) (by decide)
  have hTc2 := tfd_tr hTs1 (tfd_c (a := (fm_u a 62 c y)) frc2)
  exact he_ret ⟨_, _, ⟨hfc2, ras1⟩, hmc2, rfl⟩ (by rfl) (by rfl) (by rfl)
theorem ha_tt (hg : ctx a b T n) (hA : cn_L 15 A g b) (hO : opn a) (h : co g l T n p) (hc : c < 30) : ∃ (v : Option Value) (mem' : fx_M), (fun R1 => ∃ (g' : Nat → Nat → Int32) (l' : Nat → Nat → Int64) (a' : Nat → Nat → Int32), (cfr g l g' l' ∧ tfr a a') ∧ tOut (tl_test T n A p) g' l' T n ∧ R1 = (none, cm g' l' a' b R)) (v, mem') ∧ hr_T 5 124 [.ref 13, .ref 15, .ref 60, .int (nI c)] (cm g l a b R) v mem' := by
  have h7 := h.2.1.2.2.2.2.1
  by_cases hk : sp_k T n p = 1
  · have hle := sp_kw_le (sp_wd T n p)
    have ht : ∀ c', tl_test T n A p c' = tl_tk T n A (sp_kw (sp_wd T n p)) p c' := fun c' => if_pos hk
    by_cases e1 : sp_kw (sp_wd T n p) = 1
    · obtain ⟨v, mem', ⟨g', l', a', f1, f2, hR⟩, hr⟩ := ha_tt1 (R := R) hg hA hO h hc (h7.trans ((sp_cw_eq (by decide)).mpr ⟨hk, e1⟩))
      refine ⟨v, mem', ⟨g', l', a', f1, ?_, hR⟩, hr⟩
      rcases f2 with ⟨q, q1, q2⟩ | ⟨z, q1, q2⟩
      · exact Or.inl ⟨q, q1, fun c' => by rw [ht, e1]; exact q2 c'⟩
      · exact Or.inr ⟨z, q1, fun c' => by rw [ht, e1]; exact q2 c'⟩
    by_cases e7 : sp_kw (sp_wd T n p) = 7
    · obtain ⟨v, mem', ⟨g', l', a', f1, f2, hR⟩, hr⟩ := ha_tt7 (R := R) hg hA hO h hc (h7.trans ((sp_cw_eq (by decide)).mpr ⟨hk, e7⟩))
      refine ⟨v, mem', ⟨g', l', a', f1, ?_, hR⟩, hr⟩
      rcases f2 with ⟨q, q1, q2⟩ | ⟨z, q1, q2⟩
      · exact Or.inl ⟨q, q1, fun c' => by rw [ht, e7]; exact q2 c'⟩
      · exact Or.inr ⟨z, q1, fun c' => by rw [ht, e7]; exact q2 c'⟩
    by_cases e19 : sp_kw (sp_wd T n p) = 19
    · obtain ⟨v, mem', ⟨g', l', a', f1, f2, hR⟩, hr⟩ := ha_tt19 (R := R) hg hA hO h hc (h7.trans ((sp_cw_eq (by decide)).mpr ⟨hk, e19⟩))
      refine ⟨v, mem', ⟨g', l', a', f1, ?_, hR⟩, hr⟩
      rcases f2 with ⟨q, q1, q2⟩ | ⟨z, q1, q2⟩
      · exact Or.inl ⟨q, q1, fun c' => by rw [ht, e19]; exact q2 c'⟩
      · exact Or.inr ⟨z, q1, fun c' => by rw [ht, e19]; exact q2 c'⟩
    have hm : ∀ c', tl_test T n A p c' = .inl (sp_m T n p, sp_s T n p) := fun c' => by
      rw [ht]
      generalize sp_kw (sp_wd T n p) = k at e1 e7 e19
      unfold tl_tk
      split
      · exact absurd rfl e1
      · exact absurd rfl e7
      · exact absurd rfl e19
      · rfl
    obtain ⟨v, mem', ⟨g', a', f1, f2, hR⟩, hr⟩ := ha_ttN (R := R) hg hA hO h hc rfl (fun z => e1 ((sp_cw_eq (w := 1) (by decide)).mp (h7.symm.trans z)).2) (fun z => e7 ((sp_cw_eq (w := 7) (by decide)).mp (h7.symm.trans z)).2) (fun z => e19 ((sp_cw_eq (w := 19) (by decide)).mp (h7.symm.trans z)).2)
    exact ⟨v, mem', ⟨g', l, a', f1, Or.inr ⟨_, f2, hm⟩, hR⟩, hr⟩
  · have hm : ∀ c', tl_test T n A p c' = .inl (sp_m T n p, sp_s T n p) := fun c' => if_neg hk
    obtain ⟨v, mem', ⟨g', a', f1, f2, hR⟩, hr⟩ := ha_ttN (R := R) hg hA hO h hc rfl (fun z => hk ((sp_cw_eq (w := 1) (by decide)).mp (h7.symm.trans z)).1) (fun z => hk ((sp_cw_eq (w := 7) (by decide)).mp (h7.symm.trans z)).1) (fun z => hk ((sp_cw_eq (w := 19) (by decide)).mp (h7.symm.trans z)).1)
    exact ⟨v, mem', ⟨g', l, a', f1, Or.inr ⟨_, f2, hm⟩, hR⟩, hr⟩
theorem ha_rr11 (hg : ctx a b T n) (hA : cn_L 15 A g b) (hO : opn a) (h : co g l T n p) (hc : c < 30) : ∃ (v : Option Value) (mem' : fx_M), (fun R1 => ∃ (g' : Nat → Nat → Int32) (l' : Nat → Nat → Int64) (a' : Nat → Nat → Int32), (cfr g l g' l' ∧ tfr a a') ∧ tOut (tl_rest T n A 11 p) g' l' T n ∧ R1 = (none, cm g' l' a' b R)) (v, mem') ∧ hr_T 5 123 [.ref 13, .ref 15, .ref 60, .int 11, .int (nI c)] (cm g l a b R) v mem' := by
  refine he_meth (F := fun R1 => ∃ (g' : Nat → Nat → Int32) (l' : Nat → Nat → Int64) (a' : Nat → Nat → Int32), (cfr g l g' l' ∧ tfr a a') ∧ tOut (tl_rest T n A 11 p) g' l' T n ∧ R1 = (none, cm g' l' a' b R)) (M := gk_m123) (by rfl) (by rfl) ?_
  refine he_s 2 (pc' := 56) (lc' := [(0, .ref 13), (1, .ref 15), (2, .ref 60), (3, .int 11), (4, .int (nI c))]) (stk' := []) (mem' := cm g l a b R) (by intro _ _ _; eq_refl) ?_
  refine he_s 6 (pc' := 67) (lc' := [(0, .ref 13), (1, .ref 15), (2, .ref 60), (3, .int 11), (4, .int (nI c))]) (stk' := [.ref 15, .ref 9, .int (nI c), .ref 63]) (mem' := cm g l a b R) (by intro _ _ _; eq_refl) ?_
  obtain ⟨vc1, memc1, ⟨xc1, gc1, frc1, hxc1, hRc1⟩, hrc1⟩ := ha_wh150 (R := R) hg hA h
  cases hRc1
  refine he_ivV hrc1 (by omega) (by rfl) (by rfl) (by rfl) (by rfl) (by rfl) (by rfl) ?_
  have hfc1 := cfr_tr cfr_rf frc1
  have hAc1 := cn_L_fr hA frc1 (by decide) (by decide)
  have hTc1 := tfd_tr tfd_rf (tfd_c (a := a) frc1)
  rcases hxc1 with ⟨hwc1, hvc1, rfl, hmc1⟩ | ⟨hwc1, hvc1, rfl, hmc1⟩ | ⟨hwc1, rfl, hmc1⟩
  · refine he_stI (mem' := cm gc1 l (fm_u a 63 (nI c : Int32).toNatClampNeg (nI (sp_iW A.1.2 (sp_wd T n p)))) b R) (by rfl) (by rfl) (fx_inN (i := c) (by omega) (by omega)) cm_si63 ?_
    rw [show Int32.toNatClampNeg (nI c) = c from nI_clamp (by omega)]
    have hgs2 : ctx (fm_u a 63 c (nI (sp_iW A.1.2 (sp_wd T n p)))) b T n := ctx_t hg (by decide)
    have hTs2 : tfd g l a gc1 l (fm_u a 63 c (nI (sp_iW A.1.2 (sp_wd T n p)))) := tfd_tr hTc1 (tfd_a (by decide))
    have hOs2 : opn (fm_u a 63 c (nI (sp_iW A.1.2 (sp_wd T n p)))) := opn_n hO (by decide)
    have ras2 : tfr a (fm_u a 63 c (nI (sp_iW A.1.2 (sp_wd T n p)))) := tfr_u tfr_rf (by decide)
    refine he_s 2 (pc' := 75) (lc' := [(0, .ref 13), (1, .ref 15), (2, .ref 60), (3, .int 11), (4, .int (nI c))]) (stk' := [.ref 9]) (mem' := cm gc1 l (fm_u a 63 c (nI (sp_iW A.1.2 (sp_wd T n p)))) b R) (by intro _ _ _; eq_refl) ?_
    obtain ⟨gc3, lc3, hrc3, hmc3, frc3⟩ := ha_scano (R := R) hgs2 hmc1
    refine he_ivV hrc3 (by omega) (by rfl) (by rfl) (by rfl) (by rfl) (by rfl) (by rfl) ?_
    have hfc3 := cfr_tr hfc1 frc3
    have hAc3 := cn_L_fr hAc1 frc3 (by decide) (by decide)
    have hTc3 := tfd_tr hTs2 (tfd_c (a := (fm_u a 63 c (nI (sp_iW A.1.2 (sp_wd T n p))))) frc3)
    refine he_s 3 (pc' := 84) (lc' := [(0, .ref 13), (1, .ref 15), (2, .ref 60), (3, .int 11), (4, .int (nI c))]) (stk' := [.int 12, .ref 9]) (mem' := cm gc3 lc3 (fm_u a 63 c (nI (sp_iW A.1.2 (sp_wd T n p)))) b R) (by intro _ _ _; eq_refl) ?_
    obtain ⟨vc4, memc4, ⟨gc4, lc4, frc4, hxc4, hRc4⟩, hrc4⟩ := ha_pw0 (w := 12) (R := R) hgs2 (by decide) hmc3
    cases hRc4
    refine he_ivV hrc4 (by omega) (by rfl) (by rfl) (by rfl) (by rfl) (by rfl) (by rfl) ?_
    have hfc4 := cfr_tr hfc3 frc4
    have hAc4 := cn_L_fr hAc3 frc4 (by decide) (by decide)
    have hTc4 := tfd_tr hTc3 (tfd_c (a := (fm_u a 63 c (nI (sp_iW A.1.2 (sp_wd T n p))))) frc4)
    rcases hxc4 with ⟨hwc4, hmc4⟩ | ⟨hwc4, hmc4⟩
    · refine he_s 6 (pc' := 98) (lc' := [(0, .ref 13), (1, .ref 15), (2, .ref 60), (3, .int 11), (4, .int (nI c))]) (stk' := [.ref 15, .ref 9, .int (nI c), .ref 64]) (mem' := cm gc4 lc4 (fm_u a 63 c (nI (sp_iW A.1.2 (sp_wd T n p)))) b R) (by intro _ _ _; eq_refl) ?_
      obtain ⟨vc5, memc5, ⟨xc5, gc5, frc5, hxc5, hRc5⟩, hrc5⟩ := ha_ch150 (R := R) hgs2 hAc4 hmc4
      cases hRc5
      refine he_ivV hrc5 (by omega) (by rfl) (by rfl) (by rfl) (by rfl) (by rfl) (by rfl) ?_
      have hfc5 := cfr_tr hfc4 frc5
      have hAc5 := cn_L_fr hAc4 frc5 (by decide) (by decide)
      have hTc5 := tfd_tr hTc4 (tfd_c (a := (fm_u a 63 c (nI (sp_iW A.1.2 (sp_wd T n p))))) frc5)
      rcases hxc5 with ⟨hwc5, hvc5, rfl, hmc5⟩ | ⟨hwc5, hvc5, rfl, hmc5⟩ | ⟨hwc5, rfl, hmc5⟩
      · refine he_stI (mem' := cm gc5 lc4 (fm_u (fm_u a 63 c (nI (sp_iW A.1.2 (sp_wd T n p)))) 64 (nI c : Int32).toNatClampNeg (nI (sp_iC A.1.1 (sp_wd T n (sp_n T n (sp_n T n p)))))) b R) (by rfl) (by rfl) (fx_inN (i := c) (by omega) (by omega)) cm_si64 ?_
        rw [show Int32.toNatClampNeg (nI c) = c from nI_clamp (by omega)]
        have hgs6 : ctx (fm_u (fm_u a 63 c (nI (sp_iW A.1.2 (sp_wd T n p)))) 64 c (nI (sp_iC A.1.1 (sp_wd T n (sp_n T n (sp_n T n p)))))) b T n := ctx_t hgs2 (by decide)
        have hTs6 : tfd g l a gc5 lc4 (fm_u (fm_u a 63 c (nI (sp_iW A.1.2 (sp_wd T n p)))) 64 c (nI (sp_iC A.1.1 (sp_wd T n (sp_n T n (sp_n T n p)))))) := tfd_tr hTc5 (tfd_a (by decide))
        have hOs6 : opn (fm_u (fm_u a 63 c (nI (sp_iW A.1.2 (sp_wd T n p)))) 64 c (nI (sp_iC A.1.1 (sp_wd T n (sp_n T n (sp_n T n p)))))) := opn_n hOs2 (by decide)
        have ras6 : tfr a (fm_u (fm_u a 63 c (nI (sp_iW A.1.2 (sp_wd T n p)))) 64 c (nI (sp_iC A.1.1 (sp_wd T n (sp_n T n (sp_n T n p)))))) := tfr_u ras2 (by decide)
        refine he_s 2 (pc' := 106) (lc' := [(0, .ref 13), (1, .ref 15), (2, .ref 60), (3, .int 11), (4, .int (nI c))]) (stk' := [.ref 9]) (mem' := cm gc5 lc4 (fm_u (fm_u a 63 c (nI (sp_iW A.1.2 (sp_wd T n p)))) 64 c (nI (sp_iC A.1.1 (sp_wd T n (sp_n T n (sp_n T n p)))))) b R) (by intro _ _ _; eq_refl) ?_
        obtain ⟨gc7, lc7, hrc7, hmc7, frc7⟩ := ha_scano (R := R) hgs6 hmc5
        refine he_ivV hrc7 (by omega) (by rfl) (by rfl) (by rfl) (by rfl) (by rfl) (by rfl) ?_
        have hfc7 := cfr_tr hfc5 frc7
        have hAc7 := cn_L_fr hAc5 frc7 (by decide) (by decide)
        have hTc7 := tfd_tr hTs6 (tfd_c (a := (fm_u (fm_u a 63 c (nI (sp_iW A.1.2 (sp_wd T n p)))) 64 c (nI (sp_iC A.1.1 (sp_wd T n (sp_n T n (sp_n T n p))))))) frc7)
        refine he_s 1 (pc' := 152) (lc' := [(0, .ref 13), (1, .ref 15), (2, .ref 60), (3, .int 11), (4, .int (nI c))]) (stk' := []) (mem' := cm gc7 lc7 (fm_u (fm_u a 63 c (nI (sp_iW A.1.2 (sp_wd T n p)))) 64 c (nI (sp_iC A.1.1 (sp_wd T n (sp_n T n (sp_n T n p)))))) b R) (by intro _ _ _; eq_refl) ?_
        exact he_ret ⟨_, _, _, ⟨hfc7, ras6⟩, Or.inl ⟨_, hmc7, fun c => by rw [show tl_rest T n A 11 p c = sp_walk T n A p (fun _ => sp_word T n 12 (sp_n T n p) (fun q => sp_cell T n A q (fun _ => c (sp_n T n q)))) from rfl, sp_walk_t hwc1 hvc1, sp_word_t hwc4, sp_cell_t hwc5 hvc5]⟩, rfl⟩ (by rfl) (by rfl) (by rfl)
      · refine he_stI (mem' := cm gc5 lc4 (fm_u (fm_u a 63 c (nI (sp_iW A.1.2 (sp_wd T n p)))) 64 (nI c : Int32).toNatClampNeg (-1)) b R) (by rfl) (by rfl) (fx_inN (i := c) (by omega) (by omega)) cm_si64 ?_
        rw [show Int32.toNatClampNeg (nI c) = c from nI_clamp (by omega)]
        have hgs8 : ctx (fm_u (fm_u a 63 c (nI (sp_iW A.1.2 (sp_wd T n p)))) 64 c (-1)) b T n := ctx_t hgs2 (by decide)
        have hTs8 : tfd g l a gc5 lc4 (fm_u (fm_u a 63 c (nI (sp_iW A.1.2 (sp_wd T n p)))) 64 c (-1)) := tfd_tr hTc5 (tfd_a (by decide))
        have hOs8 : opn (fm_u (fm_u a 63 c (nI (sp_iW A.1.2 (sp_wd T n p)))) 64 c (-1)) := opn_n hOs2 (by decide)
        have ras8 : tfr a (fm_u (fm_u a 63 c (nI (sp_iW A.1.2 (sp_wd T n p)))) 64 c (-1)) := tfr_u ras2 (by decide)
        refine he_s 2 (pc' := 106) (lc' := [(0, .ref 13), (1, .ref 15), (2, .ref 60), (3, .int 11), (4, .int (nI c))]) (stk' := [.ref 9]) (mem' := cm gc5 lc4 (fm_u (fm_u a 63 c (nI (sp_iW A.1.2 (sp_wd T n p)))) 64 c (-1)) b R) (by intro _ _ _; eq_refl) ?_
        obtain ⟨gc9, lc9, hrc9, hmc9, frc9⟩ := ha_scanq (R := R) hgs8 hmc5
        refine he_ivV hrc9 (by omega) (by rfl) (by rfl) (by rfl) (by rfl) (by rfl) (by rfl) ?_
        have hfc9 := cfr_tr hfc5 frc9
        have hAc9 := cn_L_fr hAc5 frc9 (by decide) (by decide)
        have hTc9 := tfd_tr hTs8 (tfd_c (a := (fm_u (fm_u a 63 c (nI (sp_iW A.1.2 (sp_wd T n p)))) 64 c (-1))) frc9)
        refine he_s 1 (pc' := 152) (lc' := [(0, .ref 13), (1, .ref 15), (2, .ref 60), (3, .int 11), (4, .int (nI c))]) (stk' := []) (mem' := cm gc9 lc9 (fm_u (fm_u a 63 c (nI (sp_iW A.1.2 (sp_wd T n p)))) 64 c (-1)) b R) (by intro _ _ _; eq_refl) ?_
        exact he_ret ⟨_, _, _, ⟨hfc9, ras8⟩, Or.inr ⟨(3, sp_s T n (sp_n T n (sp_n T n p))), hmc9, fun c => by rw [show tl_rest T n A 11 p c = sp_walk T n A p (fun _ => sp_word T n 12 (sp_n T n p) (fun q => sp_cell T n A q (fun _ => c (sp_n T n q)))) from rfl, sp_walk_t hwc1 hvc1, sp_word_t hwc4, sp_cell_3 hwc5 hvc5]⟩, rfl⟩ (by rfl) (by rfl) (by rfl)
      · refine he_stI (mem' := cm gc5 lc4 (fm_u (fm_u a 63 c (nI (sp_iW A.1.2 (sp_wd T n p)))) 64 (nI c : Int32).toNatClampNeg (-1)) b R) (by rfl) (by rfl) (fx_inN (i := c) (by omega) (by omega)) cm_si64 ?_
        rw [show Int32.toNatClampNeg (nI c) = c from nI_clamp (by omega)]
        have hgs10 : ctx (fm_u (fm_u a 63 c (nI (sp_iW A.1.2 (sp_wd T n p)))) 64 c (-1)) b T n := ctx_t hgs2 (by decide)
        have hTs10 : tfd g l a gc5 lc4 (fm_u (fm_u a 63 c (nI (sp_iW A.1.2 (sp_wd T n p)))) 64 c (-1)) := tfd_tr hTc5 (tfd_a (by decide))
        have hOs10 : opn (fm_u (fm_u a 63 c (nI (sp_iW A.1.2 (sp_wd T n p)))) 64 c (-1)) := opn_n hOs2 (by decide)
        have ras10 : tfr a (fm_u (fm_u a 63 c (nI (sp_iW A.1.2 (sp_wd T n p)))) 64 c (-1)) := tfr_u ras2 (by decide)
        refine he_s 2 (pc' := 106) (lc' := [(0, .ref 13), (1, .ref 15), (2, .ref 60), (3, .int 11), (4, .int (nI c))]) (stk' := [.ref 9]) (mem' := cm gc5 lc4 (fm_u (fm_u a 63 c (nI (sp_iW A.1.2 (sp_wd T n p)))) 64 c (-1)) b R) (by intro _ _ _; eq_refl) ?_
        obtain ⟨gc11, lc11, hrc11, hmc11, frc11⟩ := ha_scanq (R := R) hgs10 hmc5
        refine he_ivV hrc11 (by omega) (by rfl) (by rfl) (by rfl) (by rfl) (by rfl) (by rfl) ?_
        have hfc11 := cfr_tr hfc5 frc11
        have hAc11 := cn_L_fr hAc5 frc11 (by decide) (by decide)
        have hTc11 := tfd_tr hTs10 (tfd_c (a := (fm_u (fm_u a 63 c (nI (sp_iW A.1.2 (sp_wd T n p)))) 64 c (-1))) frc11)
        refine he_s 1 (pc' := 152) (lc' := [(0, .ref 13), (1, .ref 15), (2, .ref 60), (3, .int 11), (4, .int (nI c))]) (stk' := []) (mem' := cm gc11 lc11 (fm_u (fm_u a 63 c (nI (sp_iW A.1.2 (sp_wd T n p)))) 64 c (-1)) b R) (by intro _ _ _; eq_refl) ?_
        exact he_ret ⟨_, _, _, ⟨hfc11, ras10⟩, Or.inr ⟨(sp_m T n (sp_n T n (sp_n T n p)), sp_s T n (sp_n T n (sp_n T n p))), hmc11, fun c => by rw [show tl_rest T n A 11 p c = sp_walk T n A p (fun _ => sp_word T n 12 (sp_n T n p) (fun q => sp_cell T n A q (fun _ => c (sp_n T n q)))) from rfl, sp_walk_t hwc1 hvc1, sp_word_t hwc4, sp_cell_f hwc5]⟩, rfl⟩ (by rfl) (by rfl) (by rfl)
    · refine he_s 6 (pc' := 98) (lc' := [(0, .ref 13), (1, .ref 15), (2, .ref 60), (3, .int 11), (4, .int (nI c))]) (stk' := [.ref 15, .ref 9, .int (nI c), .ref 64]) (mem' := cm gc4 lc4 (fm_u a 63 c (nI (sp_iW A.1.2 (sp_wd T n p)))) b R) (by intro _ _ _; eq_refl) ?_
      obtain ⟨vc12, memc12, ⟨xc12, gc12, lc12, frc12, hmc12, hbc12, hRc12⟩, hrc12⟩ := ha_ch15q0 (R := R) hgs2 hAc4 hmc4
      cases hRc12
      refine he_ivV hrc12 (by omega) (by rfl) (by rfl) (by rfl) (by rfl) (by rfl) (by rfl) ?_
      have hfc12 := cfr_tr hfc4 frc12
      have hAc12 := cn_L_fr hAc4 frc12 (by decide) (by decide)
      have hTc12 := tfd_tr hTc4 (tfd_c (a := (fm_u a 63 c (nI (sp_iW A.1.2 (sp_wd T n p))))) frc12)
      refine he_stI (mem' := cm gc12 lc12 (fm_u (fm_u a 63 c (nI (sp_iW A.1.2 (sp_wd T n p)))) 64 (nI c : Int32).toNatClampNeg xc12) b R) (by rfl) (by rfl) (fx_inN (i := c) (by omega) (by omega)) cm_si64 ?_
      rw [show Int32.toNatClampNeg (nI c) = c from nI_clamp (by omega)]
      have hgs13 : ctx (fm_u (fm_u a 63 c (nI (sp_iW A.1.2 (sp_wd T n p)))) 64 c xc12) b T n := ctx_t hgs2 (by decide)
      have hTs13 : tfd g l a gc12 lc12 (fm_u (fm_u a 63 c (nI (sp_iW A.1.2 (sp_wd T n p)))) 64 c xc12) := tfd_tr hTc12 (tfd_a (by decide))
      have hOs13 : opn (fm_u (fm_u a 63 c (nI (sp_iW A.1.2 (sp_wd T n p)))) 64 c xc12) := opn_n hOs2 (by decide)
      have ras13 : tfr a (fm_u (fm_u a 63 c (nI (sp_iW A.1.2 (sp_wd T n p)))) 64 c xc12) := tfr_u ras2 (by decide)
      refine he_s 2 (pc' := 106) (lc' := [(0, .ref 13), (1, .ref 15), (2, .ref 60), (3, .int 11), (4, .int (nI c))]) (stk' := [.ref 9]) (mem' := cm gc12 lc12 (fm_u (fm_u a 63 c (nI (sp_iW A.1.2 (sp_wd T n p)))) 64 c xc12) b R) (by intro _ _ _; eq_refl) ?_
      obtain ⟨gc14, lc14, hrc14, hmc14, frc14⟩ := ha_scanq (R := R) hgs13 hmc12
      refine he_ivV hrc14 (by omega) (by rfl) (by rfl) (by rfl) (by rfl) (by rfl) (by rfl) ?_
      have hfc14 := cfr_tr hfc12 frc14
      have hAc14 := cn_L_fr hAc12 frc14 (by decide) (by decide)
      have hTc14 := tfd_tr hTs13 (tfd_c (a := (fm_u (fm_u a 63 c (nI (sp_iW A.1.2 (sp_wd T n p)))) 64 c xc12)) frc14)
      refine he_s 1 (pc' := 152) (lc' := [(0, .ref 13), (1, .ref 15), (2, .ref 60), (3, .int 11), (4, .int (nI c))]) (stk' := []) (mem' := cm gc14 lc14 (fm_u (fm_u a 63 c (nI (sp_iW A.1.2 (sp_wd T n p)))) 64 c xc12) b R) (by intro _ _ _; eq_refl) ?_
      exact he_ret ⟨_, _, _, ⟨hfc14, ras13⟩, Or.inr ⟨(sp_m T n (sp_n T n p), sp_s T n (sp_n T n p)), hmc14, fun c => by rw [show tl_rest T n A 11 p c = sp_walk T n A p (fun _ => sp_word T n 12 (sp_n T n p) (fun q => sp_cell T n A q (fun _ => c (sp_n T n q)))) from rfl, sp_walk_t hwc1 hvc1, sp_word_f hwc4]⟩, rfl⟩ (by rfl) (by rfl) (by rfl)
  · refine he_stI (mem' := cm gc1 l (fm_u a 63 (nI c : Int32).toNatClampNeg (-1)) b R) (by rfl) (by rfl) (fx_inN (i := c) (by omega) (by omega)) cm_si63 ?_
    rw [show Int32.toNatClampNeg (nI c) = c from nI_clamp (by omega)]
    have hgs15 : ctx (fm_u a 63 c (-1)) b T n := ctx_t hg (by decide)
    have hTs15 : tfd g l a gc1 l (fm_u a 63 c (-1)) := tfd_tr hTc1 (tfd_a (by decide))
    have hOs15 : opn (fm_u a 63 c (-1)) := opn_n hO (by decide)
    have ras15 : tfr a (fm_u a 63 c (-1)) := tfr_u tfr_rf (by decide)
    refine he_s 2 (pc' := 75) (lc' := [(0, .ref 13), (1, .ref 15), (2, .ref 60), (3, .int 11), (4, .int (nI c))]) (stk' := [.ref 9]) (mem' := cm gc1 l (fm_u a 63 c (-1)) b R) (by intro _ _ _; eq_refl) ?_
    obtain ⟨gc16, lc16, hrc16, hmc16, frc16⟩ := ha_scanq (R := R) hgs15 hmc1
    refine he_ivV hrc16 (by omega) (by rfl) (by rfl) (by rfl) (by rfl) (by rfl) (by rfl) ?_
    have hfc16 := cfr_tr hfc1 frc16
    have hAc16 := cn_L_fr hAc1 frc16 (by decide) (by decide)
    have hTc16 := tfd_tr hTs15 (tfd_c (a := (fm_u a 63 c (-1))) frc16)
    refine he_s 3 (pc' := 84) (lc' := [(0, .ref 13), (1, .ref 15), (2, .ref 60), (3, .int 11), (4, .int (nI c))]) (stk' := [.int 12, .ref 9]) (mem' := cm gc16 lc16 (fm_u a 63 c (-1)) b R) (by intro _ _ _; eq_refl) ?_
    obtain ⟨vc17, memc17, ⟨gc17, lc17, frc17, hmc17, hRc17⟩, hrc17⟩ := ha_pwq0 (x := 12) (R := R) hgs15 hmc16
    cases hRc17
    refine he_ivV hrc17 (by omega) (by rfl) (by rfl) (by rfl) (by rfl) (by rfl) (by rfl) ?_
    have hfc17 := cfr_tr hfc16 frc17
    have hAc17 := cn_L_fr hAc16 frc17 (by decide) (by decide)
    have hTc17 := tfd_tr hTc16 (tfd_c (a := (fm_u a 63 c (-1))) frc17)
    refine he_s 6 (pc' := 98) (lc' := [(0, .ref 13), (1, .ref 15), (2, .ref 60), (3, .int 11), (4, .int (nI c))]) (stk' := [.ref 15, .ref 9, .int (nI c), .ref 64]) (mem' := cm gc17 lc17 (fm_u a 63 c (-1)) b R) (by intro _ _ _; eq_refl) ?_
    obtain ⟨vc18, memc18, ⟨xc18, gc18, lc18, frc18, hmc18, hbc18, hRc18⟩, hrc18⟩ := ha_ch15q0 (R := R) hgs15 hAc17 hmc17
    cases hRc18
    refine he_ivV hrc18 (by omega) (by rfl) (by rfl) (by rfl) (by rfl) (by rfl) (by rfl) ?_
    have hfc18 := cfr_tr hfc17 frc18
    have hAc18 := cn_L_fr hAc17 frc18 (by decide) (by decide)
    have hTc18 := tfd_tr hTc17 (tfd_c (a := (fm_u a 63 c (-1))) frc18)
    refine he_stI (mem' := cm gc18 lc18 (fm_u (fm_u a 63 c (-1)) 64 (nI c : Int32).toNatClampNeg xc18) b R) (by rfl) (by rfl) (fx_inN (i := c) (by omega) (by omega)) cm_si64 ?_
    rw [show Int32.toNatClampNeg (nI c) = c from nI_clamp (by omega)]
    have hgs19 : ctx (fm_u (fm_u a 63 c (-1)) 64 c xc18) b T n := ctx_t hgs15 (by decide)
    have hTs19 : tfd g l a gc18 lc18 (fm_u (fm_u a 63 c (-1)) 64 c xc18) := tfd_tr hTc18 (tfd_a (by decide))
    have hOs19 : opn (fm_u (fm_u a 63 c (-1)) 64 c xc18) := opn_n hOs15 (by decide)
    have ras19 : tfr a (fm_u (fm_u a 63 c (-1)) 64 c xc18) := tfr_u ras15 (by decide)
    refine he_s 2 (pc' := 106) (lc' := [(0, .ref 13), (1, .ref 15), (2, .ref 60), (3, .int 11), (4, .int (nI c))]) (stk' := [.ref 9]) (mem' := cm gc18 lc18 (fm_u (fm_u a 63 c (-1)) 64 c xc18) b R) (by intro _ _ _; eq_refl) ?_
    obtain ⟨gc20, lc20, hrc20, hmc20, frc20⟩ := ha_scanq (R := R) hgs19 hmc18
    refine he_ivV hrc20 (by omega) (by rfl) (by rfl) (by rfl) (by rfl) (by rfl) (by rfl) ?_
    have hfc20 := cfr_tr hfc18 frc20
    have hAc20 := cn_L_fr hAc18 frc20 (by decide) (by decide)
    have hTc20 := tfd_tr hTs19 (tfd_c (a := (fm_u (fm_u a 63 c (-1)) 64 c xc18)) frc20)
    refine he_s 1 (pc' := 152) (lc' := [(0, .ref 13), (1, .ref 15), (2, .ref 60), (3, .int 11), (4, .int (nI c))]) (stk' := []) (mem' := cm gc20 lc20 (fm_u (fm_u a 63 c (-1)) 64 c xc18) b R) (by intro _ _ _; eq_refl) ?_
    exact he_ret ⟨_, _, _, ⟨hfc20, ras19⟩, Or.inr ⟨(3, sp_s T n p), hmc20, fun c => by rw [show tl_rest T n A 11 p c = sp_walk T n A p (fun _ => sp_word T n 12 (sp_n T n p) (fun q => sp_cell T n A q (fun _ => c (sp_n T n q)))) from rfl, sp_walk_3 hwc1 hvc1]⟩, rfl⟩ (by rfl) (by rfl) (by rfl)
  · refine he_stI (mem' := cm gc1 l (fm_u a 63 (nI c : Int32).toNatClampNeg (-1)) b R) (by rfl) (by rfl) (fx_inN (i := c) (by omega) (by omega)) cm_si63 ?_
    rw [show Int32.toNatClampNeg (nI c) = c from nI_clamp (by omega)]
    have hgs21 : ctx (fm_u a 63 c (-1)) b T n := ctx_t hg (by decide)
    have hTs21 : tfd g l a gc1 l (fm_u a 63 c (-1)) := tfd_tr hTc1 (tfd_a (by decide))
    have hOs21 : opn (fm_u a 63 c (-1)) := opn_n hO (by decide)
    have ras21 : tfr a (fm_u a 63 c (-1)) := tfr_u tfr_rf (by decide)
    refine he_s 2 (pc' := 75) (lc' := [(0, .ref 13), (1, .ref 15), (2, .ref 60), (3, .int 11), (4, .int (nI c))]) (stk' := [.ref 9]) (mem' := cm gc1 l (fm_u a 63 c (-1)) b R) (by intro _ _ _; eq_refl) ?_
    obtain ⟨gc22, lc22, hrc22, hmc22, frc22⟩ := ha_scanq (R := R) hgs21 hmc1
    refine he_ivV hrc22 (by omega) (by rfl) (by rfl) (by rfl) (by rfl) (by rfl) (by rfl) ?_
    have hfc22 := cfr_tr hfc1 frc22
    have hAc22 := cn_L_fr hAc1 frc22 (by decide) (by decide)
    have hTc22 := tfd_tr hTs21 (tfd_c (a := (fm_u a 63 c (-1))) frc22)
    refine he_s 3 (pc' := 84) (lc' := [(0, .ref 13), (1, .ref 15), (2, .ref 60), (3, .int 11), (4, .int (nI c))]) (stk' := [.int 12, .ref 9]) (mem' := cm gc22 lc22 (fm_u a 63 c (-1)) b R) (by intro _ _ _; eq_refl) ?_
    obtain ⟨vc23, memc23, ⟨gc23, lc23, frc23, hmc23, hRc23⟩, hrc23⟩ := ha_pwq0 (x := 12) (R := R) hgs21 hmc22
    cases hRc23
    refine he_ivV hrc23 (by omega) (by rfl) (by rfl) (by rfl) (by rfl) (by rfl) (by rfl) ?_
    have hfc23 := cfr_tr hfc22 frc23
    have hAc23 := cn_L_fr hAc22 frc23 (by decide) (by decide)
    have hTc23 := tfd_tr hTc22 (tfd_c (a := (fm_u a 63 c (-1))) frc23)
    refine he_s 6 (pc' := 98) (lc' := [(0, .ref 13), (1, .ref 15), (2, .ref 60), (3, .int 11), (4, .int (nI c))]) (stk' := [.ref 15, .ref 9, .int (nI c), .ref 64]) (mem' := cm gc23 lc23 (fm_u a 63 c (-1)) b R) (by intro _ _ _; eq_refl) ?_
    obtain ⟨vc24, memc24, ⟨xc24, gc24, lc24, frc24, hmc24, hbc24, hRc24⟩, hrc24⟩ := ha_ch15q0 (R := R) hgs21 hAc23 hmc23
    cases hRc24
    refine he_ivV hrc24 (by omega) (by rfl) (by rfl) (by rfl) (by rfl) (by rfl) (by rfl) ?_
    have hfc24 := cfr_tr hfc23 frc24
    have hAc24 := cn_L_fr hAc23 frc24 (by decide) (by decide)
    have hTc24 := tfd_tr hTc23 (tfd_c (a := (fm_u a 63 c (-1))) frc24)
    refine he_stI (mem' := cm gc24 lc24 (fm_u (fm_u a 63 c (-1)) 64 (nI c : Int32).toNatClampNeg xc24) b R) (by rfl) (by rfl) (fx_inN (i := c) (by omega) (by omega)) cm_si64 ?_
    rw [show Int32.toNatClampNeg (nI c) = c from nI_clamp (by omega)]
    have hgs25 : ctx (fm_u (fm_u a 63 c (-1)) 64 c xc24) b T n := ctx_t hgs21 (by decide)
    have hTs25 : tfd g l a gc24 lc24 (fm_u (fm_u a 63 c (-1)) 64 c xc24) := tfd_tr hTc24 (tfd_a (by decide))
    have hOs25 : opn (fm_u (fm_u a 63 c (-1)) 64 c xc24) := opn_n hOs21 (by decide)
    have ras25 : tfr a (fm_u (fm_u a 63 c (-1)) 64 c xc24) := tfr_u ras21 (by decide)
    refine he_s 2 (pc' := 106) (lc' := [(0, .ref 13), (1, .ref 15), (2, .ref 60), (3, .int 11), (4, .int (nI c))]) (stk' := [.ref 9]) (mem' := cm gc24 lc24 (fm_u (fm_u a 63 c (-1)) 64 c xc24) b R) (by intro _ _ _; eq_refl) ?_
    obtain ⟨gc26, lc26, hrc26, hmc26, frc26⟩ := ha_scanq (R := R) hgs25 hmc24
    refine he_ivV hrc26 (by omega) (by rfl) (by rfl) (by rfl) (by rfl) (by rfl) (by rfl) ?_
    have hfc26 := cfr_tr hfc24 frc26
    have hAc26 := cn_L_fr hAc24 frc26 (by decide) (by decide)
    have hTc26 := tfd_tr hTs25 (tfd_c (a := (fm_u (fm_u a 63 c (-1)) 64 c xc24)) frc26)
    refine he_s 1 (pc' := 152) (lc' := [(0, .ref 13), (1, .ref 15), (2, .ref 60), (3, .int 11), (4, .int (nI c))]) (stk' := []) (mem' := cm gc26 lc26 (fm_u (fm_u a 63 c (-1)) 64 c xc24) b R) (by intro _ _ _; eq_refl) ?_
    exact he_ret ⟨_, _, _, ⟨hfc26, ras25⟩, Or.inr ⟨(sp_m T n p, sp_s T n p), hmc26, fun c => by rw [show tl_rest T n A 11 p c = sp_walk T n A p (fun _ => sp_word T n 12 (sp_n T n p) (fun q => sp_cell T n A q (fun _ => c (sp_n T n q)))) from rfl, sp_walk_f hwc1]⟩, rfl⟩ (by rfl) (by rfl) (by rfl)
theorem ha_rr13 (hg : ctx a b T n) (hA : cn_L 15 A g b) (hO : opn a) (h : co g l T n p) (hc : c < 30) : ∃ (v : Option Value) (mem' : fx_M), (fun R1 => ∃ (g' : Nat → Nat → Int32) (l' : Nat → Nat → Int64) (a' : Nat → Nat → Int32), (cfr g l g' l' ∧ tfr a a') ∧ tOut (tl_rest T n A 13 p) g' l' T n ∧ R1 = (none, cm g' l' a' b R)) (v, mem') ∧ hr_T 5 123 [.ref 13, .ref 15, .ref 60, .int 13, .int (nI c)] (cm g l a b R) v mem' := by
  refine he_meth (F := fun R1 => ∃ (g' : Nat → Nat → Int32) (l' : Nat → Nat → Int64) (a' : Nat → Nat → Int32), (cfr g l g' l' ∧ tfr a a') ∧ tOut (tl_rest T n A 13 p) g' l' T n ∧ R1 = (none, cm g' l' a' b R)) (M := gk_m123) (by rfl) (by rfl) ?_
  refine he_s 2 (pc' := 112) (lc' := [(0, .ref 13), (1, .ref 15), (2, .ref 60), (3, .int 13), (4, .int (nI c))]) (stk' := []) (mem' := cm g l a b R) (by intro _ _ _; eq_refl) ?_
  refine he_s 7 (pc' := 125) (lc' := [(0, .ref 13), (1, .ref 15), (2, .ref 60), (3, .int 13), (4, .int (nI c))]) (stk' := [.int 20, .int 1, .ref 9, .int (nI c), .ref 63]) (mem' := cm g l a b R) (by intro _ _ _; eq_refl) ?_
  obtain ⟨vc1, memc1, ⟨xc1, gc1, lc1, frc1, hxc1, hRc1⟩, hrc1⟩ := ha_pn0 (lo := 1) (hi := 20) (R := R) hg (by omega) (by decide) h
  cases hRc1
  refine he_ivV hrc1 (by omega) (by rfl) (by rfl) (by rfl) (by rfl) (by rfl) (by rfl) ?_
  have hfc1 := cfr_tr cfr_rf frc1
  have hAc1 := cn_L_fr hA frc1 (by decide) (by decide)
  have hTc1 := tfd_tr tfd_rf (tfd_c (a := a) frc1)
  rcases hxc1 with ⟨hwc1, hvc1, rfl, hmc1⟩ | ⟨hwc1, hvc1, hmc1⟩ | ⟨hwc1, hmc1⟩
  · refine he_stI (mem' := cm gc1 lc1 (fm_u a 63 (nI c : Int32).toNatClampNeg (nI (sp_v T n p))) b R) (by rfl) (by rfl) (fx_inN (i := c) (by omega) (by omega)) cm_si63 ?_
    rw [show Int32.toNatClampNeg (nI c) = c from nI_clamp (by omega)]
    have hgs2 : ctx (fm_u a 63 c (nI (sp_v T n p))) b T n := ctx_t hg (by decide)
    have hTs2 : tfd g l a gc1 lc1 (fm_u a 63 c (nI (sp_v T n p))) := tfd_tr hTc1 (tfd_a (by decide))
    have hOs2 : opn (fm_u a 63 c (nI (sp_v T n p))) := opn_n hO (by decide)
    have ras2 : tfr a (fm_u a 63 c (nI (sp_v T n p))) := tfr_u tfr_rf (by decide)
    refine he_s 1 (pc' := 152) (lc' := [(0, .ref 13), (1, .ref 15), (2, .ref 60), (3, .int 13), (4, .int (nI c))]) (stk' := []) (mem' := cm gc1 lc1 (fm_u a 63 c (nI (sp_v T n p))) b R) (by intro _ _ _; eq_refl) ?_
    exact he_ret ⟨_, _, _, ⟨hfc1, ras2⟩, Or.inl ⟨_, hmc1, fun c => by rw [show tl_rest T n A 13 p c = sp_num T n 1 20 p c from rfl, sp_num_t hwc1 hvc1]⟩, rfl⟩ (by rfl) (by rfl) (by rfl)
  · refine he_stI (mem' := cm gc1 lc1 (fm_u a 63 (nI c : Int32).toNatClampNeg xc1) b R) (by rfl) (by rfl) (fx_inN (i := c) (by omega) (by omega)) cm_si63 ?_
    rw [show Int32.toNatClampNeg (nI c) = c from nI_clamp (by omega)]
    have hgs3 : ctx (fm_u a 63 c xc1) b T n := ctx_t hg (by decide)
    have hTs3 : tfd g l a gc1 lc1 (fm_u a 63 c xc1) := tfd_tr hTc1 (tfd_a (by decide))
    have hOs3 : opn (fm_u a 63 c xc1) := opn_n hO (by decide)
    have ras3 : tfr a (fm_u a 63 c xc1) := tfr_u tfr_rf (by decide)
    refine he_s 1 (pc' := 152) (lc' := [(0, .ref 13), (1, .ref 15), (2, .ref 60), (3, .int 13), (4, .int (nI c))]) (stk' := []) (mem' := cm gc1 lc1 (fm_u a 63 c xc1) b R) (by intro _ _ _; eq_refl) ?_
    exact he_ret ⟨_, _, _, ⟨hfc1, ras3⟩, Or.inr ⟨(4, sp_s T n p), hmc1, fun c => by rw [show tl_rest T n A 13 p c = sp_num T n 1 20 p c from rfl, sp_num_4 hwc1 hvc1]⟩, rfl⟩ (by rfl) (by rfl) (by rfl)
  · refine he_stI (mem' := cm gc1 lc1 (fm_u a 63 (nI c : Int32).toNatClampNeg xc1) b R) (by rfl) (by rfl) (fx_inN (i := c) (by omega) (by omega)) cm_si63 ?_
    rw [show Int32.toNatClampNeg (nI c) = c from nI_clamp (by omega)]
    have hgs4 : ctx (fm_u a 63 c xc1) b T n := ctx_t hg (by decide)
    have hTs4 : tfd g l a gc1 lc1 (fm_u a 63 c xc1) := tfd_tr hTc1 (tfd_a (by decide))
    have hOs4 : opn (fm_u a 63 c xc1) := opn_n hO (by decide)
    have ras4 : tfr a (fm_u a 63 c xc1) := tfr_u tfr_rf (by decide)
    refine he_s 1 (pc' := 152) (lc' := [(0, .ref 13), (1, .ref 15), (2, .ref 60), (3, .int 13), (4, .int (nI c))]) (stk' := []) (mem' := cm gc1 lc1 (fm_u a 63 c xc1) b R) (by intro _ _ _; eq_refl) ?_
    exact he_ret ⟨_, _, _, ⟨hfc1, ras4⟩, Or.inr ⟨(sp_m T n p, sp_s T n p), hmc1, fun c => by rw [show tl_rest T n A 13 p c = sp_num T n 1 20 p c from rfl, sp_num_f hwc1]⟩, rfl⟩ (by rfl) (by rfl) (by rfl)
theorem ha_rr14 (hg : ctx a b T n) (hA : cn_L 15 A g b) (hO : opn a) (h : co g l T n p) (hc : c < 30) : ∃ (v : Option Value) (mem' : fx_M), (fun R1 => ∃ (g' : Nat → Nat → Int32) (l' : Nat → Nat → Int64) (a' : Nat → Nat → Int32), (cfr g l g' l' ∧ tfr a a') ∧ tOut (tl_rest T n A 14 p) g' l' T n ∧ R1 = (none, cm g' l' a' b R)) (v, mem') ∧ hr_T 5 123 [.ref 13, .ref 15, .ref 60, .int 14, .int (nI c)] (cm g l a b R) v mem' := by
  refine he_meth (F := fun R1 => ∃ (g' : Nat → Nat → Int32) (l' : Nat → Nat → Int64) (a' : Nat → Nat → Int32), (cfr g l g' l' ∧ tfr a a') ∧ tOut (tl_rest T n A 14 p) g' l' T n ∧ R1 = (none, cm g' l' a' b R)) (M := gk_m123) (by rfl) (by rfl) ?_
  refine he_s 2 (pc' := 112) (lc' := [(0, .ref 13), (1, .ref 15), (2, .ref 60), (3, .int 14), (4, .int (nI c))]) (stk' := []) (mem' := cm g l a b R) (by intro _ _ _; eq_refl) ?_
  refine he_s 7 (pc' := 125) (lc' := [(0, .ref 13), (1, .ref 15), (2, .ref 60), (3, .int 14), (4, .int (nI c))]) (stk' := [.int 20, .int 1, .ref 9, .int (nI c), .ref 63]) (mem' := cm g l a b R) (by intro _ _ _; eq_refl) ?_
  obtain ⟨vc1, memc1, ⟨xc1, gc1, lc1, frc1, hxc1, hRc1⟩, hrc1⟩ := ha_pn0 (lo := 1) (hi := 20) (R := R) hg (by omega) (by decide) h
  cases hRc1
  refine he_ivV hrc1 (by omega) (by rfl) (by rfl) (by rfl) (by rfl) (by rfl) (by rfl) ?_
  have hfc1 := cfr_tr cfr_rf frc1
  have hAc1 := cn_L_fr hA frc1 (by decide) (by decide)
  have hTc1 := tfd_tr tfd_rf (tfd_c (a := a) frc1)
  rcases hxc1 with ⟨hwc1, hvc1, rfl, hmc1⟩ | ⟨hwc1, hvc1, hmc1⟩ | ⟨hwc1, hmc1⟩
  · refine he_stI (mem' := cm gc1 lc1 (fm_u a 63 (nI c : Int32).toNatClampNeg (nI (sp_v T n p))) b R) (by rfl) (by rfl) (fx_inN (i := c) (by omega) (by omega)) cm_si63 ?_
    rw [show Int32.toNatClampNeg (nI c) = c from nI_clamp (by omega)]
    have hgs2 : ctx (fm_u a 63 c (nI (sp_v T n p))) b T n := ctx_t hg (by decide)
    have hTs2 : tfd g l a gc1 lc1 (fm_u a 63 c (nI (sp_v T n p))) := tfd_tr hTc1 (tfd_a (by decide))
    have hOs2 : opn (fm_u a 63 c (nI (sp_v T n p))) := opn_n hO (by decide)
    have ras2 : tfr a (fm_u a 63 c (nI (sp_v T n p))) := tfr_u tfr_rf (by decide)
    refine he_s 1 (pc' := 152) (lc' := [(0, .ref 13), (1, .ref 15), (2, .ref 60), (3, .int 14), (4, .int (nI c))]) (stk' := []) (mem' := cm gc1 lc1 (fm_u a 63 c (nI (sp_v T n p))) b R) (by intro _ _ _; eq_refl) ?_
    exact he_ret ⟨_, _, _, ⟨hfc1, ras2⟩, Or.inl ⟨_, hmc1, fun c => by rw [show tl_rest T n A 14 p c = sp_num T n 1 20 p c from rfl, sp_num_t hwc1 hvc1]⟩, rfl⟩ (by rfl) (by rfl) (by rfl)
  · refine he_stI (mem' := cm gc1 lc1 (fm_u a 63 (nI c : Int32).toNatClampNeg xc1) b R) (by rfl) (by rfl) (fx_inN (i := c) (by omega) (by omega)) cm_si63 ?_
    rw [show Int32.toNatClampNeg (nI c) = c from nI_clamp (by omega)]
    have hgs3 : ctx (fm_u a 63 c xc1) b T n := ctx_t hg (by decide)
    have hTs3 : tfd g l a gc1 lc1 (fm_u a 63 c xc1) := tfd_tr hTc1 (tfd_a (by decide))
    have hOs3 : opn (fm_u a 63 c xc1) := opn_n hO (by decide)
    have ras3 : tfr a (fm_u a 63 c xc1) := tfr_u tfr_rf (by decide)
    refine he_s 1 (pc' := 152) (lc' := [(0, .ref 13), (1, .ref 15), (2, .ref 60), (3, .int 14), (4, .int (nI c))]) (stk' := []) (mem' := cm gc1 lc1 (fm_u a 63 c xc1) b R) (by intro _ _ _; eq_refl) ?_
    exact he_ret ⟨_, _, _, ⟨hfc1, ras3⟩, Or.inr ⟨(4, sp_s T n p), hmc1, fun c => by rw [show tl_rest T n A 14 p c = sp_num T n 1 20 p c from rfl, sp_num_4 hwc1 hvc1]⟩, rfl⟩ (by rfl) (by rfl) (by rfl)
  · refine he_stI (mem' := cm gc1 lc1 (fm_u a 63 (nI c : Int32).toNatClampNeg xc1) b R) (by rfl) (by rfl) (fx_inN (i := c) (by omega) (by omega)) cm_si63 ?_
    rw [show Int32.toNatClampNeg (nI c) = c from nI_clamp (by omega)]
    have hgs4 : ctx (fm_u a 63 c xc1) b T n := ctx_t hg (by decide)
    have hTs4 : tfd g l a gc1 lc1 (fm_u a 63 c xc1) := tfd_tr hTc1 (tfd_a (by decide))
    have hOs4 : opn (fm_u a 63 c xc1) := opn_n hO (by decide)
    have ras4 : tfr a (fm_u a 63 c xc1) := tfr_u tfr_rf (by decide)
    refine he_s 1 (pc' := 152) (lc' := [(0, .ref 13), (1, .ref 15), (2, .ref 60), (3, .int 14), (4, .int (nI c))]) (stk' := []) (mem' := cm gc1 lc1 (fm_u a 63 c xc1) b R) (by intro _ _ _; eq_refl) ?_
    exact he_ret ⟨_, _, _, ⟨hfc1, ras4⟩, Or.inr ⟨(sp_m T n p, sp_s T n p), hmc1, fun c => by rw [show tl_rest T n A 14 p c = sp_num T n 1 20 p c from rfl, sp_num_f hwc1]⟩, rfl⟩ (by rfl) (by rfl) (by rfl)
theorem ha_rr15 (hg : ctx a b T n) (hA : cn_L 15 A g b) (hO : opn a) (h : co g l T n p) (hc : c < 30) : ∃ (v : Option Value) (mem' : fx_M), (fun R1 => ∃ (g' : Nat → Nat → Int32) (l' : Nat → Nat → Int64) (a' : Nat → Nat → Int32), (cfr g l g' l' ∧ tfr a a') ∧ tOut (tl_rest T n A 15 p) g' l' T n ∧ R1 = (none, cm g' l' a' b R)) (v, mem') ∧ hr_T 5 123 [.ref 13, .ref 15, .ref 60, .int 15, .int (nI c)] (cm g l a b R) v mem' := by
  refine he_meth (F := fun R1 => ∃ (g' : Nat → Nat → Int32) (l' : Nat → Nat → Int64) (a' : Nat → Nat → Int32), (cfr g l g' l' ∧ tfr a a') ∧ tOut (tl_rest T n A 15 p) g' l' T n ∧ R1 = (none, cm g' l' a' b R)) (M := gk_m123) (by rfl) (by rfl) ?_
  refine he_s 2 (pc' := 112) (lc' := [(0, .ref 13), (1, .ref 15), (2, .ref 60), (3, .int 15), (4, .int (nI c))]) (stk' := []) (mem' := cm g l a b R) (by intro _ _ _; eq_refl) ?_
  refine he_s 7 (pc' := 125) (lc' := [(0, .ref 13), (1, .ref 15), (2, .ref 60), (3, .int 15), (4, .int (nI c))]) (stk' := [.int 20, .int 1, .ref 9, .int (nI c), .ref 63]) (mem' := cm g l a b R) (by intro _ _ _; eq_refl) ?_
  obtain ⟨vc1, memc1, ⟨xc1, gc1, lc1, frc1, hxc1, hRc1⟩, hrc1⟩ := ha_pn0 (lo := 1) (hi := 20) (R := R) hg (by omega) (by decide) h
  cases hRc1
  refine he_ivV hrc1 (by omega) (by rfl) (by rfl) (by rfl) (by rfl) (by rfl) (by rfl) ?_
  have hfc1 := cfr_tr cfr_rf frc1
  have hAc1 := cn_L_fr hA frc1 (by decide) (by decide)
  have hTc1 := tfd_tr tfd_rf (tfd_c (a := a) frc1)
  rcases hxc1 with ⟨hwc1, hvc1, rfl, hmc1⟩ | ⟨hwc1, hvc1, hmc1⟩ | ⟨hwc1, hmc1⟩
  · refine he_stI (mem' := cm gc1 lc1 (fm_u a 63 (nI c : Int32).toNatClampNeg (nI (sp_v T n p))) b R) (by rfl) (by rfl) (fx_inN (i := c) (by omega) (by omega)) cm_si63 ?_
    rw [show Int32.toNatClampNeg (nI c) = c from nI_clamp (by omega)]
    have hgs2 : ctx (fm_u a 63 c (nI (sp_v T n p))) b T n := ctx_t hg (by decide)
    have hTs2 : tfd g l a gc1 lc1 (fm_u a 63 c (nI (sp_v T n p))) := tfd_tr hTc1 (tfd_a (by decide))
    have hOs2 : opn (fm_u a 63 c (nI (sp_v T n p))) := opn_n hO (by decide)
    have ras2 : tfr a (fm_u a 63 c (nI (sp_v T n p))) := tfr_u tfr_rf (by decide)
    refine he_s 1 (pc' := 152) (lc' := [(0, .ref 13), (1, .ref 15), (2, .ref 60), (3, .int 15), (4, .int (nI c))]) (stk' := []) (mem' := cm gc1 lc1 (fm_u a 63 c (nI (sp_v T n p))) b R) (by intro _ _ _; eq_refl) ?_
    exact he_ret ⟨_, _, _, ⟨hfc1, ras2⟩, Or.inl ⟨_, hmc1, fun c => by rw [show tl_rest T n A 15 p c = sp_num T n 1 20 p c from rfl, sp_num_t hwc1 hvc1]⟩, rfl⟩ (by rfl) (by rfl) (by rfl)
  · refine he_stI (mem' := cm gc1 lc1 (fm_u a 63 (nI c : Int32).toNatClampNeg xc1) b R) (by rfl) (by rfl) (fx_inN (i := c) (by omega) (by omega)) cm_si63 ?_
    rw [show Int32.toNatClampNeg (nI c) = c from nI_clamp (by omega)]
    have hgs3 : ctx (fm_u a 63 c xc1) b T n := ctx_t hg (by decide)
    have hTs3 : tfd g l a gc1 lc1 (fm_u a 63 c xc1) := tfd_tr hTc1 (tfd_a (by decide))
    have hOs3 : opn (fm_u a 63 c xc1) := opn_n hO (by decide)
    have ras3 : tfr a (fm_u a 63 c xc1) := tfr_u tfr_rf (by decide)
    refine he_s 1 (pc' := 152) (lc' := [(0, .ref 13), (1, .ref 15), (2, .ref 60), (3, .int 15), (4, .int (nI c))]) (stk' := []) (mem' := cm gc1 lc1 (fm_u a 63 c xc1) b R) (by intro _ _ _; eq_refl) ?_
    exact he_ret ⟨_, _, _, ⟨hfc1, ras3⟩, Or.inr ⟨(4, sp_s T n p), hmc1, fun c => by rw [show tl_rest T n A 15 p c = sp_num T n 1 20 p c from rfl, sp_num_4 hwc1 hvc1]⟩, rfl⟩ (by rfl) (by rfl) (by rfl)
  · refine he_stI (mem' := cm gc1 lc1 (fm_u a 63 (nI c : Int32).toNatClampNeg xc1) b R) (by rfl) (by rfl) (fx_inN (i := c) (by omega) (by omega)) cm_si63 ?_
    rw [show Int32.toNatClampNeg (nI c) = c from nI_clamp (by omega)]
    have hgs4 : ctx (fm_u a 63 c xc1) b T n := ctx_t hg (by decide)
    have hTs4 : tfd g l a gc1 lc1 (fm_u a 63 c xc1) := tfd_tr hTc1 (tfd_a (by decide))
    have hOs4 : opn (fm_u a 63 c xc1) := opn_n hO (by decide)
    have ras4 : tfr a (fm_u a 63 c xc1) := tfr_u tfr_rf (by decide)
    refine he_s 1 (pc' := 152) (lc' := [(0, .ref 13), (1, .ref 15), (2, .ref 60), (3, .int 15), (4, .int (nI c))]) (stk' := []) (mem' := cm gc1 lc1 (fm_u a 63 c xc1) b R) (by intro _ _ _; eq_refl) ?_
    exact he_ret ⟨_, _, _, ⟨hfc1, ras4⟩, Or.inr ⟨(sp_m T n p, sp_s T n p), hmc1, fun c => by rw [show tl_rest T n A 15 p c = sp_num T n 1 20 p c from rfl, sp_num_f hwc1]⟩, rfl⟩ (by rfl) (by rfl) (by rfl)
theorem ha_rr16 (hg : ctx a b T n) (hA : cn_L 15 A g b) (hO : opn a) (h : co g l T n p) (hc : c < 30) : ∃ (v : Option Value) (mem' : fx_M), (fun R1 => ∃ (g' : Nat → Nat → Int32) (l' : Nat → Nat → Int64) (a' : Nat → Nat → Int32), (cfr g l g' l' ∧ tfr a a') ∧ tOut (tl_rest T n A 16 p) g' l' T n ∧ R1 = (none, cm g' l' a' b R)) (v, mem') ∧ hr_T 5 123 [.ref 13, .ref 15, .ref 60, .int 16, .int (nI c)] (cm g l a b R) v mem' := by
  refine he_meth (F := fun R1 => ∃ (g' : Nat → Nat → Int32) (l' : Nat → Nat → Int64) (a' : Nat → Nat → Int32), (cfr g l g' l' ∧ tfr a a') ∧ tOut (tl_rest T n A 16 p) g' l' T n ∧ R1 = (none, cm g' l' a' b R)) (M := gk_m123) (by rfl) (by rfl) ?_
  refine he_s 2 (pc' := 152) (lc' := [(0, .ref 13), (1, .ref 15), (2, .ref 60), (3, .int 16), (4, .int (nI c))]) (stk' := []) (mem' := cm g l a b R) (by intro _ _ _; eq_refl) ?_
  exact he_ret ⟨_, _, _, ⟨cfr_rf, tfr_rf⟩, Or.inl ⟨_, h, fun c => by rfl⟩, rfl⟩ (by rfl) (by rfl) (by rfl)
theorem ha_rr20 (hg : ctx a b T n) (hA : cn_L 15 A g b) (hO : opn a) (h : co g l T n p) (hc : c < 30) : ∃ (v : Option Value) (mem' : fx_M), (fun R1 => ∃ (g' : Nat → Nat → Int32) (l' : Nat → Nat → Int64) (a' : Nat → Nat → Int32), (cfr g l g' l' ∧ tfr a a') ∧ tOut (tl_rest T n A 20 p) g' l' T n ∧ R1 = (none, cm g' l' a' b R)) (v, mem') ∧ hr_T 5 123 [.ref 13, .ref 15, .ref 60, .int 20, .int (nI c)] (cm g l a b R) v mem' := by
  refine he_meth (F := fun R1 => ∃ (g' : Nat → Nat → Int32) (l' : Nat → Nat → Int64) (a' : Nat → Nat → Int32), (cfr g l g' l' ∧ tfr a a') ∧ tOut (tl_rest T n A 20 p) g' l' T n ∧ R1 = (none, cm g' l' a' b R)) (M := gk_m123) (by rfl) (by rfl) ?_
  refine he_s 2 (pc' := 132) (lc' := [(0, .ref 13), (1, .ref 15), (2, .ref 60), (3, .int 20), (4, .int (nI c))]) (stk' := []) (mem' := cm g l a b R) (by intro _ _ _; eq_refl) ?_
  refine he_s 7 (pc' := 145) (lc' := [(0, .ref 13), (1, .ref 15), (2, .ref 60), (3, .int 20), (4, .int (nI c))]) (stk' := [.int 99, .int 1, .ref 9, .int (nI c), .ref 63]) (mem' := cm g l a b R) (by intro _ _ _; eq_refl) ?_
  obtain ⟨vc1, memc1, ⟨xc1, gc1, lc1, frc1, hxc1, hRc1⟩, hrc1⟩ := ha_pn0 (lo := 1) (hi := 99) (R := R) hg (by omega) (by decide) h
  cases hRc1
  refine he_ivV hrc1 (by omega) (by rfl) (by rfl) (by rfl) (by rfl) (by rfl) (by rfl) ?_
  have hfc1 := cfr_tr cfr_rf frc1
  have hAc1 := cn_L_fr hA frc1 (by decide) (by decide)
  have hTc1 := tfd_tr tfd_rf (tfd_c (a := a) frc1)
  rcases hxc1 with ⟨hwc1, hvc1, rfl, hmc1⟩ | ⟨hwc1, hvc1, hmc1⟩ | ⟨hwc1, hmc1⟩
  · refine he_stI (mem' := cm gc1 lc1 (fm_u a 63 (nI c : Int32).toNatClampNeg (nI (sp_v T n p))) b R) (by rfl) (by rfl) (fx_inN (i := c) (by omega) (by omega)) cm_si63 ?_
    rw [show Int32.toNatClampNeg (nI c) = c from nI_clamp (by omega)]
    have hgs2 : ctx (fm_u a 63 c (nI (sp_v T n p))) b T n := ctx_t hg (by decide)
    have hTs2 : tfd g l a gc1 lc1 (fm_u a 63 c (nI (sp_v T n p))) := tfd_tr hTc1 (tfd_a (by decide))
    have hOs2 : opn (fm_u a 63 c (nI (sp_v T n p))) := opn_n hO (by decide)
    have ras2 : tfr a (fm_u a 63 c (nI (sp_v T n p))) := tfr_u tfr_rf (by decide)
    refine he_s 1 (pc' := 152) (lc' := [(0, .ref 13), (1, .ref 15), (2, .ref 60), (3, .int 20), (4, .int (nI c))]) (stk' := []) (mem' := cm gc1 lc1 (fm_u a 63 c (nI (sp_v T n p))) b R) (by intro _ _ _; eq_refl) ?_
    exact he_ret ⟨_, _, _, ⟨hfc1, ras2⟩, Or.inl ⟨_, hmc1, fun c => by rw [show tl_rest T n A 20 p c = sp_num T n 1 99 p c from rfl, sp_num_t hwc1 hvc1]⟩, rfl⟩ (by rfl) (by rfl) (by rfl)
  · refine he_stI (mem' := cm gc1 lc1 (fm_u a 63 (nI c : Int32).toNatClampNeg xc1) b R) (by rfl) (by rfl) (fx_inN (i := c) (by omega) (by omega)) cm_si63 ?_
    rw [show Int32.toNatClampNeg (nI c) = c from nI_clamp (by omega)]
    have hgs3 : ctx (fm_u a 63 c xc1) b T n := ctx_t hg (by decide)
    have hTs3 : tfd g l a gc1 lc1 (fm_u a 63 c xc1) := tfd_tr hTc1 (tfd_a (by decide))
    have hOs3 : opn (fm_u a 63 c xc1) := opn_n hO (by decide)
    have ras3 : tfr a (fm_u a 63 c xc1) := tfr_u tfr_rf (by decide)
    refine he_s 1 (pc' := 152) (lc' := [(0, .ref 13), (1, .ref 15), (2, .ref 60), (3, .int 20), (4, .int (nI c))]) (stk' := []) (mem' := cm gc1 lc1 (fm_u a 63 c xc1) b R) (by intro _ _ _; eq_refl) ?_
    exact he_ret ⟨_, _, _, ⟨hfc1, ras3⟩, Or.inr ⟨(4, sp_s T n p), hmc1, fun c => by rw [show tl_rest T n A 20 p c = sp_num T n 1 99 p c from rfl, sp_num_4 hwc1 hvc1]⟩, rfl⟩ (by rfl) (by rfl) (by rfl)
  · refine he_stI (mem' := cm gc1 lc1 (fm_u a 63 (nI c : Int32).toNatClampNeg xc1) b R) (by rfl) (by rfl) (fx_inN (i := c) (by omega) (by omega)) cm_si63 ?_
    rw [show Int32.toNatClampNeg (nI c) = c from nI_clamp (by omega)]
    have hgs4 : ctx (fm_u a 63 c xc1) b T n := ctx_t hg (by decide)
    have hTs4 : tfd g l a gc1 lc1 (fm_u a 63 c xc1) := tfd_tr hTc1 (tfd_a (by decide))
    have hOs4 : opn (fm_u a 63 c xc1) := opn_n hO (by decide)
    have ras4 : tfr a (fm_u a 63 c xc1) := tfr_u tfr_rf (by decide)
    refine he_s 1 (pc' := 152) (lc' := [(0, .ref 13), (1, .ref 15), (2, .ref 60), (3, .int 20), (4, .int (nI c))]) (stk' := []) (mem' := cm gc1 lc1 (fm_u a 63 c xc1) b R) (by intro _ _ _; eq_refl) ?_
    exact he_ret ⟨_, _, _, ⟨hfc1, ras4⟩, Or.inr ⟨(sp_m T n p, sp_s T n p), hmc1, fun c => by rw [show tl_rest T n A 20 p c = sp_num T n 1 99 p c from rfl, sp_num_f hwc1]⟩, rfl⟩ (by rfl) (by rfl) (by rfl)
theorem ha_rr22 (hg : ctx a b T n) (hA : cn_L 15 A g b) (hO : opn a) (h : co g l T n p) (hc : c < 30) : ∃ (v : Option Value) (mem' : fx_M), (fun R1 => ∃ (g' : Nat → Nat → Int32) (l' : Nat → Nat → Int64) (a' : Nat → Nat → Int32), (cfr g l g' l' ∧ tfr a a') ∧ tOut (tl_rest T n A 22 p) g' l' T n ∧ R1 = (none, cm g' l' a' b R)) (v, mem') ∧ hr_T 5 123 [.ref 13, .ref 15, .ref 60, .int 22, .int (nI c)] (cm g l a b R) v mem' := by
  refine he_meth (F := fun R1 => ∃ (g' : Nat → Nat → Int32) (l' : Nat → Nat → Int64) (a' : Nat → Nat → Int32), (cfr g l g' l' ∧ tfr a a') ∧ tOut (tl_rest T n A 22 p) g' l' T n ∧ R1 = (none, cm g' l' a' b R)) (M := gk_m123) (by rfl) (by rfl) ?_
  refine he_s 2 (pc' := 152) (lc' := [(0, .ref 13), (1, .ref 15), (2, .ref 60), (3, .int 22), (4, .int (nI c))]) (stk' := []) (mem' := cm g l a b R) (by intro _ _ _; eq_refl) ?_
  exact he_ret ⟨_, _, _, ⟨cfr_rf, tfr_rf⟩, Or.inl ⟨_, h, fun c => by rfl⟩, rfl⟩ (by rfl) (by rfl) (by rfl)
end CTL
