/-! ===== the class's reader: faults, words, signs, numbers, names ===== -/
/-- all is well at p -/
def co (g : Nat → Nat → Int32) (l : Nat → Nat → Int64) (T : Nat → Nat) (n p : Nat) : Prop := p ≤ n ∧ ck g l T n p ∧ g 9 10 = 0 ∧ g 9 11 = -1
/-- there is a fault -/
def cq (g : Nat → Nat → Int32) (l : Nat → Nat → Int64) (T : Nat → Nat) (n : Nat) (F : Int32) (P : Nat) : Prop := F ≠ 0 ∧ (∃ p, p ≤ n ∧ ck g l T n p) ∧ g 9 10 = F ∧ g 9 11 = nI P
def ctx (a : Nat → Nat → Int32) (b : Nat → Nat → Int64) (T : Nat → Nat) (n : Nat) : Prop := n ≤ 900 ∧ ct (a 10) T n ∧ cr (b 11)
theorem cb_nz_ne {x : Int32} (h : x ≠ 0) : fx_cb .ne x 0 = true := by
  show (!decide (x = 0)) = true
  rw [decide_eq_false h]
  rfl
theorem cb_nz_eq {x : Int32} (h : x ≠ 0) : fx_cb .eq x 0 = false := decide_eq_false h
section CRD
variable {g : Nat → Nat → Int32} {l : Nat → Nat → Int64} {a : Nat → Nat → Int32} {b : Nat → Nat → Int64} {R : fx_M} {T : Nat → Nat} {n p : Nat}
variable {F : Int32} {P : Nat}
theorem ck_f {g' : Nat → Nat → Int32} (h : ck g l T n p) (hg : ∀ k, k < 10 → g' 9 k = g 9 k) : ck g' l T n p := ⟨(hg 3 (by decide)).trans h.1, (hg 4 (by decide)).trans h.2.1, (hg 5 (by decide)).trans h.2.2.1, (hg 6 (by decide)).trans h.2.2.2.1, (hg 7 (by decide)).trans h.2.2.2.2.1, h.2.2.2.2.2.1, fun z => (hg 9 (by decide)).trans (h.2.2.2.2.2.2.1 z), fun z => (hg 9 (by decide)).trans (h.2.2.2.2.2.2.2 z)⟩
theorem ha_fail0 {x : Int32} (h0 : g 9 10 = 0) : hr_T 1 107 [.ref 9, .int x] (cm g l a b R) none (cm (fm_u (fm_u g 9 10 x) 9 11 (g 9 4)) l a b R) := by
  refine hr_meth (by rfl) (by rfl) ?_
  refine hr_s 2 (pc' := 4) (lc' := [(0, .ref 9), (1, .int x)]) (stk' := [.int (g 9 10)]) (mem' := cm g l a b R) (by intro _ _ _; eq_refl) ?_
  rw [h0]
  refine hr_s 8 (pc' := 20) (lc' := [(0, .ref 9), (1, .int x)]) (stk' := []) (mem' := cm (fm_u (fm_u g 9 10 x) 9 11 (g 9 4)) l a b R) (by intro _ _ _; eq_refl) ?_
  exact hr_ret (by rfl) (by rfl) (by rfl)
theorem ha_fail1 {x : Int32} (h0 : g 9 10 ≠ 0) : hr_T 1 107 [.ref 9, .int x] (cm g l a b R) none (cm g l a b R) := by
  refine hr_meth (by rfl) (by rfl) ?_
  refine hr_s 2 (pc' := 4) (lc' := [(0, .ref 9), (1, .int x)]) (stk' := [.int (g 9 10)]) (mem' := cm g l a b R) (by intro _ _ _; eq_refl) ?_
  refine hr_s 1 (pc' := cond (fx_cb .ne (g 9 10) 0) 20 7) (lc' := [(0, .ref 9), (1, .int x)]) (stk' := []) (mem' := cm g l a b R) (by intro _ _ _; eq_refl) ?_
  rw [show fx_cb .ne (g 9 10) 0 = true from by show (!decide (g 9 10 = 0)) = true; rw [decide_eq_false h0]; rfl]
  exact hr_ret (by rfl) (by rfl) (by rfl)
theorem ha_fail {x : Int32} (h : co g l T n p) (hx : x ≠ 0) : ∃ g' : Nat → Nat → Int32, hr_T 1 107 [.ref 9, .int x] (cm g l a b R) none (cm g' l a b R) ∧ cq g' l T n x (sp_s T n p) ∧ cfr g l g' l :=
  ⟨_, ha_fail0 h.2.2.1, ⟨hx, ⟨p, h.1, ck_f h.2.1 (fun k hk => (fm_uo (by omega)).trans (fm_uo (by omega)))⟩, (fm_uo (by decide)).trans fm_ue, fm_ue.trans h.2.1.2.1⟩, cfr_u (cfr_u cfr_rf (by decide)) (by decide)⟩
theorem ha_failq {x : Int32} (h : cq g l T n F P) : hr_T 1 107 [.ref 9, .int x] (cm g l a b R) none (cm g l a b R) := ha_fail1 (by rw [h.2.2.1]; exact h.1)
theorem ha_misfit (h : co g l T n p) : ∃ g' : Nat → Nat → Int32, hr_T 2 108 [.ref 9] (cm g l a b R) none (cm g' l a b R) ∧ cq g' l T n (sp_m T n p) (sp_s T n p) ∧ cfr g l g' l := by
  obtain ⟨g', k1, k2, k3⟩ := ha_fail (a := a) (b := b) (R := R) h (sp_m0 (T := T) (n := n) (p := p))
  refine ⟨g', hr_meth (by rfl) (by rfl) ?_, k2, k3⟩
  refine hr_s 4 (pc' := 6) (lc' := [(0, .ref 9)]) (stk' := [.int 4, .int (g 9 6), .ref 9]) (mem' := cm g l a b R) (by intro _ _ _; eq_refl) ?_
  refine hr_s 1 (pc' := cond (fx_cb .ne (g 9 6) 4) 13 9) (lc' := [(0, .ref 9)]) (stk' := [.ref 9]) (mem' := cm g l a b R) (by intro _ _ _; eq_refl) ?_
  have hm := h.2.1.2.2.2.1
  have h4 := sp_k4 (T := T) (n := n) (p := p)
  rw [hm]
  by_cases e : sp_k T n p = 4
  · rw [show sp_m T n p = 1 from if_pos e] at k1
    rw [show fx_cb .ne (nI (sp_k T n p)) 4 = false from cb_neF (a := sp_k T n p) (b := 4) (by omega) (by omega) e]
    refine hr_s 2 (pc' := 14) (lc' := [(0, .ref 9)]) (stk' := [.int 1, .ref 9]) (mem' := cm g l a b R) (by intro _ _ _; eq_refl) ?_
    refine hr_ivV k1 (by omega) (by rfl) (by rfl) (by rfl) (by rfl) (by rfl) (by rfl) ?_
    exact hr_ret (by rfl) (by rfl) (by rfl)
  · rw [show sp_m T n p = 2 from if_neg e] at k1
    rw [show fx_cb .ne (nI (sp_k T n p)) 4 = true from cb_neT (a := sp_k T n p) (b := 4) (by omega) (by omega) e]
    refine hr_s 1 (pc' := 14) (lc' := [(0, .ref 9)]) (stk' := [.int 2, .ref 9]) (mem' := cm g l a b R) (by intro _ _ _; eq_refl) ?_
    refine hr_ivV k1 (by omega) (by rfl) (by rfl) (by rfl) (by rfl) (by rfl) (by rfl) ?_
    exact hr_ret (by rfl) (by rfl) (by rfl)
theorem ha_misfitq (h : cq g l T n F P) : hr_T 2 108 [.ref 9] (cm g l a b R) none (cm g l a b R) := by
  refine hr_meth (by rfl) (by rfl) ?_
  refine hr_s 4 (pc' := 6) (lc' := [(0, .ref 9)]) (stk' := [.int 4, .int (g 9 6), .ref 9]) (mem' := cm g l a b R) (by intro _ _ _; eq_refl) ?_
  refine hr_s 1 (pc' := cond (fx_cb .ne (g 9 6) 4) 13 9) (lc' := [(0, .ref 9)]) (stk' := [.ref 9]) (mem' := cm g l a b R) (by intro _ _ _; eq_refl) ?_
  cases fx_cb .ne (g 9 6) 4
  · refine hr_s 2 (pc' := 14) (lc' := [(0, .ref 9)]) (stk' := [.int 1, .ref 9]) (mem' := cm g l a b R) (by intro _ _ _; eq_refl) ?_
    refine hr_ivV (ha_failq (x := 1) h) (by omega) (by rfl) (by rfl) (by rfl) (by rfl) (by rfl) (by rfl) ?_
    exact hr_ret (by rfl) (by rfl) (by rfl)
  · refine hr_s 1 (pc' := 14) (lc' := [(0, .ref 9)]) (stk' := [.int 2, .ref 9]) (mem' := cm g l a b R) (by intro _ _ _; eq_refl) ?_
    refine hr_ivV (ha_failq (x := 2) h) (by omega) (by rfl) (by rfl) (by rfl) (by rfl) (by rfl) (by rfl) ?_
    exact hr_ret (by rfl) (by rfl) (by rfl)
theorem ha_scano (hg : ctx a b T n) (h : co g l T n p) : ∃ (g' : Nat → Nat → Int32) (l' : Nat → Nat → Int64), hr_T 3 104 [.ref 9] (cm g l a b R) none (cm g' l' a b R) ∧ co g' l' T n (sp_n T n p) ∧ cfr g l g' l' := by
  obtain ⟨g', l', k1, k2, k3⟩ := ha_scan (R := R) hg.1 hg.2.1 hg.2.2 h.1 h.2.1
  exact ⟨g', l', k1, ⟨sp_n_le h.1, k2, k3.2.1.trans h.2.2.1, k3.2.2.trans h.2.2.2⟩, k3.1⟩
theorem ha_scanq (hg : ctx a b T n) (h : cq g l T n F P) : ∃ (g' : Nat → Nat → Int32) (l' : Nat → Nat → Int64), hr_T 3 104 [.ref 9] (cm g l a b R) none (cm g' l' a b R) ∧ cq g' l' T n F P ∧ cfr g l g' l' := by
  obtain ⟨p, h0, h1⟩ := h.2.1
  obtain ⟨g', l', k1, k2, k3⟩ := ha_scan (R := R) hg.1 hg.2.1 hg.2.2 h0 h1
  exact ⟨g', l', k1, ⟨h.1, ⟨_, sp_n_le h0, k2⟩, k3.2.1.trans h.2.2.1, k3.2.2.trans h.2.2.2⟩, k3.1⟩
theorem sp_cw_eq {w : Nat} (hw : w < 23) : sp_cw T n p = nI w ↔ sp_k T n p = 1 ∧ sp_kw (sp_wd T n p) = w := by
  unfold sp_cw
  by_cases h : sp_k T n p = 1 ∧ sp_kw (sp_wd T n p) < 23
  · rw [if_pos h, nI_eq (by omega) (by omega)]
    exact ⟨fun e => ⟨h.1, e⟩, fun e => e.2⟩
  · rw [if_neg h]
    refine ⟨fun e => ?_, fun e => absurd ⟨e.1, by omega⟩ h⟩
    have h1 : (-1 : Int32).toInt = (nI w).toInt := by rw [e]
    rw [nI_i32 (by omega), show (-1 : Int32).toInt = -1 from by decide] at h1
    omega
theorem sp_cw_ne {w : Nat} (hw : w < 23) : fx_cb .ne (sp_cw T n p) (nI w) = !decide (sp_k T n p = 1 ∧ sp_kw (sp_wd T n p) = w) := by
  show (!decide (sp_cw T n p = nI w)) = _
  congr 1
  exact decide_eq_decide.mpr (sp_cw_eq hw)
theorem sp_cw_neF {w : Nat} (hw : w < 23) (h : fx_cb .ne (sp_cw T n p) (nI w) = false) : sp_k T n p = 1 ∧ sp_kw (sp_wd T n p) = w := by
  rw [sp_cw_ne hw] at h
  exact of_decide_eq_true (by revert h; cases decide (sp_k T n p = 1 ∧ sp_kw (sp_wd T n p) = w) <;> simp)
theorem sp_cw_neT {w : Nat} (hw : w < 23) (h : fx_cb .ne (sp_cw T n p) (nI w) = true) : ¬ (sp_k T n p = 1 ∧ sp_kw (sp_wd T n p) = w) := by
  rw [sp_cw_ne hw] at h
  exact of_decide_eq_false (by revert h; cases decide (sp_k T n p = 1 ∧ sp_kw (sp_wd T n p) = w) <;> simp)
theorem sp_cw_n1 : fx_cb .ne (sp_cw T n p) (-1) = decide (sp_k T n p = 1 ∧ sp_kw (sp_wd T n p) < 23) := by
  show (!decide (sp_cw T n p = -1)) = _
  unfold sp_cw
  by_cases h : sp_k T n p = 1 ∧ sp_kw (sp_wd T n p) < 23
  · rw [if_pos h, decide_eq_true h, decide_eq_false]
    · rfl
    · intro e
      have h1 : (-1 : Int32).toInt = (nI (sp_kw (sp_wd T n p))).toInt := by rw [e]
      rw [nI_i32 (by omega), show (-1 : Int32).toInt = -1 from by decide] at h1
      omega
  · rw [if_neg h, decide_eq_false h, decide_eq_true rfl]
    rfl
theorem ha_pw0 {w : Nat} (hg : ctx a b T n) (hw : w < 23) (h : co g l T n p) : ∃ (v : Option Value) (mem' : fx_M), (fun R1 => ∃ (g' : Nat → Nat → Int32) (l' : Nat → Nat → Int64), cfr g l g' l' ∧ ((sp_k T n p = 1 ∧ sp_kw (sp_wd T n p) = w) ∧ co g' l' T n (sp_n T n p) ∨ ¬ (sp_k T n p = 1 ∧ sp_kw (sp_wd T n p) = w) ∧ cq g' l' T n (sp_m T n p) (sp_s T n p)) ∧ R1 = (none, cm g' l' a b R)) (v, mem') ∧ hr_T 4 109 [.ref 9, .int (nI w)] (cm g l a b R) v mem' := by
  refine he_meth (F := fun R1 => ∃ (g' : Nat → Nat → Int32) (l' : Nat → Nat → Int64), cfr g l g' l' ∧ ((sp_k T n p = 1 ∧ sp_kw (sp_wd T n p) = w) ∧ co g' l' T n (sp_n T n p) ∨ ¬ (sp_k T n p = 1 ∧ sp_kw (sp_wd T n p) = w) ∧ cq g' l' T n (sp_m T n p) (sp_s T n p)) ∧ R1 = (none, cm g' l' a b R)) (M := gk_m109) (by rfl) (by rfl) ?_
  obtain ⟨-, -, -, h6, h7, -⟩ := h.2.1
  have hk4 := sp_k4 (T := T) (n := n) (p := p)
  refine he_s 3 (pc' := 5) (lc' := [(0, .ref 9), (1, .int (nI w))]) (stk' := [.int 1, .int (g 9 6)]) (mem' := cm g l a b R) (by intro _ _ _; eq_refl) ?_
  try rw [h6]
  refine he_s 1 (pc' := cond (fx_cb .ne (nI (sp_k T n p)) 1) 23 8) (lc' := [(0, .ref 9), (1, .int (nI w))]) (stk' := []) (mem' := cm g l a b R) (by intro _ _ _; eq_refl) ?_
  by_cases y1 : (sp_k T n p) = 1
  · rw [show (fx_cb .ne (nI (sp_k T n p)) 1) = false from cb_neF (a := (sp_k T n p)) (b := 1) (by omega) (by omega) (by omega)]
    dsimp only [cond]
    refine he_s 3 (pc' := 13) (lc' := [(0, .ref 9), (1, .int (nI w))]) (stk' := [.int (nI w), .int (g 9 7)]) (mem' := cm g l a b R) (by intro _ _ _; eq_refl) ?_
    try rw [h7]
    refine he_s 1 (pc' := cond (fx_cb .ne (sp_cw T n p) (nI w)) 23 16) (lc' := [(0, .ref 9), (1, .int (nI w))]) (stk' := []) (mem' := cm g l a b R) (by intro _ _ _; eq_refl) ?_
    cases y2 : fx_cb .ne (sp_cw T n p) (nI w)
    · refine he_s 1 (pc' := 17) (lc' := [(0, .ref 9), (1, .int (nI w))]) (stk' := [.ref 9]) (mem' := cm g l a b R) (by intro _ _ _; eq_refl) ?_
      obtain ⟨gc3, lc3, hrc3, hmc3, frc3⟩ := ha_scano (R := R) hg h
      refine he_ivV hrc3 (by omega) (by rfl) (by rfl) (by rfl) (by rfl) (by rfl) (by rfl) ?_
      have hfc3 := cfr_tr cfr_rf frc3
      refine he_s 1 (pc' := 27) (lc' := [(0, .ref 9), (1, .int (nI w))]) (stk' := []) (mem' := cm gc3 lc3 a b R) (by intro _ _ _; eq_refl) ?_
      exact he_ret ⟨_, _, hfc3, Or.inl ⟨sp_cw_neF hw y2, hmc3⟩, rfl⟩ (by rfl) (by rfl) (by rfl)
    · refine he_s 1 (pc' := 24) (lc' := [(0, .ref 9), (1, .int (nI w))]) (stk' := [.ref 9]) (mem' := cm g l a b R) (by intro _ _ _; eq_refl) ?_
      obtain ⟨gc4, hrc4, hmc4, frc4⟩ := ha_misfit (a := a) (b := b) (R := R) h
      refine he_ivV hrc4 (by omega) (by rfl) (by rfl) (by rfl) (by rfl) (by rfl) (by rfl) ?_
      have hfc4 := cfr_tr cfr_rf frc4
      exact he_ret ⟨_, _, hfc4, Or.inr ⟨sp_cw_neT hw y2, hmc4⟩, rfl⟩ (by rfl) (by rfl) (by rfl)
  · rw [show (fx_cb .ne (nI (sp_k T n p)) 1) = true from cb_neT (a := (sp_k T n p)) (b := 1) (by omega) (by omega) (by omega)]
    dsimp only [cond]
    refine he_s 1 (pc' := 24) (lc' := [(0, .ref 9), (1, .int (nI w))]) (stk' := [.ref 9]) (mem' := cm g l a b R) (by intro _ _ _; eq_refl) ?_
    obtain ⟨gc5, hrc5, hmc5, frc5⟩ := ha_misfit (a := a) (b := b) (R := R) h
    refine he_ivV hrc5 (by omega) (by rfl) (by rfl) (by rfl) (by rfl) (by rfl) (by rfl) ?_
    have hfc5 := cfr_tr cfr_rf frc5
    exact he_ret ⟨_, _, hfc5, Or.inr ⟨fun z => by omega, hmc5⟩, rfl⟩ (by rfl) (by rfl) (by rfl)
theorem ha_pwq0 {x : Int32} (hg : ctx a b T n) (h : cq g l T n F P) : ∃ (v : Option Value) (mem' : fx_M), (fun R1 => ∃ (g' : Nat → Nat → Int32) (l' : Nat → Nat → Int64), cfr g l g' l' ∧ cq g' l' T n F P ∧ R1 = (none, cm g' l' a b R)) (v, mem') ∧ hr_T 4 109 [.ref 9, .int x] (cm g l a b R) v mem' := by
  refine he_meth (F := fun R1 => ∃ (g' : Nat → Nat → Int32) (l' : Nat → Nat → Int64), cfr g l g' l' ∧ cq g' l' T n F P ∧ R1 = (none, cm g' l' a b R)) (M := gk_m109) (by rfl) (by rfl) ?_
  refine he_s 3 (pc' := 5) (lc' := [(0, .ref 9), (1, .int x)]) (stk' := [.int 1, .int (g 9 6)]) (mem' := cm g l a b R) (by intro _ _ _; eq_refl) ?_
  refine he_s 1 (pc' := cond (fx_cb .ne (g 9 6) 1) 23 8) (lc' := [(0, .ref 9), (1, .int x)]) (stk' := []) (mem' := cm g l a b R) (by intro _ _ _; eq_refl) ?_
  cases y1 : fx_cb .ne (g 9 6) 1
  · refine he_s 3 (pc' := 13) (lc' := [(0, .ref 9), (1, .int x)]) (stk' := [.int x, .int (g 9 7)]) (mem' := cm g l a b R) (by intro _ _ _; eq_refl) ?_
    refine he_s 1 (pc' := cond (fx_cb .ne (g 9 7) x) 23 16) (lc' := [(0, .ref 9), (1, .int x)]) (stk' := []) (mem' := cm g l a b R) (by intro _ _ _; eq_refl) ?_
    cases y2 : fx_cb .ne (g 9 7) x
    · refine he_s 1 (pc' := 17) (lc' := [(0, .ref 9), (1, .int x)]) (stk' := [.ref 9]) (mem' := cm g l a b R) (by intro _ _ _; eq_refl) ?_
      obtain ⟨gc3, lc3, hrc3, hmc3, frc3⟩ := ha_scanq (R := R) hg h
      refine he_ivV hrc3 (by omega) (by rfl) (by rfl) (by rfl) (by rfl) (by rfl) (by rfl) ?_
      have hfc3 := cfr_tr cfr_rf frc3
      refine he_s 1 (pc' := 27) (lc' := [(0, .ref 9), (1, .int x)]) (stk' := []) (mem' := cm gc3 lc3 a b R) (by intro _ _ _; eq_refl) ?_
      exact he_ret ⟨_, _, hfc3, hmc3, rfl⟩ (by rfl) (by rfl) (by rfl)
    · refine he_s 1 (pc' := 24) (lc' := [(0, .ref 9), (1, .int x)]) (stk' := [.ref 9]) (mem' := cm g l a b R) (by intro _ _ _; eq_refl) ?_
      refine he_ivV (ha_misfitq (a := a) (b := b) (R := R) h) (by omega) (by rfl) (by rfl) (by rfl) (by rfl) (by rfl) (by rfl) ?_
      exact he_ret ⟨_, _, cfr_rf, h, rfl⟩ (by rfl) (by rfl) (by rfl)
  · refine he_s 1 (pc' := 24) (lc' := [(0, .ref 9), (1, .int x)]) (stk' := [.ref 9]) (mem' := cm g l a b R) (by intro _ _ _; eq_refl) ?_
    refine he_ivV (ha_misfitq (a := a) (b := b) (R := R) h) (by omega) (by rfl) (by rfl) (by rfl) (by rfl) (by rfl) (by rfl) ?_
    exact he_ret ⟨_, _, cfr_rf, h, rfl⟩ (by rfl) (by rfl) (by rfl)
theorem ha_ps0 {w : Nat} (hg : ctx a b T n) (hw : w < 128) (h : co g l T n p) : ∃ (v : Option Value) (mem' : fx_M), (fun R1 => ∃ (v : Int32) (g' : Nat → Nat → Int32) (l' : Nat → Nat → Int64), cfr g l g' l' ∧ ((sp_k T n p = 3 ∧ T (sp_s T n p) = w) ∧ v = 1 ∧ co g' l' T n (sp_n T n p) ∨ ¬ (sp_k T n p = 3 ∧ T (sp_s T n p) = w) ∧ v = 0 ∧ cq g' l' T n (sp_m T n p) (sp_s T n p)) ∧ R1 = (some (.int v), cm g' l' a b R)) (v, mem') ∧ hr_T 4 110 [.ref 9, .int (nI w)] (cm g l a b R) v mem' := by
  refine he_meth (F := fun R1 => ∃ (v : Int32) (g' : Nat → Nat → Int32) (l' : Nat → Nat → Int64), cfr g l g' l' ∧ ((sp_k T n p = 3 ∧ T (sp_s T n p) = w) ∧ v = 1 ∧ co g' l' T n (sp_n T n p) ∨ ¬ (sp_k T n p = 3 ∧ T (sp_s T n p) = w) ∧ v = 0 ∧ cq g' l' T n (sp_m T n p) (sp_s T n p)) ∧ R1 = (some (.int v), cm g' l' a b R)) (M := gk_m110) (by rfl) (by rfl) ?_
  obtain ⟨-, -, -, h6, -, -, -, h9⟩ := h.2.1
  have hk4 := sp_k4 (T := T) (n := n) (p := p)
  have hsg : sp_k T n p = 3 → T (sp_s T n p) < 128 := fun z => by
    rcases sp_cs (T := T) h.1 with h2 | h2 | h2 | h2 | h2
    · omega
    · omega
    · omega
    · have := sp_sg_i.mp h2.2.1; omega
    · omega
  by_cases hk : sp_k T n p = 3
  · have h6a : g 9 6 = 3 := h6.trans (by rw [hk]; rfl)
    have hsg1 := hsg hk
    refine he_s 3 (pc' := 5) (lc' := [(0, .ref 9), (1, .int (nI w))]) (stk' := [.int 3, .int (g 9 6)]) (mem' := cm g l a b R) (by intro _ _ _; eq_refl) ?_
    try rw [h6a]
    refine he_s 1 (pc' := cond (fx_cb .ne 3 3) 23 8) (lc' := [(0, .ref 9), (1, .int (nI w))]) (stk' := []) (mem' := cm g l a b R) (by intro _ _ _; eq_refl) ?_
    rw [show (fx_cb .ne 3 3) = false from by decide]
    dsimp only [cond]
    refine he_s 3 (pc' := 13) (lc' := [(0, .ref 9), (1, .int (nI w))]) (stk' := [.int (nI w), .int (g 9 9)]) (mem' := cm g l a b R) (by intro _ _ _; eq_refl) ?_
    try rw [(h9 hk)]
    refine he_s 1 (pc' := cond (fx_cb .ne (nI (T (sp_s T n p))) (nI w)) 23 16) (lc' := [(0, .ref 9), (1, .int (nI w))]) (stk' := []) (mem' := cm g l a b R) (by intro _ _ _; eq_refl) ?_
    by_cases y1 : (T (sp_s T n p)) = w
    · rw [show (fx_cb .ne (nI (T (sp_s T n p))) (nI w)) = false from cb_neF (a := (T (sp_s T n p))) (b := w) (by omega) (by omega) (by omega)]
      dsimp only [cond]
      refine he_s 1 (pc' := 17) (lc' := [(0, .ref 9), (1, .int (nI w))]) (stk' := [.ref 9]) (mem' := cm g l a b R) (by intro _ _ _; eq_refl) ?_
      obtain ⟨gc2, lc2, hrc2, hmc2, frc2⟩ := ha_scano (R := R) hg h
      refine he_ivV hrc2 (by omega) (by rfl) (by rfl) (by rfl) (by rfl) (by rfl) (by rfl) ?_
      have hfc2 := cfr_tr cfr_rf frc2
      refine he_s 3 (pc' := 31) (lc' := [(0, .ref 9), (1, .int (nI w))]) (stk' := [.int (gc2 9 10)]) (mem' := cm gc2 lc2 a b R) (by intro _ _ _; eq_refl) ?_
      try rw [hmc2.2.2.1]
      refine he_s 1 (pc' := cond (fx_cb .ne 0 0) 38 34) (lc' := [(0, .ref 9), (1, .int (nI w))]) (stk' := []) (mem' := cm gc2 lc2 a b R) (by intro _ _ _; eq_refl) ?_
      rw [show (fx_cb .ne 0 0) = false from by decide]
      dsimp only [cond]
      refine he_s 2 (pc' := 39) (lc' := [(0, .ref 9), (1, .int (nI w))]) (stk' := [.int 1]) (mem' := cm gc2 lc2 a b R) (by intro _ _ _; eq_refl) ?_
      exact he_ret ⟨1, _, _, hfc2, Or.inl ⟨⟨by omega, by omega⟩, rfl, hmc2⟩, rfl⟩ (by rfl) (by rfl) (by rfl)
    · rw [show (fx_cb .ne (nI (T (sp_s T n p))) (nI w)) = true from cb_neT (a := (T (sp_s T n p))) (b := w) (by omega) (by omega) (by omega)]
      dsimp only [cond]
      refine he_s 1 (pc' := 24) (lc' := [(0, .ref 9), (1, .int (nI w))]) (stk' := [.ref 9]) (mem' := cm g l a b R) (by intro _ _ _; eq_refl) ?_
      obtain ⟨gc3, hrc3, hmc3, frc3⟩ := ha_misfit (a := a) (b := b) (R := R) h
      refine he_ivV hrc3 (by omega) (by rfl) (by rfl) (by rfl) (by rfl) (by rfl) (by rfl) ?_
      have hfc3 := cfr_tr cfr_rf frc3
      refine he_s 2 (pc' := 31) (lc' := [(0, .ref 9), (1, .int (nI w))]) (stk' := [.int (gc3 9 10)]) (mem' := cm gc3 l a b R) (by intro _ _ _; eq_refl) ?_
      try rw [hmc3.2.2.1]
      refine he_s 1 (pc' := cond (fx_cb .ne (sp_m T n p) 0) 38 34) (lc' := [(0, .ref 9), (1, .int (nI w))]) (stk' := []) (mem' := cm gc3 l a b R) (by intro _ _ _; eq_refl) ?_
      rw [show (fx_cb .ne (sp_m T n p) 0) = true from cb_nz_ne hmc3.1]
      dsimp only [cond]
      refine he_s 1 (pc' := 39) (lc' := [(0, .ref 9), (1, .int (nI w))]) (stk' := [.int 0]) (mem' := cm gc3 l a b R) (by intro _ _ _; eq_refl) ?_
      exact he_ret ⟨0, _, _, hfc3, Or.inr ⟨fun z => by omega, rfl, hmc3⟩, rfl⟩ (by rfl) (by rfl) (by rfl)
  · refine he_s 3 (pc' := 5) (lc' := [(0, .ref 9), (1, .int (nI w))]) (stk' := [.int 3, .int (g 9 6)]) (mem' := cm g l a b R) (by intro _ _ _; eq_refl) ?_
    try rw [h6]
    refine he_s 1 (pc' := cond (fx_cb .ne (nI (sp_k T n p)) 3) 23 8) (lc' := [(0, .ref 9), (1, .int (nI w))]) (stk' := []) (mem' := cm g l a b R) (by intro _ _ _; eq_refl) ?_
    rw [show (fx_cb .ne (nI (sp_k T n p)) 3) = true from cb_neT (a := (sp_k T n p)) (b := 3) (by omega) (by omega) (by omega)]
    dsimp only [cond]
    refine he_s 1 (pc' := 24) (lc' := [(0, .ref 9), (1, .int (nI w))]) (stk' := [.ref 9]) (mem' := cm g l a b R) (by intro _ _ _; eq_refl) ?_
    obtain ⟨gc4, hrc4, hmc4, frc4⟩ := ha_misfit (a := a) (b := b) (R := R) h
    refine he_ivV hrc4 (by omega) (by rfl) (by rfl) (by rfl) (by rfl) (by rfl) (by rfl) ?_
    have hfc4 := cfr_tr cfr_rf frc4
    refine he_s 2 (pc' := 31) (lc' := [(0, .ref 9), (1, .int (nI w))]) (stk' := [.int (gc4 9 10)]) (mem' := cm gc4 l a b R) (by intro _ _ _; eq_refl) ?_
    try rw [hmc4.2.2.1]
    refine he_s 1 (pc' := cond (fx_cb .ne (sp_m T n p) 0) 38 34) (lc' := [(0, .ref 9), (1, .int (nI w))]) (stk' := []) (mem' := cm gc4 l a b R) (by intro _ _ _; eq_refl) ?_
    rw [show (fx_cb .ne (sp_m T n p) 0) = true from cb_nz_ne hmc4.1]
    dsimp only [cond]
    refine he_s 1 (pc' := 39) (lc' := [(0, .ref 9), (1, .int (nI w))]) (stk' := [.int 0]) (mem' := cm gc4 l a b R) (by intro _ _ _; eq_refl) ?_
    exact he_ret ⟨0, _, _, hfc4, Or.inr ⟨fun z => by omega, rfl, hmc4⟩, rfl⟩ (by rfl) (by rfl) (by rfl)
theorem ha_psq0 {x : Int32} (hg : ctx a b T n) (h : cq g l T n F P) : ∃ (v : Option Value) (mem' : fx_M), (fun R1 => ∃ (g' : Nat → Nat → Int32) (l' : Nat → Nat → Int64), cfr g l g' l' ∧ cq g' l' T n F P ∧ R1 = (some (.int 0), cm g' l' a b R)) (v, mem') ∧ hr_T 4 110 [.ref 9, .int x] (cm g l a b R) v mem' := by
  refine he_meth (F := fun R1 => ∃ (g' : Nat → Nat → Int32) (l' : Nat → Nat → Int64), cfr g l g' l' ∧ cq g' l' T n F P ∧ R1 = (some (.int 0), cm g' l' a b R)) (M := gk_m110) (by rfl) (by rfl) ?_
  refine he_s 3 (pc' := 5) (lc' := [(0, .ref 9), (1, .int x)]) (stk' := [.int 3, .int (g 9 6)]) (mem' := cm g l a b R) (by intro _ _ _; eq_refl) ?_
  refine he_s 1 (pc' := cond (fx_cb .ne (g 9 6) 3) 23 8) (lc' := [(0, .ref 9), (1, .int x)]) (stk' := []) (mem' := cm g l a b R) (by intro _ _ _; eq_refl) ?_
  cases y1 : fx_cb .ne (g 9 6) 3
  · refine he_s 3 (pc' := 13) (lc' := [(0, .ref 9), (1, .int x)]) (stk' := [.int x, .int (g 9 9)]) (mem' := cm g l a b R) (by intro _ _ _; eq_refl) ?_
    refine he_s 1 (pc' := cond (fx_cb .ne (g 9 9) x) 23 16) (lc' := [(0, .ref 9), (1, .int x)]) (stk' := []) (mem' := cm g l a b R) (by intro _ _ _; eq_refl) ?_
    cases y2 : fx_cb .ne (g 9 9) x
    · refine he_s 1 (pc' := 17) (lc' := [(0, .ref 9), (1, .int x)]) (stk' := [.ref 9]) (mem' := cm g l a b R) (by intro _ _ _; eq_refl) ?_
      obtain ⟨gc3, lc3, hrc3, hmc3, frc3⟩ := ha_scanq (R := R) hg h
      refine he_ivV hrc3 (by omega) (by rfl) (by rfl) (by rfl) (by rfl) (by rfl) (by rfl) ?_
      have hfc3 := cfr_tr cfr_rf frc3
      refine he_s 3 (pc' := 31) (lc' := [(0, .ref 9), (1, .int x)]) (stk' := [.int (gc3 9 10)]) (mem' := cm gc3 lc3 a b R) (by intro _ _ _; eq_refl) ?_
      try rw [hmc3.2.2.1]
      refine he_s 1 (pc' := cond (fx_cb .ne F 0) 38 34) (lc' := [(0, .ref 9), (1, .int x)]) (stk' := []) (mem' := cm gc3 lc3 a b R) (by intro _ _ _; eq_refl) ?_
      rw [show (fx_cb .ne F 0) = true from cb_nz_ne hmc3.1]
      dsimp only [cond]
      refine he_s 1 (pc' := 39) (lc' := [(0, .ref 9), (1, .int x)]) (stk' := [.int 0]) (mem' := cm gc3 lc3 a b R) (by intro _ _ _; eq_refl) ?_
      exact he_ret ⟨_, _, hfc3, hmc3, rfl⟩ (by rfl) (by rfl) (by rfl)
    · refine he_s 1 (pc' := 24) (lc' := [(0, .ref 9), (1, .int x)]) (stk' := [.ref 9]) (mem' := cm g l a b R) (by intro _ _ _; eq_refl) ?_
      refine he_ivV (ha_misfitq (a := a) (b := b) (R := R) h) (by omega) (by rfl) (by rfl) (by rfl) (by rfl) (by rfl) (by rfl) ?_
      refine he_s 2 (pc' := 31) (lc' := [(0, .ref 9), (1, .int x)]) (stk' := [.int (g 9 10)]) (mem' := cm g l a b R) (by intro _ _ _; eq_refl) ?_
      try rw [h.2.2.1]
      refine he_s 1 (pc' := cond (fx_cb .ne F 0) 38 34) (lc' := [(0, .ref 9), (1, .int x)]) (stk' := []) (mem' := cm g l a b R) (by intro _ _ _; eq_refl) ?_
      rw [show (fx_cb .ne F 0) = true from cb_nz_ne h.1]
      dsimp only [cond]
      refine he_s 1 (pc' := 39) (lc' := [(0, .ref 9), (1, .int x)]) (stk' := [.int 0]) (mem' := cm g l a b R) (by intro _ _ _; eq_refl) ?_
      exact he_ret ⟨_, _, cfr_rf, h, rfl⟩ (by rfl) (by rfl) (by rfl)
  · refine he_s 1 (pc' := 24) (lc' := [(0, .ref 9), (1, .int x)]) (stk' := [.ref 9]) (mem' := cm g l a b R) (by intro _ _ _; eq_refl) ?_
    refine he_ivV (ha_misfitq (a := a) (b := b) (R := R) h) (by omega) (by rfl) (by rfl) (by rfl) (by rfl) (by rfl) (by rfl) ?_
    refine he_s 2 (pc' := 31) (lc' := [(0, .ref 9), (1, .int x)]) (stk' := [.int (g 9 10)]) (mem' := cm g l a b R) (by intro _ _ _; eq_refl) ?_
    try rw [h.2.2.1]
    refine he_s 1 (pc' := cond (fx_cb .ne F 0) 38 34) (lc' := [(0, .ref 9), (1, .int x)]) (stk' := []) (mem' := cm g l a b R) (by intro _ _ _; eq_refl) ?_
    rw [show (fx_cb .ne F 0) = true from cb_nz_ne h.1]
    dsimp only [cond]
    refine he_s 1 (pc' := 39) (lc' := [(0, .ref 9), (1, .int x)]) (stk' := [.int 0]) (mem' := cm g l a b R) (by intro _ _ _; eq_refl) ?_
    exact he_ret ⟨_, _, cfr_rf, h, rfl⟩ (by rfl) (by rfl) (by rfl)
theorem ha_pn0 {lo hi : Nat} (hg : ctx a b T n) (hlo : lo < 10000) (hhi : hi < 10000) (h : co g l T n p) : ∃ (v : Option Value) (mem' : fx_M), (fun R1 => ∃ (v : Int32) (g' : Nat → Nat → Int32) (l' : Nat → Nat → Int64), cfr g l g' l' ∧ ((sp_k T n p = 2 ∧ (lo ≤ sp_v T n p ∧ sp_v T n p ≤ hi) ∧ v = nI (sp_v T n p) ∧ co g' l' T n (sp_n T n p)) ∨ (sp_k T n p = 2 ∧ ¬ (lo ≤ sp_v T n p ∧ sp_v T n p ≤ hi) ∧ cq g' l' T n 4 (sp_s T n p)) ∨ (¬ sp_k T n p = 2 ∧ cq g' l' T n (sp_m T n p) (sp_s T n p))) ∧ R1 = (some (.int v), cm g' l' a b R)) (v, mem') ∧ hr_T 4 111 [.ref 9, .int (nI lo), .int (nI hi)] (cm g l a b R) v mem' := by
  refine he_meth (F := fun R1 => ∃ (v : Int32) (g' : Nat → Nat → Int32) (l' : Nat → Nat → Int64), cfr g l g' l' ∧ ((sp_k T n p = 2 ∧ (lo ≤ sp_v T n p ∧ sp_v T n p ≤ hi) ∧ v = nI (sp_v T n p) ∧ co g' l' T n (sp_n T n p)) ∨ (sp_k T n p = 2 ∧ ¬ (lo ≤ sp_v T n p ∧ sp_v T n p ≤ hi) ∧ cq g' l' T n 4 (sp_s T n p)) ∨ (¬ sp_k T n p = 2 ∧ cq g' l' T n (sp_m T n p) (sp_s T n p))) ∧ R1 = (some (.int v), cm g' l' a b R)) (M := gk_m111) (by rfl) (by rfl) ?_
  obtain ⟨-, -, -, h6, -, -, h9, -⟩ := h.2.1
  have hk4 := sp_k4 (T := T) (n := n) (p := p)
  by_cases hk : sp_k T n p = 2
  · have h6a : g 9 6 = 2 := h6.trans (by rw [hk]; rfl)
    have hv1 := sp_v_lt h.1 hk
    refine he_s 6 (pc' := 10) (lc' := [(3, .int (g 9 9)), (0, .ref 9), (1, .int (nI lo)), (2, .int (nI hi))]) (stk' := [.int 2, .int (g 9 6)]) (mem' := cm g l a b R) (by intro _ _ _; eq_refl) ?_
    try rw [(h9 hk)]
    try rw [h6a]
    refine he_s 1 (pc' := cond (fx_cb .eq 2 2) 20 13) (lc' := [(3, .int (nI (sp_v T n p))), (0, .ref 9), (1, .int (nI lo)), (2, .int (nI hi))]) (stk' := []) (mem' := cm g l a b R) (by intro _ _ _; eq_refl) ?_
    rw [show (fx_cb .eq 2 2) = true from by decide]
    dsimp only [cond]
    refine he_s 2 (pc' := 22) (lc' := [(3, .int (nI (sp_v T n p))), (0, .ref 9), (1, .int (nI lo)), (2, .int (nI hi))]) (stk' := [.int (nI lo), .int (nI (sp_v T n p))]) (mem' := cm g l a b R) (by intro _ _ _; eq_refl) ?_
    refine he_s 1 (pc' := cond (fx_cb .lt (nI (sp_v T n p)) (nI lo)) 30 25) (lc' := [(3, .int (nI (sp_v T n p))), (0, .ref 9), (1, .int (nI lo)), (2, .int (nI hi))]) (stk' := []) (mem' := cm g l a b R) (by intro _ _ _; eq_refl) ?_
    by_cases y1 : (sp_v T n p) < lo
    · rw [show (fx_cb .lt (nI (sp_v T n p)) (nI lo)) = true from cb_ltT (a := (sp_v T n p)) (b := lo) (by omega) (by omega) (by omega)]
      dsimp only [cond]
      refine he_s 2 (pc' := 32) (lc' := [(3, .int (nI (sp_v T n p))), (0, .ref 9), (1, .int (nI lo)), (2, .int (nI hi))]) (stk' := [.int 4, .ref 9]) (mem' := cm g l a b R) (by intro _ _ _; eq_refl) ?_
      obtain ⟨gc2, hrc2, hmc2, frc2⟩ := ha_fail (a := a) (b := b) (R := R) (x := 4) h (by decide)
      refine he_ivV hrc2 (by omega) (by rfl) (by rfl) (by rfl) (by rfl) (by rfl) (by rfl) ?_
      have hfc2 := cfr_tr cfr_rf frc2
      refine he_s 2 (pc' := 43) (lc' := [(3, .int (nI (sp_v T n p))), (0, .ref 9), (1, .int (nI lo)), (2, .int (nI hi))]) (stk' := [.int (nI (sp_v T n p))]) (mem' := cm gc2 l a b R) (by intro _ _ _; eq_refl) ?_
      exact he_ret ⟨_, _, _, hfc2, Or.inr (Or.inl ⟨by omega, fun z => by omega, hmc2⟩), rfl⟩ (by rfl) (by rfl) (by rfl)
    · rw [show (fx_cb .lt (nI (sp_v T n p)) (nI lo)) = false from cb_ltF (a := (sp_v T n p)) (b := lo) (by omega) (by omega) (by omega)]
      dsimp only [cond]
      refine he_s 2 (pc' := 27) (lc' := [(3, .int (nI (sp_v T n p))), (0, .ref 9), (1, .int (nI lo)), (2, .int (nI hi))]) (stk' := [.int (nI hi), .int (nI (sp_v T n p))]) (mem' := cm g l a b R) (by intro _ _ _; eq_refl) ?_
      refine he_s 1 (pc' := cond (fx_cb .le (nI (sp_v T n p)) (nI hi)) 38 30) (lc' := [(3, .int (nI (sp_v T n p))), (0, .ref 9), (1, .int (nI lo)), (2, .int (nI hi))]) (stk' := []) (mem' := cm g l a b R) (by intro _ _ _; eq_refl) ?_
      by_cases y3 : (sp_v T n p) ≤ hi
      · rw [show (fx_cb .le (nI (sp_v T n p)) (nI hi)) = true from cb_leT (a := (sp_v T n p)) (b := hi) (by omega) (by omega) (by omega)]
        dsimp only [cond]
        refine he_s 1 (pc' := 39) (lc' := [(3, .int (nI (sp_v T n p))), (0, .ref 9), (1, .int (nI lo)), (2, .int (nI hi))]) (stk' := [.ref 9]) (mem' := cm g l a b R) (by intro _ _ _; eq_refl) ?_
        obtain ⟨gc4, lc4, hrc4, hmc4, frc4⟩ := ha_scano (R := R) hg h
        refine he_ivV hrc4 (by omega) (by rfl) (by rfl) (by rfl) (by rfl) (by rfl) (by rfl) ?_
        have hfc4 := cfr_tr cfr_rf frc4
        refine he_s 1 (pc' := 43) (lc' := [(3, .int (nI (sp_v T n p))), (0, .ref 9), (1, .int (nI lo)), (2, .int (nI hi))]) (stk' := [.int (nI (sp_v T n p))]) (mem' := cm gc4 lc4 a b R) (by intro _ _ _; eq_refl) ?_
        exact he_ret ⟨_, _, _, hfc4, Or.inl ⟨by omega, ⟨by omega, by omega⟩, rfl, hmc4⟩, rfl⟩ (by rfl) (by rfl) (by rfl)
      · rw [show (fx_cb .le (nI (sp_v T n p)) (nI hi)) = false from cb_leF (a := (sp_v T n p)) (b := hi) (by omega) (by omega) (by omega)]
        dsimp only [cond]
        refine he_s 2 (pc' := 32) (lc' := [(3, .int (nI (sp_v T n p))), (0, .ref 9), (1, .int (nI lo)), (2, .int (nI hi))]) (stk' := [.int 4, .ref 9]) (mem' := cm g l a b R) (by intro _ _ _; eq_refl) ?_
        obtain ⟨gc5, hrc5, hmc5, frc5⟩ := ha_fail (a := a) (b := b) (R := R) (x := 4) h (by decide)
        refine he_ivV hrc5 (by omega) (by rfl) (by rfl) (by rfl) (by rfl) (by rfl) (by rfl) ?_
        have hfc5 := cfr_tr cfr_rf frc5
        refine he_s 2 (pc' := 43) (lc' := [(3, .int (nI (sp_v T n p))), (0, .ref 9), (1, .int (nI lo)), (2, .int (nI hi))]) (stk' := [.int (nI (sp_v T n p))]) (mem' := cm gc5 l a b R) (by intro _ _ _; eq_refl) ?_
        exact he_ret ⟨_, _, _, hfc5, Or.inr (Or.inl ⟨by omega, fun z => by omega, hmc5⟩), rfl⟩ (by rfl) (by rfl) (by rfl)
  · refine he_s 6 (pc' := 10) (lc' := [(3, .int (g 9 9)), (0, .ref 9), (1, .int (nI lo)), (2, .int (nI hi))]) (stk' := [.int 2, .int (g 9 6)]) (mem' := cm g l a b R) (by intro _ _ _; eq_refl) ?_
    try rw [h6]
    refine he_s 1 (pc' := cond (fx_cb .eq (nI (sp_k T n p)) 2) 20 13) (lc' := [(3, .int (g 9 9)), (0, .ref 9), (1, .int (nI lo)), (2, .int (nI hi))]) (stk' := []) (mem' := cm g l a b R) (by intro _ _ _; eq_refl) ?_
    rw [show (fx_cb .eq (nI (sp_k T n p)) 2) = false from cb_eqF (a := (sp_k T n p)) (b := 2) (by omega) (by omega) (by omega)]
    dsimp only [cond]
    refine he_s 1 (pc' := 14) (lc' := [(3, .int (g 9 9)), (0, .ref 9), (1, .int (nI lo)), (2, .int (nI hi))]) (stk' := [.ref 9]) (mem' := cm g l a b R) (by intro _ _ _; eq_refl) ?_
    obtain ⟨gc6, hrc6, hmc6, frc6⟩ := ha_misfit (a := a) (b := b) (R := R) h
    refine he_ivV hrc6 (by omega) (by rfl) (by rfl) (by rfl) (by rfl) (by rfl) (by rfl) ?_
    have hfc6 := cfr_tr cfr_rf frc6
    refine he_s 2 (pc' := 43) (lc' := [(3, .int (g 9 9)), (0, .ref 9), (1, .int (nI lo)), (2, .int (nI hi))]) (stk' := [.int (g 9 9)]) (mem' := cm gc6 l a b R) (by intro _ _ _; eq_refl) ?_
    exact he_ret ⟨_, _, _, hfc6, Or.inr (Or.inr ⟨by omega, hmc6⟩), rfl⟩ (by rfl) (by rfl) (by rfl)
theorem ha_pnq0 {x y : Int32} (hg : ctx a b T n) (h : cq g l T n F P) : ∃ (v : Option Value) (mem' : fx_M), (fun R1 => ∃ (g' : Nat → Nat → Int32) (l' : Nat → Nat → Int64) (v : Int32), cfr g l g' l' ∧ cq g' l' T n F P ∧ R1 = (some (.int v), cm g' l' a b R)) (v, mem') ∧ hr_T 4 111 [.ref 9, .int x, .int y] (cm g l a b R) v mem' := by
  refine he_meth (F := fun R1 => ∃ (g' : Nat → Nat → Int32) (l' : Nat → Nat → Int64) (v : Int32), cfr g l g' l' ∧ cq g' l' T n F P ∧ R1 = (some (.int v), cm g' l' a b R)) (M := gk_m111) (by rfl) (by rfl) ?_
  refine he_s 6 (pc' := 10) (lc' := [(3, .int (g 9 9)), (0, .ref 9), (1, .int x), (2, .int y)]) (stk' := [.int 2, .int (g 9 6)]) (mem' := cm g l a b R) (by intro _ _ _; eq_refl) ?_
  refine he_s 1 (pc' := cond (fx_cb .eq (g 9 6) 2) 20 13) (lc' := [(3, .int (g 9 9)), (0, .ref 9), (1, .int x), (2, .int y)]) (stk' := []) (mem' := cm g l a b R) (by intro _ _ _; eq_refl) ?_
  cases y1 : fx_cb .eq (g 9 6) 2
  · refine he_s 1 (pc' := 14) (lc' := [(3, .int (g 9 9)), (0, .ref 9), (1, .int x), (2, .int y)]) (stk' := [.ref 9]) (mem' := cm g l a b R) (by intro _ _ _; eq_refl) ?_
    refine he_ivV (ha_misfitq (a := a) (b := b) (R := R) h) (by omega) (by rfl) (by rfl) (by rfl) (by rfl) (by rfl) (by rfl) ?_
    refine he_s 2 (pc' := 43) (lc' := [(3, .int (g 9 9)), (0, .ref 9), (1, .int x), (2, .int y)]) (stk' := [.int (g 9 9)]) (mem' := cm g l a b R) (by intro _ _ _; eq_refl) ?_
    exact he_ret ⟨_, _, _, cfr_rf, h, rfl⟩ (by rfl) (by rfl) (by rfl)
  · refine he_s 2 (pc' := 22) (lc' := [(3, .int (g 9 9)), (0, .ref 9), (1, .int x), (2, .int y)]) (stk' := [.int x, .int (g 9 9)]) (mem' := cm g l a b R) (by intro _ _ _; eq_refl) ?_
    refine he_s 1 (pc' := cond (fx_cb .lt (g 9 9) x) 30 25) (lc' := [(3, .int (g 9 9)), (0, .ref 9), (1, .int x), (2, .int y)]) (stk' := []) (mem' := cm g l a b R) (by intro _ _ _; eq_refl) ?_
    cases y3 : fx_cb .lt (g 9 9) x
    · refine he_s 2 (pc' := 27) (lc' := [(3, .int (g 9 9)), (0, .ref 9), (1, .int x), (2, .int y)]) (stk' := [.int y, .int (g 9 9)]) (mem' := cm g l a b R) (by intro _ _ _; eq_refl) ?_
      refine he_s 1 (pc' := cond (fx_cb .le (g 9 9) y) 38 30) (lc' := [(3, .int (g 9 9)), (0, .ref 9), (1, .int x), (2, .int y)]) (stk' := []) (mem' := cm g l a b R) (by intro _ _ _; eq_refl) ?_
      cases y4 : fx_cb .le (g 9 9) y
      · refine he_s 2 (pc' := 32) (lc' := [(3, .int (g 9 9)), (0, .ref 9), (1, .int x), (2, .int y)]) (stk' := [.int 4, .ref 9]) (mem' := cm g l a b R) (by intro _ _ _; eq_refl) ?_
        refine he_ivV (ha_failq (a := a) (b := b) (R := R) (x := 4) h) (by omega) (by rfl) (by rfl) (by rfl) (by rfl) (by rfl) (by rfl) ?_
        refine he_s 2 (pc' := 43) (lc' := [(3, .int (g 9 9)), (0, .ref 9), (1, .int x), (2, .int y)]) (stk' := [.int (g 9 9)]) (mem' := cm g l a b R) (by intro _ _ _; eq_refl) ?_
        exact he_ret ⟨_, _, _, cfr_rf, h, rfl⟩ (by rfl) (by rfl) (by rfl)
      · refine he_s 1 (pc' := 39) (lc' := [(3, .int (g 9 9)), (0, .ref 9), (1, .int x), (2, .int y)]) (stk' := [.ref 9]) (mem' := cm g l a b R) (by intro _ _ _; eq_refl) ?_
        obtain ⟨gc6, lc6, hrc6, hmc6, frc6⟩ := ha_scanq (R := R) hg h
        refine he_ivV hrc6 (by omega) (by rfl) (by rfl) (by rfl) (by rfl) (by rfl) (by rfl) ?_
        have hfc6 := cfr_tr cfr_rf frc6
        refine he_s 1 (pc' := 43) (lc' := [(3, .int (g 9 9)), (0, .ref 9), (1, .int x), (2, .int y)]) (stk' := [.int (g 9 9)]) (mem' := cm gc6 lc6 a b R) (by intro _ _ _; eq_refl) ?_
        exact he_ret ⟨_, _, _, hfc6, hmc6, rfl⟩ (by rfl) (by rfl) (by rfl)
    · refine he_s 2 (pc' := 32) (lc' := [(3, .int (g 9 9)), (0, .ref 9), (1, .int x), (2, .int y)]) (stk' := [.int 4, .ref 9]) (mem' := cm g l a b R) (by intro _ _ _; eq_refl) ?_
      refine he_ivV (ha_failq (a := a) (b := b) (R := R) (x := 4) h) (by omega) (by rfl) (by rfl) (by rfl) (by rfl) (by rfl) (by rfl) ?_
      refine he_s 2 (pc' := 43) (lc' := [(3, .int (g 9 9)), (0, .ref 9), (1, .int x), (2, .int y)]) (stk' := [.int (g 9 9)]) (mem' := cm g l a b R) (by intro _ _ _; eq_refl) ?_
      exact he_ret ⟨_, _, _, cfr_rf, h, rfl⟩ (by rfl) (by rfl) (by rfl)
theorem sp_cw_n1F (h : fx_cb .ne (sp_cw T n p) (-1) = false) : ¬ (sp_k T n p = 1 ∧ sp_kw (sp_wd T n p) < 23) := by
  rw [sp_cw_n1] at h
  exact of_decide_eq_false h
theorem sp_cw_n1T (h : fx_cb .ne (sp_cw T n p) (-1) = true) : sp_k T n p = 1 ∧ sp_kw (sp_wd T n p) < 23 := by
  rw [sp_cw_n1] at h
  exact of_decide_eq_true h
theorem lg_cmp_eT {x y : Int64} (h : fx_cb .eq (lg_cmp x y) 0 = true) : x = y := lg_cmp0 (by
  show (!decide (lg_cmp x y = 0)) = false
  rw [show decide (lg_cmp x y = 0) = true from h]
  rfl)
theorem lg_cmp_eF {x y : Int64} (h : fx_cb .eq (lg_cmp x y) 0 = false) : ¬ x = y := lg_cmp1 (by
  show (!decide (lg_cmp x y = 0)) = true
  rw [show decide (lg_cmp x y = 0) = false from h]
  rfl)
theorem ha_nh0 (hg : ctx a b T n) (h : co g l T n p) : ∃ (v : Option Value) (mem' : fx_M), (fun R1 => ∃ (v : Int64) (g' : Nat → Nat → Int32), cfr g l g' l ∧ ((sp_nm T n p ∧ v = Int64.ofNat (sp_cd (sp_wd T n p)) ∧ co g' l T n p) ∨ (¬ sp_nm T n p ∧ v = 0 ∧ cq g' l T n (sp_m T n p) (sp_s T n p))) ∧ R1 = (some (.long v), cm g' l a b R)) (v, mem') ∧ hr_T 3 112 [.ref 9] (cm g l a b R) v mem' := by
  refine he_meth (F := fun R1 => ∃ (v : Int64) (g' : Nat → Nat → Int32), cfr g l g' l ∧ ((sp_nm T n p ∧ v = Int64.ofNat (sp_cd (sp_wd T n p)) ∧ co g' l T n p) ∨ (¬ sp_nm T n p ∧ v = 0 ∧ cq g' l T n (sp_m T n p) (sp_s T n p))) ∧ R1 = (some (.long v), cm g' l a b R)) (M := gk_m112) (by rfl) (by rfl) ?_
  obtain ⟨-, -, -, h6, h7, h8, -, -⟩ := h.2.1
  have hk4 := sp_k4 (T := T) (n := n) (p := p)
  have hnz : sp_k T n p = 1 → sp_cn T n p = 0 → ¬ sp_n T n p ≤ sp_s T n p + 8 := fun z e q => by
    unfold sp_cn at e
    rw [if_pos q] at e
    have hl := sp_n_lt h.1 (Or.inl z)
    have h1 := sp_cd_pos (sp_wd_lo h.1 z) (fun y => by have := sp_wd_len (T := T) (n := n) (p := p); rw [y] at this; have : 0 = _ := this; omega)
    have := sp_i64 (sp_cd_63 (sp_wd_lo h.1 z) (by rw [sp_wd_len]; omega)) (by decide) (show Int64.ofNat (sp_cd (sp_wd T n p)) = Int64.ofNat 0 from e)
    omega
  have hw1 := sp_kw_le (sp_wd T n p)
  by_cases hk : sp_k T n p = 1
  · have h6a : g 9 6 = 1 := h6.trans (by rw [hk]; rfl)
    refine he_s 3 (pc' := 5) (lc' := [(0, .ref 9)]) (stk' := [.int 1, .int (g 9 6)]) (mem' := cm g l a b R) (by intro _ _ _; eq_refl) ?_
    try rw [h6a]
    refine he_s 1 (pc' := cond (fx_cb .ne 1 1) 30 8) (lc' := [(0, .ref 9)]) (stk' := []) (mem' := cm g l a b R) (by intro _ _ _; eq_refl) ?_
    rw [show (fx_cb .ne 1 1) = false from by decide]
    dsimp only [cond]
    refine he_s 3 (pc' := 13) (lc' := [(0, .ref 9)]) (stk' := [.int (-1), .int (g 9 7)]) (mem' := cm g l a b R) (by intro _ _ _; eq_refl) ?_
    try rw [h7]
    refine he_s 1 (pc' := cond (fx_cb .ne (sp_cw T n p) (-1)) 30 16) (lc' := [(0, .ref 9)]) (stk' := []) (mem' := cm g l a b R) (by intro _ _ _; eq_refl) ?_
    cases y1 : fx_cb .ne (sp_cw T n p) (-1)
    · refine he_s 4 (pc' := 22) (lc' := [(0, .ref 9)]) (stk' := [.int (lg_cmp (l 9 8) 0)]) (mem' := cm g l a b R) (by intro _ _ _; eq_refl) ?_
      try rw [(h8 hk)]
      refine he_s 1 (pc' := cond (fx_cb .eq (lg_cmp (sp_cn T n p) 0) 0) 30 25) (lc' := [(0, .ref 9)]) (stk' := []) (mem' := cm g l a b R) (by intro _ _ _; eq_refl) ?_
      cases y2 : fx_cb .eq (lg_cmp (sp_cn T n p) 0) 0
      · refine he_s 2 (pc' := 29) (lc' := [(0, .ref 9)]) (stk' := [.long (l 9 8)]) (mem' := cm g l a b R) (by intro _ _ _; eq_refl) ?_
        try rw [(h8 hk)]
        have w1 := sp_cw_n1F y1
        have w2 : ¬ sp_cn T n p = 0 := lg_cmp_eF y2
        have w3 : sp_n T n p ≤ sp_s T n p + 8 := Classical.byContradiction (fun z => w2 (if_neg z))
        exact he_ret ⟨_, _, cfr_rf, Or.inl ⟨⟨hk, w3, by omega⟩, if_pos w3, h⟩, rfl⟩ (by rfl) (by rfl) (by rfl)
      · refine he_s 1 (pc' := 31) (lc' := [(0, .ref 9)]) (stk' := [.ref 9]) (mem' := cm g l a b R) (by intro _ _ _; eq_refl) ?_
        obtain ⟨gc3, hrc3, hmc3, frc3⟩ := ha_misfit (a := a) (b := b) (R := R) h
        refine he_ivV hrc3 (by omega) (by rfl) (by rfl) (by rfl) (by rfl) (by rfl) (by rfl) ?_
        have hfc3 := cfr_tr cfr_rf frc3
        refine he_s 1 (pc' := 35) (lc' := [(0, .ref 9)]) (stk' := [.long 0]) (mem' := cm gc3 l a b R) (by intro _ _ _; eq_refl) ?_
        have w : ¬ sp_nm T n p := fun z => hnz hk (lg_cmp_eT y2) z.2.1
        exact he_ret ⟨_, _, hfc3, Or.inr ⟨w, rfl, hmc3⟩, rfl⟩ (by rfl) (by rfl) (by rfl)
    · refine he_s 1 (pc' := 31) (lc' := [(0, .ref 9)]) (stk' := [.ref 9]) (mem' := cm g l a b R) (by intro _ _ _; eq_refl) ?_
      obtain ⟨gc4, hrc4, hmc4, frc4⟩ := ha_misfit (a := a) (b := b) (R := R) h
      refine he_ivV hrc4 (by omega) (by rfl) (by rfl) (by rfl) (by rfl) (by rfl) (by rfl) ?_
      have hfc4 := cfr_tr cfr_rf frc4
      refine he_s 1 (pc' := 35) (lc' := [(0, .ref 9)]) (stk' := [.long 0]) (mem' := cm gc4 l a b R) (by intro _ _ _; eq_refl) ?_
      have w : ¬ sp_nm T n p := fun z => by have := sp_cw_n1T y1; have := z.2.2; omega
      exact he_ret ⟨_, _, hfc4, Or.inr ⟨w, rfl, hmc4⟩, rfl⟩ (by rfl) (by rfl) (by rfl)
  · refine he_s 3 (pc' := 5) (lc' := [(0, .ref 9)]) (stk' := [.int 1, .int (g 9 6)]) (mem' := cm g l a b R) (by intro _ _ _; eq_refl) ?_
    try rw [h6]
    refine he_s 1 (pc' := cond (fx_cb .ne (nI (sp_k T n p)) 1) 30 8) (lc' := [(0, .ref 9)]) (stk' := []) (mem' := cm g l a b R) (by intro _ _ _; eq_refl) ?_
    rw [show (fx_cb .ne (nI (sp_k T n p)) 1) = true from cb_neT (a := (sp_k T n p)) (b := 1) (by omega) (by omega) (by omega)]
    dsimp only [cond]
    refine he_s 1 (pc' := 31) (lc' := [(0, .ref 9)]) (stk' := [.ref 9]) (mem' := cm g l a b R) (by intro _ _ _; eq_refl) ?_
    obtain ⟨gc5, hrc5, hmc5, frc5⟩ := ha_misfit (a := a) (b := b) (R := R) h
    refine he_ivV hrc5 (by omega) (by rfl) (by rfl) (by rfl) (by rfl) (by rfl) (by rfl) ?_
    have hfc5 := cfr_tr cfr_rf frc5
    refine he_s 1 (pc' := 35) (lc' := [(0, .ref 9)]) (stk' := [.long 0]) (mem' := cm gc5 l a b R) (by intro _ _ _; eq_refl) ?_
    have w : ¬ sp_nm T n p := fun z => hk z.1
    exact he_ret ⟨_, _, hfc5, Or.inr ⟨w, rfl, hmc5⟩, rfl⟩ (by rfl) (by rfl) (by rfl)
theorem ha_nhq0 (hg : ctx a b T n) (h : cq g l T n F P) : ∃ (v : Option Value) (mem' : fx_M), (fun R1 => ∃ (g' : Nat → Nat → Int32) (l' : Nat → Nat → Int64) (v : Int64), cfr g l g' l' ∧ cq g' l' T n F P ∧ R1 = (some (.long v), cm g' l' a b R)) (v, mem') ∧ hr_T 3 112 [.ref 9] (cm g l a b R) v mem' := by
  refine he_meth (F := fun R1 => ∃ (g' : Nat → Nat → Int32) (l' : Nat → Nat → Int64) (v : Int64), cfr g l g' l' ∧ cq g' l' T n F P ∧ R1 = (some (.long v), cm g' l' a b R)) (M := gk_m112) (by rfl) (by rfl) ?_
  refine he_s 3 (pc' := 5) (lc' := [(0, .ref 9)]) (stk' := [.int 1, .int (g 9 6)]) (mem' := cm g l a b R) (by intro _ _ _; eq_refl) ?_
  refine he_s 1 (pc' := cond (fx_cb .ne (g 9 6) 1) 30 8) (lc' := [(0, .ref 9)]) (stk' := []) (mem' := cm g l a b R) (by intro _ _ _; eq_refl) ?_
  cases y1 : fx_cb .ne (g 9 6) 1
  · refine he_s 3 (pc' := 13) (lc' := [(0, .ref 9)]) (stk' := [.int (-1), .int (g 9 7)]) (mem' := cm g l a b R) (by intro _ _ _; eq_refl) ?_
    refine he_s 1 (pc' := cond (fx_cb .ne (g 9 7) (-1)) 30 16) (lc' := [(0, .ref 9)]) (stk' := []) (mem' := cm g l a b R) (by intro _ _ _; eq_refl) ?_
    cases y2 : fx_cb .ne (g 9 7) (-1)
    · refine he_s 4 (pc' := 22) (lc' := [(0, .ref 9)]) (stk' := [.int (lg_cmp (l 9 8) 0)]) (mem' := cm g l a b R) (by intro _ _ _; eq_refl) ?_
      refine he_s 1 (pc' := cond (fx_cb .eq (lg_cmp (l 9 8) 0) 0) 30 25) (lc' := [(0, .ref 9)]) (stk' := []) (mem' := cm g l a b R) (by intro _ _ _; eq_refl) ?_
      cases y3 : fx_cb .eq (lg_cmp (l 9 8) 0) 0
      · refine he_s 2 (pc' := 29) (lc' := [(0, .ref 9)]) (stk' := [.long (l 9 8)]) (mem' := cm g l a b R) (by intro _ _ _; eq_refl) ?_
        exact he_ret ⟨_, _, _, cfr_rf, h, rfl⟩ (by rfl) (by rfl) (by rfl)
      · refine he_s 1 (pc' := 31) (lc' := [(0, .ref 9)]) (stk' := [.ref 9]) (mem' := cm g l a b R) (by intro _ _ _; eq_refl) ?_
        refine he_ivV (ha_misfitq (a := a) (b := b) (R := R) h) (by omega) (by rfl) (by rfl) (by rfl) (by rfl) (by rfl) (by rfl) ?_
        refine he_s 1 (pc' := 35) (lc' := [(0, .ref 9)]) (stk' := [.long 0]) (mem' := cm g l a b R) (by intro _ _ _; eq_refl) ?_
        exact he_ret ⟨_, _, _, cfr_rf, h, rfl⟩ (by rfl) (by rfl) (by rfl)
    · refine he_s 1 (pc' := 31) (lc' := [(0, .ref 9)]) (stk' := [.ref 9]) (mem' := cm g l a b R) (by intro _ _ _; eq_refl) ?_
      refine he_ivV (ha_misfitq (a := a) (b := b) (R := R) h) (by omega) (by rfl) (by rfl) (by rfl) (by rfl) (by rfl) (by rfl) ?_
      refine he_s 1 (pc' := 35) (lc' := [(0, .ref 9)]) (stk' := [.long 0]) (mem' := cm g l a b R) (by intro _ _ _; eq_refl) ?_
      exact he_ret ⟨_, _, _, cfr_rf, h, rfl⟩ (by rfl) (by rfl) (by rfl)
  · refine he_s 1 (pc' := 31) (lc' := [(0, .ref 9)]) (stk' := [.ref 9]) (mem' := cm g l a b R) (by intro _ _ _; eq_refl) ?_
    refine he_ivV (ha_misfitq (a := a) (b := b) (R := R) h) (by omega) (by rfl) (by rfl) (by rfl) (by rfl) (by rfl) (by rfl) ?_
    refine he_s 1 (pc' := 35) (lc' := [(0, .ref 9)]) (stk' := [.long 0]) (mem' := cm g l a b R) (by intro _ _ _; eq_refl) ?_
    exact he_ret ⟨_, _, _, cfr_rf, h, rfl⟩ (by rfl) (by rfl) (by rfl)
end CRD
