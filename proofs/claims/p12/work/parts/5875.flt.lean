/-! ===== fault: both sides ===== -/
/-- what fault(x) answers of kind and place -/
def ft_v (k p x : Int32) : Int32 := if x = 0 then k else if x = 1 then p else -1
theorem cb_neI {x y : Int32} (h : ¬ x = y) : fx_cb .ne x y = true := by
  show (!decide (x = y)) = true
  rw [decide_eq_false h]
  rfl
section FLC
variable {g : Nat → Nat → Int32} {l : Nat → Nat → Int64} {a : Nat → Nat → Int32} {b : Nat → Nat → Int64} {R : fx_M}
theorem hl_fault {x : Int32} : hr_T 1 137 [.ref 0, .int x] (cm g l a b R) (some (.int (ft_v (g 9 10) (g 9 11) x))) (cm g l a b R) := by
  refine hr_meth (by rfl) (by rfl) ?_
  refine hr_s 2 (pc' := cond (fx_cb .ne x 0) 12 4) (lc' := [(0, .ref 0), (1, .int x)]) (stk' := []) (mem' := cm g l a b R) (by intro _ _ _; eq_refl) ?_
  unfold ft_v
  by_cases h0 : x = 0
  · subst h0
    rw [if_pos rfl]
    rw [show fx_cb .ne 0 0 = false from by decide]
    dsimp only [cond]
    refine hr_s 3 (pc' := 11) (lc' := [(0, .ref 0), (1, .int 0)]) (stk' := [.int (g 9 10)]) (mem' := cm g l a b R) (by intro _ _ _; eq_refl) ?_
    exact hr_ret (by rfl) (by rfl) (by rfl)
  · rw [if_neg h0, cb_neI h0]
    dsimp only [cond]
    refine hr_s 3 (pc' := cond (fx_cb .ne x 1) 27 17) (lc' := [(0, .ref 0), (1, .int x)]) (stk' := []) (mem' := cm g l a b R) (by intro _ _ _; eq_refl) ?_
    by_cases h1 : x = 1
    · subst h1
      rw [if_pos rfl]
      rw [show fx_cb .ne 1 1 = false from by decide]
      dsimp only [cond]
      refine hr_s 4 (pc' := 28) (lc' := [(0, .ref 0), (1, .int 1)]) (stk' := [.int (g 9 11)]) (mem' := cm g l a b R) (by intro _ _ _; eq_refl) ?_
      exact hr_ret (by rfl) (by rfl) (by rfl)
    · rw [if_neg h1, cb_neI h1]
      dsimp only [cond]
      refine hr_s 1 (pc' := 28) (lc' := [(0, .ref 0), (1, .int x)]) (stk' := [.int (-1)]) (mem' := cm g l a b R) (by intro _ _ _; eq_refl) ?_
      exact hr_ret (by rfl) (by rfl) (by rfl)
end FLC
section FLM
variable {g : Nat → Int32} {tp bt : Int64} {a : Nat → Nat → Int32} {b : Nat → Nat → Int64}
theorem ml_fault {x : Int32} : fr_T 1 235 [.ref 0, .int x] (fm g tp bt a b) (some (.int (ft_v (g 16) (g 17) x))) (fm g tp bt a b) := by
  refine fr_meth (by rfl) (by rfl) ?_
  refine fr_s 2 (pc' := cond (fx_cb .ne x 0) 11 4) (lc' := [(0, .ref 0), (1, .int x)]) (stk' := []) (mem' := fm g tp bt a b) (by intro _ _ _; eq_refl) ?_
  unfold ft_v
  by_cases h0 : x = 0
  · subst h0
    rw [if_pos rfl]
    rw [show fx_cb .ne 0 0 = false from by decide]
    dsimp only [cond]
    refine fr_s 3 (pc' := 24) (lc' := [(0, .ref 0), (1, .int 0)]) (stk' := [.int (g 16)]) (mem' := fm g tp bt a b) (by intro _ _ _; eq_refl) ?_
    exact fr_ret (by rfl) (by rfl) (by rfl)
  · rw [if_neg h0, cb_neI h0]
    dsimp only [cond]
    refine fr_s 3 (pc' := cond (fx_cb .ne x 1) 23 16) (lc' := [(0, .ref 0), (1, .int x)]) (stk' := []) (mem' := fm g tp bt a b) (by intro _ _ _; eq_refl) ?_
    by_cases h1 : x = 1
    · subst h1
      rw [if_pos rfl]
      rw [show fx_cb .ne 1 1 = false from by decide]
      dsimp only [cond]
      refine fr_s 3 (pc' := 24) (lc' := [(0, .ref 0), (1, .int 1)]) (stk' := [.int (g 17)]) (mem' := fm g tp bt a b) (by intro _ _ _; eq_refl) ?_
      exact fr_ret (by rfl) (by rfl) (by rfl)
    · rw [if_neg h1, cb_neI h1]
      dsimp only [cond]
      refine fr_s 1 (pc' := 24) (lc' := [(0, .ref 0), (1, .int x)]) (stk' := [.int (-1)]) (mem' := fm g tp bt a b) (by intro _ _ _; eq_refl) ?_
      exact fr_ret (by rfl) (by rfl) (by rfl)
end FLM
def ftC : SC := fun av g _ _ _ _ _ v => ∃ x : Int32, av = [.int x] ∧ v = .int (ft_v (g 9 10) (g 9 11) x)
def ftM : SM := fun av g a b g' a' b' v => (∃ x : Int32, av = [.int x] ∧ v = .int (ft_v (g 16) (g 17) x)) ∧ g' = g ∧ a' = a ∧ b' = b
section FLS
variable {l : Launch} {D : va_G} {xt : tk_XT} {ads : List Nat}
theorem ftC_sem (hxt : tk_xtok xt) {W : List (Nat × Nat)} (hK : KC l D xt ads 137 [0] [gn_i] W) : lw_sem l D xt gc_TY h3_X ads lw_twC 20 137 [0] [gn_i] (QC W ftC) := by
  refine cx_sem (S := ftC) (k := 1) hxt (by decide) hK (fun rest g l' a b R hr hin => ?_)
  obtain ⟨x, r0, rfl, k0⟩ := av_int hr
  obtain rfl := k0.nil
  exact ⟨.int _, g, l', a, b, Nat.zero_le 1, cx_of hl_fault (fun _ _ => ⟨rfl, rfl, rfl⟩), x, rfl, rfl⟩
theorem ftM_sem (hst : HS xt) : lw_sem l D xt gn_TY (gn_X lw_twM) ads lw_twM 5 235 [0] [gn_i] (fun av ws ws' v => QM ftM av ws ws' v ∧ ∀ z ∈ mw_W, lw_at ws' z = lw_at ws z) := by
  refine lw_sem_imp (mx_sem (S := ftM) (k := 1) (n := 1) hst gn_M0_ms (fun g tp bt a b xs hx hI => ?_)) ?_
  · obtain ⟨x, r0, rfl, k0⟩ := fm_xsS hx
    obtain rfl := List.length_eq_zero_iff.mp k0
    exact ⟨_, g, tp, bt, a, b, ml_fault, hI, ⟨fun k => Or.inr rfl, fun t _ => Or.inr rfl, fun t => Or.inr rfl⟩, ⟨x, rfl, rfl⟩, rfl, rfl, rfl⟩
  · rintro av ws ws' v - ⟨hv, g, a, b, g', a', b', h1, h2, h3, h4, rfl, rfl, rfl⟩
    exact ⟨⟨hv, g', a', b', g', a', b', h1, h2, h3, h4, rfl, rfl, rfl⟩, mw_unW h1 h2⟩
theorem ft_cmp {W : List (Nat × Nat)} {av : List Value} {c0 m0 c1 m1 : va_W} {u w : Value} (hR : WR c0 m0) (h1 : QC W ftC av c0 c1 u) (h2 : QM ftM av m0 m1 w) : u = w := by
  obtain ⟨-, g, a, b, g', a', b', k1, k2, x, rfl, rfl⟩ := h1
  obtain ⟨-, gm, am, bm, gm', am', bm', q1, q2, -, ⟨y, e, rfl⟩, -⟩ := h2
  cases e
  have h := WR_get hR k1 q1
  rw [h.2.1.1, h.2.1.2]
end FLS
