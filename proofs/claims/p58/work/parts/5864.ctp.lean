/-! ===== the class's tales(): exact ===== -/
section TLG
variable {T : Nat → Nat} {n P p : Nat} {A : sp_A}
theorem sp_Q_sign {w : Nat} {c : Nat → sp_R} (h : sp_Q P (c (sp_n T n p))) : sp_Q P (sp_sign T n w p c) := sp_Q_if h sp_Q_l
theorem sp_Q_walk {c : Nat → sp_R} (h : ∀ i, sp_Q P (c i)) : sp_Q P (sp_walk T n A p c) := sp_Q_if (sp_Q_if (h _) sp_Q_l) sp_Q_l
theorem sp_Q_cmp {c : Nat → sp_R} (h : sp_Q P (c (sp_n T n p))) : sp_Q P (tl_cmp T n p c) := sp_Q_if h sp_Q_l
theorem tl_lt {q : Nat} (h : P < q) : P < sp_n T n q := Nat.lt_of_lt_of_le h sp_n_p
theorem sp_Q_rest {w : Nat} {c : Nat → sp_R} (hp : P < p) (hc : ∀ q, P < q → sp_Q P (c q)) : sp_Q P (tl_rest T n A w p c) := by
  have h := fun q (hq : P < q) => tl_lt (T := T) (n := n) hq
  unfold tl_rest
  split
  · exact sp_Q_walk (fun _ => sp_Q_word (sp_Q_cell (fun _ => hc _ (h _ (h _ (h _ hp))))))
  · exact sp_Q_num (hc _ (h _ hp))
  · exact sp_Q_num (hc _ (h _ hp))
  · exact sp_Q_num (hc _ (h _ hp))
  · unfold tl_test
    refine sp_Q_if ?_ sp_Q_l
    unfold tl_tk
    split
    · exact sp_Q_cell (fun _ => sp_Q_cmp (sp_Q_num (hc _ (h _ (h _ (h _ (h _ hp)))))))
    · exact sp_Q_walk (fun _ => sp_Q_word (sp_Q_cell (fun _ => hc _ (h _ (h _ (h _ (h _ hp)))))))
    · exact sp_Q_walk (fun _ => hc _ (h _ (h _ hp)))
    · exact sp_Q_l
  · exact sp_Q_num (hc _ (h _ hp))
  · exact hc _ hp
theorem sp_Q_tstep {c d : Nat} (hp : p ≤ n) : sp_Q p (tl_step T n A c d p) := by
  unfold tl_step
  by_cases hk : sp_k T n p = 1
  · rw [if_pos hk]
    have h1 : p < sp_n T n p := Nat.lt_of_le_of_lt sp_s_ge (sp_n_lt hp (Or.inl hk))
    have hr : ∀ (x q : Nat), p < q → sp_Q p (sp_sign T n 59 q (fun q2 => .inr (A, x, q2))) := fun x q hq => sp_Q_sign (fun z hz => by
      cases hz
      exact tl_lt hq)
    unfold tl_k
    exact sp_Q_if (sp_Q_if sp_Q_l (hr _ _ h1)) (sp_Q_if (sp_Q_if sp_Q_l (sp_Q_if sp_Q_l (sp_Q_rest h1 (fun q hq => hr _ q hq)))) sp_Q_l)
  · rw [if_neg hk]
    exact sp_Q_l
theorem tl_is_no : ∀ w, w < 24 → ¬ w = 11 → ¬ w = 13 → ¬ w = 14 → ¬ w = 15 → ¬ w = 16 → ¬ w = 17 → ¬ w = 20 → ¬ w = 22 → tl_is w = false := fun w hw h1 h2 h3 h4 h5 h6 h7 h8 => by
  have key : ∀ w, w < 24 → (w = 11 ∨ w = 13 ∨ w = 14 ∨ w = 15 ∨ w = 16 ∨ w = 17 ∨ w = 20 ∨ w = 22) ∨ tl_is w = false := by decide
  rcases key w hw with h | h
  · omega
  · exact h
end TLG
section CTP
variable {g : Nat → Nat → Int32} {l : Nat → Nat → Int64} {a : Nat → Nat → Int32} {b : Nat → Nat → Int64} {R : fx_M} {T : Nat → Nat} {n p : Nat}
variable {F : Int32} {P : Nat} {A : sp_A} {c d : Nat}
theorem ha_tst (hg : ctx a b T n) (hA : cn_L 15 A g b) (hO : opn a) (h : co g l T n p) (hc : c ≤ 30) (hd : d ≤ 3) (h60 : g 60 6 = nI c) (h13 : g 13 2 = nI d) (h67 : g 60 7 = 1) (hne : ¬ (sp_k T n p = 1 ∧ sp_kw (sp_wd T n p) = 21 ∧ 0 < d)) : ∃ (v : Option Value) (mem' : fx_M), (fun R1 => ∃ (g' : Nat → Nat → Int32) (l' : Nat → Nat → Int64) (a' : Nat → Nat → Int32), tfd g l a g' l' a' ∧ tRes g' l' a' T n A (tl_step T n A c d p) ∧ R1 = (none, cm g' l' a' b R)) (v, mem') ∧ hr_T 6 122 [.ref 13, .ref 15, .ref 60] (cm g l a b R) v mem' := by
  have h7 := h.2.1.2.2.2.2.1
  have hno : (∀ w, w < 23 → sp_k T n p = 1 → sp_kw (sp_wd T n p) = w → tl_is w = false ∧ ¬ (w = 21 ∧ 0 < d)) → ∃ (v : Option Value) (mem' : fx_M), (fun R1 => ∃ (g' : Nat → Nat → Int32) (l' : Nat → Nat → Int64) (a' : Nat → Nat → Int32), tfd g l a g' l' a' ∧ tRes g' l' a' T n A (tl_step T n A c d p) ∧ R1 = (none, cm g' l' a' b R)) (v, mem') ∧ hr_T 6 122 [.ref 13, .ref 15, .ref 60] (cm g l a b R) v mem' := fun hw => by
    have y : ∀ w, w < 23 → tl_is w = true → ¬ g 9 7 = nI w := fun w hw1 hw2 z => by
      have hz := (sp_cw_eq (T := T) (n := n) (p := p) hw1).mp (h7.symm.trans z)
      have := (hw w hw1 hz.1 hz.2).1
      rw [hw2] at this
      cases this
    have hm : tl_step T n A c d p = .inl (sp_m T n p, sp_s T n p) := by
      unfold tl_step
      by_cases hk : sp_k T n p = 1
      · rw [if_pos hk]
        have hle := sp_kw_le (sp_wd T n p)
        by_cases h23 : sp_kw (sp_wd T n p) < 23
        · obtain ⟨k1, k2⟩ := hw _ h23 hk rfl
          unfold tl_k
          by_cases e21 : sp_kw (sp_wd T n p) = 21
          · rw [if_pos e21, if_pos (by omega)]; rfl
          · rw [if_neg e21, k1, if_neg (by decide)]; rfl
        · rw [show sp_kw (sp_wd T n p) = 23 by omega]
          rfl
      · rw [if_neg hk]; rfl
    obtain ⟨v, mem', ⟨g', f1, f2, hR⟩, hr⟩ := ha_rsN (R := R) hg hA hO h rfl (y 11 (by decide) rfl) (y 13 (by decide) rfl) (y 14 (by decide) rfl) (y 15 (by decide) rfl) (y 16 (by decide) rfl) (y 17 (by decide) rfl) (y 20 (by decide) rfl) (y 22 (by decide) rfl)
    refine ⟨v, mem', ⟨g', l, a, f1, ?_, hR⟩, hr⟩
    rw [hm]
    exact f2
  by_cases hk : sp_k T n p = 1
  · have hs : tl_step T n A c d p = tl_k T n A c d p (sp_kw (sp_wd T n p)) := if_pos hk
    by_cases e11 : sp_kw (sp_wd T n p) = 11
    · have hw := h7.trans ((sp_cw_eq (w := 11) (by decide)).mpr ⟨hk, e11⟩)
      rw [hs, e11]
      exact ha_rs11 (R := R) hg hA hO h hc hd h60 h13 h67 hw
    by_cases e13 : sp_kw (sp_wd T n p) = 13
    · have hw := h7.trans ((sp_cw_eq (w := 13) (by decide)).mpr ⟨hk, e13⟩)
      rw [hs, e13]
      exact ha_rs13 (R := R) hg hA hO h hc hd h60 h13 h67 hw
    by_cases e14 : sp_kw (sp_wd T n p) = 14
    · have hw := h7.trans ((sp_cw_eq (w := 14) (by decide)).mpr ⟨hk, e14⟩)
      rw [hs, e14]
      exact ha_rs14 (R := R) hg hA hO h hc hd h60 h13 h67 hw
    by_cases e15 : sp_kw (sp_wd T n p) = 15
    · have hw := h7.trans ((sp_cw_eq (w := 15) (by decide)).mpr ⟨hk, e15⟩)
      rw [hs, e15]
      exact ha_rs15 (R := R) hg hA hO h hc hd h60 h13 h67 hw
    by_cases e16 : sp_kw (sp_wd T n p) = 16
    · have hw := h7.trans ((sp_cw_eq (w := 16) (by decide)).mpr ⟨hk, e16⟩)
      rw [hs, e16]
      exact ha_rs16 (R := R) hg hA hO h hc hd h60 h13 h67 hw
    by_cases e17 : sp_kw (sp_wd T n p) = 17
    · have hw := h7.trans ((sp_cw_eq (w := 17) (by decide)).mpr ⟨hk, e17⟩)
      rw [hs, e17]
      exact ha_rs17 (R := R) hg hA hO h hc hd h60 h13 h67 hw
    by_cases e20 : sp_kw (sp_wd T n p) = 20
    · have hw := h7.trans ((sp_cw_eq (w := 20) (by decide)).mpr ⟨hk, e20⟩)
      rw [hs, e20]
      exact ha_rs20 (R := R) hg hA hO h hc hd h60 h13 h67 hw
    by_cases e22 : sp_kw (sp_wd T n p) = 22
    · have hw := h7.trans ((sp_cw_eq (w := 22) (by decide)).mpr ⟨hk, e22⟩)
      rw [hs, e22]
      exact ha_rs22 (R := R) hg hA hO h hc hd h60 h13 h67 hw
    by_cases e21 : sp_kw (sp_wd T n p) = 21
    · have hd0 : d = 0 := Classical.byContradiction (fun z => hne ⟨hk, e21, by omega⟩)
      subst hd0
      have hw := h7.trans ((sp_cw_eq (w := 21) (by decide)).mpr ⟨hk, e21⟩)
      rw [hs, e21]
      exact ha_rs21 (R := R) hg hA hO h hc h60 h67 hw
    · refine hno (fun w hw1 _ hw2 => ?_)
      subst hw2
      exact ⟨tl_is_no _ (by omega) e11 e13 e14 e15 e16 e17 e20 e22, fun z => e21 z.1⟩
  · exact hno (fun w _ z => absurd z hk)
theorem ha_tend {g0 a0 : Nat → Nat → Int32} {l0 : Nat → Nat → Int64} {x : Nat} {y : Int32} (h : co g l T n p) (hS : tSt g a x) (hf : tfd g0 l0 a0 g l a) : he_R 6 gk_m119 82 [(3, .int y), (0, .ref 13), (1, .ref 15), (2, .ref 60)] [] (cm g l a b R) (fun R1 => ∃ (g' : Nat → Nat → Int32) (l' : Nat → Nat → Int64) (a' : Nat → Nat → Int32), tfd g0 l0 a0 g' l' a' ∧ tRes g' l' a' T n A (if x % 4 = 0 then .inr (A, x, p) else sp_mis T n p) ∧ R1 = (none, cm g' l' a' b R)) := by
  refine he_s 2 (pc' := 86) (lc' := [(3, .int y), (0, .ref 13), (1, .ref 15), (2, .ref 60)]) (stk' := [.int (g 13 2)]) (mem' := cm g l a b R) (by intro _ _ _; eq_refl) ?_
  rw [hS.2.2.1]
  refine he_s 1 (pc' := cond (fx_cb .le (nI (x % 4)) 0) 96 89) (lc' := [(3, .int y), (0, .ref 13), (1, .ref 15), (2, .ref 60)]) (stk' := []) (mem' := cm g l a b R) (by intro _ _ _; eq_refl) ?_
  by_cases hx : x % 4 = 0
  · rw [show fx_cb .le (nI (x % 4)) 0 = true from cb_leT (a := x % 4) (b := 0) (by omega) (by omega) (by omega)]
    dsimp only [cond]
    refine he_ret ⟨_, _, _, hf, ?_, rfl⟩ (by rfl) (by rfl) (by rfl)
    rw [if_pos hx]
    exact ⟨rfl, h, hS⟩
  · rw [show fx_cb .le (nI (x % 4)) 0 = false from cb_leF (a := x % 4) (b := 0) (by omega) (by omega) (by omega)]
    dsimp only [cond]
    obtain ⟨g1, k1, k2, k3⟩ := ha_misfit (a := a) (b := b) (R := R) h
    refine he_s 2 (pc' := 93) (lc' := [(3, .int y), (0, .ref 13), (1, .ref 15), (2, .ref 60)]) (stk' := [.ref 9]) (mem' := cm g l a b R) (by intro _ _ _; eq_refl) ?_
    refine he_ivV k1 (by omega) (by rfl) (by rfl) (by rfl) (by rfl) (by rfl) (by rfl) ?_
    refine he_ret ⟨_, _, _, tfd_tr hf (tfd_c k3), ?_, rfl⟩ (by rfl) (by rfl) (by rfl)
    rw [if_neg hx]
    exact k2
theorem ha_tendq {g0 a0 : Nat → Nat → Int32} {l0 : Nat → Nat → Int64} {z : Int32 × Nat} {y : Int32} (h : cq g l T n z.1 z.2) (hf : tfd g0 l0 a0 g l a) : he_R 6 gk_m119 82 [(3, .int y), (0, .ref 13), (1, .ref 15), (2, .ref 60)] [] (cm g l a b R) (fun R1 => ∃ (g' : Nat → Nat → Int32) (l' : Nat → Nat → Int64) (a' : Nat → Nat → Int32), tfd g0 l0 a0 g' l' a' ∧ tRes g' l' a' T n A (.inl z) ∧ R1 = (none, cm g' l' a' b R)) := by
  refine he_s 2 (pc' := 86) (lc' := [(3, .int y), (0, .ref 13), (1, .ref 15), (2, .ref 60)]) (stk' := [.int (g 13 2)]) (mem' := cm g l a b R) (by intro _ _ _; eq_refl) ?_
  refine he_s 1 (pc' := cond (fx_cb .le (g 13 2) 0) 96 89) (lc' := [(3, .int y), (0, .ref 13), (1, .ref 15), (2, .ref 60)]) (stk' := []) (mem' := cm g l a b R) (by intro _ _ _; eq_refl) ?_
  cases fx_cb .le (g 13 2) 0
  · dsimp only [cond]
    refine he_s 2 (pc' := 93) (lc' := [(3, .int y), (0, .ref 13), (1, .ref 15), (2, .ref 60)]) (stk' := [.ref 9]) (mem' := cm g l a b R) (by intro _ _ _; eq_refl) ?_
    refine he_ivV (ha_misfitq h) (by omega) (by rfl) (by rfl) (by rfl) (by rfl) (by rfl) (by rfl) ?_
    exact he_ret ⟨_, _, _, hf, h, rfl⟩ (by rfl) (by rfl) (by rfl)
  · dsimp only [cond]
    exact he_ret ⟨_, _, _, hf, h, rfl⟩ (by rfl) (by rfl) (by rfl)
theorem ctx_td {g1 a1 : Nat → Nat → Int32} {l1 : Nat → Nat → Int64} (h : ctx a b T n) (hf : tfd g l a g1 l1 a1) : ctx a1 b T n := by
  have e : a1 10 = a 10 := hf.2.2 10 (by decide) (by decide)
  exact ⟨h.1, by rw [e]; exact h.2.1, h.2.2⟩
theorem cn_td {g1 a1 : Nat → Nat → Int32} {l1 : Nat → Nat → Int64} (h : cn_L 15 A g b) (hf : tfd g l a g1 l1 a1) : cn_L 15 A g1 b := ⟨(congrFun (hf.1.1 15 (by decide) (by decide) (by decide)) 8).trans h.1, h.2.1, (congrFun (hf.1.1 26 (by decide) (by decide) (by decide)) 7).trans h.2.2.1, h.2.2.2⟩
theorem ha_tloop {g0 a0 : Nat → Nat → Int32} {l0 : Nat → Nat → Int64} : ∀ (r k : Nat), k + r = 900 → ∀ (x p : Nat) (g a : Nat → Nat → Int32) (l : Nat → Nat → Int64), ctx a b T n → cn_L 15 A g b → co g l T n p → tSt g a x → k ≤ p → tfd g0 l0 a0 g l a → he_R 6 gk_m119 16 [(3, .int (nI k)), (0, .ref 13), (1, .ref 15), (2, .ref 60)] [] (cm g l a b R) (fun R1 => ∃ (g' : Nat → Nat → Int32) (l' : Nat → Nat → Int64) (a' : Nat → Nat → Int32), tfd g0 l0 a0 g' l' a' ∧ tRes g' l' a' T n A (tl_all T n A (r + 1) x p) ∧ R1 = (none, cm g' l' a' b R)) := by
  intro r
  induction r with
  | zero =>
    intro k hk x p g a l hg hA h hS hkp hf
    obtain rfl : k = 900 := by omega
    have hp := h.1
    have h0 : sp_k T n p = 0 := by
      have h9 := hg.1
      have hs := sp_s_ge (T := T) (n := n) (p := p)
      exact (sp_t0 (by omega)).1
    refine he_s 3 (pc' := cond (fx_cb .ge (nI 900) 900) 82 23) (lc' := [(3, .int (nI 900)), (0, .ref 13), (1, .ref 15), (2, .ref 60)]) (stk' := []) (mem' := cm g l a b R) (by intro _ _ _; eq_refl) ?_
    rw [show (fx_cb .ge (nI 900) 900) = true from by decide]
    dsimp only [cond]
    rw [show tl_all T n A (0 + 1) x p = (if x % 4 = 0 then .inr (A, x, p) else sp_mis T n p) from if_pos h0]
    exact ha_tend h hS hf
  | succ r ih =>
    intro k hk x p g a l hg hA h hS hkp hf
    have hk4 := sp_k4 (T := T) (n := n) (p := p)
    refine he_s 3 (pc' := cond (fx_cb .ge (nI k) 900) 82 23) (lc' := [(3, .int (nI k)), (0, .ref 13), (1, .ref 15), (2, .ref 60)]) (stk' := []) (mem' := cm g l a b R) (by intro _ _ _; eq_refl) ?_
    rw [show (fx_cb .ge (nI k) 900) = false from cb_geF (a := k) (b := 900) (by omega) (by omega) (by omega)]
    dsimp only [cond]
    refine he_s 3 (pc' := 30) (lc' := [(3, .int (nI k)), (0, .ref 13), (1, .ref 15), (2, .ref 60)]) (stk' := [.int (g 9 10)]) (mem' := cm g l a b R) (by intro _ _ _; eq_refl) ?_
    rw [h.2.2.1]
    refine he_s 4 (pc' := 40) (lc' := [(3, .int (nI k)), (0, .ref 13), (1, .ref 15), (2, .ref 60)]) (stk' := [.int (g 9 6)]) (mem' := cm g l a b R) (by intro _ _ _; eq_refl) ?_
    rw [h.2.1.2.2.2.1]
    refine he_s 1 (pc' := cond (fx_cb .eq (nI (sp_k T n p)) 0) 82 43) (lc' := [(3, .int (nI k)), (0, .ref 13), (1, .ref 15), (2, .ref 60)]) (stk' := []) (mem' := cm g l a b R) (by intro _ _ _; eq_refl) ?_
    by_cases h0 : sp_k T n p = 0
    · rw [show (fx_cb .eq (nI (sp_k T n p)) 0) = true from cb_eqT (a := sp_k T n p) (b := 0) (by omega) (by omega) h0]
      dsimp only [cond]
      rw [show tl_all T n A (r + 1 + 1) x p = (if x % 4 = 0 then .inr (A, x, p) else sp_mis T n p) from if_pos h0]
      exact ha_tend h hS hf
    · rw [show (fx_cb .eq (nI (sp_k T n p)) 0) = false from cb_eqF (a := sp_k T n p) (b := 0) (by omega) (by omega) h0]
      dsimp only [cond]
      have hsp : tl_all T n A (r + 1 + 1) x p = (match tl_step T n A (x / 4) (x % 4) p with
        | .inl z => .inl z
        | .inr z => tl_all T n A (r + 1) z.2.1 z.2.2) := if_neg h0
      have hQ := sp_Q_tstep (T := T) (A := A) (c := x / 4) (d := x % 4) h.1
      -- the rest of the loop, behind the call
      have rest : ∀ (g1 a1 : Nat → Nat → Int32) (l1 : Nat → Nat → Int64), tfd g l a g1 l1 a1 → tRes g1 l1 a1 T n A (tl_step T n A (x / 4) (x % 4) p) → he_R 6 gk_m119 76 [(3, .int (nI k)), (0, .ref 13), (1, .ref 15), (2, .ref 60)] [] (cm g1 l1 a1 b R) (fun R1 => ∃ (g' : Nat → Nat → Int32) (l' : Nat → Nat → Int64) (a' : Nat → Nat → Int32), tfd g0 l0 a0 g' l' a' ∧ tRes g' l' a' T n A (tl_all T n A (r + 1 + 1) x p) ∧ R1 = (none, cm g' l' a' b R)) := fun g1 a1 l1 k1 k2 => by
        rw [hsp]
        refine he_s 2 (pc' := 16) (lc' := [(3, .int (nI k + 1)), (0, .ref 13), (1, .ref 15), (2, .ref 60)]) (stk' := []) (mem' := cm g1 l1 a1 b R) (by intro _ _ _; eq_refl) ?_
        rw [show nI k + 1 = nI (k + 1) from nI_add k 1]
        have hf1 := tfd_tr hf k1
        cases hz : tl_step T n A (x / 4) (x % 4) p with
        | inr z =>
          rw [hz] at k2
          dsimp only
          have := hQ z hz
          exact ih (k + 1) (by omega) z.2.1 z.2.2 g1 a1 l1 (ctx_td hg k1) (cn_td hA k1) k2.2.1 k2.2.2 (by omega) hf1
        | inl z =>
          rw [hz] at k2
          have k2 : cq g1 l1 T n z.1 z.2 := k2
          dsimp only
          refine he_s 3 (pc' := cond (fx_cb .ge (nI (k + 1)) 900) 82 23) (lc' := [(3, .int (nI (k + 1))), (0, .ref 13), (1, .ref 15), (2, .ref 60)]) (stk' := []) (mem' := cm g1 l1 a1 b R) (by intro _ _ _; eq_refl) ?_
          by_cases h9 : 900 ≤ k + 1
          · rw [show (fx_cb .ge (nI (k + 1)) 900) = true from cb_geT (a := k + 1) (b := 900) (by omega) (by omega) h9]
            dsimp only [cond]
            exact ha_tendq k2 hf1
          · rw [show (fx_cb .ge (nI (k + 1)) 900) = false from cb_geF (a := k + 1) (b := 900) (by omega) (by omega) h9]
            dsimp only [cond]
            refine he_s 3 (pc' := 30) (lc' := [(3, .int (nI (k + 1))), (0, .ref 13), (1, .ref 15), (2, .ref 60)]) (stk' := [.int (g1 9 10)]) (mem' := cm g1 l1 a1 b R) (by intro _ _ _; eq_refl) ?_
            rw [k2.2.2.1]
            refine he_s 1 (pc' := cond (fx_cb .ne z.1 0) 82 33) (lc' := [(3, .int (nI (k + 1))), (0, .ref 13), (1, .ref 15), (2, .ref 60)]) (stk' := []) (mem' := cm g1 l1 a1 b R) (by intro _ _ _; eq_refl) ?_
            rw [cb_nz_ne k2.1]
            dsimp only [cond]
            exact ha_tendq k2 hf1
      obtain ⟨s1, s2, s3, s4, s5⟩ := id hS
      have step : ¬ (sp_k T n p = 1 ∧ sp_kw (sp_wd T n p) = 21 ∧ 0 < x % 4) → he_R 6 gk_m119 70 [(3, .int (nI k)), (0, .ref 13), (1, .ref 15), (2, .ref 60)] [] (cm g l a b R) (fun R1 => ∃ (g' : Nat → Nat → Int32) (l' : Nat → Nat → Int64) (a' : Nat → Nat → Int32), tfd g0 l0 a0 g' l' a' ∧ tRes g' l' a' T n A (tl_all T n A (r + 1 + 1) x p) ∧ R1 = (none, cm g' l' a' b R)) := fun hne => by
        obtain ⟨v1, mem1, ⟨g1, l1, a1, k1, k2, hR1⟩, k3⟩ := ha_tst (R := R) hg hA s4 h s1 (by omega) s2 s3 s5 hne
        cases hR1
        refine he_s 3 (pc' := 73) (lc' := [(3, .int (nI k)), (0, .ref 13), (1, .ref 15), (2, .ref 60)]) (stk' := [.ref 60, .ref 15, .ref 13]) (mem' := cm g l a b R) (by intro _ _ _; eq_refl) ?_
        refine he_ivV k3 (by omega) (by rfl) (by rfl) (by rfl) (by rfl) (by rfl) (by rfl) ?_
        exact rest g1 a1 l1 k1 k2
      refine he_s 4 (pc' := 52) (lc' := [(3, .int (nI k)), (0, .ref 13), (1, .ref 15), (2, .ref 60)]) (stk' := [.int 21, .int (g 9 7)]) (mem' := cm g l a b R) (by intro _ _ _; eq_refl) ?_
      rw [h.2.1.2.2.2.2.1]
      refine he_s 1 (pc' := cond (fx_cb .ne (sp_cw T n p) 21) 70 55) (lc' := [(3, .int (nI k)), (0, .ref 13), (1, .ref 15), (2, .ref 60)]) (stk' := []) (mem' := cm g l a b R) (by intro _ _ _; eq_refl) ?_
      cases h21 : fx_cb .ne (sp_cw T n p) 21
      · have e21 := sp_cw_neF (w := 21) (by decide) h21
        dsimp only [cond]
        refine he_s 2 (pc' := 59) (lc' := [(3, .int (nI k)), (0, .ref 13), (1, .ref 15), (2, .ref 60)]) (stk' := [.int (g 13 2)]) (mem' := cm g l a b R) (by intro _ _ _; eq_refl) ?_
        rw [s3]
        refine he_s 1 (pc' := cond (fx_cb .le (nI (x % 4)) 0) 70 62) (lc' := [(3, .int (nI k)), (0, .ref 13), (1, .ref 15), (2, .ref 60)]) (stk' := []) (mem' := cm g l a b R) (by intro _ _ _; eq_refl) ?_
        by_cases hx : x % 4 = 0
        · rw [show fx_cb .le (nI (x % 4)) 0 = true from cb_leT (a := x % 4) (b := 0) (by omega) (by omega) (by omega)]
          dsimp only [cond]
          exact step (fun z => by omega)
        · rw [show fx_cb .le (nI (x % 4)) 0 = false from cb_leF (a := x % 4) (b := 0) (by omega) (by omega) (by omega)]
          dsimp only [cond]
          obtain ⟨v1, mem1, ⟨g1, l1, a1, k1, k2, hR1⟩, k3⟩ := ha_re (R := R) (c := x / 4) (d := x % 4) hg hA s4 h s1 (by omega) s2 s3 s5 (by omega)
          cases hR1
          refine he_s 2 (pc' := 64) (lc' := [(3, .int (nI k)), (0, .ref 13), (1, .ref 15), (2, .ref 60)]) (stk' := [.ref 60, .ref 13]) (mem' := cm g l a b R) (by intro _ _ _; eq_refl) ?_
          refine he_ivV k3 (by omega) (by rfl) (by rfl) (by rfl) (by rfl) (by rfl) (by rfl) ?_
          refine he_s 1 (pc' := 76) (lc' := [(3, .int (nI k)), (0, .ref 13), (1, .ref 15), (2, .ref 60)]) (stk' := []) (mem' := cm g1 l1 a1 b R) (by intro _ _ _; eq_refl) ?_
          refine rest g1 a1 l1 k1 ?_
          rw [show tl_step T n A (x / 4) (x % 4) p = tl_k T n A (x / 4) (x % 4) p 21 from by unfold tl_step; rw [if_pos e21.1, e21.2]]
          exact k2
      · dsimp only [cond]
        exact step (fun z => sp_cw_neT (w := 21) (by decide) h21 ⟨z.1, z.2.1⟩)
theorem ha_tclr60 : hr_T 1 116 [.ref 60] (cm g l a b R) none (cm (fm_u (fm_u g 60 6 0) 60 7 0) l a b R) := by
  refine hr_meth (by rfl) (by rfl) ?_
  refine hr_s 6 (pc' := 10) (lc' := [(0, .ref 60)]) (stk' := []) (mem' := cm (fm_u (fm_u g 60 6 0) 60 7 0) l a b R) (by intro _ _ _; eq_refl) ?_
  exact hr_ret (by rfl) (by rfl) (by rfl)
theorem ha_tparse (hg : ctx a b T n) (hA : cn_L 15 A g b) (hO : opn a) (h : co g l T n 0) : ∃ (g' : Nat → Nat → Int32) (l' : Nat → Nat → Int64) (a' : Nat → Nat → Int32), hr_T 7 119 [.ref 13, .ref 15, .ref 60] (cm g l a b R) none (cm g' l' a' b R) ∧ tfd g l a g' l' a' ∧ tRes g' l' a' T n A (tl_tales T n A) := by
  suffices h : ∃ (v : Option Value) (mem' : fx_M), (fun R1 => ∃ (g' : Nat → Nat → Int32) (l' : Nat → Nat → Int64) (a' : Nat → Nat → Int32), tfd g l a g' l' a' ∧ tRes g' l' a' T n A (tl_all T n A (900 + 1) 0 0) ∧ R1 = (none, cm g' l' a' b R)) (v, mem') ∧ hr_T 7 119 [.ref 13, .ref 15, .ref 60] (cm g l a b R) v mem' by
    obtain ⟨v, mem', ⟨g', l', a', h1, h2, hR1⟩, h3⟩ := h
    cases hR1
    exact ⟨g', l', a', h3, h1, h2⟩
  refine he_meth (f := 119) (as := [.ref 13, .ref 15, .ref 60]) (F := fun R1 => ∃ (g' : Nat → Nat → Int32) (l' : Nat → Nat → Int64) (a' : Nat → Nat → Int32), tfd g l a g' l' a' ∧ tRes g' l' a' T n A (tl_all T n A (900 + 1) 0 0) ∧ R1 = (none, cm g' l' a' b R)) (M := gk_m119) (by rfl) (by rfl) ?_
  refine he_s 1 (pc' := 1) (lc' := [(0, .ref 13), (1, .ref 15), (2, .ref 60)]) (stk' := [.ref 60]) (mem' := cm g l a b R) (by intro _ _ _; eq_refl) ?_
  refine he_ivV ha_tclr60 (by omega) (by rfl) (by rfl) (by rfl) (by rfl) (by rfl) (by rfl) ?_
  refine he_s 8 (pc' := 16) (lc' := [(3, .int 0), (0, .ref 13), (1, .ref 15), (2, .ref 60)]) (stk' := []) (mem' := cm (fm_u (fm_u (fm_u (fm_u g 60 6 0) 60 7 0) 60 7 1) 13 2 0) l a b R) (by intro _ _ _; eq_refl) ?_
  have hf : tfd g l a (fm_u (fm_u (fm_u (fm_u g 60 6 0) 60 7 0) 60 7 1) 13 2 0) l a := tfd_tr (tfd_tr (tfd_tr (tfd_g (Or.inr rfl)) (tfd_g (Or.inr rfl))) (tfd_g (Or.inr rfl))) (tfd_g (Or.inl rfl))
  exact ha_tloop 900 0 (by decide) 0 0 _ _ _ hg (cn_td hA hf) (co_t (co_t (co_t (co_t h (by decide)) (by decide)) (by decide)) (by decide)) ⟨by decide, (congrFun (fm_un (by decide)) 6).trans ((fm_uo (by decide)).trans ((fm_uo (by decide)).trans fm_ue)), fm_ue, hO, (congrFun (fm_un (by decide)) 7).trans fm_ue⟩ (Nat.le_refl _) hf
theorem ha_tcp (hz : g 60 7 = 1) : ∃ (g' a' : Nat → Nat → Int32) (b' : Nat → Nat → Int64), hr_T 1 117 [.ref 34, .ref 60] (cm g l a b R) none (cm g' l a' b' R) ∧ g' 34 6 = g 60 6 ∧ g' 34 7 = 1 ∧ ∀ j, ¬ (34 ≤ j ∧ j ≤ 40) → g' j = g j ∧ a' j = a j ∧ b' j = b j := by
  suffices h : ∃ (v : Option Value) (mem' : fx_M), (fun R1 => ∃ (g' a' : Nat → Nat → Int32) (b' : Nat → Nat → Int64), (g' 34 6 = g 60 6 ∧ g' 34 7 = 1 ∧ ∀ j, ¬ (34 ≤ j ∧ j ≤ 40) → g' j = g j ∧ a' j = a j ∧ b' j = b j) ∧ R1 = (none, cm g' l a' b' R)) (v, mem') ∧ hr_T 1 117 [.ref 34, .ref 60] (cm g l a b R) v mem' by
    obtain ⟨v, mem', ⟨g', a', b', h1, hR1⟩, h2⟩ := h
    cases hR1
    exact ⟨g', a', b', h2, h1⟩
  refine he_meth (F := fun R1 => ∃ (g' a' : Nat → Nat → Int32) (b' : Nat → Nat → Int64), (g' 34 6 = g 60 6 ∧ g' 34 7 = 1 ∧ ∀ j, ¬ (34 ≤ j ∧ j ≤ 40) → g' j = g j ∧ a' j = a j ∧ b' j = b j) ∧ R1 = (none, cm g' l a' b' R)) (M := gk_m117) (by rfl) (by rfl) ?_
  refine he_s 7 (pc' := 12) (lc' := [(0, .ref 34), (1, .ref 60)]) (stk' := [.int 30, .int 0, .ref 35, .int 0, .ref 61]) (mem' := cm g l a b R) (by intro _ _ _; eq_refl) ?_
  refine he_cpI (mem' := cm g l (fm_ur a 35 (va_cpy (a 61) (a 35) 0 0 30)) b R) (by rfl) (by rfl) (by rfl) (by rfl) (by rfl) (by decide) (by rfl) ?_
  refine he_s 7 (pc' := 27) (lc' := [(0, .ref 34), (1, .ref 60)]) (stk' := [.int 30, .int 0, .ref 36, .int 0, .ref 62]) (mem' := cm g l (fm_ur a 35 (va_cpy (a 61) (a 35) 0 0 30)) b R) (by intro _ _ _; eq_refl) ?_
  refine he_cpI (mem' := cm g l (fm_ur (fm_ur a 35 (va_cpy (a 61) (a 35) 0 0 30)) 36 (va_cpy (a 62) (a 36) 0 0 30)) b R) (by rfl) (by rfl) (by rfl) (by rfl) (by rfl) (by decide) (by rfl) ?_
  refine he_s 7 (pc' := 42) (lc' := [(0, .ref 34), (1, .ref 60)]) (stk' := [.int 30, .int 0, .ref 37, .int 0, .ref 63]) (mem' := cm g l (fm_ur (fm_ur a 35 (va_cpy (a 61) (a 35) 0 0 30)) 36 (va_cpy (a 62) (a 36) 0 0 30)) b R) (by intro _ _ _; eq_refl) ?_
  refine he_cpI (mem' := cm g l (fm_ur (fm_ur (fm_ur a 35 (va_cpy (a 61) (a 35) 0 0 30)) 36 (va_cpy (a 62) (a 36) 0 0 30)) 37 (va_cpy (a 63) (a 37) 0 0 30)) b R) (by rfl) (by rfl) (by rfl) (by rfl) (by rfl) (by decide) (by rfl) ?_
  refine he_s 7 (pc' := 57) (lc' := [(0, .ref 34), (1, .ref 60)]) (stk' := [.int 30, .int 0, .ref 38, .int 0, .ref 64]) (mem' := cm g l (fm_ur (fm_ur (fm_ur a 35 (va_cpy (a 61) (a 35) 0 0 30)) 36 (va_cpy (a 62) (a 36) 0 0 30)) 37 (va_cpy (a 63) (a 37) 0 0 30)) b R) (by intro _ _ _; eq_refl) ?_
  refine he_cpI (mem' := cm g l (fm_ur (fm_ur (fm_ur (fm_ur a 35 (va_cpy (a 61) (a 35) 0 0 30)) 36 (va_cpy (a 62) (a 36) 0 0 30)) 37 (va_cpy (a 63) (a 37) 0 0 30)) 38 (va_cpy (a 64) (a 38) 0 0 30)) b R) (by rfl) (by rfl) (by rfl) (by rfl) (by rfl) (by decide) (by rfl) ?_
  refine he_s 7 (pc' := 72) (lc' := [(0, .ref 34), (1, .ref 60)]) (stk' := [.int 30, .int 0, .ref 39, .int 0, .ref 65]) (mem' := cm g l (fm_ur (fm_ur (fm_ur (fm_ur a 35 (va_cpy (a 61) (a 35) 0 0 30)) 36 (va_cpy (a 62) (a 36) 0 0 30)) 37 (va_cpy (a 63) (a 37) 0 0 30)) 38 (va_cpy (a 64) (a 38) 0 0 30)) b R) (by intro _ _ _; eq_refl) ?_
  refine he_cpI (mem' := cm g l (fm_ur (fm_ur (fm_ur (fm_ur (fm_ur a 35 (va_cpy (a 61) (a 35) 0 0 30)) 36 (va_cpy (a 62) (a 36) 0 0 30)) 37 (va_cpy (a 63) (a 37) 0 0 30)) 38 (va_cpy (a 64) (a 38) 0 0 30)) 39 (va_cpy (a 65) (a 39) 0 0 30)) b R) (by rfl) (by rfl) (by rfl) (by rfl) (by rfl) (by decide) (by rfl) ?_
  refine he_s 7 (pc' := 87) (lc' := [(0, .ref 34), (1, .ref 60)]) (stk' := [.int 30, .int 0, .ref 40, .int 0, .ref 66]) (mem' := cm g l (fm_ur (fm_ur (fm_ur (fm_ur (fm_ur a 35 (va_cpy (a 61) (a 35) 0 0 30)) 36 (va_cpy (a 62) (a 36) 0 0 30)) 37 (va_cpy (a 63) (a 37) 0 0 30)) 38 (va_cpy (a 64) (a 38) 0 0 30)) 39 (va_cpy (a 65) (a 39) 0 0 30)) b R) (by intro _ _ _; eq_refl) ?_
  refine he_cpI (mem' := cm g l (fm_ur (fm_ur (fm_ur (fm_ur (fm_ur (fm_ur a 35 (va_cpy (a 61) (a 35) 0 0 30)) 36 (va_cpy (a 62) (a 36) 0 0 30)) 37 (va_cpy (a 63) (a 37) 0 0 30)) 38 (va_cpy (a 64) (a 38) 0 0 30)) 39 (va_cpy (a 65) (a 39) 0 0 30)) 40 (va_cpy (a 66) (a 40) 0 0 30)) b R) (by rfl) (by rfl) (by rfl) (by rfl) (by rfl) (by decide) (by rfl) ?_
  refine he_s 7 (pc' := 103) (lc' := [(0, .ref 34), (1, .ref 60)]) (stk' := [.int (g 60 7), .ref 34]) (mem' := cm (fm_u g 34 6 (g 60 6)) l (fm_ur (fm_ur (fm_ur (fm_ur (fm_ur (fm_ur a 35 (va_cpy (a 61) (a 35) 0 0 30)) 36 (va_cpy (a 62) (a 36) 0 0 30)) 37 (va_cpy (a 63) (a 37) 0 0 30)) 38 (va_cpy (a 64) (a 38) 0 0 30)) 39 (va_cpy (a 65) (a 39) 0 0 30)) 40 (va_cpy (a 66) (a 40) 0 0 30)) b R) (by intro _ _ _; eq_refl) ?_
  rw [hz]
  refine he_s 1 (pc' := 106) (lc' := [(0, .ref 34), (1, .ref 60)]) (stk' := []) (mem' := cm (fm_u (fm_u g 34 6 (g 60 6)) 34 7 1) l (fm_ur (fm_ur (fm_ur (fm_ur (fm_ur (fm_ur a 35 (va_cpy (a 61) (a 35) 0 0 30)) 36 (va_cpy (a 62) (a 36) 0 0 30)) 37 (va_cpy (a 63) (a 37) 0 0 30)) 38 (va_cpy (a 64) (a 38) 0 0 30)) 39 (va_cpy (a 65) (a 39) 0 0 30)) 40 (va_cpy (a 66) (a 40) 0 0 30)) b R) (by intro _ _ _; eq_refl) ?_
  exact he_ret ⟨_, _, _, ⟨(fm_uo (by decide)).trans fm_ue, fm_ue, fun j hj => ⟨(by first | rfl | (repeat (first | rw [fm_un (by omega)] | rw [fm_ur_n (by omega)] | rw [fm_uf_n (by omega)]))), (by first | rfl | (repeat (first | rw [fm_un (by omega)] | rw [fm_ur_n (by omega)] | rw [fm_uf_n (by omega)]))), (by first | rfl | (repeat (first | rw [fm_un (by omega)] | rw [fm_ur_n (by omega)] | rw [fm_uf_n (by omega)])))⟩⟩, rfl⟩ (by rfl) (by rfl) (by rfl)
/-- what tales() of the class does -/
def cTl (A : sp_A) (g : Nat → Nat → Int32) (l : Nat → Nat → Int64) (a : Nat → Nat → Int32) (b : Nat → Nat → Int64) (x v : Int32) (g' : Nat → Nat → Int32) (l' : Nat → Nat → Int64) (a' : Nat → Nat → Int32) (b' : Nat → Nat → Int64) : Prop :=
  (¬ (0 ≤ x.toInt ∧ x.toInt ≤ (g 9 2).toInt ∧ x.toInt ≤ 300) ∧ v = -1 ∧ g' = fm_u g 0 0 1 ∧ l' = l ∧ a' = a ∧ b' = b) ∨ ∃ N, x = nI N ∧ (N : Int) ≤ (g 9 2).toInt ∧ N ≤ 300 ∧ g' 9 2 = 0 ∧ (match tl_tales (sp_T (a 10) N) N A with
  | .inl z => v = -1 ∧ z.1 ≠ 0 ∧ g' 0 0 = 9 ∧ g' 9 10 = z.1 ∧ g' 9 11 = nI z.2 ∧ (∀ j, j ≠ 0 → j ≠ 9 → j ≠ 13 → j ≠ 14 → ¬ (60 ≤ j ∧ j ≤ 66) → g' j = g j ∧ a' j = a j ∧ b' j = b j)
  | .inr z => v = nI (z.2.1 / 4) ∧ g' 0 0 = 0 ∧ g' 9 10 = 0 ∧ g' 9 11 = -1 ∧ g' 34 7 = 1 ∧ (∀ j, j ≠ 0 → j ≠ 9 → j ≠ 13 → j ≠ 14 → ¬ (34 ≤ j ∧ j ≤ 40) → ¬ (60 ≤ j ∧ j ≤ 66) → g' j = g j ∧ a' j = a j ∧ b' j = b j))
theorem ha_tales {x : Int32} (hA : cn_L 15 A g b) (hO : opn a) (hf : 0 ≤ (g 9 2).toInt ∧ (g 9 2).toInt ≤ 900) (hb : ∀ k, k < 900 → -128 ≤ (a 10 k).toInt ∧ (a 10 k).toInt ≤ 127) (hr : cr (b 11)) : ∃ (v : Int32) (g' : Nat → Nat → Int32) (l' : Nat → Nat → Int64) (a' : Nat → Nat → Int32) (b' : Nat → Nat → Int64), hr_T 8 136 [.ref 0, .int x] (cm g l a b R) (some (.int v)) (cm g' l' a' b' R) ∧ cTl A g l a b x v g' l' a' b' := by
  suffices h : ∃ (v : Option Value) (mem' : fx_M), (fun R1 => ∃ (v : Int32) (g' : Nat → Nat → Int32) (l' : Nat → Nat → Int64) (a' : Nat → Nat → Int32) (b' : Nat → Nat → Int64), cTl A g l a b x v g' l' a' b' ∧ R1 = (some (.int v), cm g' l' a' b' R)) (v, mem') ∧ hr_T 8 136 [.ref 0, .int x] (cm g l a b R) v mem' by
    obtain ⟨v, mem', ⟨v', g', l', a', b', h1, hR1⟩, h3⟩ := h
    cases hR1
    exact ⟨v', g', l', a', b', h3, h1⟩
  refine he_meth (f := 136) (as := [.ref 0, .int x]) (F := fun R1 => ∃ (v : Int32) (g' : Nat → Nat → Int32) (l' : Nat → Nat → Int64) (a' : Nat → Nat → Int32) (b' : Nat → Nat → Int64), cTl A g l a b x v g' l' a' b' ∧ R1 = (some (.int v), cm g' l' a' b' R)) (M := gk_m136) (by rfl) (by rfl) ?_
  have bad : ∀ (hno : ¬ (0 ≤ x.toInt ∧ x.toInt ≤ (g 9 2).toInt ∧ x.toInt ≤ 300)), he_R 7 gk_m136 22 [(0, .ref 0), (1, .int x)] [] (cm g l a b R) (fun R1 => ∃ (v : Int32) (g' : Nat → Nat → Int32) (l' : Nat → Nat → Int64) (a' : Nat → Nat → Int32) (b' : Nat → Nat → Int64), cTl A g l a b x v g' l' a' b' ∧ R1 = (some (.int v), cm g' l' a' b' R)) := fun hno => by
    refine he_s 2 (pc' := 24) (lc' := [(0, .ref 0), (1, .int x)]) (stk' := [.int 1, .ref 0]) (mem' := cm g l a b R) (by intro _ _ _; eq_refl) ?_
    refine he_ivV ha_refuse (by omega) (by rfl) (by rfl) (by rfl) (by rfl) (by rfl) (by rfl) ?_
    exact he_ret ⟨_, _, _, _, _, Or.inl ⟨hno, rfl, rfl, rfl, rfl, rfl⟩, rfl⟩ (by rfl) (by rfl) (by rfl)
  refine he_s 2 (pc' := cond (fx_cb .lt x 0) 22 4) (lc' := [(0, .ref 0), (1, .int x)]) (stk' := []) (mem' := cm g l a b R) (by intro _ _ _; eq_refl) ?_
  cases h1 : fx_cb .lt x 0
  · have q1 : (0 : Int) ≤ x.toInt := tc_ltF h1
    dsimp only [cond]
    refine he_s 4 (pc' := 12) (lc' := [(0, .ref 0), (1, .int x)]) (stk' := [.int (g 9 2), .int x]) (mem' := cm g l a b R) (by intro _ _ _; eq_refl) ?_
    refine he_s 1 (pc' := cond (fx_cb .gt x (g 9 2)) 22 15) (lc' := [(0, .ref 0), (1, .int x)]) (stk' := []) (mem' := cm g l a b R) (by intro _ _ _; eq_refl) ?_
    cases h2 : fx_cb .gt x (g 9 2)
    · have q2 : x.toInt ≤ (g 9 2).toInt := tc_gtF h2
      dsimp only [cond]
      refine he_s 2 (pc' := 19) (lc' := [(0, .ref 0), (1, .int x)]) (stk' := [.int 300, .int x]) (mem' := cm g l a b R) (by intro _ _ _; eq_refl) ?_
      refine he_s 1 (pc' := cond (fx_cb .le x 300) 28 22) (lc' := [(0, .ref 0), (1, .int x)]) (stk' := []) (mem' := cm g l a b R) (by intro _ _ _; eq_refl) ?_
      cases h3 : fx_cb .le x 300
      · have q3 := tc_leF h3
        rw [show (300 : Int32).toInt = 300 from by decide] at q3
        exact bad (fun z => by omega)
      · have q3 := tc_le h3
        rw [show (300 : Int32).toInt = 300 from by decide] at q3
        obtain ⟨N, hN, rfl⟩ := nI_bd (x := x) (n := 300) q1 (by omega)
        rw [nI_i32 (by omega)] at q2
        have hg : ctx a b (sp_T (a 10) N) N := ctx_of (by omega) hb hr
        obtain ⟨g1, l1, k1, k2, k3, k4⟩ := ha_open (g := g) (l := l) (R := R) hg
        have hA1 : cn_L 15 A g1 b := ⟨(congrFun (k4 15 (by decide)).1 8).trans hA.1, hA.2.1, (congrFun (k4 26 (by decide)).1 7).trans hA.2.2.1, hA.2.2.2⟩
        obtain ⟨g2, l2, a2, m1, m2, m3⟩ := ha_tparse (R := R) hg hA1 hO k2
        have e92 : g2 9 2 = 0 := (m2.1.2 2 (by decide)).trans k3
        have fr : ∀ j, j ≠ 9 → j ≠ 13 → j ≠ 60 → g2 j = g j := fun j z1 z2 z3 => (m2.1.1 j z1 z2 z3).trans (k4 j z1).1
        dsimp only [cond]
        refine he_s 3 (pc' := 33) (lc' := [(0, .ref 0), (1, .int (nI N))]) (stk' := [.int (nI N), .ref 9]) (mem' := cm g l a b R) (by intro _ _ _; eq_refl) ?_
        refine he_ivV k1 (by omega) (by rfl) (by rfl) (by rfl) (by rfl) (by rfl) (by rfl) ?_
        refine he_s 7 (pc' := 51) (lc' := [(0, .ref 0), (1, .int (nI N))]) (stk' := [.ref 60, .ref 15, .ref 13]) (mem' := cm g1 l1 a b R) (by intro _ _ _; eq_refl) ?_
        refine he_ivV m1 (by omega) (by rfl) (by rfl) (by rfl) (by rfl) (by rfl) (by rfl) ?_
        refine he_s 3 (pc' := 61) (lc' := [(0, .ref 0), (1, .int (nI N))]) (stk' := [.int (g2 9 10)]) (mem' := cm g2 l2 a2 b R) (by intro _ _ _; eq_refl) ?_
        cases hz : tl_tales (sp_T (a 10) N) N A with
        | inl z =>
          rw [hz] at m3
          have m3 : cq g2 l2 (sp_T (a 10) N) N z.1 z.2 := m3
          rw [m3.2.2.1]
          refine he_s 1 (pc' := cond (fx_cb .eq z.1 0) 71 64) (lc' := [(0, .ref 0), (1, .int (nI N))]) (stk' := []) (mem' := cm g2 l2 a2 b R) (by intro _ _ _; eq_refl) ?_
          rw [cb_nz_eq m3.1]
          dsimp only [cond]
          refine he_s 2 (pc' := 67) (lc' := [(0, .ref 0), (1, .int (nI N))]) (stk' := [.int 9, .ref 0]) (mem' := cm g2 l2 a2 b R) (by intro _ _ _; eq_refl) ?_
          refine he_ivV ha_refuse (by omega) (by rfl) (by rfl) (by rfl) (by rfl) (by rfl) (by rfl) ?_
          refine he_ret ⟨_, _, _, _, _, Or.inr ⟨N, rfl, q2, hN, (by exact e92), ?_⟩, rfl⟩ (by rfl) (by rfl) (by rfl)
          rw [hz]
          exact ⟨rfl, m3.1, rfl, m3.2.2.1, m3.2.2.2, fun j z1 z2 z3 z4 z5 => ⟨(fm_un z1).trans (fr j z2 z3 (by omega)), m2.2.2 j z4 (by omega), rfl⟩⟩
        | inr z =>
          rw [hz] at m3
          obtain ⟨-, m4, -, m5, -, -, m6⟩ := m3
          rw [m4.2.2.1]
          obtain ⟨g3, a3, b3, n1, n2, n3, n4⟩ := ha_tcp (g := g2) (l := l2) (a := a2) (b := b) (R := R) m6
          refine he_s 7 (pc' := 85) (lc' := [(0, .ref 0), (1, .int (nI N))]) (stk' := [.ref 60, .ref 34]) (mem' := cm g2 l2 a2 b R) (by intro _ _ _; eq_refl) ?_
          refine he_ivV n1 (by omega) (by rfl) (by rfl) (by rfl) (by rfl) (by rfl) (by rfl) ?_
          refine he_s 5 (pc' := 99) (lc' := [(0, .ref 0), (1, .int (nI N))]) (stk' := [.int (g3 34 6), .ref 0]) (mem' := cm g3 l2 a3 b3 R) (by intro _ _ _; eq_refl) ?_
          rw [n2, m5]
          refine he_ivV ha_answer (by omega) (by rfl) (by rfl) (by rfl) (by rfl) (by rfl) (by rfl) ?_
          refine he_ret ⟨_, _, _, _, _, Or.inr ⟨N, rfl, q2, hN, ?_, ?_⟩, rfl⟩ (by rfl) (by rfl) (by rfl)
          · exact (congrFun (n4 9 (by decide)).1 2).trans e92
          · rw [hz]
            refine ⟨rfl, rfl, (congrFun (n4 9 (by decide)).1 10).trans m4.2.2.1, (congrFun (n4 9 (by decide)).1 11).trans m4.2.2.2, n3, fun j z1 z2 z3 z4 z5 z6 => ⟨?_, ?_, ?_⟩⟩
            · exact (fm_un z1).trans ((n4 j z5).1.trans (fr j z2 z3 (by omega)))
            · exact (n4 j z5).2.1.trans (m2.2.2 j z4 (by omega))
            · exact (n4 j z5).2.2
    · exact bad (fun z => by have := tc_gt h2; omega)
  · have q1 : x.toInt < 0 := tc_lt h1
    exact bad (fun z => by omega)
end CTP
