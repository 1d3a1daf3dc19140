/-! ===== the model's lake(): exact ===== -/
def mRes (T : Nat → Nat) (n : Nat) (r : sp_R) (v : Int32) (g' : Nat → Int32) (a' : Nat → Nat → Int32) (b' : Nat → Nat → Int64) : Prop := (v = 1 ∧ ∃ z, r = .inr z ∧ mo g' T n z.2.2 ∧ md_L 3368 72 z.1 a' b' ∧ z.2.1 < 8 ∧ g' 20 = nI (32 * z.2.1)) ∨ (v = 0 ∧ ∃ z, r = .inl z ∧ mf g' z.1 z.2)
theorem fm_tx9_of {g g1 : Nat → Int32} (h : fm_tx8 g g1) : fm_tx9 g g1 := fun j q1 q2 q3 q4 q5 q6 _ => h j q1 q2 q3 q4 q5 q6
theorem fm_tx9_rf {g : Nat → Int32} : fm_tx9 g g := fun _ _ _ _ _ _ _ _ => rfl
theorem fm_tx9_tr {g g1 g2 : Nat → Int32} (h : fm_tx9 g g1) (h2 : fm_tx9 g1 g2) : fm_tx9 g g2 := fun j q1 q2 q3 q4 q5 q6 q7 => (h2 j q1 q2 q3 q4 q5 q6 q7).trans (h j q1 q2 q3 q4 q5 q6 q7)
section MLK
variable {g : Nat → Int32} {tp bt : Int64} {a : Nat → Nat → Int32} {b : Nat → Nat → Int64} {T : Nat → Nat} {n p : Nat} {A : sp_A} {s : Nat}
/-- behind a part: its last sign -/
theorem mr_131 {g1 : Nat → Int32} {a1 : Nat → Nat → Int32} {b1 : Nat → Nat → Int64} {r : sp_R} {v : Int32} (hT : mT a1 T n) (h1 : fm_tx9 g g1) (h2 : mfa a a1) (h3 : mfb b b1) (h : mPart T n r v g1 a1 b1) : fe_R 8 gk_m245 131 [(1, .int v), (0, .ref 0)] [] (fm g1 tp bt a1 b1) (fun R => ∃ (v : Int32) (g' : Nat → Int32) (a' : Nat → Nat → Int32) (b' : Nat → Nat → Int64), (fm_tx9 g g' ∧ mfa a a' ∧ mfb b b' ∧ mRes T n r v g' a' b') ∧ R = (some (.int v), fm g' tp bt a' b')) := by
  rcases h with ⟨rfl, A', st', p', hr, hm, hA, hs, h20⟩ | ⟨rfl, z, hr, hm⟩
  · obtain ⟨x, g2, k1, k2, k3⟩ := mr_wantSign (tp := tp) (bt := bt) (b := b1) (w := 59) hT (by decide) hm
    refine fe_s 4 (pc' := 138) (lc' := [(1, .int 1), (0, .ref 0)]) (stk' := [.int 59, .ref 0]) (mem' := fm g1 tp bt a1 b1) (by intro _ _ _; eq_refl) ?_
    refine fe_ivV k1 (by omega) (by rfl) (by rfl) (by rfl) (by rfl) (by rfl) (by rfl) ?_
    rcases k3 with ⟨hw, rfl, hm2⟩ | ⟨hw, rfl, hm2⟩
    · refine fe_s 3 (pc' := 149) (lc' := [(1, .int 1), (0, .ref 0)]) (stk' := [.int 1]) (mem' := fm g2 tp bt a1 b1) (by intro _ _ _; eq_refl) ?_
      refine fe_ret ⟨1, _, _, _, ⟨fm_tx9_tr h1 (fm_tx9_of k2), h2, h3, Or.inl ⟨rfl, (A', st', sp_n T n p'), ?_, hm2, hA, hs, (k2 20 (by decide) (by decide) (by decide) (by decide) (by decide) (by decide)).trans h20⟩⟩, rfl⟩ (by rfl) (by rfl) (by rfl)
      rw [hr, sp_fin_t hw]
    · refine fe_s 2 (pc' := 149) (lc' := [(1, .int 1), (0, .ref 0)]) (stk' := [.int 0]) (mem' := fm g2 tp bt a1 b1) (by intro _ _ _; eq_refl) ?_
      refine fe_ret ⟨0, _, _, _, ⟨fm_tx9_tr h1 (fm_tx9_of k2), h2, h3, Or.inr ⟨rfl, (sp_m T n p', sp_s T n p'), ?_, hm2⟩⟩, rfl⟩ (by rfl) (by rfl) (by rfl)
      rw [hr, sp_fin_f hw]
  · refine fe_s 3 (pc' := 149) (lc' := [(1, .int 0), (0, .ref 0)]) (stk' := [.int 0]) (mem' := fm g1 tp bt a1 b1) (by intro _ _ _; eq_refl) ?_
    exact fe_ret ⟨0, _, _, _, ⟨h1, h2, h3, Or.inr ⟨rfl, z, hr, hm⟩⟩, rfl⟩ (by rfl) (by rfl) (by rfl)
theorem mr_mis125 (h : mo g T n p) (hr : sp_part T n A s p = sp_mis T n p) : fe_R 8 gk_m245 125 [(0, .ref 0)] [] (fm g tp bt a b) (fun R => ∃ (v : Int32) (g' : Nat → Int32) (a' : Nat → Nat → Int32) (b' : Nat → Nat → Int64), (fm_tx9 g g' ∧ mfa a a' ∧ mfb b b' ∧ mRes T n (sp_part T n A s p) v g' a' b') ∧ R = (some (.int v), fm g' tp bt a' b')) := by
  obtain ⟨g', k1, k2, k3⟩ := mr_fails2 (tp := tp) (bt := bt) (a := a) (b := b) h
  refine fe_s 2 (pc' := 127) (lc' := [(0, .ref 0)]) (stk' := [.int 2, .ref 0]) (mem' := fm g tp bt a b) (by intro _ _ _; eq_refl) ?_
  refine fe_ivV k1 (by omega) (by rfl) (by rfl) (by rfl) (by rfl) (by rfl) (by rfl) ?_
  exact fe_ret ⟨0, _, _, _, ⟨fm_tx9_of k2, mfa_rf, mfb_rf, Or.inr ⟨rfl, (sp_m T n p, sp_s T n p), hr, k3⟩⟩, rfl⟩ (by rfl) (by rfl) (by rfl)
theorem mr_part (hT : mT a T n) (hA : md_L 3368 72 A a b) (h : mo g T n p) (hst : s < 8 ∧ g 20 = nI (32 * s)) : ∃ (v : Int32) (g' : Nat → Int32) (a' : Nat → Nat → Int32) (b' : Nat → Nat → Int64), fr_T 9 245 [.ref 0] (fm g tp bt a b) (some (.int v)) (fm g' tp bt a' b') ∧ fm_tx9 g g' ∧ mfa a a' ∧ mfb b b' ∧ mRes T n (sp_part T n A s p) v g' a' b' := by
  suffices h : ∃ (v : Option Value) (mem' : fx_M), (fun R => ∃ (v : Int32) (g' : Nat → Int32) (a' : Nat → Nat → Int32) (b' : Nat → Nat → Int64), (fm_tx9 g g' ∧ mfa a a' ∧ mfb b b' ∧ mRes T n (sp_part T n A s p) v g' a' b') ∧ R = (some (.int v), fm g' tp bt a' b')) (v, mem') ∧ fr_T 9 245 [.ref 0] (fm g tp bt a b) v mem' by
    obtain ⟨v, mem', ⟨w, g', a', b', h1, hR⟩, h2⟩ := h
    cases hR
    exact ⟨w, g', a', b', h2, h1⟩
  refine fe_meth (f := 245) (as := [.ref 0]) (F := fun R => ∃ (v : Int32) (g' : Nat → Int32) (a' : Nat → Nat → Int32) (b' : Nat → Nat → Int64), (fm_tx9 g g' ∧ mfa a a' ∧ mfb b b' ∧ mRes T n (sp_part T n A s p) v g' a' b') ∧ R = (some (.int v), fm g' tp bt a' b')) (M := gk_m245) (by rfl) (by rfl) ?_
  refine fe_s 2 (pc' := 3) (lc' := [(0, .ref 0)]) (stk' := [.ref 22, .ref 0]) (mem' := fm g tp bt a b) (by intro _ _ _; eq_refl) ?_
  refine fe_ivV (mr_inWords (tp := tp) (bt := bt) (b := b) hT h.1 h.2.1) (by omega) (by rfl) (by rfl) (by rfl) (by rfl) (by rfl) (by rfl) ?_
  by_cases hk : sp_k T n p = 1
  · have hle := sp_kw_le (sp_wd T n p)
    have hcw : sp_mw T n p = if sp_kw (sp_wd T n p) < 23 then nI (sp_pm.getD (sp_kw (sp_wd T n p)) 0) else -1 := by
      unfold sp_mw
      by_cases e : sp_kw (sp_wd T n p) < 23
      · rw [if_pos ⟨hk, e⟩, if_pos e]
      · rw [if_neg (fun z => e z.2), if_neg e]
    have hpt : ∀ k, sp_kw (sp_wd T n p) = k → sp_part T n A s p = sp_pk T n A s p k := fun k e => by
      unfold sp_part
      rw [if_pos hk, e]
    rcases (by omega : sp_kw (sp_wd T n p) = 0 ∨ sp_kw (sp_wd T n p) = 1 ∨ sp_kw (sp_wd T n p) = 2 ∨ sp_kw (sp_wd T n p) = 3 ∨ sp_kw (sp_wd T n p) = 4 ∨ sp_kw (sp_wd T n p) = 5 ∨ sp_kw (sp_wd T n p) = 6 ∨ sp_kw (sp_wd T n p) = 7 ∨ sp_kw (sp_wd T n p) = 8 ∨ sp_kw (sp_wd T n p) = 9 ∨ sp_kw (sp_wd T n p) = 10 ∨ sp_kw (sp_wd T n p) = 11 ∨ sp_kw (sp_wd T n p) = 12 ∨ sp_kw (sp_wd T n p) = 13 ∨ sp_kw (sp_wd T n p) = 14 ∨ sp_kw (sp_wd T n p) = 15 ∨ sp_kw (sp_wd T n p) = 16 ∨ sp_kw (sp_wd T n p) = 17 ∨ sp_kw (sp_wd T n p) = 18 ∨ sp_kw (sp_wd T n p) = 19 ∨ sp_kw (sp_wd T n p) = 20 ∨ sp_kw (sp_wd T n p) = 21 ∨ sp_kw (sp_wd T n p) = 22 ∨ sp_kw (sp_wd T n p) = 23) with e | e | e | e | e | e | e | e | e | e | e | e | e | e | e | e | e | e | e | e | e | e | e | e
    · rw [show sp_mw T n p = 0 from by rw [hcw, e]; rfl]
      have hp := hpt 0 e
      refine fe_s 1 (pc' := 52) (lc' := [(0, .ref 0)]) (stk' := []) (mem' := fm g tp bt a b) (by intro _ _ _; eq_refl) ?_
      obtain ⟨v1, g1, a1, b1, k1, k2, k3, k4, k5⟩ := mr_aCell0 (tp := tp) (bt := bt) hT hA h hst hk
      refine fe_s 2 (pc' := 54) (lc' := [(0, .ref 0)]) (stk' := [.int 0, .ref 0]) (mem' := fm g tp bt a b) (by intro _ _ _; eq_refl) ?_
      refine fe_ivV k1 (by omega) (by rfl) (by rfl) (by rfl) (by rfl) (by rfl) (by rfl) ?_
      refine fe_s 2 (pc' := 131) (lc' := [(1, .int v1), (0, .ref 0)]) (stk' := []) (mem' := fm g1 tp bt a1 b1) (by intro _ _ _; eq_refl) ?_
      rw [hp]
      exact mr_131 (mT_fa hT k3) (fm_tx9_of k2) k3 k4 k5
    · rw [show sp_mw T n p = 8 from by rw [hcw, e]; rfl]
      have hp := hpt 1 e
      refine fe_s 1 (pc' := 125) (lc' := [(0, .ref 0)]) (stk' := []) (mem' := fm g tp bt a b) (by intro _ _ _; eq_refl) ?_
      exact mr_mis125 h hp
    · rw [show sp_mw T n p = 1 from by rw [hcw, e]; rfl]
      have hp := hpt 2 e
      refine fe_s 1 (pc' := 61) (lc' := [(0, .ref 0)]) (stk' := []) (mem' := fm g tp bt a b) (by intro _ _ _; eq_refl) ?_
      obtain ⟨v1, g1, a1, b1, k1, k2, k3, k4, k5⟩ := mr_aCell1 (tp := tp) (bt := bt) hT hA h hst hk
      refine fe_s 2 (pc' := 63) (lc' := [(0, .ref 0)]) (stk' := [.int 1, .ref 0]) (mem' := fm g tp bt a b) (by intro _ _ _; eq_refl) ?_
      refine fe_ivV k1 (by omega) (by rfl) (by rfl) (by rfl) (by rfl) (by rfl) (by rfl) ?_
      refine fe_s 2 (pc' := 131) (lc' := [(1, .int v1), (0, .ref 0)]) (stk' := []) (mem' := fm g1 tp bt a1 b1) (by intro _ _ _; eq_refl) ?_
      rw [hp]
      exact mr_131 (mT_fa hT k3) (fm_tx9_of k2) k3 k4 k5
    · rw [show sp_mw T n p = 2 from by rw [hcw, e]; rfl]
      have hp := hpt 3 e
      refine fe_s 1 (pc' := 70) (lc' := [(0, .ref 0)]) (stk' := []) (mem' := fm g tp bt a b) (by intro _ _ _; eq_refl) ?_
      obtain ⟨v1, g1, a1, b1, k1, k2, k3, k4, k5⟩ := mr_aCouple2 (tp := tp) (bt := bt) hT hA h hst hk
      refine fe_s 2 (pc' := 72) (lc' := [(0, .ref 0)]) (stk' := [.int 2, .ref 0]) (mem' := fm g tp bt a b) (by intro _ _ _; eq_refl) ?_
      refine fe_ivV k1 (by omega) (by rfl) (by rfl) (by rfl) (by rfl) (by rfl) (by rfl) ?_
      refine fe_s 2 (pc' := 131) (lc' := [(1, .int v1), (0, .ref 0)]) (stk' := []) (mem' := fm g1 tp bt a1 b1) (by intro _ _ _; eq_refl) ?_
      rw [hp]
      exact mr_131 (mT_fa hT k3) (fm_tx9_of k2) k3 k4 k5
    · rw [show sp_mw T n p = 3 from by rw [hcw, e]; rfl]
      have hp := hpt 4 e
      refine fe_s 1 (pc' := 79) (lc' := [(0, .ref 0)]) (stk' := []) (mem' := fm g tp bt a b) (by intro _ _ _; eq_refl) ?_
      obtain ⟨v1, g1, a1, b1, k1, k2, k3, k4, k5⟩ := mr_aCouple3 (tp := tp) (bt := bt) hT hA h hst hk
      refine fe_s 2 (pc' := 81) (lc' := [(0, .ref 0)]) (stk' := [.int 3, .ref 0]) (mem' := fm g tp bt a b) (by intro _ _ _; eq_refl) ?_
      refine fe_ivV k1 (by omega) (by rfl) (by rfl) (by rfl) (by rfl) (by rfl) (by rfl) ?_
      refine fe_s 2 (pc' := 131) (lc' := [(1, .int v1), (0, .ref 0)]) (stk' := []) (mem' := fm g1 tp bt a1 b1) (by intro _ _ _; eq_refl) ?_
      rw [hp]
      exact mr_131 (mT_fa hT k3) (fm_tx9_of k2) k3 k4 k5
    · rw [show sp_mw T n p = 4 from by rw [hcw, e]; rfl]
      have hp := hpt 5 e
      refine fe_s 1 (pc' := 88) (lc' := [(0, .ref 0)]) (stk' := []) (mem' := fm g tp bt a b) (by intro _ _ _; eq_refl) ?_
      obtain ⟨v1, g1, a1, b1, k1, k2, k3, k4, k5⟩ := mr_aWalker (tp := tp) (bt := bt) hT hA h hst hk
      refine fe_s 1 (pc' := 89) (lc' := [(0, .ref 0)]) (stk' := [.ref 0]) (mem' := fm g tp bt a b) (by intro _ _ _; eq_refl) ?_
      refine fe_ivV k1 (by omega) (by rfl) (by rfl) (by rfl) (by rfl) (by rfl) (by rfl) ?_
      refine fe_s 2 (pc' := 131) (lc' := [(1, .int v1), (0, .ref 0)]) (stk' := []) (mem' := fm g1 tp bt a1 b1) (by intro _ _ _; eq_refl) ?_
      rw [hp]
      exact mr_131 (mT_fa hT k3) (fm_tx9_of k2) k3 k4 k5
    · rw [show sp_mw T n p = 9 from by rw [hcw, e]; rfl]
      have hp := hpt 6 e
      refine fe_s 1 (pc' := 125) (lc' := [(0, .ref 0)]) (stk' := []) (mem' := fm g tp bt a b) (by intro _ _ _; eq_refl) ?_
      exact mr_mis125 h hp
    · rw [show sp_mw T n p = 10 from by rw [hcw, e]; rfl]
      have hp := hpt 7 e
      refine fe_s 1 (pc' := 125) (lc' := [(0, .ref 0)]) (stk' := []) (mem' := fm g tp bt a b) (by intro _ _ _; eq_refl) ?_
      exact mr_mis125 h hp
    · rw [show sp_mw T n p = 5 from by rw [hcw, e]; rfl]
      have hp := hpt 8 e
      refine fe_s 1 (pc' := 96) (lc' := [(0, .ref 0)]) (stk' := []) (mem' := fm g tp bt a b) (by intro _ _ _; eq_refl) ?_
      obtain ⟨v1, g1, a1, b1, k1, k2, k3, k4, k5⟩ := mr_once0 (tp := tp) (bt := bt) hT hA h hst hk
      refine fe_s 2 (pc' := 98) (lc' := [(0, .ref 0)]) (stk' := [.int 5, .ref 0]) (mem' := fm g tp bt a b) (by intro _ _ _; eq_refl) ?_
      refine fe_ivV k1 (by omega) (by rfl) (by rfl) (by rfl) (by rfl) (by rfl) (by rfl) ?_
      refine fe_s 2 (pc' := 131) (lc' := [(1, .int v1), (0, .ref 0)]) (stk' := []) (mem' := fm g1 tp bt a1 b1) (by intro _ _ _; eq_refl) ?_
      rw [hp]
      exact mr_131 (mT_fa hT k3) k2 k3 k4 k5
    · rw [show sp_mw T n p = 6 from by rw [hcw, e]; rfl]
      have hp := hpt 9 e
      refine fe_s 1 (pc' := 105) (lc' := [(0, .ref 0)]) (stk' := []) (mem' := fm g tp bt a b) (by intro _ _ _; eq_refl) ?_
      obtain ⟨v1, g1, a1, b1, k1, k2, k3, k4, k5⟩ := mr_once1 (tp := tp) (bt := bt) hT hA h hst hk
      refine fe_s 2 (pc' := 108) (lc' := [(0, .ref 0)]) (stk' := [.int 6, .ref 0]) (mem' := fm g tp bt a b) (by intro _ _ _; eq_refl) ?_
      refine fe_ivV k1 (by omega) (by rfl) (by rfl) (by rfl) (by rfl) (by rfl) (by rfl) ?_
      refine fe_s 2 (pc' := 131) (lc' := [(1, .int v1), (0, .ref 0)]) (stk' := []) (mem' := fm g1 tp bt a1 b1) (by intro _ _ _; eq_refl) ?_
      rw [hp]
      exact mr_131 (mT_fa hT k3) k2 k3 k4 k5
    · rw [show sp_mw T n p = 7 from by rw [hcw, e]; rfl]
      have hp := hpt 10 e
      refine fe_s 1 (pc' := 115) (lc' := [(0, .ref 0)]) (stk' := []) (mem' := fm g tp bt a b) (by intro _ _ _; eq_refl) ?_
      obtain ⟨v1, g1, a1, b1, k1, k2, k3, k4, k5⟩ := mr_once2 (tp := tp) (bt := bt) hT hA h hst hk
      refine fe_s 2 (pc' := 118) (lc' := [(0, .ref 0)]) (stk' := [.int 7, .ref 0]) (mem' := fm g tp bt a b) (by intro _ _ _; eq_refl) ?_
      refine fe_ivV k1 (by omega) (by rfl) (by rfl) (by rfl) (by rfl) (by rfl) (by rfl) ?_
      refine fe_s 2 (pc' := 131) (lc' := [(1, .int v1), (0, .ref 0)]) (stk' := []) (mem' := fm g1 tp bt a1 b1) (by intro _ _ _; eq_refl) ?_
      rw [hp]
      exact mr_131 (mT_fa hT k3) k2 k3 k4 k5
    · rw [show sp_mw T n p = 11 from by rw [hcw, e]; rfl]
      have hp := hpt 11 e
      refine fe_s 1 (pc' := 125) (lc' := [(0, .ref 0)]) (stk' := []) (mem' := fm g tp bt a b) (by intro _ _ _; eq_refl) ?_
      exact mr_mis125 h hp
    · rw [show sp_mw T n p = 16 from by rw [hcw, e]; rfl]
      have hp := hpt 12 e
      refine fe_s 1 (pc' := 125) (lc' := [(0, .ref 0)]) (stk' := []) (mem' := fm g tp bt a b) (by intro _ _ _; eq_refl) ?_
      exact mr_mis125 h hp
    · rw [show sp_mw T n p = 12 from by rw [hcw, e]; rfl]
      have hp := hpt 13 e
      refine fe_s 1 (pc' := 125) (lc' := [(0, .ref 0)]) (stk' := []) (mem' := fm g tp bt a b) (by intro _ _ _; eq_refl) ?_
      exact mr_mis125 h hp
    · rw [show sp_mw T n p = 13 from by rw [hcw, e]; rfl]
      have hp := hpt 14 e
      refine fe_s 1 (pc' := 125) (lc' := [(0, .ref 0)]) (stk' := []) (mem' := fm g tp bt a b) (by intro _ _ _; eq_refl) ?_
      exact mr_mis125 h hp
    · rw [show sp_mw T n p = 14 from by rw [hcw, e]; rfl]
      have hp := hpt 15 e
      refine fe_s 1 (pc' := 125) (lc' := [(0, .ref 0)]) (stk' := []) (mem' := fm g tp bt a b) (by intro _ _ _; eq_refl) ?_
      exact mr_mis125 h hp
    · rw [show sp_mw T n p = 15 from by rw [hcw, e]; rfl]
      have hp := hpt 16 e
      refine fe_s 1 (pc' := 125) (lc' := [(0, .ref 0)]) (stk' := []) (mem' := fm g tp bt a b) (by intro _ _ _; eq_refl) ?_
      exact mr_mis125 h hp
    · rw [show sp_mw T n p = 18 from by rw [hcw, e]; rfl]
      have hp := hpt 17 e
      refine fe_s 1 (pc' := 125) (lc' := [(0, .ref 0)]) (stk' := []) (mem' := fm g tp bt a b) (by intro _ _ _; eq_refl) ?_
      exact mr_mis125 h hp
    · rw [show sp_mw T n p = 17 from by rw [hcw, e]; rfl]
      have hp := hpt 18 e
      refine fe_s 1 (pc' := 125) (lc' := [(0, .ref 0)]) (stk' := []) (mem' := fm g tp bt a b) (by intro _ _ _; eq_refl) ?_
      exact mr_mis125 h hp
    · rw [show sp_mw T n p = 22 from by rw [hcw, e]; rfl]
      have hp := hpt 19 e
      refine fe_s 1 (pc' := 125) (lc' := [(0, .ref 0)]) (stk' := []) (mem' := fm g tp bt a b) (by intro _ _ _; eq_refl) ?_
      exact mr_mis125 h hp
    · rw [show sp_mw T n p = 19 from by rw [hcw, e]; rfl]
      have hp := hpt 20 e
      refine fe_s 1 (pc' := 125) (lc' := [(0, .ref 0)]) (stk' := []) (mem' := fm g tp bt a b) (by intro _ _ _; eq_refl) ?_
      exact mr_mis125 h hp
    · rw [show sp_mw T n p = 20 from by rw [hcw, e]; rfl]
      have hp := hpt 21 e
      refine fe_s 1 (pc' := 125) (lc' := [(0, .ref 0)]) (stk' := []) (mem' := fm g tp bt a b) (by intro _ _ _; eq_refl) ?_
      exact mr_mis125 h hp
    · rw [show sp_mw T n p = 21 from by rw [hcw, e]; rfl]
      have hp := hpt 22 e
      refine fe_s 1 (pc' := 125) (lc' := [(0, .ref 0)]) (stk' := []) (mem' := fm g tp bt a b) (by intro _ _ _; eq_refl) ?_
      exact mr_mis125 h hp
    · rw [show sp_mw T n p = (-1) from by rw [hcw, e]; rfl]
      have hp := hpt 23 e
      refine fe_s 1 (pc' := 125) (lc' := [(0, .ref 0)]) (stk' := []) (mem' := fm g tp bt a b) (by intro _ _ _; eq_refl) ?_
      exact mr_mis125 h hp
  · rw [show sp_mw T n p = -1 from if_neg (fun z => hk z.1)]
    refine fe_s 1 (pc' := 125) (lc' := [(0, .ref 0)]) (stk' := []) (mem' := fm g tp bt a b) (by intro _ _ _; eq_refl) ?_
    exact mr_mis125 h (if_neg hk)
theorem by8_0 : ∀ m : Nat, m < 256 → (Int32.ofInt ((m : Int) - 128)).toInt8.toInt32 = Int32.ofInt ((m : Int) - 128) := by decide +kernel
theorem by8 {x : Int32} (h1 : -128 ≤ x.toInt) (h2 : x.toInt ≤ 127) : x.toInt8.toInt32 = x := by
  have e : x = Int32.ofInt (((x.toInt + 128).toNat : Int) - 128) := by
    rw [show (((x.toInt + 128).toNat : Int) - 128) = x.toInt by omega, Int32.ofInt_toInt]
  have k := by8_0 (x.toInt + 128).toNat (by omega)
  rw [← e] at k
  exact k
theorem mT_of {f : Nat → Int32} {N : Nat} (hN : N ≤ 900) (h : ∀ k, k < N → a 7 k = f k) : mT a (sp_T f N) N := ⟨hN, fun k hk => by
  obtain ⟨m, h1, h2⟩ := fm_255 (f k)
  have e : sp_T f N k = m := by
    show (if k < N then (f k &&& 255).toBitVec.toNat else 0) = m
    rw [if_pos hk]
    rw [h2]
    show (BitVec.ofNat 32 m).toNat = m
    rw [BitVec.toNat_ofNat]
    omega
  rw [h k hk, e]
  exact ⟨h1, h2⟩⟩
/-- begins(n, most) -/
theorem mr_begins {x : Int32} {most : Nat} (hm : most ≤ 900) (hf : 0 ≤ (g 10).toInt ∧ (g 10).toInt ≤ 900) (hb : ∀ k, k < 900 → -128 ≤ (a 6 k).toInt ∧ (a 6 k).toInt ≤ 127) : (¬ (0 ≤ x.toInt ∧ x.toInt ≤ (g 10).toInt ∧ x.toInt ≤ most) ∧ fr_T 3 228 [.ref 0, .int x, .int (nI most)] (fm g tp bt a b) (some (.int 0)) (fm g tp bt a b)) ∨ ∃ (N : Nat) (g' : Nat → Int32) (a' : Nat → Nat → Int32), x = nI N ∧ (N : Int) ≤ (g 10).toInt ∧ N ≤ most ∧ fr_T 3 228 [.ref 0, .int x, .int (nI most)] (fm g tp bt a b) (some (.int 1)) (fm g' tp bt a' b) ∧ mT a' (sp_T (a 6) N) N ∧ mo g' (sp_T (a 6) N) N 0 ∧ g' 10 = 0 ∧ (∀ t, t ≠ 7 → a' t = a t) ∧ (∀ j, ¬ (10 ≤ j ∧ j ≤ 19) ∨ j = 16 → g' j = g j) := by
  have bad : ∀ lc, fr_R 2 gk_m228 17 lc [] (fm g tp bt a b) (some (.int 0), fm g tp bt a b) := fun lc => by
    refine fr_s 1 (pc' := 18) (lc' := lc) (stk' := [.int 0]) (mem' := fm g tp bt a b) (by intro _ _ _; eq_refl) ?_
    exact fr_ret (by rfl) (by rfl) (by rfl)
  have c1 : ∀ R, (x.toInt < 0 → fr_R 2 gk_m228 17 [(0, .ref 0), (1, .int x), (2, .int (nI most))] [] (fm g tp bt a b) R) → (0 ≤ x.toInt → fr_R 2 gk_m228 4 [(0, .ref 0), (1, .int x), (2, .int (nI most))] [] (fm g tp bt a b) R) → fr_R 2 gk_m228 0 (lv_args 0 [.ref 0, .int x, .int (nI most)]) [] (fm g tp bt a b) R := fun R q1 q2 => by
    refine fr_s 2 (pc' := cond (fx_cb .lt x 0) 17 4) (lc' := [(0, .ref 0), (1, .int x), (2, .int (nI most))]) (stk' := []) (mem' := fm g tp bt a b) (by intro _ _ _; eq_refl) ?_
    cases h1 : fx_cb .lt x 0
    · exact q2 (tc_ltF h1)
    · exact q1 (tc_lt h1)
  have c2 : ∀ R, ((g 10).toInt < x.toInt → fr_R 2 gk_m228 17 [(0, .ref 0), (1, .int x), (2, .int (nI most))] [] (fm g tp bt a b) R) → (x.toInt ≤ (g 10).toInt → fr_R 2 gk_m228 12 [(0, .ref 0), (1, .int x), (2, .int (nI most))] [] (fm g tp bt a b) R) → fr_R 2 gk_m228 4 [(0, .ref 0), (1, .int x), (2, .int (nI most))] [] (fm g tp bt a b) R := fun R q1 q2 => by
    refine fr_s 3 (pc' := 9) (lc' := [(0, .ref 0), (1, .int x), (2, .int (nI most))]) (stk' := [.int (g 10), .int x]) (mem' := fm g tp bt a b) (by intro _ _ _; eq_refl) ?_
    refine fr_s 1 (pc' := cond (fx_cb .gt x (g 10)) 17 12) (lc' := [(0, .ref 0), (1, .int x), (2, .int (nI most))]) (stk' := []) (mem' := fm g tp bt a b) (by intro _ _ _; eq_refl) ?_
    cases h1 : fx_cb .gt x (g 10)
    · exact q2 (tc_gtF h1)
    · exact q1 (tc_gt h1)
  have c3 : ∀ R, ((nI most).toInt < x.toInt → fr_R 2 gk_m228 17 [(0, .ref 0), (1, .int x), (2, .int (nI most))] [] (fm g tp bt a b) R) → (x.toInt ≤ (nI most).toInt → fr_R 2 gk_m228 19 [(0, .ref 0), (1, .int x), (2, .int (nI most))] [] (fm g tp bt a b) R) → fr_R 2 gk_m228 12 [(0, .ref 0), (1, .int x), (2, .int (nI most))] [] (fm g tp bt a b) R := fun R q1 q2 => by
    refine fr_s 3 (pc' := cond (fx_cb .le x (nI most)) 19 17) (lc' := [(0, .ref 0), (1, .int x), (2, .int (nI most))]) (stk' := []) (mem' := fm g tp bt a b) (by intro _ _ _; eq_refl) ?_
    cases h1 : fx_cb .le x (nI most)
    · exact q1 (tc_leF h1)
    · exact q2 (tc_le h1)
  have em : (nI most).toInt = (most : Int) := nI_i32 (by omega)
  by_cases h0 : 0 ≤ x.toInt ∧ x.toInt ≤ (g 10).toInt ∧ x.toInt ≤ most
  · obtain ⟨N, hN, rfl⟩ := nI_bd (x := x) (n := 900) h0.1 (by omega)
    have eN : (nI N).toInt = (N : Int) := nI_i32 (by omega)
    rw [eN] at h0
    -- the copy
    have loop : ∀ (r k : Nat), k + r = N → ∀ a1 : Nat → Nat → Int32, (∀ t, t ≠ 7 → a1 t = a t) → (∀ i, i < k → a1 7 i = a 6 i) → ∃ (g' : Nat → Int32) (a' : Nat → Nat → Int32), fr_R 2 gk_m228 26 [(3, .int (nI k)), (0, .ref 0), (1, .int (nI N)), (2, .int (nI most))] [] (fm (upd g 11 (nI N)) tp bt a1 b) (some (.int 1), fm g' tp bt a' b) ∧ mT a' (sp_T (a 6) N) N ∧ mo g' (sp_T (a 6) N) N 0 ∧ g' 10 = 0 ∧ (∀ t, t ≠ 7 → a' t = a t) ∧ (∀ j, ¬ (10 ≤ j ∧ j ≤ 19) ∨ j = 16 → g' j = g j) := by
      intro r
      induction r with
      | zero =>
        intro k hk a1 k1 k2
        obtain rfl : k = N := by omega
        have hT : mT a1 (sp_T (a 6) k) k := mT_of hN k2
        obtain ⟨g', m1, m2, m3⟩ := mr_ahead (g := upd (upd (upd (upd (upd (upd g 11 (nI k)) 10 0) 18 0) 17 (-1)) 14 0) 19 0) (tp := tp) (bt := bt) (b := b) (p := 0) hT (Nat.zero_le _) (by rw [pk_un (by decide), pk_un (by decide), pk_un (by decide), pk_un (by decide), pk_un (by decide), pk_us]) (by rw [pk_un (by decide), pk_us]; rfl)
        refine ⟨g', a1, ?_, hT, ⟨Nat.zero_le _, m3, ?_, ?_⟩, ?_, k1, fun j hj => ?_⟩
        · refine fr_s 3 (pc' := cond (fx_cb .ge (nI k) (nI k)) 49 31) (lc' := [(3, .int (nI k)), (0, .ref 0), (1, .int (nI k)), (2, .int (nI most))]) (stk' := []) (mem' := fm (upd g 11 (nI k)) tp bt a1 b) (by intro _ _ _; eq_refl) ?_
          rw [show fx_cb .ge (nI k) (nI k) = true from cb_geT (a := k) (b := k) (by omega) (by omega) (by omega)]
          refine fr_s 16 (pc' := 75) (lc' := [(3, .int (nI k)), (0, .ref 0), (1, .int (nI k)), (2, .int (nI most))]) (stk' := [.ref 0]) (mem' := fm (upd (upd (upd (upd (upd (upd g 11 (nI k)) 10 0) 18 0) 17 (-1)) 14 0) 19 0) tp bt a1 b) (by intro _ _ _; eq_refl) ?_
          refine fr_ivV m1 (by omega) (by rfl) (by rfl) (by rfl) (by rfl) (by rfl) (by rfl) ?_
          refine fr_s 1 (pc' := 79) (lc' := [(3, .int (nI k)), (0, .ref 0), (1, .int (nI k)), (2, .int (nI most))]) (stk' := [.int 1]) (mem' := fm g' tp bt a1 b) (by intro _ _ _; eq_refl) ?_
          exact fr_ret (by rfl) (by rfl) (by rfl)
        · rw [m2 18 (by decide) (by decide) (by decide) (by decide), pk_un (by decide), pk_un (by decide), pk_un (by decide), pk_us]
        · rw [m2 17 (by decide) (by decide) (by decide) (by decide), pk_un (by decide), pk_un (by decide), pk_us]
        · rw [m2 10 (by decide) (by decide) (by decide) (by decide), pk_un (by decide), pk_un (by decide), pk_un (by decide), pk_un (by decide), pk_us]
        · rw [m2 j (by omega) (by omega) (by omega) (by omega), pk_un (by omega), pk_un (by omega), pk_un (by omega), pk_un (by omega), pk_un (by omega), pk_un (by omega)]
      | succ r ih =>
        intro k hk a1 k1 k2
        have hv := hb k (by omega)
        obtain ⟨g', a', m1, m2⟩ := ih (k + 1) (by omega) (fm_u a1 7 k (a 6 k)) (fun t ht => (show (fm_u a1 7 k (a 6 k)) t = a1 t from if_neg ht).trans (k1 t ht)) (fun i hi => by
          show (if 7 = 7 then upd (a1 7) k (a 6 k) else a1 7) i = a 6 i
          rw [if_pos rfl]
          by_cases e : i = k
          · rw [e, pk_us]
          · rw [pk_un e]; exact k2 i (by omega))
        refine ⟨g', a', ?_, m2⟩
        refine fr_s 3 (pc' := cond (fx_cb .ge (nI k) (nI N)) 49 31) (lc' := [(3, .int (nI k)), (0, .ref 0), (1, .int (nI N)), (2, .int (nI most))]) (stk' := []) (mem' := fm (upd g 11 (nI N)) tp bt a1 b) (by intro _ _ _; eq_refl) ?_
        rw [show fx_cb .ge (nI k) (nI N) = false from cb_geF (a := k) (b := N) (by omega) (by omega) (by omega)]
        refine fr_s 6 (pc' := 41) (lc' := [(3, .int (nI k)), (0, .ref 0), (1, .int (nI N)), (2, .int (nI most))]) (stk' := [.int (nI k), .ref 6, .int (nI k), .ref 7]) (mem' := fm (upd g 11 (nI N)) tp bt a1 b) (by intro _ _ _; eq_refl) ?_
        refine fr_ldB (by rfl) (by rfl) (fx_inN (i := k) (by omega) (by omega)) ?_
        rw [show (nI k).toNatClampNeg = k from nI_clamp (by omega), show a1 6 k = a 6 k from congrFun (k1 6 (by decide)) k]
        refine fr_1 (fun _ _ => fx_stB (by rfl) (by rfl) (fx_inN (i := k) (by omega) (by omega)) (show _ = fm (upd g 11 (nI N)) tp bt (fm_u a1 7 (nI k).toNatClampNeg (a 6 k).toInt8.toInt32) b from rfl)) ?_
        rw [show (nI k).toNatClampNeg = k from nI_clamp (by omega), by8 hv.1 hv.2]
        refine fr_s 2 (pc' := 26) (lc' := [(3, .int (nI k + 1)), (0, .ref 0), (1, .int (nI N)), (2, .int (nI most))]) (stk' := []) (mem' := fm (upd g 11 (nI N)) tp bt (fm_u a1 7 k (a 6 k)) b) (by intro _ _ _; eq_refl) ?_
        rw [show nI k + 1 = nI (k + 1) from nI_add k 1]
        exact m1
    obtain ⟨g', a', m1, m2⟩ := loop N 0 (by omega) a (fun _ _ => rfl) (fun i hi => absurd hi (by omega))
    refine Or.inr ⟨N, g', a', rfl, h0.2.1, by omega, fr_meth (by rfl) (by rfl) (c1 _ (fun z => absurd z (by omega)) (fun _ => c2 _ (fun z => absurd z (by omega)) (fun _ => c3 _ (fun z => absurd z (by omega)) (fun _ => ?_)))), m2⟩
    refine fr_s 5 (pc' := 26) (lc' := [(3, .int 0), (0, .ref 0), (1, .int (nI N)), (2, .int (nI most))]) (stk' := []) (mem' := fm (upd g 11 (nI N)) tp bt a b) (by intro _ _ _; eq_refl) ?_
    exact m1
  · refine Or.inl ⟨h0, fr_meth (by rfl) (by rfl) (c1 _ (fun _ => bad _) (fun q0 => c2 _ (fun _ => bad _) (fun q1 => c3 _ (fun _ => bad _) (fun q2 => absurd ⟨q0, q1, by omega⟩ h0))))⟩
theorem md_0 {a1 : Nat → Nat → Int32} (h : fm_pln a a1) : md_L 3368 72 sp_A0 a1 b := by
  have hz : ∀ i, i < 842 → i ≠ 2 → i ≠ 3 → i ≠ 4 → i ≠ 6 → a1 1 (3368 + i) = 0 := fun i hi q1 q2 q3 q4 => by
    rw [h.2.2 i hi]
    unfold fm_pl
    rw [if_neg q1, if_neg q2, if_neg q3, if_neg q4]
  refine ⟨⟨hz 0 (by decide) (by decide) (by decide) (by decide) (by decide), by decide, hz 1 (by decide) (by decide) (by decide) (by decide) (by decide), by decide⟩, ⟨⟨fun i L hi => (by cases hi), fun L hL => absurd hL List.not_mem_nil⟩, ⟨fun i L hi => (by cases hi), fun L hL => absurd hL List.not_mem_nil⟩⟩, fun c hc => absurd hc (Nat.not_lt_zero _), fun i hi => ?_, fun i hi => ?_, fun i L w hi => (by cases hi)⟩
  · have := hz (8 + 6 * i + 2) (by omega) (by omega) (by omega) (by omega) (by omega)
    rw [show 3368 + (8 + 6 * i + 2) = 3368 + 8 + 6 * i + 2 by omega] at this
    exact this
  · have := hz (8 + 6 * i + 3) (by omega) (by omega) (by omega) (by omega) (by omega)
    rw [show 3368 + (8 + 6 * i + 3) = 3368 + 8 + 6 * i + 3 by omega] at this
    exact this
/-- the new lake is copied to the first slot -/
theorem md_cp {a1 : Nat → Nat → Int32} {b1 : Nat → Nat → Int64} (h : md_L 3368 72 A a b) (h1 : ∀ i, i < 842 → a1 1 i = a 1 (3368 + i)) (h2 : ∀ i, i < 18 → b1 2 i = b 2 (72 + i)) : md_L 0 0 A a1 b1 := by
  obtain ⟨⟨k1, k2, k3, k4⟩, ⟨k5, k6⟩, k7, k8, k9, k10⟩ := h
  refine ⟨⟨(h1 0 (by decide)).trans k1, k2, (h1 1 (by decide)).trans k3, k4⟩, ⟨sp_nM_un k5 (fun i hi => ?_), sp_nM_un k6 (fun i hi => ?_)⟩, fun c hc => ?_, fun i hi => ?_, fun i hi => ?_, fun i L w hi => ⟨?_, (k10 i L w hi).2⟩⟩
  · rw [List.length_map] at hi
    have := h2 (0 + i) (by omega)
    rw [show 72 + (0 + i) = 72 + i by omega] at this
    exact this
  · rw [List.length_map] at hi
    have := h2 (0 + 10 + i) (by omega)
    rw [show 72 + (0 + 10 + i) = 72 + 10 + i by omega] at this
    exact this
  · have := h1 (0 + 8 + 6 * c) (by omega)
    rw [show 3368 + (0 + 8 + 6 * c) = 3368 + 8 + 6 * c by omega] at this
    exact this.trans (k7 c hc)
  · have := h1 (0 + 8 + 6 * i + 2) (by omega)
    rw [show 3368 + (0 + 8 + 6 * i + 2) = 3368 + 8 + 6 * i + 2 by omega] at this
    exact this.trans (k8 i hi)
  · have := h1 (0 + 8 + 6 * i + 3) (by omega)
    rw [show 3368 + (0 + 8 + 6 * i + 3) = 3368 + 8 + 6 * i + 3 by omega] at this
    exact this.trans (k9 i hi)
  · have hl := (List.getElem?_eq_some_iff.mp hi).1
    have := h1 (0 + 278 + 5 * i) (by omega)
    rw [show 3368 + (0 + 278 + 5 * i) = 3368 + 278 + 5 * i by omega] at this
    exact this.trans (k10 i L w hi).1
/-- taken(x) -/
theorem mr_taken {x : Int32} {F : Int32} (hF : g 18 = F) (hFr : F = 0 ∨ 0 < F.toInt) : fr_T 2 236 [.ref 0, .int x] (fm g tp bt a b) (some (.int (if F = 0 then x else -1))) (fm (upd (upd g 16 F) 2 (if F = 0 then 0 else 9)) tp bt a b) := by
  refine fr_meth (by rfl) (by rfl) ?_
  refine fr_s 3 (pc' := 5) (lc' := [(0, .ref 0), (1, .int x)]) (stk' := [.int (g 18), .ref 0]) (mem' := fm g tp bt a b) (by intro _ _ _; eq_refl) ?_
  rw [hF]
  refine fr_s 3 (pc' := 12) (lc' := [(0, .ref 0), (1, .int x)]) (stk' := [.int (g 18)]) (mem' := fm (upd g 16 F) tp bt a b) (by intro _ _ _; eq_refl) ?_
  rw [hF]
  refine fr_s 1 (pc' := cond (fx_cb .le F 0) 24 15) (lc' := [(0, .ref 0), (1, .int x)]) (stk' := []) (mem' := fm (upd g 16 F) tp bt a b) (by intro _ _ _; eq_refl) ?_
  rcases hFr with rfl | hFr
  · rw [show fx_cb .le 0 0 = true from by decide, if_pos rfl, if_pos rfl]
    refine fr_s 2 (pc' := 26) (lc' := [(0, .ref 0), (1, .int x)]) (stk' := [.int x, .ref 0]) (mem' := fm (upd g 16 0) tp bt a b) (by intro _ _ _; eq_refl) ?_
    refine fr_ivV fr_gives (by omega) (by rfl) (by rfl) (by rfl) (by rfl) (by rfl) (by rfl) ?_
    exact fr_ret (by rfl) (by rfl) (by rfl)
  · have hne : F ≠ 0 := fun z => by rw [z] at hFr; exact absurd hFr (by decide)
    rw [show fx_cb .le F 0 = false from decide_eq_false (fun z => by rw [Int32.le_iff_toInt_le] at z; have : (0 : Int32).toInt = 0 := by decide
                                                                     omega), if_neg hne, if_neg hne]
    refine fr_s 2 (pc' := 18) (lc' := [(0, .ref 0), (1, .int x)]) (stk' := [.int 9, .ref 0]) (mem' := fm (upd g 16 F) tp bt a b) (by intro _ _ _; eq_refl) ?_
    refine fr_ivV fr_refuse (by omega) (by rfl) (by rfl) (by rfl) (by rfl) (by rfl) (by rfl) ?_
    refine fr_s 1 (pc' := 29) (lc' := [(0, .ref 0), (1, .int x)]) (stk' := [.int (-1)]) (mem' := fm (upd (upd g 16 F) 2 9) tp bt a b) (by intro _ _ _; eq_refl) ?_
    exact fr_ret (by rfl) (by rfl) (by rfl)
end MLK
