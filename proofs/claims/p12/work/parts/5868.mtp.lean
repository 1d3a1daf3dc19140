/-! ===== the model's tales(): exact ===== -/
/-- behind tales(): r what was read -/
def tEnd (g0 : Nat → Int32) (a0 : Nat → Nat → Int32) (r : sp_R) (v : Int32) (g' : Nat → Int32) (a' : Nat → Nat → Int32) : Prop := (g' 10 = 0 ∧ g' 42 = g0 42 ∧ (∀ t, t ≠ 1 → t ≠ 7 → t ≠ 8 → a' t = a0 t)) ∧ (match r with
  | .inl z => v = -1 ∧ 0 < z.1.toInt ∧ g' 2 = 9 ∧ g' 16 = z.1 ∧ g' 17 = nI z.2 ∧ ∀ i, ¬ (3368 ≤ i ∧ i < 4210) → a' 1 i = a0 1 i
  | .inr z => v = nI (z.2.1 / 4) ∧ g' 2 = 0 ∧ g' 16 = 0 ∧ g' 17 = -1 ∧ 0 ≤ (a' 1 6).toInt ∧ ∀ i, i ≠ 6 → ¬ (478 ≤ i ∧ i < 838) → ¬ (3368 ≤ i ∧ i < 4210) → a' 1 i = a0 1 i)
def mTl (A : sp_A) (g : Nat → Int32) (a : Nat → Nat → Int32) (x v : Int32) (g' : Nat → Int32) (a' : Nat → Nat → Int32) : Prop :=
  (¬ (0 ≤ x.toInt ∧ x.toInt ≤ (g 10).toInt ∧ x.toInt ≤ 300) ∧ v = -1 ∧ g' = upd g 2 1 ∧ a' = a) ∨ ∃ N, x = nI N ∧ (N : Int) ≤ (g 10).toInt ∧ N ≤ 300 ∧ tEnd g a (tl_tales (sp_T (a 6) N) N A) v g' a'
section MTP
variable {g : Nat → Int32} {tp bt : Int64} {a0 a : Nat → Nat → Int32} {b : Nat → Nat → Int64} {T : Nat → Nat} {n p : Nat} {A : sp_A} {c d N r : Nat}
theorem mt_step (hS : mTS T n A N a0 a b) (h : mo g T n p) (hc : c ≤ 30) (hd : d ≤ 3) (hN : N + d ≤ 2 * c) (h23 : g 23 = nI c) (h22 : g 22 = nI d) : ∃ (v : Int32) (g' : Nat → Int32) (a' : Nat → Nat → Int32), fr_T 10 251 [.ref 0] (fm g tp bt a b) (some (.int v)) (fm g' tp bt a' b) ∧ fm_txs g g' ∧ mTR T n A a0 b (tl_step T n A c d p) v g' a' := by
  have bad : (∃ (v : Int32) (g' : Nat → Int32) (a' : Nat → Nat → Int32), fr_T 10 251 [.ref 0] (fm g tp bt a b) (some (.int v)) (fm g' tp bt a' b) ∧ fm_txs g g' ∧ v = 0 ∧ a' = a ∧ mf g' (sp_m T n p) (sp_s T n p)) → tl_step T n A c d p = .inl (sp_m T n p, sp_s T n p) → ∃ (v : Int32) (g' : Nat → Int32) (a' : Nat → Nat → Int32), fr_T 10 251 [.ref 0] (fm g tp bt a b) (some (.int v)) (fm g' tp bt a' b) ∧ fm_txs g g' ∧ mTR T n A a0 b (tl_step T n A c d p) v g' a' := fun k hm => by
    obtain ⟨v, g', a', k1, k2, k3, k4, k5⟩ := k
    refine ⟨v, g', a', k1, k2, Or.inr ⟨k3, _, hm, k5, ?_⟩⟩
    rw [k4]
    exact hS.2.2.2.2
  by_cases hk : sp_k T n p = 1
  · have hs : tl_step T n A c d p = tl_k T n A c d p (sp_kw (sp_wd T n p)) := if_pos hk
    by_cases e11 : sp_kw (sp_wd T n p) = 11
    · rw [hs, e11]
      exact mt_st11 (tp := tp) (bt := bt) hS h hc hd hN h23 h22 hk ((sp_mw_eq (m := 11) (c := 11) (by decide) (by decide) (by decide)).mpr ⟨hk, e11⟩)
    by_cases e13 : sp_kw (sp_wd T n p) = 13
    · rw [hs, e13]
      exact mt_st13 (tp := tp) (bt := bt) hS h hc hd hN h23 h22 hk ((sp_mw_eq (m := 12) (c := 13) (by decide) (by decide) (by decide)).mpr ⟨hk, e13⟩)
    by_cases e14 : sp_kw (sp_wd T n p) = 14
    · rw [hs, e14]
      exact mt_st14 (tp := tp) (bt := bt) hS h hc hd hN h23 h22 hk ((sp_mw_eq (m := 13) (c := 14) (by decide) (by decide) (by decide)).mpr ⟨hk, e14⟩)
    by_cases e15 : sp_kw (sp_wd T n p) = 15
    · rw [hs, e15]
      exact mt_st15 (tp := tp) (bt := bt) hS h hc hd hN h23 h22 hk ((sp_mw_eq (m := 14) (c := 15) (by decide) (by decide) (by decide)).mpr ⟨hk, e15⟩)
    by_cases e16 : sp_kw (sp_wd T n p) = 16
    · rw [hs, e16]
      exact mt_st16 (tp := tp) (bt := bt) hS h hc hd hN h23 h22 hk ((sp_mw_eq (m := 15) (c := 16) (by decide) (by decide) (by decide)).mpr ⟨hk, e16⟩)
    by_cases e17 : sp_kw (sp_wd T n p) = 17
    · rw [hs, e17]
      exact mt_st17 (tp := tp) (bt := bt) hS h hc hd hN h23 h22 hk ((sp_mw_eq (m := 18) (c := 17) (by decide) (by decide) (by decide)).mpr ⟨hk, e17⟩)
    by_cases e20 : sp_kw (sp_wd T n p) = 20
    · rw [hs, e20]
      exact mt_st20 (tp := tp) (bt := bt) hS h hc hd hN h23 h22 hk ((sp_mw_eq (m := 19) (c := 20) (by decide) (by decide) (by decide)).mpr ⟨hk, e20⟩)
    by_cases e22 : sp_kw (sp_wd T n p) = 22
    · rw [hs, e22]
      exact mt_st22 (tp := tp) (bt := bt) hS h hc hd hN h23 h22 hk ((sp_mw_eq (m := 21) (c := 22) (by decide) (by decide) (by decide)).mpr ⟨hk, e22⟩)
    by_cases e21 : sp_kw (sp_wd T n p) = 21
    · have hmw := (sp_mw_eq (m := 20) (c := 21) (by decide) (by decide) (by decide)).mpr ⟨hk, e21⟩
      by_cases hd0 : d = 0
      · subst hd0
        exact bad (mt_st21z (tp := tp) (bt := bt) hS h h22 hmw) (by rw [hs, e21]; rfl)
      · rw [hs, e21]
        exact mt_st21 (tp := tp) (bt := bt) hS h hc hd hN h23 h22 (by omega) hk hmw
    have hle := sp_kw_le (sp_wd T n p)
    have hm : tl_step T n A c d p = .inl (sp_m T n p, sp_s T n p) := by
      rw [hs]
      unfold tl_k
      rw [if_neg e21, tl_is_no _ (by omega) e11 e13 e14 e15 e16 e17 e20 e22, if_neg (by decide)]
      rfl
    by_cases e12 : sp_kw (sp_wd T n p) = 12
    · exact bad (mt_st12 (tp := tp) (bt := bt) hS h ((sp_mw_eq (m := 16) (c := 12) (by decide) (by decide) (by decide)).mpr ⟨hk, e12⟩)) hm
    by_cases e18 : sp_kw (sp_wd T n p) = 18
    · exact bad (mt_st18 (tp := tp) (bt := bt) hS h ((sp_mw_eq (m := 17) (c := 18) (by decide) (by decide) (by decide)).mpr ⟨hk, e18⟩)) hm
    by_cases e19 : sp_kw (sp_wd T n p) = 19
    · exact bad (mt_st19 (tp := tp) (bt := bt) hS h ((sp_mw_eq (m := 22) (c := 19) (by decide) (by decide) (by decide)).mpr ⟨hk, e19⟩)) hm
    refine bad (mt_stN (tp := tp) (bt := bt) hS h rfl (fun z => e17 ((sp_mw_eq (m := 18) (c := 17) (by decide) (by decide) (by decide)).mp z).2) (fun z => e20 ((sp_mw_eq (m := 19) (c := 20) (by decide) (by decide) (by decide)).mp z).2) ?_) hm
    unfold sp_mw
    by_cases h23' : sp_kw (sp_wd T n p) < 23
    · rw [if_pos ⟨hk, h23'⟩]
      have : ∀ k, k < 11 → fx_cb .lt (nI (sp_pm.getD k 0)) 11 = true := by decide
      exact this _ (by omega)
    · rw [if_neg (fun z => h23' z.2)]
      decide
  · have hm : tl_step T n A c d p = .inl (sp_m T n p, sp_s T n p) := if_neg hk
    refine bad (mt_stN (tp := tp) (bt := bt) hS h rfl (fun z => hk ((sp_mw_eq (m := 18) (c := 17) (by decide) (by decide) (by decide)).mp z).1) (fun z => hk ((sp_mw_eq (m := 19) (c := 20) (by decide) (by decide) (by decide)).mp z).1) ?_) hm
    unfold sp_mw
    rw [if_neg (fun z => hk z.1)]
    decide
/-- a fault: to the end -/
theorem mt_77q {g0 : Nat → Int32} {a00 : Nat → Nat → Int32} {x w : Int32} {z : Int32 × Nat} (h : mf g z.1 z.2) (h10 : g 10 = 0) (h42 : g 42 = g0 42) (ha : ∀ t, t ≠ 1 → t ≠ 7 → t ≠ 8 → a t = a00 t) (hi : ∀ i, ¬ (3368 ≤ i ∧ i < 4210) → a 1 i = a00 1 i) : fe_R 10 gk_m252 77 [(2, .int w), (0, .ref 0), (1, .int x)] [] (fm g tp bt a b) (fun R => ∃ (v : Int32) (g' : Nat → Int32) (a' : Nat → Nat → Int32), tEnd g0 a00 (.inl z) v g' a' ∧ R = (some (.int v), fm g' tp bt a' b)) := by
  have hne : z.1 ≠ 0 := fun e => by have := h.1; rw [e] at this; exact absurd this (by decide)
  refine fe_s 2 (pc' := 81) (lc' := [(2, .int w), (0, .ref 0), (1, .int x)]) (stk' := [.int (g 18)]) (mem' := fm g tp bt a b) (by intro _ _ _; eq_refl) ?_
  rw [h.2.1]
  refine fe_s 1 (pc' := cond (fx_cb .ne z.1 0) 132 84) (lc' := [(2, .int w), (0, .ref 0), (1, .int x)]) (stk' := []) (mem' := fm g tp bt a b) (by intro _ _ _; eq_refl) ?_
  rw [cb_nz_ne hne]
  dsimp only [cond]
  refine fe_s 3 (pc' := 137) (lc' := [(2, .int w), (0, .ref 0), (1, .int x)]) (stk' := [.int (g 23), .ref 0]) (mem' := fm g tp bt a b) (by intro _ _ _; eq_refl) ?_
  have ht := mr_taken (g := g) (tp := tp) (bt := bt) (a := a) (b := b) (x := g 23) h.2.1 (Or.inr h.1)
  rw [if_neg hne, if_neg hne] at ht
  refine fe_ivV ht (by omega) (by rfl) (by rfl) (by rfl) (by rfl) (by rfl) (by rfl) ?_
  refine fe_ret ⟨-1, _, _, ⟨⟨?_, ?_, ha⟩, rfl, h.1, pk_us, ?_, ?_, hi⟩, rfl⟩ (by rfl) (by rfl) (by rfl)
  · rw [pk_un (by decide), pk_un (by decide)]; exact h10
  · rw [pk_un (by decide), pk_un (by decide)]; exact h42
  · rw [pk_un (by decide), pk_us]
  · rw [pk_un (by decide), pk_un (by decide)]; exact h.2.2
theorem mt_57q {g0 : Nat → Int32} {a00 : Nat → Nat → Int32} {x w : Int32} {z : Int32 × Nat} (h : mf g z.1 z.2) (h10 : g 10 = 0) (h42 : g 42 = g0 42) (ha : ∀ t, t ≠ 1 → t ≠ 7 → t ≠ 8 → a t = a00 t) (hi : ∀ i, ¬ (3368 ≤ i ∧ i < 4210) → a 1 i = a00 1 i) : fe_R 10 gk_m252 57 [(2, .int w), (0, .ref 0), (1, .int x)] [] (fm g tp bt a b) (fun R => ∃ (v : Int32) (g' : Nat → Int32) (a' : Nat → Nat → Int32), tEnd g0 a00 (.inl z) v g' a' ∧ R = (some (.int v), fm g' tp bt a' b)) := by
  have hne : z.1 ≠ 0 := fun e => by have := h.1; rw [e] at this; exact absurd this (by decide)
  refine fe_s 2 (pc' := 61) (lc' := [(2, .int w), (0, .ref 0), (1, .int x)]) (stk' := [.int (g 18)]) (mem' := fm g tp bt a b) (by intro _ _ _; eq_refl) ?_
  rw [h.2.1]
  refine fe_s 1 (pc' := cond (fx_cb .ne z.1 0) 77 64) (lc' := [(2, .int w), (0, .ref 0), (1, .int x)]) (stk' := []) (mem' := fm g tp bt a b) (by intro _ _ _; eq_refl) ?_
  rw [cb_nz_ne hne]
  dsimp only [cond]
  exact mt_77q h h10 h42 ha hi
/-- all was read -/
theorem mt_57o {g0 : Nat → Int32} {a00 : Nat → Nat → Int32} {x w : Int32} {y : Nat} (h : mo g T n p) (hM : mSt T n A a0 b g a y) (h10 : g 10 = 0) (h42 : g 42 = g0 42) (ha : ∀ t, t ≠ 1 → t ≠ 7 → t ≠ 8 → a t = a00 t) (hi : ∀ i, ¬ (3368 ≤ i ∧ i < 4210) → a 1 i = a00 1 i) : fe_R 10 gk_m252 57 [(2, .int w), (0, .ref 0), (1, .int x)] [] (fm g tp bt a b) (fun R => ∃ (v : Int32) (g' : Nat → Int32) (a' : Nat → Nat → Int32), tEnd g0 a00 (if y % 4 = 0 then .inr (A, y, p) else sp_mis T n p) v g' a' ∧ R = (some (.int v), fm g' tp bt a' b)) := by
  obtain ⟨hy, h23, h22, N, hN, hS⟩ := hM
  refine fe_s 2 (pc' := 61) (lc' := [(2, .int w), (0, .ref 0), (1, .int x)]) (stk' := [.int (g 18)]) (mem' := fm g tp bt a b) (by intro _ _ _; eq_refl) ?_
  rw [h.2.2.1]
  refine fe_s 3 (pc' := 68) (lc' := [(2, .int w), (0, .ref 0), (1, .int x)]) (stk' := [.int (g 22)]) (mem' := fm g tp bt a b) (by intro _ _ _; eq_refl) ?_
  rw [h22]
  refine fe_s 1 (pc' := cond (fx_cb .le (nI (y % 4)) 0) 77 71) (lc' := [(2, .int w), (0, .ref 0), (1, .int x)]) (stk' := []) (mem' := fm g tp bt a b) (by intro _ _ _; eq_refl) ?_
  by_cases hx : y % 4 = 0
  · rw [show fx_cb .le (nI (y % 4)) 0 = true from cb_leT (a := y % 4) (b := 0) (by omega) (by omega) (by omega), if_pos hx]
    dsimp only [cond]
    have hNy : N ≤ 60 := by omega
    have l103 : ∀ (r k : Nat), k + r = 838 → 478 ≤ k → ∀ a3 : Nat → Nat → Int32, (∀ t, t ≠ 1 → a3 t = a t) → (∀ i, i ≠ 6 → ¬ (478 ≤ i ∧ i < 838) → a3 1 i = a 1 i) → a3 1 6 = nI N → fe_R 10 gk_m252 103 [(3, .int (nI k)), (2, .int w), (0, .ref 0), (1, .int x)] [] (fm g tp bt a3 b) (fun R => ∃ (v : Int32) (g' : Nat → Int32) (a' : Nat → Nat → Int32), tEnd g0 a00 (.inr (A, y, p)) v g' a' ∧ R = (some (.int v), fm g' tp bt a' b)) := by
      intro r
      induction r with
      | zero =>
        intro k hk hk4 a3 k1 k2 k3
        obtain rfl : k = 838 := by omega
        refine fe_s 3 (pc' := cond (fx_cb .ge (nI 838) 838) 132 110) (lc' := [(3, .int (nI 838)), (2, .int w), (0, .ref 0), (1, .int x)]) (stk' := []) (mem' := fm g tp bt a3 b) (by intro _ _ _; eq_refl) ?_
        rw [show (fx_cb .ge (nI 838) 838) = true from by decide]
        dsimp only [cond]
        refine fe_s 3 (pc' := 137) (lc' := [(3, .int (nI 838)), (2, .int w), (0, .ref 0), (1, .int x)]) (stk' := [.int (g 23), .ref 0]) (mem' := fm g tp bt a3 b) (by intro _ _ _; eq_refl) ?_
        have ht := mr_taken (g := g) (tp := tp) (bt := bt) (a := a3) (b := b) (x := g 23) h.2.2.1 (Or.inl rfl)
        rw [if_pos rfl, if_pos rfl] at ht
        refine fe_ivV ht (by omega) (by rfl) (by rfl) (by rfl) (by rfl) (by rfl) (by rfl) ?_
        refine fe_ret ⟨_, _, _, ⟨⟨?_, ?_, fun t q1 q2 q3 => (k1 t q1).trans (ha t q1 q2 q3)⟩, h23, pk_us, ?_, ?_, ?_, fun i q1 q2 q3 => (k2 i q1 q2).trans (hi i q3)⟩, rfl⟩ (by rfl) (by rfl) (by rfl)
        · rw [pk_un (by decide), pk_un (by decide)]; exact h10
        · rw [pk_un (by decide), pk_un (by decide)]; exact h42
        · rw [pk_un (by decide), pk_us]
        · rw [pk_un (by decide), pk_un (by decide)]; exact h.2.2.2
        · rw [k3, nI_i32 (by omega)]; omega
      | succ r ih =>
        intro k hk hk4 a3 k1 k2 k3
        refine fe_s 3 (pc' := cond (fx_cb .ge (nI k) 838) 132 110) (lc' := [(3, .int (nI k)), (2, .int w), (0, .ref 0), (1, .int x)]) (stk' := []) (mem' := fm g tp bt a3 b) (by intro _ _ _; eq_refl) ?_
        rw [show (fx_cb .ge (nI k) 838) = false from cb_geF (a := k) (b := 838) (by omega) (by omega) (by omega)]
        dsimp only [cond]
        refine fe_s 8 (pc' := 124) (lc' := [(3, .int (nI k)), (2, .int w), (0, .ref 0), (1, .int x)]) (stk' := [.int (3368 + (nI k)), .ref 1, .int (nI k), .ref 1]) (mem' := fm g tp bt a3 b) (by intro _ _ _; eq_refl) ?_
        rw [show (3368 + (nI k) : Int32) = nI (3368 + k) from by simp only [show (3368 : Int32) = nI 3368 from rfl, nI_add, fm_mul]]
        refine fe_ldI (by rfl) (by rfl) (fx_inN (i := 3368 + k) (by omega) (by omega)) ?_
        rw [show Int32.toNatClampNeg (nI (3368 + k)) = 3368 + k from nI_clamp (by omega)]
        refine fe_stI (mem' := fm g tp bt (fm_u a3 1 (nI k : Int32).toNatClampNeg (a3 1 (3368 + k))) b) (by rfl) (by rfl) (fx_inN (i := k) (by omega) (by omega)) fm_si1 ?_
        rw [show Int32.toNatClampNeg (nI k) = k from nI_clamp (by omega)]
        refine fe_s 2 (pc' := 103) (lc' := [(3, .int ((nI k) + 1)), (2, .int w), (0, .ref 0), (1, .int x)]) (stk' := []) (mem' := fm g tp bt (fm_u a3 1 k (a3 1 (3368 + k))) b) (by intro _ _ _; eq_refl) ?_
        rw [show nI k + 1 = nI (k + 1) from nI_add k 1]
        exact ih (k + 1) (by omega) (by omega) _ (fun t ht => (show (fm_u a3 1 k (a3 1 (3368 + k))) t = a3 t from if_neg ht).trans (k1 t ht)) (fun i q1 q2 => (fm_v1 (by omega)).trans (k2 i q1 q2)) ((fm_v1 (by omega)).trans k3)
    refine fe_s 2 (pc' := 81) (lc' := [(2, .int w), (0, .ref 0), (1, .int x)]) (stk' := [.int (g 18)]) (mem' := fm g tp bt a b) (by intro _ _ _; eq_refl) ?_
    rw [h.2.2.1]
    refine fe_s 7 (pc' := 97) (lc' := [(2, .int w), (0, .ref 0), (1, .int x)]) (stk' := [.int 3374, .ref 1, .int 6, .ref 1]) (mem' := fm g tp bt a b) (by intro _ _ _; eq_refl) ?_
    refine fe_ldI (by rfl) (by rfl) (fx_inN (i := 3374) (by omega) (by omega)) ?_
    rw [show Int32.toNatClampNeg (3374) = 3374 from rfl, show a 1 3374 = nI N from hS.2.2.2.1]
    refine fe_stI (mem' := fm g tp bt (fm_u a 1 (6 : Int32).toNatClampNeg (nI N)) b) (by rfl) (by rfl) (fx_inN (i := 6) (by omega) (by omega)) fm_si1 ?_
    rw [show Int32.toNatClampNeg (6) = 6 from rfl]
    refine fe_s 2 (pc' := 103) (lc' := [(3, .int 478), (2, .int w), (0, .ref 0), (1, .int x)]) (stk' := []) (mem' := fm g tp bt (fm_u a 1 6 (nI N)) b) (by intro _ _ _; eq_refl) ?_
    exact l103 360 478 (by omega) (by omega) _ (fun t ht => if_neg ht) (fun i q1 q2 => fm_v1 q1) fm_v1s
  · rw [show fx_cb .le (nI (y % 4)) 0 = false from cb_leF (a := y % 4) (b := 0) (by omega) (by omega) (by omega), if_neg hx]
    dsimp only [cond]
    obtain ⟨g1, k1, k2, k3⟩ := mr_fails2 (tp := tp) (bt := bt) (a := a) (b := b) h
    refine fe_s 2 (pc' := 73) (lc' := [(2, .int w), (0, .ref 0), (1, .int x)]) (stk' := [.int 2, .ref 0]) (mem' := fm g tp bt a b) (by intro _ _ _; eq_refl) ?_
    refine fe_ivV k1 (by omega) (by rfl) (by rfl) (by rfl) (by rfl) (by rfl) (by rfl) ?_
    refine fe_s 1 (pc' := 77) (lc' := [(2, .int w), (0, .ref 0), (1, .int x)]) (stk' := []) (mem' := fm g1 tp bt a b) (by intro _ _ _; eq_refl) ?_
    exact mt_77q (z := (sp_m T n p, sp_s T n p)) k3 ((k2 10 (by decide) (by decide) (by decide) (by decide) (by decide) (by decide)).trans h10) ((k2 42 (by decide) (by decide) (by decide) (by decide) (by decide) (by decide)).trans h42) ha hi
theorem mt_38 {g0 : Nat → Int32} {a00 : Nat → Nat → Int32} {x : Int32} (hA0 : ∀ t, t ≠ 1 → t ≠ 7 → t ≠ 8 → a0 t = a00 t) (hI0 : ∀ i, ¬ (3368 ≤ i ∧ i < 4210) → a0 1 i = a00 1 i) : ∀ (r f p y : Nat) (g : Nat → Int32) (a : Nat → Nat → Int32), n - p < r → n - p < f → mo g T n p → mSt T n A a0 b g a y → g 10 = 0 → g 42 = g0 42 → fe_R 10 gk_m252 38 [(2, .int 1), (0, .ref 0), (1, .int x)] [] (fm g tp bt a b) (fun R => ∃ (v : Int32) (g' : Nat → Int32) (a' : Nat → Nat → Int32), tEnd g0 a00 (tl_all T n A f y p) v g' a' ∧ R = (some (.int v), fm g' tp bt a' b)) := by
  intro r
  induction r with
  | zero => intro f p y g a h; omega
  | succ r ih =>
    intro f p y g a hr hf h hM h10 h42
    obtain ⟨f, rfl⟩ : ∃ k, f = k + 1 := ⟨f - 1, by omega⟩
    have hm := mkd_1 (sp_k4 (T := T) (n := n) (p := p))
    refine fe_s 4 (pc' := 46) (lc' := [(2, .int 1), (0, .ref 0), (1, .int x)]) (stk' := [.int (g 12)]) (mem' := fm g tp bt a b) (by intro _ _ _; eq_refl) ?_
    rw [h.2.1.2.2.2.1]
    refine fe_s 1 (pc' := cond (fx_cb .eq (nI (mkd (sp_k T n p))) 0) 57 49) (lc' := [(2, .int 1), (0, .ref 0), (1, .int x)]) (stk' := []) (mem' := fm g tp bt a b) (by intro _ _ _; eq_refl) ?_
    by_cases h0 : sp_k T n p = 0
    · rw [show fx_cb .eq (nI (mkd (sp_k T n p))) 0 = true from cb_eqT (a := mkd (sp_k T n p)) (b := 0) (by omega) (by omega) (hm.2.2.2.2.1.mpr h0), show tl_all T n A (f + 1) y p = (if y % 4 = 0 then .inr (A, y, p) else sp_mis T n p) from if_pos h0]
      obtain ⟨-, -, -, N, -, hS⟩ := id hM
      exact mt_57o h hM h10 h42 (fun t q1 q2 q3 => (hS.2.2.2.2.1 t q1 q3).trans (hA0 t q1 q2 q3)) (fun i hi => (hS.2.2.2.2.2 i hi).trans (hI0 i hi))
    · rw [show fx_cb .eq (nI (mkd (sp_k T n p))) 0 = false from cb_eqF (a := mkd (sp_k T n p)) (b := 0) (by omega) (by omega) (fun z => h0 (hm.2.2.2.2.1.mp z)), show tl_all T n A (f + 1) y p = (match tl_step T n A (y / 4) (y % 4) p with
        | .inl z => .inl z
        | .inr z => tl_all T n A f z.2.1 z.2.2) from if_neg h0]
      dsimp only [cond]
      have hQ := sp_Q_tstep (T := T) (A := A) (c := y / 4) (d := y % 4) h.1
      obtain ⟨m1, m2, m3, N, m4, m5⟩ := hM
      obtain ⟨v, g1, a1, k1, k2, k5⟩ := mt_step (tp := tp) (bt := bt) m5 h m1 (by omega) m4 m2 m3
      refine fe_s 1 (pc' := 50) (lc' := [(2, .int 1), (0, .ref 0), (1, .int x)]) (stk' := [.ref 0]) (mem' := fm g tp bt a b) (by intro _ _ _; eq_refl) ?_
      refine fe_ivV k1 (by omega) (by rfl) (by rfl) (by rfl) (by rfl) (by rfl) (by rfl) ?_
      refine fe_s 2 (pc' := 38) (lc' := [(2, .int v), (0, .ref 0), (1, .int x)]) (stk' := []) (mem' := fm g1 tp bt a1 b) (by intro _ _ _; eq_refl) ?_
      have i10 : g1 10 = 0 := (k2 10 (by decide) (by decide) (by decide) (by decide) (by decide) (by decide) (by decide) (by decide)).trans h10
      have i42 : g1 42 = g0 42 := (k2 42 (by decide) (by decide) (by decide) (by decide) (by decide) (by decide) (by decide) (by decide)).trans h42
      rcases k5 with ⟨rfl, z, hz, hzA, hm2, hM2⟩ | ⟨rfl, z, hz, hm2, hta⟩
      · rw [hz]
        have := hQ z hz
        exact ih f z.2.2 z.2.1 g1 a1 (by have := hm2.1; omega) (by have := hm2.1; omega) hm2 hM2 i10 i42
      · rw [hz]
        refine fe_s 2 (pc' := 57) (lc' := [(2, .int 0), (0, .ref 0), (1, .int x)]) (stk' := []) (mem' := fm g1 tp bt a1 b) (by intro _ _ _; eq_refl) ?_
        exact mt_57q hm2 i10 i42 (fun t q1 q2 q3 => (hta.1 t q1 q3).trans (hA0 t q1 q2 q3)) (fun i hi => (hta.2 i hi).trans (hI0 i hi))
theorem mt_tales {x : Int32} (hA : mn_L A a b) (hop : mop a) (hf : 0 ≤ (g 10).toInt ∧ (g 10).toInt ≤ 900) (hb : ∀ k, k < 900 → -128 ≤ (a 6 k).toInt ∧ (a 6 k).toInt ≤ 127) : ∃ (v : Int32) (g' : Nat → Int32) (a' : Nat → Nat → Int32), fr_T 11 252 [.ref 0, .int x] (fm g tp bt a b) (some (.int v)) (fm g' tp bt a' b) ∧ mTl A g a x v g' a' := by
  rcases mr_begins (tp := tp) (bt := bt) (b := b) (x := x) (most := 300) (by decide) hf hb with ⟨hno, hr⟩ | ⟨N, g1, a1, rfl, hN, hN9, hr, hT, hm, h10, hat, hgt⟩
  · refine ⟨-1, upd g 2 1, a, fr_meth (by rfl) (by rfl) ?_, Or.inl ⟨hno, rfl, rfl, rfl⟩⟩
    refine fr_s 3 (pc' := 5) (lc' := [(0, .ref 0), (1, .int x)]) (stk' := [.int 300, .int x, .ref 0]) (mem' := fm g tp bt a b) (by intro _ _ _; eq_refl) ?_
    refine fr_ivV hr (by omega) (by rfl) (by rfl) (by rfl) (by rfl) (by rfl) (by rfl) ?_
    refine fr_s 3 (pc' := 13) (lc' := [(0, .ref 0), (1, .int x)]) (stk' := [.int 1, .ref 0]) (mem' := fm g tp bt a b) (by intro _ _ _; eq_refl) ?_
    refine fr_ivV fr_refuse (by omega) (by rfl) (by rfl) (by rfl) (by rfl) (by rfl) (by rfl) ?_
    exact fr_ret (by rfl) (by rfl) (by rfl)
  · have hA1 : mn_L A a1 b := by
      have e1 : a1 1 = a 1 := hat 1 (by decide)
      exact ⟨⟨by rw [e1]; exact hA.1.1, hA.1.2.1, by rw [e1]; exact hA.1.2.2.1, hA.1.2.2.2⟩, hA.2⟩
    have hop1 : mop a1 := fun i hi => by rw [hat 8 (by decide)]; exact hop i hi
    have hT0 : mT (fm_u a1 1 3374 (nI 0)) (sp_T (a 6) N) N := mT_u (by decide) hT
    have hS : mTS (sp_T (a 6) N) N A 0 (fm_u a1 1 3374 (nI 0)) (fm_u a1 1 3374 (nI 0)) b := ⟨hT0, ⟨⟨(fm_v1 (by decide)).trans hA1.1.1, hA1.1.2.1, (fm_v1 (by decide)).trans hA1.1.2.2.1, hA1.1.2.2.2⟩, hA1.2⟩, fun j hj => by rw [show (fm_u a1 1 3374 (nI 0)) 8 = a1 8 from if_neg (by decide)]; exact hop1 j hj, fm_v1s, mta_rf⟩
    have hm2 : mo (upd (upd g1 22 0) 23 0) (sp_T (a 6) N) N 0 := mo_uk (mo_uk hm (Or.inl rfl)) (Or.inr rfl)
    obtain ⟨R, ⟨v, g', a', hE, hR⟩, hrun⟩ := mt_38 (tp := tp) (bt := bt) (b := b) (A := A) (T := sp_T (a 6) N) (n := N) (a0 := fm_u a1 1 3374 (nI 0)) (g0 := g) (a00 := a) (x := nI N) (fun t q1 q2 q3 => (show (fm_u a1 1 3374 (nI 0)) t = a1 t from if_neg q1).trans (hat t q2)) (fun i hi => (fm_v1 (by omega)).trans (congrFun (hat 1 (by decide)) i)) (N + 1) 901 0 0 (upd (upd g1 22 0) 23 0) (fm_u a1 1 3374 (nI 0)) (by omega) (by omega) hm2 ⟨by decide, pk_us, (pk_un (by decide)).trans pk_us, 0, by decide, hS⟩ ((pk_un (by decide)).trans ((pk_un (by decide)).trans h10)) ((pk_un (by decide)).trans ((pk_un (by decide)).trans (hgt 42 (Or.inl (by decide)))))
    cases hR
    refine ⟨v, g', a', fr_meth (by rfl) (by rfl) ?_, Or.inr ⟨N, rfl, hN, hN9, hE⟩⟩
    refine fr_s 3 (pc' := 5) (lc' := [(0, .ref 0), (1, .int (nI N))]) (stk' := [.int 300, .int (nI N), .ref 0]) (mem' := fm g tp bt a b) (by intro _ _ _; eq_refl) ?_
    refine fr_ivV hr (by omega) (by rfl) (by rfl) (by rfl) (by rfl) (by rfl) (by rfl) ?_
    refine fr_s 5 (pc' := 25) (lc' := [(0, .ref 0), (1, .int (nI N))]) (stk' := [.int 0, .int 3374, .ref 1]) (mem' := fm g1 tp bt a1 b) (by intro _ _ _; eq_refl) ?_
    refine fr_stI (mem' := fm g1 tp bt (fm_u a1 1 (3374 : Int32).toNatClampNeg 0) b) (by rfl) (by rfl) (fx_inN (i := 3374) (by omega) (by omega)) fm_si1 ?_
    rw [show Int32.toNatClampNeg (3374) = 3374 from rfl]
    refine fr_s 8 (pc' := 38) (lc' := [(2, .int 1), (0, .ref 0), (1, .int (nI N))]) (stk' := []) (mem' := fm (upd (upd g1 22 0) 23 0) tp bt (fm_u a1 1 3374 0) b) (by intro _ _ _; eq_refl) ?_
    exact hrun
end MTP
