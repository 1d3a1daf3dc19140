/-! ===== the model's lake() as a whole ===== -/
/-- what lake() of the model does -/
def mLk (g : Nat → Int32) (a : Nat → Nat → Int32) (b : Nat → Nat → Int64) (x v : Int32) (g' : Nat → Int32) (a' : Nat → Nat → Int32) (b' : Nat → Nat → Int64) : Prop :=
  (¬ (0 ≤ x.toInt ∧ x.toInt ≤ (g 10).toInt) ∧ v = -1 ∧ g' = upd g 2 1 ∧ a' = a ∧ b' = b) ∨ ∃ N, x = nI N ∧ (N : Int) ≤ (g 10).toInt ∧ g' 10 = 0 ∧ (match sp_lake (sp_T (a 6) N) N with
  | .inl z => v = -1 ∧ 0 < z.1.toInt ∧ g' 2 = 9 ∧ g' 16 = z.1 ∧ g' 17 = nI z.2 ∧ (∀ i, ¬ (3368 ≤ i ∧ i < 4210) → a' 1 i = a 1 i) ∧ ∀ i, ¬ (72 ≤ i ∧ i < 90) → b' 2 i = b 2 i
  | .inr z => v = nI z.1.1.1.length ∧ g' 2 = 0 ∧ g' 16 = 0 ∧ g' 17 = -1 ∧ md_L 0 0 z.1 a' b' ∧ a' 1 6 = -1 ∧ (∀ i, ¬ i < 842 → ¬ (3368 ≤ i ∧ i < 4210) → a' 1 i = a 1 i) ∧ ∀ i, ¬ i < 18 → ¬ (72 ≤ i ∧ i < 90) → b' 2 i = b 2 i)
/-- behind the parts -/
def mEnd (g0 : Nat → Int32) (a0 : Nat → Nat → Int32) (b0 : Nat → Nat → Int64) (r : sp_R) (v : Int32) (g' : Nat → Int32) (a' : Nat → Nat → Int32) (b' : Nat → Nat → Int64) : Prop := g' 10 = 0 ∧ (match r with
  | .inl z => v = -1 ∧ 0 < z.1.toInt ∧ g' 2 = 9 ∧ g' 16 = z.1 ∧ g' 17 = nI z.2 ∧ (∀ i, ¬ (3368 ≤ i ∧ i < 4210) → a' 1 i = a0 1 i) ∧ ∀ i, ¬ (72 ≤ i ∧ i < 90) → b' 2 i = b0 2 i
  | .inr z => v = nI z.1.1.1.length ∧ g' 2 = 0 ∧ g' 16 = 0 ∧ g' 17 = -1 ∧ md_L 0 0 z.1 a' b' ∧ a' 1 6 = -1 ∧ (∀ i, ¬ i < 842 → ¬ (3368 ≤ i ∧ i < 4210) → a' 1 i = a0 1 i) ∧ ∀ i, ¬ i < 18 → ¬ (72 ≤ i ∧ i < 90) → b' 2 i = b0 2 i)
section MLA
variable {g : Nat → Int32} {tp bt : Int64} {a : Nat → Nat → Int32} {b : Nat → Nat → Int64} {T : Nat → Nat} {n p : Nat} {A : sp_A} {s : Nat}
abbrev mF (tp bt : Int64) (g0 : Nat → Int32) (a0 : Nat → Nat → Int32) (b0 : Nat → Nat → Int64) (r : sp_R) : Option Value × fx_M → Prop := fun R => ∃ (v : Int32) (g' : Nat → Int32) (a' : Nat → Nat → Int32) (b' : Nat → Nat → Int64), mEnd g0 a0 b0 r v g' a' b' ∧ R = (some (.int v), fm g' tp bt a' b')
theorem mr_50f {g0 : Nat → Int32} {a0 : Nat → Nat → Int32} {b0 : Nat → Nat → Int64} {x w : Int32} {z : Int32 × Nat} (h : mf g z.1 z.2) (h10 : g 10 = 0) (ha : ∀ i, ¬ (3368 ≤ i ∧ i < 4210) → a 1 i = a0 1 i) (hb : ∀ i, ¬ (72 ≤ i ∧ i < 90) → b 2 i = b0 2 i) : fe_R 9 gk_m246 50 [(2, .int w), (0, .ref 0), (1, .int x)] [] (fm g tp bt a b) (mF tp bt g0 a0 b0 (.inl z)) := by
  have hne : z.1 ≠ 0 := fun e => by have := h.1; rw [e] at this; exact absurd this (by decide)
  refine fe_s 2 (pc' := 54) (lc' := [(2, .int w), (0, .ref 0), (1, .int x)]) (stk' := [.int (g 18)]) (mem' := fm g tp bt a b) (by intro _ _ _; eq_refl) ?_
  rw [h.2.1]
  refine fe_s 1 (pc' := cond (fx_cb .ne z.1 0) 117 57) (lc' := [(2, .int w), (0, .ref 0), (1, .int x)]) (stk' := []) (mem' := fm g tp bt a b) (by intro _ _ _; eq_refl) ?_
  rw [cb_nz_ne hne]
  dsimp only [cond]
  refine fe_s 4 (pc' := 123) (lc' := [(2, .int w), (0, .ref 0), (1, .int x)]) (stk' := [.int 0, .ref 1, .ref 0]) (mem' := fm g tp bt a b) (by intro _ _ _; eq_refl) ?_
  refine fe_ldI (by rfl) (by rfl) (fx_inN (i := 0) (by omega) (by omega)) ?_
  rw [show Int32.toNatClampNeg (0) = 0 from rfl]
  have ht := mr_taken (g := g) (tp := tp) (bt := bt) (a := a) (b := b) (x := a 1 0) h.2.1 (Or.inr h.1)
  rw [if_neg hne, if_neg hne] at ht
  refine fe_ivV ht (by omega) (by rfl) (by rfl) (by rfl) (by rfl) (by rfl) (by rfl) ?_
  refine fe_ret ⟨-1, _, _, _, ⟨?_, rfl, h.1, pk_us, ?_, ?_, ha, hb⟩, rfl⟩ (by rfl) (by rfl) (by rfl)
  · rw [pk_un (by decide), pk_un (by decide)]; exact h10
  · rw [pk_un (by decide), pk_us]
  · rw [pk_un (by decide), pk_un (by decide)]; exact h.2.2
theorem mr_50o {g0 : Nat → Int32} {a0 : Nat → Nat → Int32} {b0 : Nat → Nat → Int64} {x w : Int32} {z : sp_A × Nat × Nat} (h : mo g T n p) (hA : md_L 3368 72 z.1 a b) (h10 : g 10 = 0) (h6 : a 1 3374 = -1) (ha : ∀ i, ¬ (3368 ≤ i ∧ i < 4210) → a 1 i = a0 1 i) (hb : ∀ i, ¬ (72 ≤ i ∧ i < 90) → b 2 i = b0 2 i) : fe_R 9 gk_m246 50 [(2, .int w), (0, .ref 0), (1, .int x)] [] (fm g tp bt a b) (mF tp bt g0 a0 b0 (.inr z)) := by
  refine fe_s 2 (pc' := 54) (lc' := [(2, .int w), (0, .ref 0), (1, .int x)]) (stk' := [.int (g 18)]) (mem' := fm g tp bt a b) (by intro _ _ _; eq_refl) ?_
  rw [h.2.2.1]
  refine fe_s 3 (pc' := 59) (lc' := [(3, .int 0), (2, .int w), (0, .ref 0), (1, .int x)]) (stk' := []) (mem' := fm g tp bt a b) (by intro _ _ _; eq_refl) ?_
  have l90 : ∀ (r k : Nat), k + r = 18 → ∀ (a3 : Nat → Nat → Int32) (b3 : Nat → Nat → Int64), (∀ i, ¬ i < 842 → a3 1 i = a 1 i) → (∀ i, i < 842 → a3 1 i = a 1 (3368 + i)) → (∀ i, ¬ i < k → b3 2 i = b 2 i) → (∀ i, i < k → b3 2 i = b 2 (72 + i)) → fe_R 9 gk_m246 90 [(3, .int (nI k)), (2, .int w), (0, .ref 0), (1, .int x)] [] (fm g tp bt a3 b3) (mF tp bt g0 a0 b0 (.inr z)) := by
    intro r
    induction r with
    | zero =>
      intro k hk a3 b3 k1 k2 k3 k4
      obtain rfl : k = 18 := by omega
      have hD : md_L 0 0 z.1 a3 b3 := md_cp hA k2 k4
      refine fe_s 3 (pc' := cond (fx_cb .ge (nI 18) 18) 117 96) (lc' := [(3, .int (nI 18)), (2, .int w), (0, .ref 0), (1, .int x)]) (stk' := []) (mem' := fm g tp bt a3 b3) (by intro _ _ _; eq_refl) ?_
      rw [show (fx_cb .ge (nI 18) 18) = true from by decide]
      dsimp only [cond]
      refine fe_s 4 (pc' := 123) (lc' := [(3, .int (nI 18)), (2, .int w), (0, .ref 0), (1, .int x)]) (stk' := [.int 0, .ref 1, .ref 0]) (mem' := fm g tp bt a3 b3) (by intro _ _ _; eq_refl) ?_
      refine fe_ldI (by rfl) (by rfl) (fx_inN (i := 0) (by omega) (by omega)) ?_
      rw [show Int32.toNatClampNeg (0) = 0 from rfl, show a3 1 0 = nI z.1.1.1.length from hD.1.1]
      have ht := mr_taken (g := g) (tp := tp) (bt := bt) (a := a3) (b := b3) (x := nI z.1.1.1.length) h.2.2.1 (Or.inl rfl)
      rw [if_pos rfl, if_pos rfl] at ht
      refine fe_ivV ht (by omega) (by rfl) (by rfl) (by rfl) (by rfl) (by rfl) (by rfl) ?_
      refine fe_ret ⟨_, _, _, _, ⟨?_, rfl, pk_us, ?_, ?_, hD, ?_, fun i q1 q2 => (k1 i q1).trans (ha i q2), fun i q1 q2 => (k3 i q1).trans (hb i q2)⟩, rfl⟩ (by rfl) (by rfl) (by rfl)
      · rw [pk_un (by decide), pk_un (by decide)]; exact h10
      · rw [pk_un (by decide), pk_us]
      · rw [pk_un (by decide), pk_un (by decide)]; exact h.2.2.2
      · exact (k2 6 (by decide)).trans h6
    | succ r ih =>
      intro k hk a3 b3 k1 k2 k3 k4
      refine fe_s 3 (pc' := cond (fx_cb .ge (nI k) 18) 117 96) (lc' := [(3, .int (nI k)), (2, .int w), (0, .ref 0), (1, .int x)]) (stk' := []) (mem' := fm g tp bt a3 b3) (by intro _ _ _; eq_refl) ?_
      rw [show (fx_cb .ge (nI k) 18) = false from cb_geF (a := k) (b := 18) (by omega) (by omega) (by omega)]
      dsimp only [cond]
      refine fe_s 8 (pc' := 109) (lc' := [(3, .int (nI k)), (2, .int w), (0, .ref 0), (1, .int x)]) (stk' := [.int (72 + (nI k)), .ref 2, .int (nI k), .ref 2]) (mem' := fm g tp bt a3 b3) (by intro _ _ _; eq_refl) ?_
      rw [show (72 + (nI k) : Int32) = nI (72 + k) from by simp only [show (72 : Int32) = nI 72 from rfl, nI_add, fm_mul]]
      refine fe_ldL (by rfl) (by rfl) (fx_inN (i := 72 + k) (by omega) (by omega)) ?_
      rw [show Int32.toNatClampNeg (nI (72 + k)) = 72 + k from nI_clamp (by omega)]
      refine fe_stL (mem' := fm g tp bt a3 (fm_uL b3 2 (nI k : Int32).toNatClampNeg (b3 2 (72 + k)))) (by rfl) (by rfl) (fx_inN (i := k) (by omega) (by omega)) fm_sl2 ?_
      rw [show Int32.toNatClampNeg (nI k) = k from nI_clamp (by omega)]
      refine fe_s 2 (pc' := 90) (lc' := [(3, .int ((nI k) + 1)), (2, .int w), (0, .ref 0), (1, .int x)]) (stk' := []) (mem' := fm g tp bt a3 (fm_uL b3 2 k (b3 2 (72 + k)))) (by intro _ _ _; eq_refl) ?_
      rw [show nI k + 1 = nI (k + 1) from nI_add k 1]
      refine ih (k + 1) (by omega) a3 _ k1 k2 (fun i hi => (fm_vL2 (by omega)).trans (k3 i (by omega))) (fun i hi => ?_)
      by_cases e : i = k
      · rw [e, fm_vL2s]; exact k3 (72 + k) (by omega)
      · rw [fm_vL2 e]; exact k4 i (by omega)
  have l59 : ∀ (r k : Nat), k + r = 842 → ∀ a3 : Nat → Nat → Int32, (∀ i, ¬ i < k → a3 1 i = a 1 i) → (∀ i, i < k → a3 1 i = a 1 (3368 + i)) → fe_R 9 gk_m246 59 [(3, .int (nI k)), (2, .int w), (0, .ref 0), (1, .int x)] [] (fm g tp bt a3 b) (mF tp bt g0 a0 b0 (.inr z)) := by
    intro r
    induction r with
    | zero =>
      intro k hk a3 k1 k2
      obtain rfl : k = 842 := by omega
      refine fe_s 3 (pc' := cond (fx_cb .ge (nI 842) 842) 88 66) (lc' := [(3, .int (nI 842)), (2, .int w), (0, .ref 0), (1, .int x)]) (stk' := []) (mem' := fm g tp bt a3 b) (by intro _ _ _; eq_refl) ?_
      rw [show (fx_cb .ge (nI 842) 842) = true from cb_geT (a := 842) (b := 842) (by omega) (by omega) (by omega)]
      dsimp only [cond]
      refine fe_s 2 (pc' := 90) (lc' := [(3, .int 0), (2, .int w), (0, .ref 0), (1, .int x)]) (stk' := []) (mem' := fm g tp bt a3 b) (by intro _ _ _; eq_refl) ?_
      exact l90 18 0 (by omega) a3 b k1 k2 (fun _ _ => rfl) (fun i hi => absurd hi (by omega))
    | succ r ih =>
      intro k hk a3 k1 k2
      refine fe_s 3 (pc' := cond (fx_cb .ge (nI k) 842) 88 66) (lc' := [(3, .int (nI k)), (2, .int w), (0, .ref 0), (1, .int x)]) (stk' := []) (mem' := fm g tp bt a3 b) (by intro _ _ _; eq_refl) ?_
      rw [show (fx_cb .ge (nI k) 842) = false from cb_geF (a := k) (b := 842) (by omega) (by omega) (by omega)]
      dsimp only [cond]
      refine fe_s 8 (pc' := 80) (lc' := [(3, .int (nI k)), (2, .int w), (0, .ref 0), (1, .int x)]) (stk' := [.int (3368 + (nI k)), .ref 1, .int (nI k), .ref 1]) (mem' := fm g tp bt a3 b) (by intro _ _ _; eq_refl) ?_
      rw [show (3368 + (nI k) : Int32) = nI (3368 + k) from by simp only [show (3368 : Int32) = nI 3368 from rfl, nI_add, fm_mul]]
      refine fe_ldI (by rfl) (by rfl) (fx_inN (i := 3368 + k) (by omega) (by omega)) ?_
      rw [show Int32.toNatClampNeg (nI (3368 + k)) = 3368 + k from nI_clamp (by omega)]
      refine fe_stI (mem' := fm g tp bt (fm_u a3 1 (nI k : Int32).toNatClampNeg (a3 1 (3368 + k))) b) (by rfl) (by rfl) (fx_inN (i := k) (by omega) (by omega)) fm_si1 ?_
      rw [show Int32.toNatClampNeg (nI k) = k from nI_clamp (by omega)]
      refine fe_s 2 (pc' := 59) (lc' := [(3, .int ((nI k) + 1)), (2, .int w), (0, .ref 0), (1, .int x)]) (stk' := []) (mem' := fm g tp bt (fm_u a3 1 k (a3 1 (3368 + k))) b) (by intro _ _ _; eq_refl) ?_
      rw [show nI k + 1 = nI (k + 1) from nI_add k 1]
      refine ih (k + 1) (by omega) _ (fun i hi => (fm_v1 (by omega)).trans (k1 i (by omega))) (fun i hi => ?_)
      by_cases e : i = k
      · rw [e, fm_v1s]; exact k1 (3368 + k) (by omega)
      · rw [fm_v1 e]; exact k2 i (by omega)
  exact l59 842 0 (by omega) a (fun _ _ => rfl) (fun i hi => absurd hi (by omega))
/-- the parts, one after the other -/
theorem mr_31 {g0 : Nat → Int32} {a0 : Nat → Nat → Int32} {b0 : Nat → Nat → Int64} {x : Int32} : ∀ (r f p : Nat) (A : sp_A) (s : Nat) (g : Nat → Int32) (a : Nat → Nat → Int32) (b : Nat → Nat → Int64), n - p < r → n - p < f → mT a T n → mo g T n p → md_L 3368 72 A a b → s < 8 ∧ g 20 = nI (32 * s) → g 10 = 0 → a 1 3374 = -1 → (∀ i, ¬ (3368 ≤ i ∧ i < 4210) → a 1 i = a0 1 i) → (∀ i, ¬ (72 ≤ i ∧ i < 90) → b 2 i = b0 2 i) → fe_R 9 gk_m246 31 [(2, .int 1), (0, .ref 0), (1, .int x)] [] (fm g tp bt a b) (mF tp bt g0 a0 b0 (sp_all T n f A s p)) := by
  intro r
  induction r with
  | zero => intro f p A s g a b h; omega
  | succ r ih =>
    intro f p A s g a b hr hf hT h hA hst h10 h6 ha hb
    obtain ⟨f, rfl⟩ : ∃ k, f = k + 1 := ⟨f - 1, by omega⟩
    have hm := mkd_1 (sp_k4 (T := T) (n := n) (p := p))
    refine fe_s 4 (pc' := 39) (lc' := [(2, .int 1), (0, .ref 0), (1, .int x)]) (stk' := [.int (g 12)]) (mem' := fm g tp bt a b) (by intro _ _ _; eq_refl) ?_
    rw [h.2.1.2.2.2.1]
    refine fe_s 1 (pc' := cond (fx_cb .eq (nI (mkd (sp_k T n p))) 0) 50 42) (lc' := [(2, .int 1), (0, .ref 0), (1, .int x)]) (stk' := []) (mem' := fm g tp bt a b) (by intro _ _ _; eq_refl) ?_
    by_cases h0 : sp_k T n p = 0
    · rw [show fx_cb .eq (nI (mkd (sp_k T n p))) 0 = true from cb_eqT (a := mkd (sp_k T n p)) (b := 0) (by omega) (by omega) (hm.2.2.2.2.1.mpr h0), show sp_all T n (f + 1) A s p = .inr (A, s, p) from if_pos h0]
      exact mr_50o (z := (A, s, p)) h hA h10 h6 ha hb
    · rw [show fx_cb .eq (nI (mkd (sp_k T n p))) 0 = false from cb_eqF (a := mkd (sp_k T n p)) (b := 0) (by omega) (by omega) (fun z => h0 (hm.2.2.2.2.1.mp z)), show sp_all T n (f + 1) A s p = (match sp_part T n A s p with
        | .inl z => .inl z
        | .inr z => sp_all T n f z.1 z.2.1 z.2.2) from if_neg h0]
      dsimp only [cond]
      have hQ := sp_Q_part (T := T) (A := A) (st := s) h.1
      obtain ⟨v, g1, a1, b1, k1, k2, k3, k4, k5⟩ := mr_part (tp := tp) (bt := bt) hT hA h hst
      refine fe_s 1 (pc' := 43) (lc' := [(2, .int 1), (0, .ref 0), (1, .int x)]) (stk' := [.ref 0]) (mem' := fm g tp bt a b) (by intro _ _ _; eq_refl) ?_
      refine fe_ivV k1 (by omega) (by rfl) (by rfl) (by rfl) (by rfl) (by rfl) (by rfl) ?_
      refine fe_s 2 (pc' := 31) (lc' := [(2, .int v), (0, .ref 0), (1, .int x)]) (stk' := []) (mem' := fm g1 tp bt a1 b1) (by intro _ _ _; eq_refl) ?_
      have i10 : g1 10 = 0 := (k2 10 (by decide) (by decide) (by decide) (by decide) (by decide) (by decide) (by decide)).trans h10
      have i6 : a1 1 3374 = -1 := (k3.2 3374 (by decide)).trans h6
      have ia : ∀ i, ¬ (3368 ≤ i ∧ i < 4210) → a1 1 i = a0 1 i := fun i hi => (k3.2 i (by omega)).trans (ha i hi)
      have ib : ∀ i, ¬ (72 ≤ i ∧ i < 90) → b1 2 i = b0 2 i := fun i hi => (k4.2 i hi).trans (hb i hi)
      rcases k5 with ⟨rfl, z, hz, hm2, hA2, hs2⟩ | ⟨rfl, z, hz, hm2⟩
      · rw [hz]
        have := hQ z hz
        exact ih f z.2.2 z.1 z.2.1 g1 a1 b1 (by have := hm2.1; omega) (by have := hm2.1; omega) (mT_fa hT k3) hm2 hA2 hs2 i10 i6 ia ib
      · rw [hz]
        refine fe_s 2 (pc' := 50) (lc' := [(2, .int 0), (0, .ref 0), (1, .int x)]) (stk' := []) (mem' := fm g1 tp bt a1 b1) (by intro _ _ _; eq_refl) ?_
        exact mr_50f hm2 i10 ia ib
theorem mr_lake {x : Int32} (hf : 0 ≤ (g 10).toInt ∧ (g 10).toInt ≤ 900) (hb : ∀ k, k < 900 → -128 ≤ (a 6 k).toInt ∧ (a 6 k).toInt ≤ 127) : ∃ (v : Int32) (g' : Nat → Int32) (a' : Nat → Nat → Int32) (b' : Nat → Nat → Int64), fr_T 10 246 [.ref 0, .int x] (fm g tp bt a b) (some (.int v)) (fm g' tp bt a' b') ∧ mLk g a b x v g' a' b' := by
  rcases mr_begins (tp := tp) (bt := bt) (b := b) (x := x) (most := 900) (Nat.le_refl _) hf hb with ⟨hno, hr⟩ | ⟨N, g1, a1, rfl, hN, hN9, hr, hT, hm, h10, hat, hgt⟩
  · refine ⟨-1, upd g 2 1, a, b, fr_meth (by rfl) (by rfl) ?_, Or.inl ⟨fun z => hno ⟨z.1, z.2, by omega⟩, rfl, rfl, rfl, rfl⟩⟩
    refine fr_s 3 (pc' := 5) (lc' := [(0, .ref 0), (1, .int x)]) (stk' := [.int 900, .int x, .ref 0]) (mem' := fm g tp bt a b) (by intro _ _ _; eq_refl) ?_
    refine fr_ivV hr (by omega) (by rfl) (by rfl) (by rfl) (by rfl) (by rfl) (by rfl) ?_
    refine fr_s 3 (pc' := 13) (lc' := [(0, .ref 0), (1, .int x)]) (stk' := [.int 1, .ref 0]) (mem' := fm g tp bt a b) (by intro _ _ _; eq_refl) ?_
    refine fr_ivV fr_refuse (by omega) (by rfl) (by rfl) (by rfl) (by rfl) (by rfl) (by rfl) ?_
    exact fr_ret (by rfl) (by rfl) (by rfl)
  · obtain ⟨v0, mem0, ⟨a2, hp, hR⟩, hpr⟩ := fr_plain (g := g1) (tp := tp) (bt := bt) (a := a1) (b := b)
    cases hR
    have hT2 : mT a2 (sp_T (a 6) N) N := ⟨hT.1, fun k hk => by rw [hp.1 7 (by decide)]; exact hT.2 k hk⟩
    have hm2 := mo_u20 (x := 0) hm
    obtain ⟨R, ⟨v, g', a', b', hE, hR⟩, hrun⟩ := mr_31 (tp := tp) (bt := bt) (g0 := g) (a0 := a) (b0 := b) (x := nI N) (N + 1) 901 0 sp_A0 0 (upd g1 20 0) a2 b (by omega) (by omega) hT2 hm2 (md_0 hp) ⟨by decide, pk_us⟩ ((pk_un (by decide)).trans h10) (hp.2.2 6 (by decide)) (fun i hi => (hp.2.1 i hi).trans (congrFun (hat 1 (by decide)) i)) (fun _ _ => rfl)
    cases hR
    refine ⟨v, g', a', b', fr_meth (by rfl) (by rfl) ?_, Or.inr ⟨N, rfl, hN, hE.1, hE.2⟩⟩
    refine fr_s 3 (pc' := 5) (lc' := [(0, .ref 0), (1, .int (nI N))]) (stk' := [.int 900, .int (nI N), .ref 0]) (mem' := fm g tp bt a b) (by intro _ _ _; eq_refl) ?_
    refine fr_ivV hr (by omega) (by rfl) (by rfl) (by rfl) (by rfl) (by rfl) (by rfl) ?_
    refine fr_s 3 (pc' := 21) (lc' := [(0, .ref 0), (1, .int (nI N))]) (stk' := [.int 3368, .ref 0]) (mem' := fm g1 tp bt a1 b) (by intro _ _ _; eq_refl) ?_
    refine fr_ivV hpr (by omega) (by rfl) (by rfl) (by rfl) (by rfl) (by rfl) (by rfl) ?_
    refine fr_s 5 (pc' := 31) (lc' := [(2, .int 1), (0, .ref 0), (1, .int (nI N))]) (stk' := []) (mem' := fm (upd g1 20 0) tp bt a2 b) (by intro _ _ _; eq_refl) ?_
    exact hrun
end MLA
