section MH21_0
/-! ===== the model reads the parts of a lake's text ===== -/
/-- the model's lake in the slot that begins at o, its names from nb on -/
def md_L (o nb : Nat) (A : sp_A) (a : Nat → Nat → Int32) (b : Nat → Nat → Int64) : Prop := (a 1 o = nI A.1.1.length ∧ A.1.1.length ≤ 10 ∧ a 1 (o + 1) = nI A.1.2.length ∧ A.1.2.length ≤ 8) ∧ (sp_nM (fun i => b 2 (nb + i)) (A.1.1.map Prod.fst) ∧ sp_nM (fun i => b 2 (nb + 10 + i)) (A.1.2.map Prod.fst)) ∧ (∀ c, c < A.1.1.length → a 1 (o + 8 + 6 * c) = if sp_sh A c = true then 1 else 0) ∧ (∀ i, i < 10 → a 1 (o + 8 + 6 * i + 2) = A.2.1 i) ∧ (∀ i, i < 10 → a 1 (o + 8 + 6 * i + 3) = A.2.2 i) ∧ ∀ i L w, A.1.2[i]? = some (L, w) → a 1 (o + 278 + 5 * i) = nI w ∧ 1 ≤ w ∧ w ≤ 99
/-- only the new lake's places change -/
def mfa (a a' : Nat → Nat → Int32) : Prop := (∀ t, t ≠ 1 → a' t = a t) ∧ ∀ i, ¬ (3368 ≤ i ∧ i < 4210 ∧ i ≠ 3374) → a' 1 i = a 1 i
def mfb (b b' : Nat → Nat → Int64) : Prop := (∀ t, t ≠ 2 → b' t = b t) ∧ ∀ i, ¬ (72 ≤ i ∧ i < 90) → b' 2 i = b 2 i
section MFR
variable {a a1 a2 : Nat → Nat → Int32} {b b1 b2 : Nat → Nat → Int64}
theorem mfa_rf : mfa a a := ⟨fun _ _ => rfl, fun _ _ => rfl⟩
theorem mfb_rf : mfb b b := ⟨fun _ _ => rfl, fun _ _ => rfl⟩
theorem mfa_tr (h : mfa a a1) (h2 : mfa a1 a2) : mfa a a2 := ⟨fun t ht => (h2.1 t ht).trans (h.1 t ht), fun i hi => (h2.2 i hi).trans (h.2 i hi)⟩
theorem mfb_tr (h : mfb b b1) (h2 : mfb b1 b2) : mfb b b2 := ⟨fun t ht => (h2.1 t ht).trans (h.1 t ht), fun i hi => (h2.2 i hi).trans (h.2 i hi)⟩
theorem mfa_u {i : Nat} {x : Int32} (h : mfa a a1) (hi : 3368 ≤ i ∧ i < 4210 ∧ i ≠ 3374) : mfa a (fm_u a1 1 i x) := ⟨fun t ht => (show (fm_u a1 1 i x) t = a1 t from if_neg ht).trans (h.1 t ht), fun j hj => by
  rw [show (fm_u a1 1 i x) 1 j = a1 1 j from by unfold fm_u; rw [if_pos rfl, pk_un (by omega)]]
  exact h.2 j hj⟩
theorem mfb_u {i : Nat} {x : Int64} (h : mfb b b1) (hi : 72 ≤ i ∧ i < 90) : mfb b (fm_uL b1 2 i x) := ⟨fun t ht => (show (fm_uL b1 2 i x) t = b1 t from if_neg ht).trans (h.1 t ht), fun j hj => by
  rw [show (fm_uL b1 2 i x) 2 j = b1 2 j from by unfold fm_uL vp_updL; rw [if_pos rfl, if_neg (by omega)]]
  exact h.2 j hj⟩
theorem mT_fa {T : Nat → Nat} {n : Nat} (h : mT a T n) (hf : mfa a a1) : mT a1 T n := ⟨h.1, fun k hk => by rw [hf.1 7 (by decide)]; exact h.2 k hk⟩
theorem fm_v1 {i j : Nat} {x : Int32} (h : j ≠ i) : (fm_u a 1 i x) 1 j = a 1 j := by
  unfold fm_u
  rw [if_pos rfl, pk_un h]
theorem fm_v1s {i : Nat} {x : Int32} : (fm_u a 1 i x) 1 i = x := by
  unfold fm_u
  rw [if_pos rfl, pk_us]
/-- a place that is not looked at -/
theorem md_u {A : sp_A} {t : Nat} {x : Int32} (h : md_L 3368 72 A a b) (h1 : t ≠ 3368) (h2 : t ≠ 3369) (h3 : ∀ c, c < A.1.1.length → t ≠ 3376 + 6 * c) (h4 : ∀ i, i < 10 → t ≠ 3376 + 6 * i + 2 ∧ t ≠ 3376 + 6 * i + 3) (h5 : ∀ i, i < A.1.2.length → t ≠ 3646 + 5 * i) : md_L 3368 72 A (fm_u a 1 t x) b := by
  obtain ⟨⟨k1, k2, k3, k4⟩, k5, k6, k7, k8, k9⟩ := h
  refine ⟨⟨(fm_v1 (fun z => h1 z.symm)).trans k1, k2, (fm_v1 (fun z => h2 z.symm)).trans k3, k4⟩, k5, fun c hc => (fm_v1 (fun z => h3 c hc z.symm)).trans (k6 c hc), fun i hi => (fm_v1 (fun z => (h4 i hi).1 z.symm)).trans (k7 i hi), fun i hi => (fm_v1 (fun z => (h4 i hi).2 z.symm)).trans (k8 i hi), fun i L w hi => ⟨(fm_v1 (fun z => h5 i ?_ z.symm)).trans (k9 i L w hi).1, (k9 i L w hi).2⟩⟩
  exact (List.getElem?_eq_some_iff.mp hi).1
theorem sp_nM_add {f f' : Nat → Int64} {l : List (List Nat)} {L : List Nat} (h : sp_nM f l) (hf : ∀ i, i < l.length → f' i = f i) (hl : f' l.length = Int64.ofNat (sp_c8 L)) (hL : sp_lo L) (h8 : L.length ≤ 8) : sp_nM f' (l ++ [L]) := by
  refine ⟨fun i M hi => ?_, fun M hM => ?_⟩
  · by_cases e : i = l.length
    · rw [e, List.getElem?_append_right (Nat.le_refl _), Nat.sub_self] at hi
      cases hi
      rw [e]; exact hl
    · have hlt := (List.getElem?_eq_some_iff.mp hi).1
      rw [List.length_append, show ([L] : List (List Nat)).length = 1 from rfl] at hlt
      rw [List.getElem?_append_left (by omega)] at hi
      rw [hf i (by omega)]
      exact h.1 i M hi
  · rcases List.mem_append.mp hM with z | z
    · exact h.2 M z
    · rw [List.mem_singleton.mp z]; exact ⟨hL, h8⟩
theorem sp_nM_un {f f' : Nat → Int64} {l : List (List Nat)} (h : sp_nM f l) (hf : ∀ i, i < l.length → f' i = f i) : sp_nM f' l := ⟨fun i M hi => (hf i (List.getElem?_eq_some_iff.mp hi).1).trans (h.1 i M hi), h.2⟩
theorem fm_vL2 {i j : Nat} {x : Int64} (h : j ≠ i) : (fm_uL b 2 i x) 2 j = b 2 j := by
  unfold fm_uL vp_updL
  rw [if_pos rfl, if_neg h]
theorem fm_vL2s {i : Nat} {x : Int64} : (fm_uL b 2 i x) 2 i = x := by
  unfold fm_uL vp_updL
  rw [if_pos rfl, if_pos rfl]
end MFR
/-- what a part's reading gives, before its last sign -/
def mPart (T : Nat → Nat) (n : Nat) (r : sp_R) (v : Int32) (g' : Nat → Int32) (a' : Nat → Nat → Int32) (b' : Nat → Nat → Int64) : Prop := (v = 1 ∧ ∃ (A' : sp_A) (st' p' : Nat), r = sp_fin T n A' st' p' ∧ mo g' T n p' ∧ md_L 3368 72 A' a' b' ∧ st' < 8 ∧ g' 20 = nI (32 * st')) ∨ (v = 0 ∧ ∃ z : Int32 × Nat, r = .inl z ∧ mf g' z.1 z.2)
section MPT
variable {g : Nat → Int32} {tp bt : Int64} {a : Nat → Nat → Int32} {b : Nat → Nat → Int64} {T : Nat → Nat} {n p : Nat} {A : sp_A} {s : Nat}
theorem mo_tx {g1 : Nat → Int32} (h : fm_tx8 g g1) : ∀ j, j = 20 → g1 j = g j := fun j hj => h j (by omega) (by omega) (by omega) (by omega) (by omega) (by omega)
/-- a cell's name, if there is one -/
def sp_ch (T : Nat → Nat) (n : Nat) (A : sp_A) (p : Nat) (v : Int32) : Prop := (sp_nm T n p ∧ sp_iC A.1.1 (sp_wd T n p) < A.1.1.length ∧ v = nI (sp_iC A.1.1 (sp_wd T n p))) ∨ (sp_nm T n p ∧ ¬ sp_iC A.1.1 (sp_wd T n p) < A.1.1.length ∧ v = -1) ∨ (¬ sp_nm T n p ∧ v = -1)
theorem mr_cellHere0 (hT : mT a T n) (hA : md_L 3368 72 A a b) (h : mo g T n p) : ∃ (v : Int32) (g' : Nat → Int32) (a' : Nat → Nat → Int32) (b' : Nat → Nat → Int64), fr_T 5 240 [.ref 0] (fm g tp bt a b) (some (.int v)) (fm g' tp bt a' b') ∧ sp_ch T n A p v ∧ g' = g ∧ a' = a ∧ b' = b := by
  suffices h : ∃ (v : Option Value) (mem' : fx_M), (fun R => ∃ (v : Int32) (g' : Nat → Int32) (a' : Nat → Nat → Int32) (b' : Nat → Nat → Int64), (sp_ch T n A p v ∧ g' = g ∧ a' = a ∧ b' = b) ∧ R = (some (.int v), fm g' tp bt a' b')) (v, mem') ∧ fr_T 5 240 [.ref 0] (fm g tp bt a b) v mem' by
    obtain ⟨v, mem', ⟨w, g', a', b', h1, hR⟩, h2⟩ := h
    cases hR
    exact ⟨w, g', a', b', h2, h1⟩
  refine fe_meth (f := 240) (as := [.ref 0]) (F := fun R => ∃ (v : Int32) (g' : Nat → Int32) (a' : Nat → Nat → Int32) (b' : Nat → Nat → Int64), (sp_ch T n A p v ∧ g' = g ∧ a' = a ∧ b' = b) ∧ R = (some (.int v), fm g' tp bt a' b')) (M := gk_m240) (by rfl) (by rfl) ?_
  have hq0 := hA.1.2.1
  have hq1 := hA.1.2.2.2
  refine fe_s 2 (pc' := 3) (lc' := [(0, .ref 0)]) (stk' := [.ref 22, .ref 0]) (mem' := fm g tp bt a b) (by intro _ _ _; eq_refl) ?_
  obtain ⟨xc1, hrc1, hxc1⟩ := mr_isName (tp := tp) (bt := bt) (b := b) hT h
  refine fe_ivV hrc1 (by omega) (by rfl) (by rfl) (by rfl) (by rfl) (by rfl) (by rfl) ?_
  rcases hxc1 with ⟨nmc1, rfl⟩ | ⟨nmc1, rfl⟩
  · have nkc1 := nmc1.1
    have nlc1 := sp_nm_lt h.1 nmc1
    refine fe_s 1 (pc' := cond (fx_cb .eq 1 0) 26 9) (lc' := [(0, .ref 0)]) (stk' := []) (mem' := fm g tp bt a b) (by intro _ _ _; eq_refl) ?_
    rw [show (fx_cb .eq 1 0) = false from by decide]
    dsimp only [cond]
    refine fe_s 5 (pc' := 19) (lc' := [(0, .ref 0)]) (stk' := [.int 3368, .ref 1, .int 72, .ref 0]) (mem' := fm g tp bt a b) (by intro _ _ _; eq_refl) ?_
    refine fe_ldI (by rfl) (by rfl) (fx_inN (i := 3368) (by omega) (by omega)) ?_
    rw [show Int32.toNatClampNeg (3368) = 3368 from rfl]
    rw [show a 1 3368 = nI (A.1.1.length) from hA.1.1]
    obtain ⟨wc2, hrc2, hic2⟩ := mr_findHere (tp := tp) (bt := bt) (b := b) (base := 72) (many := (A.1.1.length)) hT h nmc1 (by omega)
    refine fe_ivV hrc2 (by omega) (by rfl) (by rfl) (by rfl) (by rfl) (by rfl) (by rfl) ?_
    have hzc2 := sp_fxM hA.2.1.1 nlc1.1 nlc1.2 (by rw [List.length_map]; exact hic2)
    rw [List.length_map, sp_iC_map] at hzc2
    rcases hzc2 with ⟨hzc2, rfl⟩ | ⟨hzc2, rfl⟩
    · refine fe_s 1 (pc' := 27) (lc' := [(0, .ref 0)]) (stk' := [.int (-1)]) (mem' := fm g tp bt a b) (by intro _ _ _; eq_refl) ?_
      exact fe_ret ⟨_, _, _, _, ⟨Or.inr (Or.inl ⟨nmc1, by omega, rfl⟩), rfl, rfl, rfl⟩, rfl⟩ (by rfl) (by rfl) (by rfl)
    · refine fe_s 1 (pc' := 27) (lc' := [(0, .ref 0)]) (stk' := [.int (nI (sp_iC A.1.1 (sp_wd T n p)))]) (mem' := fm g tp bt a b) (by intro _ _ _; eq_refl) ?_
      exact fe_ret ⟨_, _, _, _, ⟨Or.inl ⟨nmc1, by omega, rfl⟩, rfl, rfl, rfl⟩, rfl⟩ (by rfl) (by rfl) (by rfl)
  · refine fe_s 1 (pc' := cond (fx_cb .eq 0 0) 26 9) (lc' := [(0, .ref 0)]) (stk' := []) (mem' := fm g tp bt a b) (by intro _ _ _; eq_refl) ?_
    rw [show (fx_cb .eq 0 0) = true from by decide]
    dsimp only [cond]
    refine fe_s 1 (pc' := 27) (lc' := [(0, .ref 0)]) (stk' := [.int (-1)]) (mem' := fm g tp bt a b) (by intro _ _ _; eq_refl) ?_
    exact fe_ret ⟨_, _, _, _, ⟨Or.inr (Or.inr ⟨nmc1, rfl⟩), rfl, rfl, rfl⟩, rfl⟩ (by rfl) (by rfl) (by rfl)
theorem mr_cellHere (hT : mT a T n) (hA : md_L 3368 72 A a b) (h : mo g T n p) : ∃ v : Int32, fr_T 5 240 [.ref 0] (fm g tp bt a b) (some (.int v)) (fm g tp bt a b) ∧ sp_ch T n A p v := by
  obtain ⟨v, g', a', b', h1, h2, rfl, rfl, rfl⟩ := mr_cellHere0 (tp := tp) (bt := bt) hT hA h
  exact ⟨v, h1, h2⟩
theorem mr_isNewShore {i : Nat} (hA : md_L 3368 72 A a b) (hi : i < A.1.1.length) : fr_T 2 241 [.ref 0, .int (nI i)] (fm g tp bt a b) (some (.int (if sp_sh A i = true then 1 else 0))) (fm g tp bt a b) := by
  have hq := hA.1.2.1
  have h6 := hA.2.2.1 i hi
  refine fr_meth (by rfl) (by rfl) ?_
  refine fr_s 7 (pc' := 12) (lc' := [(0, .ref 0), (1, .int (nI i))]) (stk' := [.int (3376 + 6 * nI i), .ref 1]) (mem' := fm g tp bt a b) (by intro _ _ _; eq_refl) ?_
  rw [show (3376 : Int32) + 6 * nI i = nI (3376 + 6 * i) from by rw [show (6 : Int32) = nI 6 from rfl, fm_mul, show (3376 : Int32) = nI 3376 from rfl, nI_add]]
  refine fr_ldI (by rfl) (by rfl) (fx_inN (i := 3376 + 6 * i) (by omega) (by omega)) ?_
  rw [show (nI (3376 + 6 * i)).toNatClampNeg = 3376 + 6 * i from nI_clamp (by omega), show a 1 (3376 + 6 * i) = _ from h6]
  by_cases e : sp_sh A i = true
  · rw [if_pos e]
    refine fr_s 4 (pc' := 22) (lc' := [(0, .ref 0), (1, .int (nI i))]) (stk' := [.int 1]) (mem' := fm g tp bt a b) (by intro _ _ _; eq_refl) ?_
    exact fr_ret (by rfl) (by rfl) (by rfl)
  · rw [if_neg e]
    refine fr_s 3 (pc' := 22) (lc' := [(0, .ref 0), (1, .int (nI i))]) (stk' := [.int 0]) (mem' := fm g tp bt a b) (by intro _ _ _; eq_refl) ?_
    exact fr_ret (by rfl) (by rfl) (by rfl)
theorem mr_oldOne {t : Nat} (hT : mT a T n) (hA : md_L 3368 72 A a b) (h : mo g T n p) (ht : t < 5894) : ∃ (v : Int32) (g' : Nat → Int32) (a' : Nat → Nat → Int32) (b' : Nat → Nat → Int64), fr_T 6 238 [.ref 0, .int 72, .int (nI (A.1.1.length)), .int (nI t)] (fm g tp bt a b) (some (.int v)) (fm g' tp bt a' b') ∧ fm_tx8 g g' ∧ b' = b ∧ ((sp_nm T n p ∧ sp_iC A.1.1 (sp_wd T n p) < A.1.1.length ∧ v = 1 ∧ a' = fm_u a 1 t (nI (sp_iC A.1.1 (sp_wd T n p))) ∧ mo g' T n (sp_n T n p)) ∨ (sp_nm T n p ∧ ¬ sp_iC A.1.1 (sp_wd T n p) < A.1.1.length ∧ v = 0 ∧ a' = fm_u a 1 t (-1) ∧ mf g' 3 (sp_s T n p)) ∨ (¬ sp_nm T n p ∧ v = 0 ∧ a' = a ∧ mf g' (sp_m T n p) (sp_s T n p))) := by
  suffices h : ∃ (v : Option Value) (mem' : fx_M), (fun R => ∃ (v : Int32) (g' : Nat → Int32) (a' : Nat → Nat → Int32) (b' : Nat → Nat → Int64), (fm_tx8 g g' ∧ b' = b ∧ ((sp_nm T n p ∧ sp_iC A.1.1 (sp_wd T n p) < A.1.1.length ∧ v = 1 ∧ a' = fm_u a 1 t (nI (sp_iC A.1.1 (sp_wd T n p))) ∧ mo g' T n (sp_n T n p)) ∨ (sp_nm T n p ∧ ¬ sp_iC A.1.1 (sp_wd T n p) < A.1.1.length ∧ v = 0 ∧ a' = fm_u a 1 t (-1) ∧ mf g' 3 (sp_s T n p)) ∨ (¬ sp_nm T n p ∧ v = 0 ∧ a' = a ∧ mf g' (sp_m T n p) (sp_s T n p)))) ∧ R = (some (.int v), fm g' tp bt a' b')) (v, mem') ∧ fr_T 6 238 [.ref 0, .int 72, .int (nI (A.1.1.length)), .int (nI t)] (fm g tp bt a b) v mem' by
    obtain ⟨v, mem', ⟨w, g', a', b', h1, hR⟩, h2⟩ := h
    cases hR
    exact ⟨w, g', a', b', h2, h1⟩
  refine fe_meth (f := 238) (as := [.ref 0, .int 72, .int (nI (A.1.1.length)), .int (nI t)]) (F := fun R => ∃ (v : Int32) (g' : Nat → Int32) (a' : Nat → Nat → Int32) (b' : Nat → Nat → Int64), (fm_tx8 g g' ∧ b' = b ∧ ((sp_nm T n p ∧ sp_iC A.1.1 (sp_wd T n p) < A.1.1.length ∧ v = 1 ∧ a' = fm_u a 1 t (nI (sp_iC A.1.1 (sp_wd T n p))) ∧ mo g' T n (sp_n T n p)) ∨ (sp_nm T n p ∧ ¬ sp_iC A.1.1 (sp_wd T n p) < A.1.1.length ∧ v = 0 ∧ a' = fm_u a 1 t (-1) ∧ mf g' 3 (sp_s T n p)) ∨ (¬ sp_nm T n p ∧ v = 0 ∧ a' = a ∧ mf g' (sp_m T n p) (sp_s T n p)))) ∧ R = (some (.int v), fm g' tp bt a' b')) (M := gk_m238) (by rfl) (by rfl) ?_
  have hq0 := hA.1.2.1
  have hq1 := hA.1.2.2.2
  refine fe_s 2 (pc' := 3) (lc' := [(0, .ref 0), (1, .int 72), (2, .int (nI (A.1.1.length))), (3, .int (nI t))]) (stk' := [.ref 22, .ref 0]) (mem' := fm g tp bt a b) (by intro _ _ _; eq_refl) ?_
  obtain ⟨xc1, hrc1, hxc1⟩ := mr_isName (tp := tp) (bt := bt) (b := b) hT h
  refine fe_ivV hrc1 (by omega) (by rfl) (by rfl) (by rfl) (by rfl) (by rfl) (by rfl) ?_
  rcases hxc1 with ⟨nmc1, rfl⟩ | ⟨nmc1, rfl⟩
  · have nkc1 := nmc1.1
    have nlc1 := sp_nm_lt h.1 nmc1
    refine fe_s 1 (pc' := cond (fx_cb .ne 1 0) 15 9) (lc' := [(0, .ref 0), (1, .int 72), (2, .int (nI (A.1.1.length))), (3, .int (nI t))]) (stk' := []) (mem' := fm g tp bt a b) (by intro _ _ _; eq_refl) ?_
    rw [show (fx_cb .ne 1 0) = true from by decide]
    dsimp only [cond]
    refine fe_s 6 (pc' := 23) (lc' := [(0, .ref 0), (1, .int 72), (2, .int (nI (A.1.1.length))), (3, .int (nI t))]) (stk' := [.int (nI (A.1.1.length)), .int 72, .ref 0, .int (nI t), .ref 1]) (mem' := fm g tp bt a b) (by intro _ _ _; eq_refl) ?_
    obtain ⟨wc2, hrc2, hic2⟩ := mr_findHere (tp := tp) (bt := bt) (b := b) (base := 72) (many := (A.1.1.length)) hT h nmc1 (by omega)
    refine fe_ivV hrc2 (by omega) (by rfl) (by rfl) (by rfl) (by rfl) (by rfl) (by rfl) ?_
    have hzc2 := sp_fxM hA.2.1.1 nlc1.1 nlc1.2 (by rw [List.length_map]; exact hic2)
    rw [List.length_map, sp_iC_map] at hzc2
    rcases hzc2 with ⟨hzc2, rfl⟩ | ⟨hzc2, rfl⟩
    · refine fe_stI (mem' := fm g tp bt (fm_u a 1 (nI t : Int32).toNatClampNeg (-1)) b) (by rfl) (by rfl) (fx_inN (i := t) (by omega) (by omega)) fm_si1 ?_
      rw [show Int32.toNatClampNeg (nI t) = t from nI_clamp (by omega)]
      have hT2 := mT_u (t := 1) (i := t) (x := (-1)) (by decide) hT
      refine fe_s 3 (pc' := 32) (lc' := [(0, .ref 0), (1, .int 72), (2, .int (nI (A.1.1.length))), (3, .int (nI t))]) (stk' := [.int (nI t), .ref 1]) (mem' := fm g tp bt (fm_u a 1 t (-1)) b) (by intro _ _ _; eq_refl) ?_
      refine fe_ldI (by rfl) (by rfl) (fx_inN (i := t) (by omega) (by omega)) ?_
      rw [show Int32.toNatClampNeg (nI t) = t from nI_clamp (by omega)]
      rw [show (fm_u a 1 t (-1)) 1 t = (-1) from fm_v1s]
      refine fe_s 1 (pc' := 34) (lc' := [(0, .ref 0), (1, .int 72), (2, .int (nI (A.1.1.length))), (3, .int (nI t))]) (stk' := [.int (-1), .int (-1)]) (mem' := fm g tp bt (fm_u a 1 t (-1)) b) (by intro _ _ _; eq_refl) ?_
      refine fe_s 1 (pc' := cond (fx_cb .ne (-1) (-1)) 43 37) (lc' := [(0, .ref 0), (1, .int 72), (2, .int (nI (A.1.1.length))), (3, .int (nI t))]) (stk' := []) (mem' := fm g tp bt (fm_u a 1 t (-1)) b) (by intro _ _ _; eq_refl) ?_
      rw [show (fx_cb .ne (-1) (-1)) = false from by decide]
      dsimp only [cond]
      refine fe_s 2 (pc' := 39) (lc' := [(0, .ref 0), (1, .int 72), (2, .int (nI (A.1.1.length))), (3, .int (nI t))]) (stk' := [.int 3, .ref 0]) (mem' := fm g tp bt (fm_u a 1 t (-1)) b) (by intro _ _ _; eq_refl) ?_
      obtain ⟨gc4, hrc4, txc4, hmc4⟩ := mr_failsx (tp := tp) (bt := bt) (a := (fm_u a 1 t (-1))) (b := b) (x := 3) h (by decide) (by omega)
      refine fe_ivV hrc4 (by omega) (by rfl) (by rfl) (by rfl) (by rfl) (by rfl) (by rfl) ?_
      exact fe_ret ⟨_, _, _, _, ⟨(fm_tx8_tr fm_tx8_rf txc4), rfl, Or.inr (Or.inl ⟨nmc1, by omega, rfl, rfl, hmc4⟩)⟩, rfl⟩ (by rfl) (by rfl) (by rfl)
    · refine fe_stI (mem' := fm g tp bt (fm_u a 1 (nI t : Int32).toNatClampNeg (nI (sp_iC A.1.1 (sp_wd T n p)))) b) (by rfl) (by rfl) (fx_inN (i := t) (by omega) (by omega)) fm_si1 ?_
      rw [show Int32.toNatClampNeg (nI t) = t from nI_clamp (by omega)]
      have hT4 := mT_u (t := 1) (i := t) (x := nI (sp_iC A.1.1 (sp_wd T n p))) (by decide) hT
      refine fe_s 3 (pc' := 32) (lc' := [(0, .ref 0), (1, .int 72), (2, .int (nI (A.1.1.length))), (3, .int (nI t))]) (stk' := [.int (nI t), .ref 1]) (mem' := fm g tp bt (fm_u a 1 t (nI (sp_iC A.1.1 (sp_wd T n p)))) b) (by intro _ _ _; eq_refl) ?_
      refine fe_ldI (by rfl) (by rfl) (fx_inN (i := t) (by omega) (by omega)) ?_
      rw [show Int32.toNatClampNeg (nI t) = t from nI_clamp (by omega)]
      rw [show (fm_u a 1 t (nI (sp_iC A.1.1 (sp_wd T n p)))) 1 t = nI (sp_iC A.1.1 (sp_wd T n p)) from fm_v1s]
      refine fe_s 1 (pc' := 34) (lc' := [(0, .ref 0), (1, .int 72), (2, .int (nI (A.1.1.length))), (3, .int (nI t))]) (stk' := [.int (-1), .int (nI (sp_iC A.1.1 (sp_wd T n p)))]) (mem' := fm g tp bt (fm_u a 1 t (nI (sp_iC A.1.1 (sp_wd T n p)))) b) (by intro _ _ _; eq_refl) ?_
      refine fe_s 1 (pc' := cond (fx_cb .ne (nI (sp_iC A.1.1 (sp_wd T n p))) (-1)) 43 37) (lc' := [(0, .ref 0), (1, .int 72), (2, .int (nI (A.1.1.length))), (3, .int (nI t))]) (stk' := []) (mem' := fm g tp bt (fm_u a 1 t (nI (sp_iC A.1.1 (sp_wd T n p)))) b) (by intro _ _ _; eq_refl) ?_
      rw [show (fx_cb .ne (nI (sp_iC A.1.1 (sp_wd T n p))) (-1)) = true from cb_n_ne (by omega) (by decide)]
      dsimp only [cond]
      refine fe_s 1 (pc' := 44) (lc' := [(0, .ref 0), (1, .int 72), (2, .int (nI (A.1.1.length))), (3, .int (nI t))]) (stk' := [.ref 0]) (mem' := fm g tp bt (fm_u a 1 t (nI (sp_iC A.1.1 (sp_wd T n p)))) b) (by intro _ _ _; eq_refl) ?_
      obtain ⟨gc6, hrc6, txc6, hmc6⟩ := mr_aheado (tp := tp) (bt := bt) (b := b) hT4 h (by omega)
      refine fe_ivV hrc6 (by omega) (by rfl) (by rfl) (by rfl) (by rfl) (by rfl) (by rfl) ?_
      refine fe_s 1 (pc' := 48) (lc' := [(0, .ref 0), (1, .int 72), (2, .int (nI (A.1.1.length))), (3, .int (nI t))]) (stk' := [.int 1]) (mem' := fm gc6 tp bt (fm_u a 1 t (nI (sp_iC A.1.1 (sp_wd T n p)))) b) (by intro _ _ _; eq_refl) ?_
      exact fe_ret ⟨_, _, _, _, ⟨(fm_tx8_tr fm_tx8_rf txc6), rfl, Or.inl ⟨nmc1, by omega, rfl, rfl, hmc6⟩⟩, rfl⟩ (by rfl) (by rfl) (by rfl)
  · refine fe_s 1 (pc' := cond (fx_cb .ne 0 0) 15 9) (lc' := [(0, .ref 0), (1, .int 72), (2, .int (nI (A.1.1.length))), (3, .int (nI t))]) (stk' := []) (mem' := fm g tp bt a b) (by intro _ _ _; eq_refl) ?_
    rw [show (fx_cb .ne 0 0) = false from by decide]
    dsimp only [cond]
    refine fe_s 2 (pc' := 11) (lc' := [(0, .ref 0), (1, .int 72), (2, .int (nI (A.1.1.length))), (3, .int (nI t))]) (stk' := [.int 2, .ref 0]) (mem' := fm g tp bt a b) (by intro _ _ _; eq_refl) ?_
    obtain ⟨gc7, hrc7, txc7, hmc7⟩ := mr_fails2 (tp := tp) (bt := bt) (a := a) (b := b) h
    refine fe_ivV hrc7 (by omega) (by rfl) (by rfl) (by rfl) (by rfl) (by rfl) (by rfl) ?_
    exact fe_ret ⟨_, _, _, _, ⟨(fm_tx8_tr fm_tx8_rf txc7), rfl, Or.inr (Or.inr ⟨nmc1, rfl, rfl, hmc7⟩)⟩, rfl⟩ (by rfl) (by rfl) (by rfl)
theorem mr_newC (hT : mT a T n) (hA : md_L 3368 72 A a b) (h : mo g T n p) (hk : sp_k T n p = 1) : ∃ (v : Int32) (g' : Nat → Int32) (a' : Nat → Nat → Int32) (b' : Nat → Nat → Int64), fr_T 5 237 [.ref 0, .int 0, .int 10, .int 0] (fm g tp bt a b) (some (.int v)) (fm g' tp bt a' b') ∧ fm_tx8 g g' ∧ a' = a ∧ ((¬ A.1.1.length = 10 ∧ sp_nm T n (sp_n T n p) ∧ ¬ (sp_iC A.1.1 (sp_wd T n (sp_n T n p)) < A.1.1.length ∨ sp_iW A.1.2 (sp_wd T n (sp_n T n p)) < A.1.2.length) ∧ v = 1 ∧ b' = fm_uL b 2 (72 + A.1.1.length) (Int64.ofNat (sp_c8 (sp_wd T n (sp_n T n p)))) ∧ mo g' T n (sp_n T n (sp_n T n p))) ∨ (b' = b ∧ v = 0 ∧ ((A.1.1.length = 10 ∧ mf g' 6 (sp_s T n p)) ∨ (¬ A.1.1.length = 10 ∧ ¬ sp_nm T n (sp_n T n p) ∧ mf g' (sp_m T n (sp_n T n p)) (sp_s T n (sp_n T n p))) ∨ (¬ A.1.1.length = 10 ∧ sp_nm T n (sp_n T n p) ∧ (sp_iC A.1.1 (sp_wd T n (sp_n T n p)) < A.1.1.length ∨ sp_iW A.1.2 (sp_wd T n (sp_n T n p)) < A.1.2.length) ∧ mf g' 3 (sp_s T n (sp_n T n p)))))) := by
  suffices h : ∃ (v : Option Value) (mem' : fx_M), (fun R => ∃ (v : Int32) (g' : Nat → Int32) (a' : Nat → Nat → Int32) (b' : Nat → Nat → Int64), (fm_tx8 g g' ∧ a' = a ∧ ((¬ A.1.1.length = 10 ∧ sp_nm T n (sp_n T n p) ∧ ¬ (sp_iC A.1.1 (sp_wd T n (sp_n T n p)) < A.1.1.length ∨ sp_iW A.1.2 (sp_wd T n (sp_n T n p)) < A.1.2.length) ∧ v = 1 ∧ b' = fm_uL b 2 (72 + A.1.1.length) (Int64.ofNat (sp_c8 (sp_wd T n (sp_n T n p)))) ∧ mo g' T n (sp_n T n (sp_n T n p))) ∨ (b' = b ∧ v = 0 ∧ ((A.1.1.length = 10 ∧ mf g' 6 (sp_s T n p)) ∨ (¬ A.1.1.length = 10 ∧ ¬ sp_nm T n (sp_n T n p) ∧ mf g' (sp_m T n (sp_n T n p)) (sp_s T n (sp_n T n p))) ∨ (¬ A.1.1.length = 10 ∧ sp_nm T n (sp_n T n p) ∧ (sp_iC A.1.1 (sp_wd T n (sp_n T n p)) < A.1.1.length ∨ sp_iW A.1.2 (sp_wd T n (sp_n T n p)) < A.1.2.length) ∧ mf g' 3 (sp_s T n (sp_n T n p))))))) ∧ R = (some (.int v), fm g' tp bt a' b')) (v, mem') ∧ fr_T 5 237 [.ref 0, .int 0, .int 10, .int 0] (fm g tp bt a b) v mem' by
    obtain ⟨v, mem', ⟨w, g', a', b', h1, hR⟩, h2⟩ := h
    cases hR
    exact ⟨w, g', a', b', h2, h1⟩
  refine fe_meth (f := 237) (as := [.ref 0, .int 0, .int 10, .int 0]) (F := fun R => ∃ (v : Int32) (g' : Nat → Int32) (a' : Nat → Nat → Int32) (b' : Nat → Nat → Int64), (fm_tx8 g g' ∧ a' = a ∧ ((¬ A.1.1.length = 10 ∧ sp_nm T n (sp_n T n p) ∧ ¬ (sp_iC A.1.1 (sp_wd T n (sp_n T n p)) < A.1.1.length ∨ sp_iW A.1.2 (sp_wd T n (sp_n T n p)) < A.1.2.length) ∧ v = 1 ∧ b' = fm_uL b 2 (72 + A.1.1.length) (Int64.ofNat (sp_c8 (sp_wd T n (sp_n T n p)))) ∧ mo g' T n (sp_n T n (sp_n T n p))) ∨ (b' = b ∧ v = 0 ∧ ((A.1.1.length = 10 ∧ mf g' 6 (sp_s T n p)) ∨ (¬ A.1.1.length = 10 ∧ ¬ sp_nm T n (sp_n T n p) ∧ mf g' (sp_m T n (sp_n T n p)) (sp_s T n (sp_n T n p))) ∨ (¬ A.1.1.length = 10 ∧ sp_nm T n (sp_n T n p) ∧ (sp_iC A.1.1 (sp_wd T n (sp_n T n p)) < A.1.1.length ∨ sp_iW A.1.2 (sp_wd T n (sp_n T n p)) < A.1.2.length) ∧ mf g' 3 (sp_s T n (sp_n T n p))))))) ∧ R = (some (.int v), fm g' tp bt a' b')) (M := gk_m237) (by rfl) (by rfl) ?_
  have hq0 := hA.1.2.1
  have hq1 := hA.1.2.2.2
  refine fe_s 5 (pc' := 9) (lc' := [(0, .ref 0), (1, .int 0), (2, .int 10), (3, .int 0)]) (stk' := [.int (3368 + 0), .ref 1]) (mem' := fm g tp bt a b) (by intro _ _ _; eq_refl) ?_
  rw [show (3368 + 0 : Int32) = 3368 from rfl]
  refine fe_ldI (by rfl) (by rfl) (fx_inN (i := 3368) (by omega) (by omega)) ?_
  rw [show Int32.toNatClampNeg (3368) = 3368 from rfl]
  rw [show a 1 3368 = nI (A.1.1.length) from hA.1.1]
  refine fe_s 1 (pc' := 11) (lc' := [(0, .ref 0), (1, .int 0), (2, .int 10), (3, .int 0)]) (stk' := [.int 10, .int (nI (A.1.1.length))]) (mem' := fm g tp bt a b) (by intro _ _ _; eq_refl) ?_
  refine fe_s 1 (pc' := cond (fx_cb .ne (nI (A.1.1.length)) 10) 21 14) (lc' := [(0, .ref 0), (1, .int 0), (2, .int 10), (3, .int 0)]) (stk' := []) (mem' := fm g tp bt a b) (by intro _ _ _; eq_refl) ?_
  by_cases y1 : (A.1.1.length) = 10
  · rw [show (fx_cb .ne (nI (A.1.1.length)) 10) = false from cb_neF (a := (A.1.1.length)) (b := 10) (by omega) (by omega) (by omega)]
    dsimp only [cond]
    refine fe_s 2 (pc' := 17) (lc' := [(0, .ref 0), (1, .int 0), (2, .int 10), (3, .int 0)]) (stk' := [.int 6, .ref 0]) (mem' := fm g tp bt a b) (by intro _ _ _; eq_refl) ?_
    obtain ⟨gc2, hrc2, txc2, hmc2⟩ := mr_failsx (tp := tp) (bt := bt) (a := a) (b := b) (x := 6) h (by decide) (by omega)
    refine fe_ivV hrc2 (by omega) (by rfl) (by rfl) (by rfl) (by rfl) (by rfl) (by rfl) ?_
    exact fe_ret ⟨_, _, _, _, ⟨(fm_tx8_tr fm_tx8_rf txc2), rfl, Or.inr ⟨rfl, rfl, Or.inl ⟨by omega, hmc2⟩⟩⟩, rfl⟩ (by rfl) (by rfl) (by rfl)
  · rw [show (fx_cb .ne (nI (A.1.1.length)) 10) = true from cb_neT (a := (A.1.1.length)) (b := 10) (by omega) (by omega) (by omega)]
    dsimp only [cond]
    refine fe_s 1 (pc' := 22) (lc' := [(0, .ref 0), (1, .int 0), (2, .int 10), (3, .int 0)]) (stk' := [.ref 0]) (mem' := fm g tp bt a b) (by intro _ _ _; eq_refl) ?_
    obtain ⟨gc3, hrc3, txc3, hmc3⟩ := mr_aheado (tp := tp) (bt := bt) (b := b) hT h (by omega)
    refine fe_ivV hrc3 (by omega) (by rfl) (by rfl) (by rfl) (by rfl) (by rfl) (by rfl) ?_
    refine fe_s 2 (pc' := 28) (lc' := [(0, .ref 0), (1, .int 0), (2, .int 10), (3, .int 0)]) (stk' := [.ref 22, .ref 0]) (mem' := fm gc3 tp bt a b) (by intro _ _ _; eq_refl) ?_
    obtain ⟨xc4, hrc4, hxc4⟩ := mr_isName (tp := tp) (bt := bt) (b := b) hT hmc3
    refine fe_ivV hrc4 (by omega) (by rfl) (by rfl) (by rfl) (by rfl) (by rfl) (by rfl) ?_
    rcases hxc4 with ⟨nmc4, rfl⟩ | ⟨nmc4, rfl⟩
    · have nkc4 := nmc4.1
      have nlc4 := sp_nm_lt hmc3.1 nmc4
      refine fe_s 1 (pc' := cond (fx_cb .ne 1 0) 40 34) (lc' := [(0, .ref 0), (1, .int 0), (2, .int 10), (3, .int 0)]) (stk' := []) (mem' := fm gc3 tp bt a b) (by intro _ _ _; eq_refl) ?_
      rw [show (fx_cb .ne 1 0) = true from by decide]
      dsimp only [cond]
      refine fe_s 5 (pc' := 50) (lc' := [(0, .ref 0), (1, .int 0), (2, .int 10), (3, .int 0)]) (stk' := [.int 3368, .ref 1, .int 72, .ref 0]) (mem' := fm gc3 tp bt a b) (by intro _ _ _; eq_refl) ?_
      refine fe_ldI (by rfl) (by rfl) (fx_inN (i := 3368) (by omega) (by omega)) ?_
      rw [show Int32.toNatClampNeg (3368) = 3368 from rfl]
      rw [show a 1 3368 = nI (A.1.1.length) from hA.1.1]
      obtain ⟨wc5, hrc5, hic5⟩ := mr_findHere (tp := tp) (bt := bt) (b := b) (base := 72) (many := (A.1.1.length)) hT hmc3 nmc4 (by omega)
      refine fe_ivV hrc5 (by omega) (by rfl) (by rfl) (by rfl) (by rfl) (by rfl) (by rfl) ?_
      have hzc5 := sp_fxM hA.2.1.1 nlc4.1 nlc4.2 (by rw [List.length_map]; exact hic5)
      rw [List.length_map, sp_iC_map] at hzc5
      rcases hzc5 with ⟨hzc5, rfl⟩ | ⟨hzc5, rfl⟩
      · refine fe_s 1 (pc' := 55) (lc' := [(0, .ref 0), (1, .int 0), (2, .int 10), (3, .int 0)]) (stk' := [.int (-1), .int (-1)]) (mem' := fm gc3 tp bt a b) (by intro _ _ _; eq_refl) ?_
        refine fe_s 1 (pc' := cond (fx_cb .ne (-1) (-1)) 76 58) (lc' := [(0, .ref 0), (1, .int 0), (2, .int 10), (3, .int 0)]) (stk' := []) (mem' := fm gc3 tp bt a b) (by intro _ _ _; eq_refl) ?_
        rw [show (fx_cb .ne (-1) (-1)) = false from by decide]
        dsimp only [cond]
        refine fe_s 5 (pc' := 68) (lc' := [(0, .ref 0), (1, .int 0), (2, .int 10), (3, .int 0)]) (stk' := [.int 3369, .ref 1, .int 82, .ref 0]) (mem' := fm gc3 tp bt a b) (by intro _ _ _; eq_refl) ?_
        refine fe_ldI (by rfl) (by rfl) (fx_inN (i := 3369) (by omega) (by omega)) ?_
        rw [show Int32.toNatClampNeg (3369) = 3369 from rfl]
        rw [show a 1 3369 = nI (A.1.2.length) from hA.1.2.2.1]
        obtain ⟨wc6, hrc6, hic6⟩ := mr_findHere (tp := tp) (bt := bt) (b := b) (base := 82) (many := (A.1.2.length)) hT hmc3 nmc4 (by omega)
        refine fe_ivV hrc6 (by omega) (by rfl) (by rfl) (by rfl) (by rfl) (by rfl) (by rfl) ?_
        have hzc6 := sp_fxM hA.2.1.2 nlc4.1 nlc4.2 (by rw [List.length_map]; exact hic6)
        rw [List.length_map, sp_iW_map] at hzc6
        rcases hzc6 with ⟨hzc6, rfl⟩ | ⟨hzc6, rfl⟩
        · refine fe_s 1 (pc' := 73) (lc' := [(0, .ref 0), (1, .int 0), (2, .int 10), (3, .int 0)]) (stk' := [.int (-1), .int (-1)]) (mem' := fm gc3 tp bt a b) (by intro _ _ _; eq_refl) ?_
          refine fe_s 1 (pc' := cond (fx_cb .eq (-1) (-1)) 82 76) (lc' := [(0, .ref 0), (1, .int 0), (2, .int 10), (3, .int 0)]) (stk' := []) (mem' := fm gc3 tp bt a b) (by intro _ _ _; eq_refl) ?_
          rw [show (fx_cb .eq (-1) (-1)) = true from by decide]
          dsimp only [cond]
          refine fe_s 10 (pc' := 99) (lc' := [(0, .ref 0), (1, .int 0), (2, .int 10), (3, .int 0)]) (stk' := [.int (3368 + 0), .ref 1, .int (72 + 0), .ref 2]) (mem' := fm gc3 tp bt a b) (by intro _ _ _; eq_refl) ?_
          rw [show (72 + 0 : Int32) = 72 from rfl]
          rw [show (3368 + 0 : Int32) = 3368 from rfl]
          refine fe_ldI (by rfl) (by rfl) (fx_inN (i := 3368) (by omega) (by omega)) ?_
          rw [show Int32.toNatClampNeg (3368) = 3368 from rfl]
          rw [show a 1 3368 = nI (A.1.1.length) from hA.1.1]
          refine fe_s 2 (pc' := 102) (lc' := [(0, .ref 0), (1, .int 0), (2, .int 10), (3, .int 0)]) (stk' := [.ref 0, .int (72 + (nI (A.1.1.length))), .ref 2]) (mem' := fm gc3 tp bt a b) (by intro _ _ _; eq_refl) ?_
          rw [show (72 + (nI (A.1.1.length)) : Int32) = nI (72 + (A.1.1.length)) from by simp only [show (72 : Int32) = nI 72 from rfl, nI_add, fm_mul]]
          refine fe_ivV (mr_nameHere (tp := tp) (bt := bt) (a := a) (b := b) hT hmc3 nmc4) (by omega) (by rfl) (by rfl) (by rfl) (by rfl) (by rfl) (by rfl) ?_
          refine fe_stL (mem' := fm gc3 tp bt a (fm_uL b 2 (nI (72 + (A.1.1.length)) : Int32).toNatClampNeg (Int64.ofNat (sp_c8 (sp_wd T n (sp_n T n p)))))) (by rfl) (by rfl) (fx_inN (i := 72 + (A.1.1.length)) (by omega) (by omega)) fm_sl2 ?_
          rw [show Int32.toNatClampNeg (nI (72 + (A.1.1.length))) = 72 + (A.1.1.length) from nI_clamp (by omega)]
          refine fe_s 1 (pc' := 107) (lc' := [(0, .ref 0), (1, .int 0), (2, .int 10), (3, .int 0)]) (stk' := [.ref 0]) (mem' := fm gc3 tp bt a (fm_uL b 2 (72 + (A.1.1.length)) (Int64.ofNat (sp_c8 (sp_wd T n (sp_n T n p)))))) (by intro _ _ _; eq_refl) ?_
          obtain ⟨gc7, hrc7, txc7, hmc7⟩ := mr_aheado (tp := tp) (bt := bt) (b := (fm_uL b 2 (72 + (A.1.1.length)) (Int64.ofNat (sp_c8 (sp_wd T n (sp_n T n p)))))) hT hmc3 (by omega)
          refine fe_ivV hrc7 (by omega) (by rfl) (by rfl) (by rfl) (by rfl) (by rfl) (by rfl) ?_
          refine fe_s 1 (pc' := 111) (lc' := [(0, .ref 0), (1, .int 0), (2, .int 10), (3, .int 0)]) (stk' := [.int 1]) (mem' := fm gc7 tp bt a (fm_uL b 2 (72 + (A.1.1.length)) (Int64.ofNat (sp_c8 (sp_wd T n (sp_n T n p)))))) (by intro _ _ _; eq_refl) ?_
          exact fe_ret ⟨_, _, _, _, ⟨(fm_tx8_tr (fm_tx8_tr fm_tx8_rf txc3) txc7), rfl, Or.inl ⟨by omega, nmc4, by omega, rfl, rfl, hmc7⟩⟩, rfl⟩ (by rfl) (by rfl) (by rfl)
        · refine fe_s 1 (pc' := 73) (lc' := [(0, .ref 0), (1, .int 0), (2, .int 10), (3, .int 0)]) (stk' := [.int (-1), .int (nI (sp_iW A.1.2 (sp_wd T n (sp_n T n p))))]) (mem' := fm gc3 tp bt a b) (by intro _ _ _; eq_refl) ?_
          refine fe_s 1 (pc' := cond (fx_cb .eq (nI (sp_iW A.1.2 (sp_wd T n (sp_n T n p)))) (-1)) 82 76) (lc' := [(0, .ref 0), (1, .int 0), (2, .int 10), (3, .int 0)]) (stk' := []) (mem' := fm gc3 tp bt a b) (by intro _ _ _; eq_refl) ?_
          rw [show (fx_cb .eq (nI (sp_iW A.1.2 (sp_wd T n (sp_n T n p)))) (-1)) = false from cb_n_eq (by omega) (by decide)]
          dsimp only [cond]
          refine fe_s 2 (pc' := 78) (lc' := [(0, .ref 0), (1, .int 0), (2, .int 10), (3, .int 0)]) (stk' := [.int 3, .ref 0]) (mem' := fm gc3 tp bt a b) (by intro _ _ _; eq_refl) ?_
          obtain ⟨gc8, hrc8, txc8, hmc8⟩ := mr_failsx (tp := tp) (bt := bt) (a := a) (b := b) (x := 3) hmc3 (by decide) (by omega)
          refine fe_ivV hrc8 (by omega) (by rfl) (by rfl) (by rfl) (by rfl) (by rfl) (by rfl) ?_
          exact fe_ret ⟨_, _, _, _, ⟨(fm_tx8_tr (fm_tx8_tr fm_tx8_rf txc3) txc8), rfl, Or.inr ⟨rfl, rfl, Or.inr (Or.inr ⟨by omega, nmc4, by omega, hmc8⟩)⟩⟩, rfl⟩ (by rfl) (by rfl) (by rfl)
      · refine fe_s 1 (pc' := 55) (lc' := [(0, .ref 0), (1, .int 0), (2, .int 10), (3, .int 0)]) (stk' := [.int (-1), .int (nI (sp_iC A.1.1 (sp_wd T n (sp_n T n p))))]) (mem' := fm gc3 tp bt a b) (by intro _ _ _; eq_refl) ?_
        refine fe_s 1 (pc' := cond (fx_cb .ne (nI (sp_iC A.1.1 (sp_wd T n (sp_n T n p)))) (-1)) 76 58) (lc' := [(0, .ref 0), (1, .int 0), (2, .int 10), (3, .int 0)]) (stk' := []) (mem' := fm gc3 tp bt a b) (by intro _ _ _; eq_refl) ?_
        rw [show (fx_cb .ne (nI (sp_iC A.1.1 (sp_wd T n (sp_n T n p)))) (-1)) = true from cb_n_ne (by omega) (by decide)]
        dsimp only [cond]
        refine fe_s 2 (pc' := 78) (lc' := [(0, .ref 0), (1, .int 0), (2, .int 10), (3, .int 0)]) (stk' := [.int 3, .ref 0]) (mem' := fm gc3 tp bt a b) (by intro _ _ _; eq_refl) ?_
        obtain ⟨gc9, hrc9, txc9, hmc9⟩ := mr_failsx (tp := tp) (bt := bt) (a := a) (b := b) (x := 3) hmc3 (by decide) (by omega)
        refine fe_ivV hrc9 (by omega) (by rfl) (by rfl) (by rfl) (by rfl) (by rfl) (by rfl) ?_
        exact fe_ret ⟨_, _, _, _, ⟨(fm_tx8_tr (fm_tx8_tr fm_tx8_rf txc3) txc9), rfl, Or.inr ⟨rfl, rfl, Or.inr (Or.inr ⟨by omega, nmc4, by omega, hmc9⟩)⟩⟩, rfl⟩ (by rfl) (by rfl) (by rfl)
    · refine fe_s 1 (pc' := cond (fx_cb .ne 0 0) 40 34) (lc' := [(0, .ref 0), (1, .int 0), (2, .int 10), (3, .int 0)]) (stk' := []) (mem' := fm gc3 tp bt a b) (by intro _ _ _; eq_refl) ?_
      rw [show (fx_cb .ne 0 0) = false from by decide]
      dsimp only [cond]
      refine fe_s 2 (pc' := 36) (lc' := [(0, .ref 0), (1, .int 0), (2, .int 10), (3, .int 0)]) (stk' := [.int 2, .ref 0]) (mem' := fm gc3 tp bt a b) (by intro _ _ _; eq_refl) ?_
      obtain ⟨gc10, hrc10, txc10, hmc10⟩ := mr_fails2 (tp := tp) (bt := bt) (a := a) (b := b) hmc3
      refine fe_ivV hrc10 (by omega) (by rfl) (by rfl) (by rfl) (by rfl) (by rfl) (by rfl) ?_
      exact fe_ret ⟨_, _, _, _, ⟨(fm_tx8_tr (fm_tx8_tr fm_tx8_rf txc3) txc10), rfl, Or.inr ⟨rfl, rfl, Or.inr (Or.inl ⟨by omega, nmc4, hmc10⟩)⟩⟩, rfl⟩ (by rfl) (by rfl) (by rfl)
theorem mr_newW (hT : mT a T n) (hA : md_L 3368 72 A a b) (h : mo g T n p) (hk : sp_k T n p = 1) : ∃ (v : Int32) (g' : Nat → Int32) (a' : Nat → Nat → Int32) (b' : Nat → Nat → Int64), fr_T 5 237 [.ref 0, .int 1, .int 8, .int 10] (fm g tp bt a b) (some (.int v)) (fm g' tp bt a' b') ∧ fm_tx8 g g' ∧ a' = a ∧ ((¬ A.1.2.length = 8 ∧ sp_nm T n (sp_n T n p) ∧ ¬ (sp_iC A.1.1 (sp_wd T n (sp_n T n p)) < A.1.1.length ∨ sp_iW A.1.2 (sp_wd T n (sp_n T n p)) < A.1.2.length) ∧ v = 1 ∧ b' = fm_uL b 2 (82 + A.1.2.length) (Int64.ofNat (sp_c8 (sp_wd T n (sp_n T n p)))) ∧ mo g' T n (sp_n T n (sp_n T n p))) ∨ (b' = b ∧ v = 0 ∧ ((A.1.2.length = 8 ∧ mf g' 6 (sp_s T n p)) ∨ (¬ A.1.2.length = 8 ∧ ¬ sp_nm T n (sp_n T n p) ∧ mf g' (sp_m T n (sp_n T n p)) (sp_s T n (sp_n T n p))) ∨ (¬ A.1.2.length = 8 ∧ sp_nm T n (sp_n T n p) ∧ (sp_iC A.1.1 (sp_wd T n (sp_n T n p)) < A.1.1.length ∨ sp_iW A.1.2 (sp_wd T n (sp_n T n p)) < A.1.2.length) ∧ mf g' 3 (sp_s T n (sp_n T n p)))))) := by
  suffices h : ∃ (v : Option Value) (mem' : fx_M), (fun R => ∃ (v : Int32) (g' : Nat → Int32) (a' : Nat → Nat → Int32) (b' : Nat → Nat → Int64), (fm_tx8 g g' ∧ a' = a ∧ ((¬ A.1.2.length = 8 ∧ sp_nm T n (sp_n T n p) ∧ ¬ (sp_iC A.1.1 (sp_wd T n (sp_n T n p)) < A.1.1.length ∨ sp_iW A.1.2 (sp_wd T n (sp_n T n p)) < A.1.2.length) ∧ v = 1 ∧ b' = fm_uL b 2 (82 + A.1.2.length) (Int64.ofNat (sp_c8 (sp_wd T n (sp_n T n p)))) ∧ mo g' T n (sp_n T n (sp_n T n p))) ∨ (b' = b ∧ v = 0 ∧ ((A.1.2.length = 8 ∧ mf g' 6 (sp_s T n p)) ∨ (¬ A.1.2.length = 8 ∧ ¬ sp_nm T n (sp_n T n p) ∧ mf g' (sp_m T n (sp_n T n p)) (sp_s T n (sp_n T n p))) ∨ (¬ A.1.2.length = 8 ∧ sp_nm T n (sp_n T n p) ∧ (sp_iC A.1.1 (sp_wd T n (sp_n T n p)) < A.1.1.length ∨ sp_iW A.1.2 (sp_wd T n (sp_n T n p)) < A.1.2.length) ∧ mf g' 3 (sp_s T n (sp_n T n p))))))) ∧ R = (some (.int v), fm g' tp bt a' b')) (v, mem') ∧ fr_T 5 237 [.ref 0, .int 1, .int 8, .int 10] (fm g tp bt a b) v mem' by
    obtain ⟨v, mem', ⟨w, g', a', b', h1, hR⟩, h2⟩ := h
    cases hR
    exact ⟨w, g', a', b', h2, h1⟩
  refine fe_meth (f := 237) (as := [.ref 0, .int 1, .int 8, .int 10]) (F := fun R => ∃ (v : Int32) (g' : Nat → Int32) (a' : Nat → Nat → Int32) (b' : Nat → Nat → Int64), (fm_tx8 g g' ∧ a' = a ∧ ((¬ A.1.2.length = 8 ∧ sp_nm T n (sp_n T n p) ∧ ¬ (sp_iC A.1.1 (sp_wd T n (sp_n T n p)) < A.1.1.length ∨ sp_iW A.1.2 (sp_wd T n (sp_n T n p)) < A.1.2.length) ∧ v = 1 ∧ b' = fm_uL b 2 (82 + A.1.2.length) (Int64.ofNat (sp_c8 (sp_wd T n (sp_n T n p)))) ∧ mo g' T n (sp_n T n (sp_n T n p))) ∨ (b' = b ∧ v = 0 ∧ ((A.1.2.length = 8 ∧ mf g' 6 (sp_s T n p)) ∨ (¬ A.1.2.length = 8 ∧ ¬ sp_nm T n (sp_n T n p) ∧ mf g' (sp_m T n (sp_n T n p)) (sp_s T n (sp_n T n p))) ∨ (¬ A.1.2.length = 8 ∧ sp_nm T n (sp_n T n p) ∧ (sp_iC A.1.1 (sp_wd T n (sp_n T n p)) < A.1.1.length ∨ sp_iW A.1.2 (sp_wd T n (sp_n T n p)) < A.1.2.length) ∧ mf g' 3 (sp_s T n (sp_n T n p))))))) ∧ R = (some (.int v), fm g' tp bt a' b')) (M := gk_m237) (by rfl) (by rfl) ?_
  have hq0 := hA.1.2.1
  have hq1 := hA.1.2.2.2
  refine fe_s 5 (pc' := 9) (lc' := [(0, .ref 0), (1, .int 1), (2, .int 8), (3, .int 10)]) (stk' := [.int (3368 + 1), .ref 1]) (mem' := fm g tp bt a b) (by intro _ _ _; eq_refl) ?_
  rw [show (3368 + 1 : Int32) = 3369 from rfl]
  refine fe_ldI (by rfl) (by rfl) (fx_inN (i := 3369) (by omega) (by omega)) ?_
  rw [show Int32.toNatClampNeg (3369) = 3369 from rfl]
  rw [show a 1 3369 = nI (A.1.2.length) from hA.1.2.2.1]
  refine fe_s 1 (pc' := 11) (lc' := [(0, .ref 0), (1, .int 1), (2, .int 8), (3, .int 10)]) (stk' := [.int 8, .int (nI (A.1.2.length))]) (mem' := fm g tp bt a b) (by intro _ _ _; eq_refl) ?_
  refine fe_s 1 (pc' := cond (fx_cb .ne (nI (A.1.2.length)) 8) 21 14) (lc' := [(0, .ref 0), (1, .int 1), (2, .int 8), (3, .int 10)]) (stk' := []) (mem' := fm g tp bt a b) (by intro _ _ _; eq_refl) ?_
  by_cases y1 : (A.1.2.length) = 8
  · rw [show (fx_cb .ne (nI (A.1.2.length)) 8) = false from cb_neF (a := (A.1.2.length)) (b := 8) (by omega) (by omega) (by omega)]
    dsimp only [cond]
    refine fe_s 2 (pc' := 17) (lc' := [(0, .ref 0), (1, .int 1), (2, .int 8), (3, .int 10)]) (stk' := [.int 6, .ref 0]) (mem' := fm g tp bt a b) (by intro _ _ _; eq_refl) ?_
    obtain ⟨gc2, hrc2, txc2, hmc2⟩ := mr_failsx (tp := tp) (bt := bt) (a := a) (b := b) (x := 6) h (by decide) (by omega)
    refine fe_ivV hrc2 (by omega) (by rfl) (by rfl) (by rfl) (by rfl) (by rfl) (by rfl) ?_
    exact fe_ret ⟨_, _, _, _, ⟨(fm_tx8_tr fm_tx8_rf txc2), rfl, Or.inr ⟨rfl, rfl, Or.inl ⟨by omega, hmc2⟩⟩⟩, rfl⟩ (by rfl) (by rfl) (by rfl)
  · rw [show (fx_cb .ne (nI (A.1.2.length)) 8) = true from cb_neT (a := (A.1.2.length)) (b := 8) (by omega) (by omega) (by omega)]
    dsimp only [cond]
    refine fe_s 1 (pc' := 22) (lc' := [(0, .ref 0), (1, .int 1), (2, .int 8), (3, .int 10)]) (stk' := [.ref 0]) (mem' := fm g tp bt a b) (by intro _ _ _; eq_refl) ?_
    obtain ⟨gc3, hrc3, txc3, hmc3⟩ := mr_aheado (tp := tp) (bt := bt) (b := b) hT h (by omega)
    refine fe_ivV hrc3 (by omega) (by rfl) (by rfl) (by rfl) (by rfl) (by rfl) (by rfl) ?_
    refine fe_s 2 (pc' := 28) (lc' := [(0, .ref 0), (1, .int 1), (2, .int 8), (3, .int 10)]) (stk' := [.ref 22, .ref 0]) (mem' := fm gc3 tp bt a b) (by intro _ _ _; eq_refl) ?_
    obtain ⟨xc4, hrc4, hxc4⟩ := mr_isName (tp := tp) (bt := bt) (b := b) hT hmc3
    refine fe_ivV hrc4 (by omega) (by rfl) (by rfl) (by rfl) (by rfl) (by rfl) (by rfl) ?_
    rcases hxc4 with ⟨nmc4, rfl⟩ | ⟨nmc4, rfl⟩
    · have nkc4 := nmc4.1
      have nlc4 := sp_nm_lt hmc3.1 nmc4
      refine fe_s 1 (pc' := cond (fx_cb .ne 1 0) 40 34) (lc' := [(0, .ref 0), (1, .int 1), (2, .int 8), (3, .int 10)]) (stk' := []) (mem' := fm gc3 tp bt a b) (by intro _ _ _; eq_refl) ?_
      rw [show (fx_cb .ne 1 0) = true from by decide]
      dsimp only [cond]
      refine fe_s 5 (pc' := 50) (lc' := [(0, .ref 0), (1, .int 1), (2, .int 8), (3, .int 10)]) (stk' := [.int 3368, .ref 1, .int 72, .ref 0]) (mem' := fm gc3 tp bt a b) (by intro _ _ _; eq_refl) ?_
      refine fe_ldI (by rfl) (by rfl) (fx_inN (i := 3368) (by omega) (by omega)) ?_
      rw [show Int32.toNatClampNeg (3368) = 3368 from rfl]
      rw [show a 1 3368 = nI (A.1.1.length) from hA.1.1]
      obtain ⟨wc5, hrc5, hic5⟩ := mr_findHere (tp := tp) (bt := bt) (b := b) (base := 72) (many := (A.1.1.length)) hT hmc3 nmc4 (by omega)
      refine fe_ivV hrc5 (by omega) (by rfl) (by rfl) (by rfl) (by rfl) (by rfl) (by rfl) ?_
      have hzc5 := sp_fxM hA.2.1.1 nlc4.1 nlc4.2 (by rw [List.length_map]; exact hic5)
      rw [List.length_map, sp_iC_map] at hzc5
      rcases hzc5 with ⟨hzc5, rfl⟩ | ⟨hzc5, rfl⟩
      · refine fe_s 1 (pc' := 55) (lc' := [(0, .ref 0), (1, .int 1), (2, .int 8), (3, .int 10)]) (stk' := [.int (-1), .int (-1)]) (mem' := fm gc3 tp bt a b) (by intro _ _ _; eq_refl) ?_
        refine fe_s 1 (pc' := cond (fx_cb .ne (-1) (-1)) 76 58) (lc' := [(0, .ref 0), (1, .int 1), (2, .int 8), (3, .int 10)]) (stk' := []) (mem' := fm gc3 tp bt a b) (by intro _ _ _; eq_refl) ?_
        rw [show (fx_cb .ne (-1) (-1)) = false from by decide]
        dsimp only [cond]
        refine fe_s 5 (pc' := 68) (lc' := [(0, .ref 0), (1, .int 1), (2, .int 8), (3, .int 10)]) (stk' := [.int 3369, .ref 1, .int 82, .ref 0]) (mem' := fm gc3 tp bt a b) (by intro _ _ _; eq_refl) ?_
        refine fe_ldI (by rfl) (by rfl) (fx_inN (i := 3369) (by omega) (by omega)) ?_
        rw [show Int32.toNatClampNeg (3369) = 3369 from rfl]
        rw [show a 1 3369 = nI (A.1.2.length) from hA.1.2.2.1]
        obtain ⟨wc6, hrc6, hic6⟩ := mr_findHere (tp := tp) (bt := bt) (b := b) (base := 82) (many := (A.1.2.length)) hT hmc3 nmc4 (by omega)
        refine fe_ivV hrc6 (by omega) (by rfl) (by rfl) (by rfl) (by rfl) (by rfl) (by rfl) ?_
        have hzc6 := sp_fxM hA.2.1.2 nlc4.1 nlc4.2 (by rw [List.length_map]; exact hic6)
        rw [List.length_map, sp_iW_map] at hzc6
        rcases hzc6 with ⟨hzc6, rfl⟩ | ⟨hzc6, rfl⟩
        · refine fe_s 1 (pc' := 73) (lc' := [(0, .ref 0), (1, .int 1), (2, .int 8), (3, .int 10)]) (stk' := [.int (-1), .int (-1)]) (mem' := fm gc3 tp bt a b) (by intro _ _ _; eq_refl) ?_
          refine fe_s 1 (pc' := cond (fx_cb .eq (-1) (-1)) 82 76) (lc' := [(0, .ref 0), (1, .int 1), (2, .int 8), (3, .int 10)]) (stk' := []) (mem' := fm gc3 tp bt a b) (by intro _ _ _; eq_refl) ?_
          rw [show (fx_cb .eq (-1) (-1)) = true from by decide]
          dsimp only [cond]
          refine fe_s 10 (pc' := 99) (lc' := [(0, .ref 0), (1, .int 1), (2, .int 8), (3, .int 10)]) (stk' := [.int (3368 + 1), .ref 1, .int (72 + 10), .ref 2]) (mem' := fm gc3 tp bt a b) (by intro _ _ _; eq_refl) ?_
          rw [show (72 + 10 : Int32) = 82 from rfl]
          rw [show (3368 + 1 : Int32) = 3369 from rfl]
          refine fe_ldI (by rfl) (by rfl) (fx_inN (i := 3369) (by omega) (by omega)) ?_
          rw [show Int32.toNatClampNeg (3369) = 3369 from rfl]
          rw [show a 1 3369 = nI (A.1.2.length) from hA.1.2.2.1]
          refine fe_s 2 (pc' := 102) (lc' := [(0, .ref 0), (1, .int 1), (2, .int 8), (3, .int 10)]) (stk' := [.ref 0, .int (82 + (nI (A.1.2.length))), .ref 2]) (mem' := fm gc3 tp bt a b) (by intro _ _ _; eq_refl) ?_
          rw [show (82 + (nI (A.1.2.length)) : Int32) = nI (82 + (A.1.2.length)) from by simp only [show (82 : Int32) = nI 82 from rfl, nI_add, fm_mul]]
          refine fe_ivV (mr_nameHere (tp := tp) (bt := bt) (a := a) (b := b) hT hmc3 nmc4) (by omega) (by rfl) (by rfl) (by rfl) (by rfl) (by rfl) (by rfl) ?_
          refine fe_stL (mem' := fm gc3 tp bt a (fm_uL b 2 (nI (82 + (A.1.2.length)) : Int32).toNatClampNeg (Int64.ofNat (sp_c8 (sp_wd T n (sp_n T n p)))))) (by rfl) (by rfl) (fx_inN (i := 82 + (A.1.2.length)) (by omega) (by omega)) fm_sl2 ?_
          rw [show Int32.toNatClampNeg (nI (82 + (A.1.2.length))) = 82 + (A.1.2.length) from nI_clamp (by omega)]
          refine fe_s 1 (pc' := 107) (lc' := [(0, .ref 0), (1, .int 1), (2, .int 8), (3, .int 10)]) (stk' := [.ref 0]) (mem' := fm gc3 tp bt a (fm_uL b 2 (82 + (A.1.2.length)) (Int64.ofNat (sp_c8 (sp_wd T n (sp_n T n p)))))) (by intro _ _ _; eq_refl) ?_
          obtain ⟨gc7, hrc7, txc7, hmc7⟩ := mr_aheado (tp := tp) (bt := bt) (b := (fm_uL b 2 (82 + (A.1.2.length)) (Int64.ofNat (sp_c8 (sp_wd T n (sp_n T n p)))))) hT hmc3 (by omega)
          refine fe_ivV hrc7 (by omega) (by rfl) (by rfl) (by rfl) (by rfl) (by rfl) (by rfl) ?_
          refine fe_s 1 (pc' := 111) (lc' := [(0, .ref 0), (1, .int 1), (2, .int 8), (3, .int 10)]) (stk' := [.int 1]) (mem' := fm gc7 tp bt a (fm_uL b 2 (82 + (A.1.2.length)) (Int64.ofNat (sp_c8 (sp_wd T n (sp_n T n p)))))) (by intro _ _ _; eq_refl) ?_
          exact fe_ret ⟨_, _, _, _, ⟨(fm_tx8_tr (fm_tx8_tr fm_tx8_rf txc3) txc7), rfl, Or.inl ⟨by omega, nmc4, by omega, rfl, rfl, hmc7⟩⟩, rfl⟩ (by rfl) (by rfl) (by rfl)
        · refine fe_s 1 (pc' := 73) (lc' := [(0, .ref 0), (1, .int 1), (2, .int 8), (3, .int 10)]) (stk' := [.int (-1), .int (nI (sp_iW A.1.2 (sp_wd T n (sp_n T n p))))]) (mem' := fm gc3 tp bt a b) (by intro _ _ _; eq_refl) ?_
          refine fe_s 1 (pc' := cond (fx_cb .eq (nI (sp_iW A.1.2 (sp_wd T n (sp_n T n p)))) (-1)) 82 76) (lc' := [(0, .ref 0), (1, .int 1), (2, .int 8), (3, .int 10)]) (stk' := []) (mem' := fm gc3 tp bt a b) (by intro _ _ _; eq_refl) ?_
          rw [show (fx_cb .eq (nI (sp_iW A.1.2 (sp_wd T n (sp_n T n p)))) (-1)) = false from cb_n_eq (by omega) (by decide)]
          dsimp only [cond]
          refine fe_s 2 (pc' := 78) (lc' := [(0, .ref 0), (1, .int 1), (2, .int 8), (3, .int 10)]) (stk' := [.int 3, .ref 0]) (mem' := fm gc3 tp bt a b) (by intro _ _ _; eq_refl) ?_
          obtain ⟨gc8, hrc8, txc8, hmc8⟩ := mr_failsx (tp := tp) (bt := bt) (a := a) (b := b) (x := 3) hmc3 (by decide) (by omega)
          refine fe_ivV hrc8 (by omega) (by rfl) (by rfl) (by rfl) (by rfl) (by rfl) (by rfl) ?_
          exact fe_ret ⟨_, _, _, _, ⟨(fm_tx8_tr (fm_tx8_tr fm_tx8_rf txc3) txc8), rfl, Or.inr ⟨rfl, rfl, Or.inr (Or.inr ⟨by omega, nmc4, by omega, hmc8⟩)⟩⟩, rfl⟩ (by rfl) (by rfl) (by rfl)
      · refine fe_s 1 (pc' := 55) (lc' := [(0, .ref 0), (1, .int 1), (2, .int 8), (3, .int 10)]) (stk' := [.int (-1), .int (nI (sp_iC A.1.1 (sp_wd T n (sp_n T n p))))]) (mem' := fm gc3 tp bt a b) (by intro _ _ _; eq_refl) ?_
        refine fe_s 1 (pc' := cond (fx_cb .ne (nI (sp_iC A.1.1 (sp_wd T n (sp_n T n p)))) (-1)) 76 58) (lc' := [(0, .ref 0), (1, .int 1), (2, .int 8), (3, .int 10)]) (stk' := []) (mem' := fm gc3 tp bt a b) (by intro _ _ _; eq_refl) ?_
        rw [show (fx_cb .ne (nI (sp_iC A.1.1 (sp_wd T n (sp_n T n p)))) (-1)) = true from cb_n_ne (by omega) (by decide)]
        dsimp only [cond]
        refine fe_s 2 (pc' := 78) (lc' := [(0, .ref 0), (1, .int 1), (2, .int 8), (3, .int 10)]) (stk' := [.int 3, .ref 0]) (mem' := fm gc3 tp bt a b) (by intro _ _ _; eq_refl) ?_
        obtain ⟨gc9, hrc9, txc9, hmc9⟩ := mr_failsx (tp := tp) (bt := bt) (a := a) (b := b) (x := 3) hmc3 (by decide) (by omega)
        refine fe_ivV hrc9 (by omega) (by rfl) (by rfl) (by rfl) (by rfl) (by rfl) (by rfl) ?_
        exact fe_ret ⟨_, _, _, _, ⟨(fm_tx8_tr (fm_tx8_tr fm_tx8_rf txc3) txc9), rfl, Or.inr ⟨rfl, rfl, Or.inr (Or.inr ⟨by omega, nmc4, by omega, hmc9⟩)⟩⟩, rfl⟩ (by rfl) (by rfl) (by rfl)
    · refine fe_s 1 (pc' := cond (fx_cb .ne 0 0) 40 34) (lc' := [(0, .ref 0), (1, .int 1), (2, .int 8), (3, .int 10)]) (stk' := []) (mem' := fm gc3 tp bt a b) (by intro _ _ _; eq_refl) ?_
      rw [show (fx_cb .ne 0 0) = false from by decide]
      dsimp only [cond]
      refine fe_s 2 (pc' := 36) (lc' := [(0, .ref 0), (1, .int 1), (2, .int 8), (3, .int 10)]) (stk' := [.int 2, .ref 0]) (mem' := fm gc3 tp bt a b) (by intro _ _ _; eq_refl) ?_
      obtain ⟨gc10, hrc10, txc10, hmc10⟩ := mr_fails2 (tp := tp) (bt := bt) (a := a) (b := b) hmc3
      refine fe_ivV hrc10 (by omega) (by rfl) (by rfl) (by rfl) (by rfl) (by rfl) (by rfl) ?_
      exact fe_ret ⟨_, _, _, _, ⟨(fm_tx8_tr (fm_tx8_tr fm_tx8_rf txc3) txc10), rfl, Or.inr ⟨rfl, rfl, Or.inr (Or.inl ⟨by omega, nmc4, hmc10⟩)⟩⟩, rfl⟩ (by rfl) (by rfl) (by rfl)
theorem md_nm {a1 : Nat → Nat → Int32} {b1 : Nat → Nat → Int64} {t : Nat} {x : Int64} (h : md_L 3368 72 A a1 b1) (h1 : ∀ i, i < A.1.1.length → t ≠ 72 + i) (h2 : ∀ i, i < A.1.2.length → t ≠ 82 + i) : md_L 3368 72 A a1 (fm_uL b1 2 t x) := by
  obtain ⟨k1, ⟨k2, k3⟩, k4⟩ := h
  refine ⟨k1, ⟨sp_nM_un k2 (fun i hi => fm_vL2 (fun z => h1 i ?_ z.symm)), sp_nM_un k3 (fun i hi => fm_vL2 (fun z => h2 i ?_ z.symm))⟩, k4⟩
  · rw [List.length_map] at hi; exact hi
  · rw [List.length_map] at hi; exact hi
theorem md_addC {a1 : Nat → Nat → Int32} {b1 : Nat → Nat → Int64} {L : List Nat} {sh : Bool} (h : md_L 3368 72 A a1 b1) (hn : A.1.1.length < 10) (hf : a1 1 (3376 + 6 * A.1.1.length) = if sh = true then 1 else 0) (hb : b1 2 (72 + A.1.1.length) = Int64.ofNat (sp_c8 L)) (hL : sp_lo L ∧ L.length ≤ 8) : md_L 3368 72 (sp_addC A L sh) (fm_u a1 1 3368 (nI (A.1.1.length + 1))) b1 := by
  obtain ⟨⟨k1, k2, k3, k4⟩, ⟨k5, k6⟩, k7, k8, k9, k10⟩ := h
  have hl : (A.1.1 ++ [(L, sh)]).length = A.1.1.length + 1 := by rw [List.length_append]; rfl
  refine ⟨⟨?_, ?_, (fm_v1 (by decide)).trans k3, k4⟩, ⟨?_, k6⟩, fun c hc => ?_, fun i hi => (fm_v1 (by omega)).trans (k8 i hi), fun i hi => (fm_v1 (by omega)).trans (k9 i hi), fun i L w hi => ⟨(fm_v1 (by omega)).trans (k10 i L w hi).1, (k10 i L w hi).2⟩⟩
  · rw [fm_v1s]
    show _ = nI (A.1.1 ++ [(L, sh)]).length
    rw [hl]
  · show (A.1.1 ++ [(L, sh)]).length ≤ 10
    omega
  · show sp_nM (fun i => b1 2 (72 + i)) ((A.1.1 ++ [(L, sh)]).map Prod.fst)
    rw [List.map_append]
    refine sp_nM_add k5 (fun i hi => rfl) ?_ hL.1 hL.2
    show b1 2 (72 + (A.1.1.map Prod.fst).length) = _
    rw [List.length_map]
    exact hb
  · have hc : c < (A.1.1 ++ [(L, sh)]).length := hc
    rw [hl] at hc
    rw [sp_sh_add]
    refine (fm_v1 (by omega)).trans ?_
    by_cases e : c = A.1.1.length
    · rw [if_pos e, e]; exact hf
    · rw [if_neg e]; exact k7 c (by omega)
theorem md_addW {a1 : Nat → Nat → Int32} {b1 : Nat → Nat → Int64} {L : List Nat} {w : Nat} (h : md_L 3368 72 A a1 b1) (hn : A.1.2.length < 8) (hf : a1 1 (3646 + 5 * A.1.2.length) = nI w) (hw : 1 ≤ w ∧ w ≤ 99) (hb : b1 2 (82 + A.1.2.length) = Int64.ofNat (sp_c8 L)) (hL : sp_lo L ∧ L.length ≤ 8) : md_L 3368 72 (sp_addW A L w) (fm_u a1 1 3369 (nI (A.1.2.length + 1))) b1 := by
  obtain ⟨⟨k1, k2, k3, k4⟩, ⟨k5, k6⟩, k7, k8, k9, k10⟩ := h
  have hl : (A.1.2 ++ [(L, w)]).length = A.1.2.length + 1 := by rw [List.length_append]; rfl
  refine ⟨⟨(fm_v1 (by decide)).trans k1, k2, ?_, ?_⟩, ⟨k5, ?_⟩, fun c hc => (fm_v1 (by omega)).trans (k7 c hc), fun i hi => (fm_v1 (by omega)).trans (k8 i hi), fun i hi => (fm_v1 (by omega)).trans (k9 i hi), fun i M v hi => ?_⟩
  · rw [fm_v1s]
    show _ = nI (A.1.2 ++ [(L, w)]).length
    rw [hl]
  · show (A.1.2 ++ [(L, w)]).length ≤ 8
    omega
  · show sp_nM (fun i => b1 2 (72 + 10 + i)) ((A.1.2 ++ [(L, w)]).map Prod.fst)
    rw [List.map_append]
    refine sp_nM_add k6 (fun i hi => rfl) ?_ hL.1 hL.2
    show b1 2 (72 + 10 + (A.1.2.map Prod.fst).length) = _
    rw [List.length_map]
    exact hb
  · rw [fm_v1 (by omega)]
    rcases sp_W_get hi with ⟨j1, j2⟩ | ⟨j1, rfl⟩
    · exact k10 i M v j2
    · rw [j1]; exact ⟨hf, hw⟩
theorem md_way {a1 : Nat → Nat → Int32} {b1 : Nat → Nat → Int64} {i j : Nat} (hi : i < 10) (hj : j < 10) (h : md_L 3368 72 A a1 b1) : md_L 3368 72 (A.1, sp_pr A.2.1 i j, A.2.2) (fm_u (fm_u a1 1 (3376 + 6 * i + 2) (a1 1 (3376 + 6 * i + 2) ||| ((1 : Int32) <<< (nI j &&& 31)))) 1 (3376 + 6 * j + 2) ((fm_u a1 1 (3376 + 6 * i + 2) (a1 1 (3376 + 6 * i + 2) ||| ((1 : Int32) <<< (nI j &&& 31)))) 1 (3376 + 6 * j + 2) ||| ((1 : Int32) <<< (nI i &&& 31)))) b1 := by
  obtain ⟨⟨k1, k2, k3, k4⟩, k5, k7, k8, k9, k10⟩ := h
  have e1 : a1 1 (3376 + 6 * i + 2) = A.2.1 i := k8 i hi
  have e2 : ∀ k, k < 10 → (fm_u a1 1 (3376 + 6 * i + 2) (a1 1 (3376 + 6 * i + 2) ||| ((1 : Int32) <<< (nI j &&& 31)))) 1 (3376 + 6 * k + 2) = upd A.2.1 i (A.2.1 i ||| ((1 : Int32) <<< (nI j &&& 31))) k := fun k hk => by
    by_cases e : k = i
    · rw [e, fm_v1s, pk_us, e1]
    · rw [fm_v1 (by omega), pk_un e]; exact k8 k hk
  refine ⟨⟨(fm_v1 (by omega)).trans ((fm_v1 (by omega)).trans k1), k2, (fm_v1 (by omega)).trans ((fm_v1 (by omega)).trans k3), k4⟩, k5, fun c hc => (fm_v1 (by omega)).trans ((fm_v1 (by omega)).trans (k7 c hc)), fun k hk => ?_, fun k hk => (fm_v1 (by omega)).trans ((fm_v1 (by omega)).trans (k9 k hk)), fun k L w hk => ⟨(fm_v1 (by omega)).trans ((fm_v1 (by omega)).trans (k10 k L w hk).1), (k10 k L w hk).2⟩⟩
  show _ = sp_pr A.2.1 i j k
  unfold sp_pr
  rw [e2 j hj]
  by_cases e : k = j
  · rw [e, pk_us]
    exact fm_v1s
  · rw [pk_un e, ← e2 k hk]
    exact fm_v1 (by omega)
theorem md_bes {a1 : Nat → Nat → Int32} {b1 : Nat → Nat → Int64} {i j : Nat} (hi : i < 10) (hj : j < 10) (h : md_L 3368 72 A a1 b1) : md_L 3368 72 (A.1, A.2.1, sp_pr A.2.2 i j) (fm_u (fm_u a1 1 (3376 + 6 * i + 3) (a1 1 (3376 + 6 * i + 3) ||| ((1 : Int32) <<< (nI j &&& 31)))) 1 (3376 + 6 * j + 3) ((fm_u a1 1 (3376 + 6 * i + 3) (a1 1 (3376 + 6 * i + 3) ||| ((1 : Int32) <<< (nI j &&& 31)))) 1 (3376 + 6 * j + 3) ||| ((1 : Int32) <<< (nI i &&& 31)))) b1 := by
  obtain ⟨⟨k1, k2, k3, k4⟩, k5, k7, k8, k9, k10⟩ := h
  have e1 : a1 1 (3376 + 6 * i + 3) = A.2.2 i := k9 i hi
  have e2 : ∀ k, k < 10 → (fm_u a1 1 (3376 + 6 * i + 3) (a1 1 (3376 + 6 * i + 3) ||| ((1 : Int32) <<< (nI j &&& 31)))) 1 (3376 + 6 * k + 3) = upd A.2.2 i (A.2.2 i ||| ((1 : Int32) <<< (nI j &&& 31))) k := fun k hk => by
    by_cases e : k = i
    · rw [e, fm_v1s, pk_us, e1]
    · rw [fm_v1 (by omega), pk_un e]; exact k9 k hk
  refine ⟨⟨(fm_v1 (by omega)).trans ((fm_v1 (by omega)).trans k1), k2, (fm_v1 (by omega)).trans ((fm_v1 (by omega)).trans k3), k4⟩, k5, fun c hc => (fm_v1 (by omega)).trans ((fm_v1 (by omega)).trans (k7 c hc)), fun k hk => (fm_v1 (by omega)).trans ((fm_v1 (by omega)).trans (k8 k hk)), fun k hk => ?_, fun k L w hk => ⟨(fm_v1 (by omega)).trans ((fm_v1 (by omega)).trans (k10 k L w hk).1), (k10 k L w hk).2⟩⟩
  show _ = sp_pr A.2.2 i j k
  unfold sp_pr
  rw [e2 j hj]
  by_cases e : k = j
  · rw [e, pk_us]
    exact fm_v1s
  · rw [pk_un e, ← e2 k hk]
    exact fm_v1 (by omega)
theorem mst_b0 : ∀ s, s < 8 → ∀ k, k < 3 → s / 2 ^ k % 2 = 1 → (nI (32 * s) >>> (nI (5 + k) &&& 31)) &&& 1 = 1 := by decide +kernel
theorem mst_b1 : ∀ s, s < 8 → ∀ k, k < 3 → ¬ s / 2 ^ k % 2 = 1 → ¬ (nI (32 * s) >>> (nI (5 + k) &&& 31)) &&& 1 = 1 ∧ nI (32 * s) ||| ((1 : Int32) <<< (nI (5 + k) &&& 31)) = nI (32 * (s + 2 ^ k)) ∧ s + 2 ^ k < 8 := by decide +kernel
theorem mr_aCell0 (hT : mT a T n) (hA : md_L 3368 72 A a b) (h : mo g T n p) (hst : s < 8 ∧ g 20 = nI (32 * s)) (hk : sp_k T n p = 1) : ∃ (v : Int32) (g' : Nat → Int32) (a' : Nat → Nat → Int32) (b' : Nat → Nat → Int64), fr_T 8 239 [.ref 0, .int 0] (fm g tp bt a b) (some (.int v)) (fm g' tp bt a' b') ∧ fm_tx8 g g' ∧ mfa a a' ∧ mfb b b' ∧ mPart T n (sp_pCell T n A s p false) v g' a' b' := by
  suffices h : ∃ (v : Option Value) (mem' : fx_M), (fun R => ∃ (v : Int32) (g' : Nat → Int32) (a' : Nat → Nat → Int32) (b' : Nat → Nat → Int64), (fm_tx8 g g' ∧ mfa a a' ∧ mfb b b' ∧ mPart T n (sp_pCell T n A s p false) v g' a' b') ∧ R = (some (.int v), fm g' tp bt a' b')) (v, mem') ∧ fr_T 8 239 [.ref 0, .int 0] (fm g tp bt a b) v mem' by
    obtain ⟨v, mem', ⟨w, g', a', b', h1, hR⟩, h2⟩ := h
    cases hR
    exact ⟨w, g', a', b', h2, h1⟩
  refine fe_meth (f := 239) (as := [.ref 0, .int 0]) (F := fun R => ∃ (v : Int32) (g' : Nat → Int32) (a' : Nat → Nat → Int32) (b' : Nat → Nat → Int64), (fm_tx8 g g' ∧ mfa a a' ∧ mfb b b' ∧ mPart T n (sp_pCell T n A s p false) v g' a' b') ∧ R = (some (.int v), fm g' tp bt a' b')) (M := gk_m239) (by rfl) (by rfl) ?_
  have hq0 := hA.1.2.1
  have hq1 := hA.1.2.2.2
  refine fe_s 5 (pc' := 12) (lc' := [(0, .ref 0), (1, .int 0)]) (stk' := [.int 3368, .ref 1, .int 6, .int 3376]) (mem' := fm g tp bt a b) (by intro _ _ _; eq_refl) ?_
  refine fe_ldI (by rfl) (by rfl) (fx_inN (i := 3368) (by omega) (by omega)) ?_
  rw [show Int32.toNatClampNeg (3368) = 3368 from rfl]
  rw [show a 1 3368 = nI (A.1.1.length) from hA.1.1]
  refine fe_s 7 (pc' := 21) (lc' := [(2, .int (3376 + (6 * (nI (A.1.1.length))))), (0, .ref 0), (1, .int 0)]) (stk' := [.int 0, .int 10, .int 0, .ref 0]) (mem' := fm g tp bt a b) (by intro _ _ _; eq_refl) ?_
  rw [show (3376 + (6 * (nI (A.1.1.length))) : Int32) = nI (3376 + (6 * (A.1.1.length))) from by simp only [show (3376 : Int32) = nI 3376 from rfl, show (6 : Int32) = nI 6 from rfl, nI_add, fm_mul]]
  obtain ⟨xc1, gc1, ac1, bc1, hrc1, txc1, eac1, hxc1⟩ := mr_newC (tp := tp) (bt := bt) hT hA h hk
  rw [eac1] at hrc1
  refine fe_ivV hrc1 (by omega) (by rfl) (by rfl) (by rfl) (by rfl) (by rfl) (by rfl) ?_
  rcases hxc1 with ⟨hfc1, nmc1, htc1, rfl, ebc1, hmc1⟩ | ⟨ebc1, rfl, ⟨hfc1, hmc1⟩ | ⟨hfc1, nmc1, hmc1⟩ | ⟨hfc1, nmc1, htc1, hmc1⟩⟩
  · rw [ebc1]
    have hAc1 := md_nm (t := 72 + A.1.1.length) (x := Int64.ofNat (sp_c8 (sp_wd T n (sp_n T n p)))) hA (fun i hi => by omega) (fun i hi => by omega)
    refine fe_s 1 (pc' := cond (fx_cb .ne 1 0) 29 27) (lc' := [(2, .int (nI (3376 + (6 * (A.1.1.length))))), (0, .ref 0), (1, .int 0)]) (stk' := []) (mem' := fm gc1 tp bt a (fm_uL b 2 (72 + A.1.1.length) (Int64.ofNat (sp_c8 (sp_wd T n (sp_n T n p)))))) (by intro _ _ _; eq_refl) ?_
    rw [show (fx_cb .ne 1 0) = true from by decide]
    dsimp only [cond]
    refine fe_s 4 (pc' := 35) (lc' := [(2, .int (nI (3376 + (6 * (A.1.1.length))))), (0, .ref 0), (1, .int 0)]) (stk' := [.int 0, .int (nI (3376 + (6 * (A.1.1.length)))), .ref 1]) (mem' := fm gc1 tp bt a (fm_uL b 2 (72 + A.1.1.length) (Int64.ofNat (sp_c8 (sp_wd T n (sp_n T n p)))))) (by intro _ _ _; eq_refl) ?_
    refine fe_s 1 (pc' := cond (fx_cb .eq 0 0) 42 38) (lc' := [(2, .int (nI (3376 + (6 * (A.1.1.length))))), (0, .ref 0), (1, .int 0)]) (stk' := [.int (nI (3376 + (6 * (A.1.1.length)))), .ref 1]) (mem' := fm gc1 tp bt a (fm_uL b 2 (72 + A.1.1.length) (Int64.ofNat (sp_c8 (sp_wd T n (sp_n T n p)))))) (by intro _ _ _; eq_refl) ?_
    rw [show (fx_cb .eq 0 0) = true from by decide]
    dsimp only [cond]
    refine fe_s 1 (pc' := 43) (lc' := [(2, .int (nI (3376 + (6 * (A.1.1.length))))), (0, .ref 0), (1, .int 0)]) (stk' := [.int 0, .int (nI (3376 + (6 * (A.1.1.length)))), .ref 1]) (mem' := fm gc1 tp bt a (fm_uL b 2 (72 + A.1.1.length) (Int64.ofNat (sp_c8 (sp_wd T n (sp_n T n p)))))) (by intro _ _ _; eq_refl) ?_
    refine fe_stI (mem' := fm gc1 tp bt (fm_u a 1 (nI (3376 + (6 * (A.1.1.length))) : Int32).toNatClampNeg 0) (fm_uL b 2 (72 + A.1.1.length) (Int64.ofNat (sp_c8 (sp_wd T n (sp_n T n p)))))) (by rfl) (by rfl) (fx_inN (i := 3376 + (6 * (A.1.1.length))) (by omega) (by omega)) fm_si1 ?_
    rw [show Int32.toNatClampNeg (nI (3376 + (6 * (A.1.1.length)))) = 3376 + (6 * (A.1.1.length)) from nI_clamp (by omega)]
    have hTw2 := mT_u (t := 1) (i := 3376 + (6 * (A.1.1.length))) (x := 0) (by decide) hT
    have hAw2 := md_u (t := 3376 + (6 * (A.1.1.length))) (x := 0) hAc1 (by omega) (by omega) (fun c hc => by omega) (fun i hi => by omega) (fun i hi => by omega)
    refine fe_s 1 (pc' := 45) (lc' := [(2, .int (nI (3376 + (6 * (A.1.1.length))))), (0, .ref 0), (1, .int 0)]) (stk' := [.int 0]) (mem' := fm gc1 tp bt (fm_u a 1 (3376 + (6 * (A.1.1.length))) 0) (fm_uL b 2 (72 + A.1.1.length) (Int64.ofNat (sp_c8 (sp_wd T n (sp_n T n p)))))) (by intro _ _ _; eq_refl) ?_
    refine fe_s 1 (pc' := cond (fx_cb .ne 0 0) 75 48) (lc' := [(2, .int (nI (3376 + (6 * (A.1.1.length))))), (0, .ref 0), (1, .int 0)]) (stk' := []) (mem' := fm gc1 tp bt (fm_u a 1 (3376 + (6 * (A.1.1.length))) 0) (fm_uL b 2 (72 + A.1.1.length) (Int64.ofNat (sp_c8 (sp_wd T n (sp_n T n p)))))) (by intro _ _ _; eq_refl) ?_
    rw [show (fx_cb .ne 0 0) = false from by decide]
    dsimp only [cond]
    refine fe_s 3 (pc' := 53) (lc' := [(2, .int (nI (3376 + (6 * (A.1.1.length))))), (0, .ref 0), (1, .int 0)]) (stk' := [.int 8, .ref 22, .ref 0]) (mem' := fm gc1 tp bt (fm_u a 1 (3376 + (6 * (A.1.1.length))) 0) (fm_uL b 2 (72 + A.1.1.length) (Int64.ofNat (sp_c8 (sp_wd T n (sp_n T n p)))))) (by intro _ _ _; eq_refl) ?_
    obtain ⟨xc3, gc3, hrc3, txc3, hxc3⟩ := mr_wantWord (m := 8) (c := 1) (tp := tp) (bt := bt) (b := (fm_uL b 2 (72 + A.1.1.length) (Int64.ofNat (sp_c8 (sp_wd T n (sp_n T n p)))))) hTw2 (by decide) (by decide) (by decide) hmc1
    refine fe_ivV hrc3 (by omega) (by rfl) (by rfl) (by rfl) (by rfl) (by rfl) (by rfl) ?_
    rcases hxc3 with ⟨hwc3, rfl, hmc3⟩ | ⟨hwc3, rfl, hmc3⟩
    · refine fe_s 1 (pc' := cond (fx_cb .eq 1 0) 73 59) (lc' := [(2, .int (nI (3376 + (6 * (A.1.1.length))))), (0, .ref 0), (1, .int 0)]) (stk' := []) (mem' := fm gc3 tp bt (fm_u a 1 (3376 + (6 * (A.1.1.length))) 0) (fm_uL b 2 (72 + A.1.1.length) (Int64.ofNat (sp_c8 (sp_wd T n (sp_n T n p)))))) (by intro _ _ _; eq_refl) ?_
      rw [show (fx_cb .eq 1 0) = false from by decide]
      dsimp only [cond]
      refine fe_s 6 (pc' := 67) (lc' := [(2, .int (nI (3376 + (6 * (A.1.1.length))))), (0, .ref 0), (1, .int 0)]) (stk' := [.int 200, .int 0, .int ((nI (3376 + (6 * (A.1.1.length)))) + 1), .ref 0]) (mem' := fm gc3 tp bt (fm_u a 1 (3376 + (6 * (A.1.1.length))) 0) (fm_uL b 2 (72 + A.1.1.length) (Int64.ofNat (sp_c8 (sp_wd T n (sp_n T n p)))))) (by intro _ _ _; eq_refl) ?_
      rw [show ((nI (3376 + (6 * (A.1.1.length)))) + 1 : Int32) = nI ((3376 + (6 * (A.1.1.length))) + 1) from by simp only [show (1 : Int32) = nI 1 from rfl, nI_add, fm_mul]]
      obtain ⟨xc4, gc4, ac4, hrc4, txc4, hxc4⟩ := mr_number (t := (3376 + (6 * (A.1.1.length))) + 1) (lo := 0) (hi := 200) (tp := tp) (bt := bt) (b := (fm_uL b 2 (72 + A.1.1.length) (Int64.ofNat (sp_c8 (sp_wd T n (sp_n T n p)))))) hTw2 (by omega) (by decide) (by decide) hmc3
      refine fe_ivV hrc4 (by omega) (by rfl) (by rfl) (by rfl) (by rfl) (by rfl) (by rfl) ?_
      rcases hxc4 with ⟨hwc4, hvc4, rfl, eac4, hmc4⟩ | ⟨hwc4, hvc4, rfl, eac4, hmc4⟩ | ⟨hwc4, rfl, eac4, hmc4⟩
      · rw [eac4]
        have hTw5 := mT_u (t := 1) (i := (3376 + (6 * (A.1.1.length))) + 1) (x := nI (sp_v T n (sp_n T n (sp_n T n (sp_n T n p))))) (by decide) hTw2
        have hAw5 := md_u (t := (3376 + (6 * (A.1.1.length))) + 1) (x := nI (sp_v T n (sp_n T n (sp_n T n (sp_n T n p))))) hAw2 (by omega) (by omega) (fun c hc => by omega) (fun i hi => by omega) (fun i hi => by omega)
        refine fe_s 1 (pc' := cond (fx_cb .ne 1 0) 75 73) (lc' := [(2, .int (nI (3376 + (6 * (A.1.1.length))))), (0, .ref 0), (1, .int 0)]) (stk' := []) (mem' := fm gc4 tp bt (fm_u (fm_u a 1 (3376 + (6 * (A.1.1.length))) 0) 1 ((3376 + (6 * (A.1.1.length))) + 1) (nI (sp_v T n (sp_n T n (sp_n T n (sp_n T n p)))))) (fm_uL b 2 (72 + A.1.1.length) (Int64.ofNat (sp_c8 (sp_wd T n (sp_n T n p)))))) (by intro _ _ _; eq_refl) ?_
        rw [show (fx_cb .ne 1 0) = true from by decide]
        dsimp only [cond]
        refine fe_s 4 (pc' := 83) (lc' := [(2, .int (nI (3376 + (6 * (A.1.1.length))))), (0, .ref 0), (1, .int 0)]) (stk' := [.int 3368, .ref 1, .int 3368, .ref 1]) (mem' := fm gc4 tp bt (fm_u (fm_u a 1 (3376 + (6 * (A.1.1.length))) 0) 1 ((3376 + (6 * (A.1.1.length))) + 1) (nI (sp_v T n (sp_n T n (sp_n T n (sp_n T n p)))))) (fm_uL b 2 (72 + A.1.1.length) (Int64.ofNat (sp_c8 (sp_wd T n (sp_n T n p)))))) (by intro _ _ _; eq_refl) ?_
        refine fe_ldI (by rfl) (by rfl) (fx_inN (i := 3368) (by omega) (by omega)) ?_
        rw [show Int32.toNatClampNeg (3368) = 3368 from rfl]
        rw [show (fm_u (fm_u a 1 (3376 + (6 * (A.1.1.length))) 0) 1 ((3376 + (6 * (A.1.1.length))) + 1) (nI (sp_v T n (sp_n T n (sp_n T n (sp_n T n p)))))) 1 3368 = nI (A.1.1.length) from hAw5.1.1]
        refine fe_s 2 (pc' := 86) (lc' := [(2, .int (nI (3376 + (6 * (A.1.1.length))))), (0, .ref 0), (1, .int 0)]) (stk' := [.int ((nI (A.1.1.length)) + 1), .int 3368, .ref 1]) (mem' := fm gc4 tp bt (fm_u (fm_u a 1 (3376 + (6 * (A.1.1.length))) 0) 1 ((3376 + (6 * (A.1.1.length))) + 1) (nI (sp_v T n (sp_n T n (sp_n T n (sp_n T n p)))))) (fm_uL b 2 (72 + A.1.1.length) (Int64.ofNat (sp_c8 (sp_wd T n (sp_n T n p)))))) (by intro _ _ _; eq_refl) ?_
        rw [show ((nI (A.1.1.length)) + 1 : Int32) = nI ((A.1.1.length) + 1) from by simp only [show (1 : Int32) = nI 1 from rfl, nI_add, fm_mul]]
        refine fe_stI (mem' := fm gc4 tp bt (fm_u (fm_u (fm_u a 1 (3376 + (6 * (A.1.1.length))) 0) 1 ((3376 + (6 * (A.1.1.length))) + 1) (nI (sp_v T n (sp_n T n (sp_n T n (sp_n T n p)))))) 1 (3368 : Int32).toNatClampNeg (nI ((A.1.1.length) + 1))) (fm_uL b 2 (72 + A.1.1.length) (Int64.ofNat (sp_c8 (sp_wd T n (sp_n T n p)))))) (by rfl) (by rfl) (fx_inN (i := 3368) (by omega) (by omega)) fm_si1 ?_
        rw [show Int32.toNatClampNeg (3368) = 3368 from rfl]
        have hTw6 := mT_u (t := 1) (i := 3368) (x := nI ((A.1.1.length) + 1)) (by decide) hTw5
        refine fe_s 1 (pc' := 88) (lc' := [(2, .int (nI (3376 + (6 * (A.1.1.length))))), (0, .ref 0), (1, .int 0)]) (stk' := [.int 1]) (mem' := fm gc4 tp bt (fm_u (fm_u (fm_u a 1 (3376 + (6 * (A.1.1.length))) 0) 1 ((3376 + (6 * (A.1.1.length))) + 1) (nI (sp_v T n (sp_n T n (sp_n T n (sp_n T n p)))))) 1 3368 (nI ((A.1.1.length) + 1))) (fm_uL b 2 (72 + A.1.1.length) (Int64.ofNat (sp_c8 (sp_wd T n (sp_n T n p)))))) (by intro _ _ _; eq_refl) ?_
        refine fe_ret ⟨1, _, _, _, ⟨(fm_tx8_tr (fm_tx8_tr (fm_tx8_tr fm_tx8_rf txc1) txc3) txc4), (mfa_u (mfa_u (mfa_u mfa_rf (by omega)) (by omega)) (by omega)), (mfb_u mfb_rf (by omega)), Or.inl ⟨rfl, sp_addC A (sp_wd T n (sp_n T n p)) false, s, (sp_n T n (sp_n T n (sp_n T n (sp_n T n p)))), ?_, hmc4, ?_, hst.1, (((fm_tx8_tr (fm_tx8_tr (fm_tx8_tr fm_tx8_rf txc1) txc3) txc4) 20 (by decide) (by decide) (by decide) (by decide) (by decide) (by decide)).trans hst.2)⟩⟩, rfl⟩ (by rfl) (by rfl) (by rfl)
        · unfold sp_pCell
          rw [if_neg (by omega), sp_new_t nmc1 htc1, if_neg (by decide), sp_word_t hwc3, sp_num_t hwc4 hvc4]
        · refine md_addC (sh := false) hAw5 (by omega) ?_ fm_vL2s (sp_nm_lt (sp_n_le h.1) nmc1)
          rw [fm_v1 (by omega)]; exact fm_v1s
      · rw [eac4]
        refine fe_s 1 (pc' := cond (fx_cb .ne 0 0) 75 73) (lc' := [(2, .int (nI (3376 + (6 * (A.1.1.length))))), (0, .ref 0), (1, .int 0)]) (stk' := []) (mem' := fm gc4 tp bt (fm_u a 1 (3376 + (6 * (A.1.1.length))) 0) (fm_uL b 2 (72 + A.1.1.length) (Int64.ofNat (sp_c8 (sp_wd T n (sp_n T n p)))))) (by intro _ _ _; eq_refl) ?_
        rw [show (fx_cb .ne 0 0) = false from by decide]
        dsimp only [cond]
        refine fe_s 1 (pc' := 74) (lc' := [(2, .int (nI (3376 + (6 * (A.1.1.length))))), (0, .ref 0), (1, .int 0)]) (stk' := [.int 0]) (mem' := fm gc4 tp bt (fm_u a 1 (3376 + (6 * (A.1.1.length))) 0) (fm_uL b 2 (72 + A.1.1.length) (Int64.ofNat (sp_c8 (sp_wd T n (sp_n T n p)))))) (by intro _ _ _; eq_refl) ?_
        refine fe_ret ⟨0, _, _, _, ⟨(fm_tx8_tr (fm_tx8_tr (fm_tx8_tr fm_tx8_rf txc1) txc3) txc4), (mfa_u mfa_rf (by omega)), (mfb_u mfb_rf (by omega)), Or.inr ⟨rfl, (4, sp_s T n (sp_n T n (sp_n T n (sp_n T n p)))), ?_, hmc4⟩⟩, rfl⟩ (by rfl) (by rfl) (by rfl)
        unfold sp_pCell
        rw [if_neg (by omega), sp_new_t nmc1 htc1, if_neg (by decide), sp_word_t hwc3, sp_num_4 hwc4 hvc4]
      · rw [eac4]
        refine fe_s 1 (pc' := cond (fx_cb .ne 0 0) 75 73) (lc' := [(2, .int (nI (3376 + (6 * (A.1.1.length))))), (0, .ref 0), (1, .int 0)]) (stk' := []) (mem' := fm gc4 tp bt (fm_u a 1 (3376 + (6 * (A.1.1.length))) 0) (fm_uL b 2 (72 + A.1.1.length) (Int64.ofNat (sp_c8 (sp_wd T n (sp_n T n p)))))) (by intro _ _ _; eq_refl) ?_
        rw [show (fx_cb .ne 0 0) = false from by decide]
        dsimp only [cond]
        refine fe_s 1 (pc' := 74) (lc' := [(2, .int (nI (3376 + (6 * (A.1.1.length))))), (0, .ref 0), (1, .int 0)]) (stk' := [.int 0]) (mem' := fm gc4 tp bt (fm_u a 1 (3376 + (6 * (A.1.1.length))) 0) (fm_uL b 2 (72 + A.1.1.length) (Int64.ofNat (sp_c8 (sp_wd T n (sp_n T n p)))))) (by intro _ _ _; eq_refl) ?_
        refine fe_ret ⟨0, _, _, _, ⟨(fm_tx8_tr (fm_tx8_tr (fm_tx8_tr fm_tx8_rf txc1) txc3) txc4), (mfa_u mfa_rf (by omega)), (mfb_u mfb_rf (by omega)), Or.inr ⟨rfl, (sp_m T n (sp_n T n (sp_n T n (sp_n T n p))), sp_s T n (sp_n T n (sp_n T n (sp_n T n p)))), ?_, hmc4⟩⟩, rfl⟩ (by rfl) (by rfl) (by rfl)
        unfold sp_pCell
        rw [if_neg (by omega), sp_new_t nmc1 htc1, if_neg (by decide), sp_word_t hwc3, sp_num_f hwc4]
    · refine fe_s 1 (pc' := cond (fx_cb .eq 0 0) 73 59) (lc' := [(2, .int (nI (3376 + (6 * (A.1.1.length))))), (0, .ref 0), (1, .int 0)]) (stk' := []) (mem' := fm gc3 tp bt (fm_u a 1 (3376 + (6 * (A.1.1.length))) 0) (fm_uL b 2 (72 + A.1.1.length) (Int64.ofNat (sp_c8 (sp_wd T n (sp_n T n p)))))) (by intro _ _ _; eq_refl) ?_
      rw [show (fx_cb .eq 0 0) = true from by decide]
      dsimp only [cond]
      refine fe_s 1 (pc' := 74) (lc' := [(2, .int (nI (3376 + (6 * (A.1.1.length))))), (0, .ref 0), (1, .int 0)]) (stk' := [.int 0]) (mem' := fm gc3 tp bt (fm_u a 1 (3376 + (6 * (A.1.1.length))) 0) (fm_uL b 2 (72 + A.1.1.length) (Int64.ofNat (sp_c8 (sp_wd T n (sp_n T n p)))))) (by intro _ _ _; eq_refl) ?_
      refine fe_ret ⟨0, _, _, _, ⟨(fm_tx8_tr (fm_tx8_tr fm_tx8_rf txc1) txc3), (mfa_u mfa_rf (by omega)), (mfb_u mfb_rf (by omega)), Or.inr ⟨rfl, (sp_m T n (sp_n T n (sp_n T n p)), sp_s T n (sp_n T n (sp_n T n p))), ?_, hmc3⟩⟩, rfl⟩ (by rfl) (by rfl) (by rfl)
      unfold sp_pCell
      rw [if_neg (by omega), sp_new_t nmc1 htc1, if_neg (by decide), sp_word_f hwc3]
  · rw [ebc1]
    refine fe_s 1 (pc' := cond (fx_cb .ne 0 0) 29 27) (lc' := [(2, .int (nI (3376 + (6 * (A.1.1.length))))), (0, .ref 0), (1, .int 0)]) (stk' := []) (mem' := fm gc1 tp bt a b) (by intro _ _ _; eq_refl) ?_
    rw [show (fx_cb .ne 0 0) = false from by decide]
    dsimp only [cond]
    refine fe_s 1 (pc' := 28) (lc' := [(2, .int (nI (3376 + (6 * (A.1.1.length))))), (0, .ref 0), (1, .int 0)]) (stk' := [.int 0]) (mem' := fm gc1 tp bt a b) (by intro _ _ _; eq_refl) ?_
    refine fe_ret ⟨0, _, _, _, ⟨(fm_tx8_tr fm_tx8_rf txc1), mfa_rf, mfb_rf, Or.inr ⟨rfl, (6, sp_s T n p), ?_, hmc1⟩⟩, rfl⟩ (by rfl) (by rfl) (by rfl)
    unfold sp_pCell
    rw [if_pos (by omega)]
    try rfl
  · rw [ebc1]
    refine fe_s 1 (pc' := cond (fx_cb .ne 0 0) 29 27) (lc' := [(2, .int (nI (3376 + (6 * (A.1.1.length))))), (0, .ref 0), (1, .int 0)]) (stk' := []) (mem' := fm gc1 tp bt a b) (by intro _ _ _; eq_refl) ?_
    rw [show (fx_cb .ne 0 0) = false from by decide]
    dsimp only [cond]
    refine fe_s 1 (pc' := 28) (lc' := [(2, .int (nI (3376 + (6 * (A.1.1.length))))), (0, .ref 0), (1, .int 0)]) (stk' := [.int 0]) (mem' := fm gc1 tp bt a b) (by intro _ _ _; eq_refl) ?_
    refine fe_ret ⟨0, _, _, _, ⟨(fm_tx8_tr fm_tx8_rf txc1), mfa_rf, mfb_rf, Or.inr ⟨rfl, (sp_m T n (sp_n T n p), sp_s T n (sp_n T n p)), ?_, hmc1⟩⟩, rfl⟩ (by rfl) (by rfl) (by rfl)
    unfold sp_pCell
    rw [if_neg (by omega), sp_new_f nmc1]
  · rw [ebc1]
    refine fe_s 1 (pc' := cond (fx_cb .ne 0 0) 29 27) (lc' := [(2, .int (nI (3376 + (6 * (A.1.1.length))))), (0, .ref 0), (1, .int 0)]) (stk' := []) (mem' := fm gc1 tp bt a b) (by intro _ _ _; eq_refl) ?_
    rw [show (fx_cb .ne 0 0) = false from by decide]
    dsimp only [cond]
    refine fe_s 1 (pc' := 28) (lc' := [(2, .int (nI (3376 + (6 * (A.1.1.length))))), (0, .ref 0), (1, .int 0)]) (stk' := [.int 0]) (mem' := fm gc1 tp bt a b) (by intro _ _ _; eq_refl) ?_
    refine fe_ret ⟨0, _, _, _, ⟨(fm_tx8_tr fm_tx8_rf txc1), mfa_rf, mfb_rf, Or.inr ⟨rfl, (3, sp_s T n (sp_n T n p)), ?_, hmc1⟩⟩, rfl⟩ (by rfl) (by rfl) (by rfl)
    unfold sp_pCell
    rw [if_neg (by omega), sp_new_3 nmc1 htc1]
theorem mr_aCell1 (hT : mT a T n) (hA : md_L 3368 72 A a b) (h : mo g T n p) (hst : s < 8 ∧ g 20 = nI (32 * s)) (hk : sp_k T n p = 1) : ∃ (v : Int32) (g' : Nat → Int32) (a' : Nat → Nat → Int32) (b' : Nat → Nat → Int64), fr_T 8 239 [.ref 0, .int 1] (fm g tp bt a b) (some (.int v)) (fm g' tp bt a' b') ∧ fm_tx8 g g' ∧ mfa a a' ∧ mfb b b' ∧ mPart T n (sp_pCell T n A s p true) v g' a' b' := by
  suffices h : ∃ (v : Option Value) (mem' : fx_M), (fun R => ∃ (v : Int32) (g' : Nat → Int32) (a' : Nat → Nat → Int32) (b' : Nat → Nat → Int64), (fm_tx8 g g' ∧ mfa a a' ∧ mfb b b' ∧ mPart T n (sp_pCell T n A s p true) v g' a' b') ∧ R = (some (.int v), fm g' tp bt a' b')) (v, mem') ∧ fr_T 8 239 [.ref 0, .int 1] (fm g tp bt a b) v mem' by
    obtain ⟨v, mem', ⟨w, g', a', b', h1, hR⟩, h2⟩ := h
    cases hR
    exact ⟨w, g', a', b', h2, h1⟩
  refine fe_meth (f := 239) (as := [.ref 0, .int 1]) (F := fun R => ∃ (v : Int32) (g' : Nat → Int32) (a' : Nat → Nat → Int32) (b' : Nat → Nat → Int64), (fm_tx8 g g' ∧ mfa a a' ∧ mfb b b' ∧ mPart T n (sp_pCell T n A s p true) v g' a' b') ∧ R = (some (.int v), fm g' tp bt a' b')) (M := gk_m239) (by rfl) (by rfl) ?_
  have hq0 := hA.1.2.1
  have hq1 := hA.1.2.2.2
  refine fe_s 5 (pc' := 12) (lc' := [(0, .ref 0), (1, .int 1)]) (stk' := [.int 3368, .ref 1, .int 6, .int 3376]) (mem' := fm g tp bt a b) (by intro _ _ _; eq_refl) ?_
  refine fe_ldI (by rfl) (by rfl) (fx_inN (i := 3368) (by omega) (by omega)) ?_
  rw [show Int32.toNatClampNeg (3368) = 3368 from rfl]
  rw [show a 1 3368 = nI (A.1.1.length) from hA.1.1]
  refine fe_s 7 (pc' := 21) (lc' := [(2, .int (3376 + (6 * (nI (A.1.1.length))))), (0, .ref 0), (1, .int 1)]) (stk' := [.int 0, .int 10, .int 0, .ref 0]) (mem' := fm g tp bt a b) (by intro _ _ _; eq_refl) ?_
  rw [show (3376 + (6 * (nI (A.1.1.length))) : Int32) = nI (3376 + (6 * (A.1.1.length))) from by simp only [show (3376 : Int32) = nI 3376 from rfl, show (6 : Int32) = nI 6 from rfl, nI_add, fm_mul]]
  obtain ⟨xc1, gc1, ac1, bc1, hrc1, txc1, eac1, hxc1⟩ := mr_newC (tp := tp) (bt := bt) hT hA h hk
  rw [eac1] at hrc1
  refine fe_ivV hrc1 (by omega) (by rfl) (by rfl) (by rfl) (by rfl) (by rfl) (by rfl) ?_
  rcases hxc1 with ⟨hfc1, nmc1, htc1, rfl, ebc1, hmc1⟩ | ⟨ebc1, rfl, ⟨hfc1, hmc1⟩ | ⟨hfc1, nmc1, hmc1⟩ | ⟨hfc1, nmc1, htc1, hmc1⟩⟩
  · rw [ebc1]
    have hAc1 := md_nm (t := 72 + A.1.1.length) (x := Int64.ofNat (sp_c8 (sp_wd T n (sp_n T n p)))) hA (fun i hi => by omega) (fun i hi => by omega)
    refine fe_s 1 (pc' := cond (fx_cb .ne 1 0) 29 27) (lc' := [(2, .int (nI (3376 + (6 * (A.1.1.length))))), (0, .ref 0), (1, .int 1)]) (stk' := []) (mem' := fm gc1 tp bt a (fm_uL b 2 (72 + A.1.1.length) (Int64.ofNat (sp_c8 (sp_wd T n (sp_n T n p)))))) (by intro _ _ _; eq_refl) ?_
    rw [show (fx_cb .ne 1 0) = true from by decide]
    dsimp only [cond]
    refine fe_s 4 (pc' := 35) (lc' := [(2, .int (nI (3376 + (6 * (A.1.1.length))))), (0, .ref 0), (1, .int 1)]) (stk' := [.int 1, .int (nI (3376 + (6 * (A.1.1.length)))), .ref 1]) (mem' := fm gc1 tp bt a (fm_uL b 2 (72 + A.1.1.length) (Int64.ofNat (sp_c8 (sp_wd T n (sp_n T n p)))))) (by intro _ _ _; eq_refl) ?_
    refine fe_s 1 (pc' := cond (fx_cb .eq 1 0) 42 38) (lc' := [(2, .int (nI (3376 + (6 * (A.1.1.length))))), (0, .ref 0), (1, .int 1)]) (stk' := [.int (nI (3376 + (6 * (A.1.1.length)))), .ref 1]) (mem' := fm gc1 tp bt a (fm_uL b 2 (72 + A.1.1.length) (Int64.ofNat (sp_c8 (sp_wd T n (sp_n T n p)))))) (by intro _ _ _; eq_refl) ?_
    rw [show (fx_cb .eq 1 0) = false from by decide]
    dsimp only [cond]
    refine fe_s 2 (pc' := 43) (lc' := [(2, .int (nI (3376 + (6 * (A.1.1.length))))), (0, .ref 0), (1, .int 1)]) (stk' := [.int 1, .int (nI (3376 + (6 * (A.1.1.length)))), .ref 1]) (mem' := fm gc1 tp bt a (fm_uL b 2 (72 + A.1.1.length) (Int64.ofNat (sp_c8 (sp_wd T n (sp_n T n p)))))) (by intro _ _ _; eq_refl) ?_
    refine fe_stI (mem' := fm gc1 tp bt (fm_u a 1 (nI (3376 + (6 * (A.1.1.length))) : Int32).toNatClampNeg 1) (fm_uL b 2 (72 + A.1.1.length) (Int64.ofNat (sp_c8 (sp_wd T n (sp_n T n p)))))) (by rfl) (by rfl) (fx_inN (i := 3376 + (6 * (A.1.1.length))) (by omega) (by omega)) fm_si1 ?_
    rw [show Int32.toNatClampNeg (nI (3376 + (6 * (A.1.1.length)))) = 3376 + (6 * (A.1.1.length)) from nI_clamp (by omega)]
    have hTw2 := mT_u (t := 1) (i := 3376 + (6 * (A.1.1.length))) (x := 1) (by decide) hT
    have hAw2 := md_u (t := 3376 + (6 * (A.1.1.length))) (x := 1) hAc1 (by omega) (by omega) (fun c hc => by omega) (fun i hi => by omega) (fun i hi => by omega)
    refine fe_s 1 (pc' := 45) (lc' := [(2, .int (nI (3376 + (6 * (A.1.1.length))))), (0, .ref 0), (1, .int 1)]) (stk' := [.int 1]) (mem' := fm gc1 tp bt (fm_u a 1 (3376 + (6 * (A.1.1.length))) 1) (fm_uL b 2 (72 + A.1.1.length) (Int64.ofNat (sp_c8 (sp_wd T n (sp_n T n p)))))) (by intro _ _ _; eq_refl) ?_
    refine fe_s 1 (pc' := cond (fx_cb .ne 1 0) 75 48) (lc' := [(2, .int (nI (3376 + (6 * (A.1.1.length))))), (0, .ref 0), (1, .int 1)]) (stk' := []) (mem' := fm gc1 tp bt (fm_u a 1 (3376 + (6 * (A.1.1.length))) 1) (fm_uL b 2 (72 + A.1.1.length) (Int64.ofNat (sp_c8 (sp_wd T n (sp_n T n p)))))) (by intro _ _ _; eq_refl) ?_
    rw [show (fx_cb .ne 1 0) = true from by decide]
    dsimp only [cond]
    refine fe_s 4 (pc' := 83) (lc' := [(2, .int (nI (3376 + (6 * (A.1.1.length))))), (0, .ref 0), (1, .int 1)]) (stk' := [.int 3368, .ref 1, .int 3368, .ref 1]) (mem' := fm gc1 tp bt (fm_u a 1 (3376 + (6 * (A.1.1.length))) 1) (fm_uL b 2 (72 + A.1.1.length) (Int64.ofNat (sp_c8 (sp_wd T n (sp_n T n p)))))) (by intro _ _ _; eq_refl) ?_
    refine fe_ldI (by rfl) (by rfl) (fx_inN (i := 3368) (by omega) (by omega)) ?_
    rw [show Int32.toNatClampNeg (3368) = 3368 from rfl]
    rw [show (fm_u a 1 (3376 + (6 * (A.1.1.length))) 1) 1 3368 = nI (A.1.1.length) from hAw2.1.1]
    refine fe_s 2 (pc' := 86) (lc' := [(2, .int (nI (3376 + (6 * (A.1.1.length))))), (0, .ref 0), (1, .int 1)]) (stk' := [.int ((nI (A.1.1.length)) + 1), .int 3368, .ref 1]) (mem' := fm gc1 tp bt (fm_u a 1 (3376 + (6 * (A.1.1.length))) 1) (fm_uL b 2 (72 + A.1.1.length) (Int64.ofNat (sp_c8 (sp_wd T n (sp_n T n p)))))) (by intro _ _ _; eq_refl) ?_
    rw [show ((nI (A.1.1.length)) + 1 : Int32) = nI ((A.1.1.length) + 1) from by simp only [show (1 : Int32) = nI 1 from rfl, nI_add, fm_mul]]
    refine fe_stI (mem' := fm gc1 tp bt (fm_u (fm_u a 1 (3376 + (6 * (A.1.1.length))) 1) 1 (3368 : Int32).toNatClampNeg (nI ((A.1.1.length) + 1))) (fm_uL b 2 (72 + A.1.1.length) (Int64.ofNat (sp_c8 (sp_wd T n (sp_n T n p)))))) (by rfl) (by rfl) (fx_inN (i := 3368) (by omega) (by omega)) fm_si1 ?_
    rw [show Int32.toNatClampNeg (3368) = 3368 from rfl]
    have hTw3 := mT_u (t := 1) (i := 3368) (x := nI ((A.1.1.length) + 1)) (by decide) hTw2
    refine fe_s 1 (pc' := 88) (lc' := [(2, .int (nI (3376 + (6 * (A.1.1.length))))), (0, .ref 0), (1, .int 1)]) (stk' := [.int 1]) (mem' := fm gc1 tp bt (fm_u (fm_u a 1 (3376 + (6 * (A.1.1.length))) 1) 1 3368 (nI ((A.1.1.length) + 1))) (fm_uL b 2 (72 + A.1.1.length) (Int64.ofNat (sp_c8 (sp_wd T n (sp_n T n p)))))) (by intro _ _ _; eq_refl) ?_
    refine fe_ret ⟨1, _, _, _, ⟨(fm_tx8_tr fm_tx8_rf txc1), (mfa_u (mfa_u mfa_rf (by omega)) (by omega)), (mfb_u mfb_rf (by omega)), Or.inl ⟨rfl, sp_addC A (sp_wd T n (sp_n T n p)) true, s, (sp_n T n (sp_n T n p)), ?_, hmc1, ?_, hst.1, (((fm_tx8_tr fm_tx8_rf txc1) 20 (by decide) (by decide) (by decide) (by decide) (by decide) (by decide)).trans hst.2)⟩⟩, rfl⟩ (by rfl) (by rfl) (by rfl)
    · unfold sp_pCell
      rw [if_neg (by omega), sp_new_t nmc1 htc1, if_pos rfl]
    · refine md_addC (sh := true) hAw2 (by omega) ?_ fm_vL2s (sp_nm_lt (sp_n_le h.1) nmc1)
      exact fm_v1s
  · rw [ebc1]
    refine fe_s 1 (pc' := cond (fx_cb .ne 0 0) 29 27) (lc' := [(2, .int (nI (3376 + (6 * (A.1.1.length))))), (0, .ref 0), (1, .int 1)]) (stk' := []) (mem' := fm gc1 tp bt a b) (by intro _ _ _; eq_refl) ?_
    rw [show (fx_cb .ne 0 0) = false from by decide]
    dsimp only [cond]
    refine fe_s 1 (pc' := 28) (lc' := [(2, .int (nI (3376 + (6 * (A.1.1.length))))), (0, .ref 0), (1, .int 1)]) (stk' := [.int 0]) (mem' := fm gc1 tp bt a b) (by intro _ _ _; eq_refl) ?_
    refine fe_ret ⟨0, _, _, _, ⟨(fm_tx8_tr fm_tx8_rf txc1), mfa_rf, mfb_rf, Or.inr ⟨rfl, (6, sp_s T n p), ?_, hmc1⟩⟩, rfl⟩ (by rfl) (by rfl) (by rfl)
    unfold sp_pCell
    rw [if_pos (by omega)]
    try rfl
  · rw [ebc1]
    refine fe_s 1 (pc' := cond (fx_cb .ne 0 0) 29 27) (lc' := [(2, .int (nI (3376 + (6 * (A.1.1.length))))), (0, .ref 0), (1, .int 1)]) (stk' := []) (mem' := fm gc1 tp bt a b) (by intro _ _ _; eq_refl) ?_
    rw [show (fx_cb .ne 0 0) = false from by decide]
    dsimp only [cond]
    refine fe_s 1 (pc' := 28) (lc' := [(2, .int (nI (3376 + (6 * (A.1.1.length))))), (0, .ref 0), (1, .int 1)]) (stk' := [.int 0]) (mem' := fm gc1 tp bt a b) (by intro _ _ _; eq_refl) ?_
    refine fe_ret ⟨0, _, _, _, ⟨(fm_tx8_tr fm_tx8_rf txc1), mfa_rf, mfb_rf, Or.inr ⟨rfl, (sp_m T n (sp_n T n p), sp_s T n (sp_n T n p)), ?_, hmc1⟩⟩, rfl⟩ (by rfl) (by rfl) (by rfl)
    unfold sp_pCell
    rw [if_neg (by omega), sp_new_f nmc1]
  · rw [ebc1]
    refine fe_s 1 (pc' := cond (fx_cb .ne 0 0) 29 27) (lc' := [(2, .int (nI (3376 + (6 * (A.1.1.length))))), (0, .ref 0), (1, .int 1)]) (stk' := []) (mem' := fm gc1 tp bt a b) (by intro _ _ _; eq_refl) ?_
    rw [show (fx_cb .ne 0 0) = false from by decide]
    dsimp only [cond]
    refine fe_s 1 (pc' := 28) (lc' := [(2, .int (nI (3376 + (6 * (A.1.1.length))))), (0, .ref 0), (1, .int 1)]) (stk' := [.int 0]) (mem' := fm gc1 tp bt a b) (by intro _ _ _; eq_refl) ?_
    refine fe_ret ⟨0, _, _, _, ⟨(fm_tx8_tr fm_tx8_rf txc1), mfa_rf, mfb_rf, Or.inr ⟨rfl, (3, sp_s T n (sp_n T n p)), ?_, hmc1⟩⟩, rfl⟩ (by rfl) (by rfl) (by rfl)
    unfold sp_pCell
    rw [if_neg (by omega), sp_new_3 nmc1 htc1]
theorem mr_aCouple2 (hT : mT a T n) (hA : md_L 3368 72 A a b) (h : mo g T n p) (hst : s < 8 ∧ g 20 = nI (32 * s)) (hk : sp_k T n p = 1) : ∃ (v : Int32) (g' : Nat → Int32) (a' : Nat → Nat → Int32) (b' : Nat → Nat → Int64), fr_T 8 242 [.ref 0, .int 2] (fm g tp bt a b) (some (.int v)) (fm g' tp bt a' b') ∧ fm_tx8 g g' ∧ mfa a a' ∧ mfb b b' ∧ mPart T n (sp_pPair T n A s p false) v g' a' b' := by
  suffices h : ∃ (v : Option Value) (mem' : fx_M), (fun R => ∃ (v : Int32) (g' : Nat → Int32) (a' : Nat → Nat → Int32) (b' : Nat → Nat → Int64), (fm_tx8 g g' ∧ mfa a a' ∧ mfb b b' ∧ mPart T n (sp_pPair T n A s p false) v g' a' b') ∧ R = (some (.int v), fm g' tp bt a' b')) (v, mem') ∧ fr_T 8 242 [.ref 0, .int 2] (fm g tp bt a b) v mem' by
    obtain ⟨v, mem', ⟨w, g', a', b', h1, hR⟩, h2⟩ := h
    cases hR
    exact ⟨w, g', a', b', h2, h1⟩
  refine fe_meth (f := 242) (as := [.ref 0, .int 2]) (F := fun R => ∃ (v : Int32) (g' : Nat → Int32) (a' : Nat → Nat → Int32) (b' : Nat → Nat → Int64), (fm_tx8 g g' ∧ mfa a a' ∧ mfb b b' ∧ mPart T n (sp_pPair T n A s p false) v g' a' b') ∧ R = (some (.int v), fm g' tp bt a' b')) (M := gk_m242) (by rfl) (by rfl) ?_
  have hq0 := hA.1.2.1
  have hq1 := hA.1.2.2.2
  refine fe_s 3 (pc' := 5) (lc' := [(2, .int 4206), (0, .ref 0), (1, .int 2)]) (stk' := [.ref 0]) (mem' := fm g tp bt a b) (by intro _ _ _; eq_refl) ?_
  obtain ⟨gc1, hrc1, txc1, hmc1⟩ := mr_aheado (tp := tp) (bt := bt) (b := b) hT h (by omega)
  refine fe_ivV hrc1 (by omega) (by rfl) (by rfl) (by rfl) (by rfl) (by rfl) (by rfl) ?_
  refine fe_s 1 (pc' := 9) (lc' := [(2, .int 4206), (0, .ref 0), (1, .int 2)]) (stk' := [.ref 0]) (mem' := fm gc1 tp bt a b) (by intro _ _ _; eq_refl) ?_
  obtain ⟨xc2, hrc2, hxc2⟩ := mr_cellHere (tp := tp) (bt := bt) hT hA hmc1
  refine fe_ivV hrc2 (by omega) (by rfl) (by rfl) (by rfl) (by rfl) (by rfl) (by rfl) ?_
  rcases hxc2 with ⟨nmc2, foc2, rfl⟩ | ⟨nmc2, foc2, rfl⟩ | ⟨nmc2, rfl⟩
  · have nkc2 := nmc2.1
    refine fe_s 3 (pc' := 15) (lc' := [(3, .int (nI (sp_iC A.1.1 (sp_wd T n (sp_n T n p))))), (2, .int 4206), (0, .ref 0), (1, .int 2)]) (stk' := [.int 3, .int 2]) (mem' := fm gc1 tp bt a b) (by intro _ _ _; eq_refl) ?_
    refine fe_s 1 (pc' := cond (fx_cb .ne 2 3) 37 18) (lc' := [(3, .int (nI (sp_iC A.1.1 (sp_wd T n (sp_n T n p))))), (2, .int 4206), (0, .ref 0), (1, .int 2)]) (stk' := []) (mem' := fm gc1 tp bt a b) (by intro _ _ _; eq_refl) ?_
    rw [show (fx_cb .ne 2 3) = true from by decide]
    dsimp only [cond]
    refine fe_s 5 (pc' := 47) (lc' := [(3, .int (nI (sp_iC A.1.1 (sp_wd T n (sp_n T n p))))), (2, .int 4206), (0, .ref 0), (1, .int 2)]) (stk' := [.int 3368, .ref 1, .int 72, .ref 0]) (mem' := fm gc1 tp bt a b) (by intro _ _ _; eq_refl) ?_
    refine fe_ldI (by rfl) (by rfl) (fx_inN (i := 3368) (by omega) (by omega)) ?_
    rw [show Int32.toNatClampNeg (3368) = 3368 from rfl]
    rw [show a 1 3368 = nI (A.1.1.length) from hA.1.1]
    refine fe_s 1 (pc' := 49) (lc' := [(3, .int (nI (sp_iC A.1.1 (sp_wd T n (sp_n T n p))))), (2, .int 4206), (0, .ref 0), (1, .int 2)]) (stk' := [.int 4206, .int (nI (A.1.1.length)), .int 72, .ref 0]) (mem' := fm gc1 tp bt a b) (by intro _ _ _; eq_refl) ?_
    obtain ⟨xc3, gc3, ac3, bc3, hrc3, txc3, ebc3, hxc3⟩ := mr_oldOne (t := 4206) (tp := tp) (bt := bt) hT hA hmc1 (by omega)
    rw [ebc3] at hrc3
    refine fe_ivV hrc3 (by omega) (by rfl) (by rfl) (by rfl) (by rfl) (by rfl) (by rfl) ?_
    rcases hxc3 with ⟨nnc3, ffc3, rfl, eac3, hmc3⟩ | ⟨nnc3, ffc3, rfl, eac3, hmc3⟩ | ⟨nnc3, rfl, eac3, hmc3⟩
    · rw [eac3]
      have hTw4 := mT_u (t := 1) (i := 4206) (x := nI (sp_iC A.1.1 (sp_wd T n (sp_n T n p)))) (by decide) hT
      have hAw4 := md_u (t := 4206) (x := nI (sp_iC A.1.1 (sp_wd T n (sp_n T n p)))) hA (by omega) (by omega) (fun c hc => by omega) (fun i hi => by omega) (fun i hi => by omega)
      refine fe_s 1 (pc' := cond (fx_cb .ne 1 0) 57 55) (lc' := [(3, .int (nI (sp_iC A.1.1 (sp_wd T n (sp_n T n p))))), (2, .int 4206), (0, .ref 0), (1, .int 2)]) (stk' := []) (mem' := fm gc3 tp bt (fm_u a 1 4206 (nI (sp_iC A.1.1 (sp_wd T n (sp_n T n p))))) b) (by intro _ _ _; eq_refl) ?_
      rw [show (fx_cb .ne 1 0) = true from by decide]
      dsimp only [cond]
      refine fe_s 1 (pc' := 58) (lc' := [(3, .int (nI (sp_iC A.1.1 (sp_wd T n (sp_n T n p))))), (2, .int 4206), (0, .ref 0), (1, .int 2)]) (stk' := [.ref 0]) (mem' := fm gc3 tp bt (fm_u a 1 4206 (nI (sp_iC A.1.1 (sp_wd T n (sp_n T n p))))) b) (by intro _ _ _; eq_refl) ?_
      obtain ⟨xc5, hrc5, hxc5⟩ := mr_cellHere (tp := tp) (bt := bt) hTw4 hAw4 hmc3
      refine fe_ivV hrc5 (by omega) (by rfl) (by rfl) (by rfl) (by rfl) (by rfl) (by rfl) ?_
      rcases hxc5 with ⟨nmc5, foc5, rfl⟩ | ⟨nmc5, foc5, rfl⟩ | ⟨nmc5, rfl⟩
      · have nkc5 := nmc5.1
        refine fe_s 3 (pc' := 66) (lc' := [(4, .int (nI (sp_iC A.1.1 (sp_wd T n (sp_n T n (sp_n T n p)))))), (3, .int (nI (sp_iC A.1.1 (sp_wd T n (sp_n T n p))))), (2, .int 4206), (0, .ref 0), (1, .int 2)]) (stk' := [.int (-1), .int (nI (sp_iC A.1.1 (sp_wd T n (sp_n T n (sp_n T n p)))))]) (mem' := fm gc3 tp bt (fm_u a 1 4206 (nI (sp_iC A.1.1 (sp_wd T n (sp_n T n p))))) b) (by intro _ _ _; eq_refl) ?_
        refine fe_s 1 (pc' := cond (fx_cb .eq (nI (sp_iC A.1.1 (sp_wd T n (sp_n T n (sp_n T n p))))) (-1)) 95 69) (lc' := [(4, .int (nI (sp_iC A.1.1 (sp_wd T n (sp_n T n (sp_n T n p)))))), (3, .int (nI (sp_iC A.1.1 (sp_wd T n (sp_n T n p))))), (2, .int 4206), (0, .ref 0), (1, .int 2)]) (stk' := []) (mem' := fm gc3 tp bt (fm_u a 1 4206 (nI (sp_iC A.1.1 (sp_wd T n (sp_n T n p))))) b) (by intro _ _ _; eq_refl) ?_
        rw [show (fx_cb .eq (nI (sp_iC A.1.1 (sp_wd T n (sp_n T n (sp_n T n p))))) (-1)) = false from cb_n_eq (by omega) (by decide)]
        dsimp only [cond]
        refine fe_s 2 (pc' := 72) (lc' := [(4, .int (nI (sp_iC A.1.1 (sp_wd T n (sp_n T n (sp_n T n p)))))), (3, .int (nI (sp_iC A.1.1 (sp_wd T n (sp_n T n p))))), (2, .int 4206), (0, .ref 0), (1, .int 2)]) (stk' := [.int (nI (sp_iC A.1.1 (sp_wd T n (sp_n T n p)))), .int (nI (sp_iC A.1.1 (sp_wd T n (sp_n T n (sp_n T n p)))))]) (mem' := fm gc3 tp bt (fm_u a 1 4206 (nI (sp_iC A.1.1 (sp_wd T n (sp_n T n p))))) b) (by intro _ _ _; eq_refl) ?_
        refine fe_s 1 (pc' := cond (fx_cb .eq (nI (sp_iC A.1.1 (sp_wd T n (sp_n T n (sp_n T n p))))) (nI (sp_iC A.1.1 (sp_wd T n (sp_n T n p))))) 89 75) (lc' := [(4, .int (nI (sp_iC A.1.1 (sp_wd T n (sp_n T n (sp_n T n p)))))), (3, .int (nI (sp_iC A.1.1 (sp_wd T n (sp_n T n p))))), (2, .int 4206), (0, .ref 0), (1, .int 2)]) (stk' := []) (mem' := fm gc3 tp bt (fm_u a 1 4206 (nI (sp_iC A.1.1 (sp_wd T n (sp_n T n p))))) b) (by intro _ _ _; eq_refl) ?_
        by_cases y6 : (sp_iC A.1.1 (sp_wd T n (sp_n T n (sp_n T n p)))) = (sp_iC A.1.1 (sp_wd T n (sp_n T n p)))
        · rw [show (fx_cb .eq (nI (sp_iC A.1.1 (sp_wd T n (sp_n T n (sp_n T n p))))) (nI (sp_iC A.1.1 (sp_wd T n (sp_n T n p))))) = true from cb_eqT (a := (sp_iC A.1.1 (sp_wd T n (sp_n T n (sp_n T n p))))) (b := (sp_iC A.1.1 (sp_wd T n (sp_n T n p)))) (by omega) (by omega) (by omega)]
          dsimp only [cond]
          refine fe_s 2 (pc' := 91) (lc' := [(4, .int (nI (sp_iC A.1.1 (sp_wd T n (sp_n T n (sp_n T n p)))))), (3, .int (nI (sp_iC A.1.1 (sp_wd T n (sp_n T n p))))), (2, .int 4206), (0, .ref 0), (1, .int 2)]) (stk' := [.int 5, .ref 0]) (mem' := fm gc3 tp bt (fm_u a 1 4206 (nI (sp_iC A.1.1 (sp_wd T n (sp_n T n p))))) b) (by intro _ _ _; eq_refl) ?_
          obtain ⟨gc7, hrc7, txc7, hmc7⟩ := mr_failsx (tp := tp) (bt := bt) (a := (fm_u a 1 4206 (nI (sp_iC A.1.1 (sp_wd T n (sp_n T n p)))))) (b := b) (x := 5) hmc3 (by decide) (by omega)
          refine fe_ivV hrc7 (by omega) (by rfl) (by rfl) (by rfl) (by rfl) (by rfl) (by rfl) ?_
          refine fe_ret ⟨0, _, _, _, ⟨(fm_tx8_tr (fm_tx8_tr (fm_tx8_tr fm_tx8_rf txc1) txc3) txc7), (mfa_u mfa_rf (by omega)), mfb_rf, Or.inr ⟨rfl, (5, sp_s T n (sp_n T n (sp_n T n p))), ?_, hmc7⟩⟩, rfl⟩ (by rfl) (by rfl) (by rfl)
          unfold sp_pPair
          rw [sp_cell_t nnc3 ffc3, if_neg (fun z => absurd z.1 (by decide)), sp_cell_t nmc5 foc5, if_pos (Or.inl (by omega))]
          try rfl
        · rw [show (fx_cb .eq (nI (sp_iC A.1.1 (sp_wd T n (sp_n T n (sp_n T n p))))) (nI (sp_iC A.1.1 (sp_wd T n (sp_n T n p))))) = false from cb_eqF (a := (sp_iC A.1.1 (sp_wd T n (sp_n T n (sp_n T n p))))) (b := (sp_iC A.1.1 (sp_wd T n (sp_n T n p)))) (by omega) (by omega) (by omega)]
          dsimp only [cond]
          refine fe_s 2 (pc' := 77) (lc' := [(4, .int (nI (sp_iC A.1.1 (sp_wd T n (sp_n T n (sp_n T n p)))))), (3, .int (nI (sp_iC A.1.1 (sp_wd T n (sp_n T n p))))), (2, .int 4206), (0, .ref 0), (1, .int 2)]) (stk' := [.int 3, .int 2]) (mem' := fm gc3 tp bt (fm_u a 1 4206 (nI (sp_iC A.1.1 (sp_wd T n (sp_n T n p))))) b) (by intro _ _ _; eq_refl) ?_
          refine fe_s 1 (pc' := cond (fx_cb .ne 2 3) 95 80) (lc' := [(4, .int (nI (sp_iC A.1.1 (sp_wd T n (sp_n T n (sp_n T n p)))))), (3, .int (nI (sp_iC A.1.1 (sp_wd T n (sp_n T n p))))), (2, .int 4206), (0, .ref 0), (1, .int 2)]) (stk' := []) (mem' := fm gc3 tp bt (fm_u a 1 4206 (nI (sp_iC A.1.1 (sp_wd T n (sp_n T n p))))) b) (by intro _ _ _; eq_refl) ?_
          rw [show (fx_cb .ne 2 3) = true from by decide]
          dsimp only [cond]
          refine fe_s 5 (pc' := 105) (lc' := [(4, .int (nI (sp_iC A.1.1 (sp_wd T n (sp_n T n (sp_n T n p)))))), (3, .int (nI (sp_iC A.1.1 (sp_wd T n (sp_n T n p))))), (2, .int 4206), (0, .ref 0), (1, .int 2)]) (stk' := [.int 3368, .ref 1, .int 72, .ref 0]) (mem' := fm gc3 tp bt (fm_u a 1 4206 (nI (sp_iC A.1.1 (sp_wd T n (sp_n T n p))))) b) (by intro _ _ _; eq_refl) ?_
          refine fe_ldI (by rfl) (by rfl) (fx_inN (i := 3368) (by omega) (by omega)) ?_
          rw [show Int32.toNatClampNeg (3368) = 3368 from rfl]
          rw [show (fm_u a 1 4206 (nI (sp_iC A.1.1 (sp_wd T n (sp_n T n p))))) 1 3368 = nI (A.1.1.length) from hAw4.1.1]
          refine fe_s 3 (pc' := 109) (lc' := [(4, .int (nI (sp_iC A.1.1 (sp_wd T n (sp_n T n (sp_n T n p)))))), (3, .int (nI (sp_iC A.1.1 (sp_wd T n (sp_n T n p))))), (2, .int 4206), (0, .ref 0), (1, .int 2)]) (stk' := [.int (4206 + 1), .int (nI (A.1.1.length)), .int 72, .ref 0]) (mem' := fm gc3 tp bt (fm_u a 1 4206 (nI (sp_iC A.1.1 (sp_wd T n (sp_n T n p))))) b) (by intro _ _ _; eq_refl) ?_
          rw [show (4206 + 1 : Int32) = 4207 from rfl]
          obtain ⟨xc8, gc8, ac8, bc8, hrc8, txc8, ebc8, hxc8⟩ := mr_oldOne (t := 4207) (tp := tp) (bt := bt) hTw4 hAw4 hmc3 (by omega)
          rw [ebc8] at hrc8
          refine fe_ivV hrc8 (by omega) (by rfl) (by rfl) (by rfl) (by rfl) (by rfl) (by rfl) ?_
          rcases hxc8 with ⟨nnc8, ffc8, rfl, eac8, hmc8⟩ | ⟨nnc8, ffc8, rfl, eac8, hmc8⟩ | ⟨nnc8, rfl, eac8, hmc8⟩
          · rw [eac8]
            have hTw9 := mT_u (t := 1) (i := 4207) (x := nI (sp_iC A.1.1 (sp_wd T n (sp_n T n (sp_n T n p))))) (by decide) hTw4
            have hAw9 := md_u (t := 4207) (x := nI (sp_iC A.1.1 (sp_wd T n (sp_n T n (sp_n T n p))))) hAw4 (by omega) (by omega) (fun c hc => by omega) (fun i hi => by omega) (fun i hi => by omega)
            refine fe_s 1 (pc' := cond (fx_cb .ne 1 0) 117 115) (lc' := [(4, .int (nI (sp_iC A.1.1 (sp_wd T n (sp_n T n (sp_n T n p)))))), (3, .int (nI (sp_iC A.1.1 (sp_wd T n (sp_n T n p))))), (2, .int 4206), (0, .ref 0), (1, .int 2)]) (stk' := []) (mem' := fm gc8 tp bt (fm_u (fm_u a 1 4206 (nI (sp_iC A.1.1 (sp_wd T n (sp_n T n p))))) 1 4207 (nI (sp_iC A.1.1 (sp_wd T n (sp_n T n (sp_n T n p)))))) b) (by intro _ _ _; eq_refl) ?_
            rw [show (fx_cb .ne 1 0) = true from by decide]
            dsimp only [cond]
            refine fe_s 10 (pc' := 132) (lc' := [(4, .int (nI (sp_iC A.1.1 (sp_wd T n (sp_n T n (sp_n T n p)))))), (3, .int (nI (sp_iC A.1.1 (sp_wd T n (sp_n T n p))))), (2, .int 4206), (0, .ref 0), (1, .int 2)]) (stk' := [.int ((3376 + (6 * (nI (sp_iC A.1.1 (sp_wd T n (sp_n T n p)))))) + 2), .ref 1, .int ((3376 + (6 * (nI (sp_iC A.1.1 (sp_wd T n (sp_n T n p)))))) + 2), .ref 1]) (mem' := fm gc8 tp bt (fm_u (fm_u a 1 4206 (nI (sp_iC A.1.1 (sp_wd T n (sp_n T n p))))) 1 4207 (nI (sp_iC A.1.1 (sp_wd T n (sp_n T n (sp_n T n p)))))) b) (by intro _ _ _; eq_refl) ?_
            rw [show ((3376 + (6 * (nI (sp_iC A.1.1 (sp_wd T n (sp_n T n p)))))) + 2 : Int32) = nI ((3376 + (6 * (sp_iC A.1.1 (sp_wd T n (sp_n T n p))))) + 2) from by simp only [show (3376 : Int32) = nI 3376 from rfl, show (6 : Int32) = nI 6 from rfl, show (2 : Int32) = nI 2 from rfl, nI_add, fm_mul]]
            refine fe_ldI (by rfl) (by rfl) (fx_inN (i := (3376 + (6 * (sp_iC A.1.1 (sp_wd T n (sp_n T n p))))) + 2) (by omega) (by omega)) ?_
            rw [show Int32.toNatClampNeg (nI ((3376 + (6 * (sp_iC A.1.1 (sp_wd T n (sp_n T n p))))) + 2)) = (3376 + (6 * (sp_iC A.1.1 (sp_wd T n (sp_n T n p))))) + 2 from nI_clamp (by omega)]
            refine fe_s 4 (pc' := 138) (lc' := [(4, .int (nI (sp_iC A.1.1 (sp_wd T n (sp_n T n (sp_n T n p)))))), (3, .int (nI (sp_iC A.1.1 (sp_wd T n (sp_n T n p))))), (2, .int 4206), (0, .ref 0), (1, .int 2)]) (stk' := [.int (((fm_u (fm_u a 1 4206 (nI (sp_iC A.1.1 (sp_wd T n (sp_n T n p))))) 1 4207 (nI (sp_iC A.1.1 (sp_wd T n (sp_n T n (sp_n T n p)))))) 1 ((3376 + (6 * (sp_iC A.1.1 (sp_wd T n (sp_n T n p))))) + 2)) ||| ((1 : Int32) <<< ((nI (sp_iC A.1.1 (sp_wd T n (sp_n T n (sp_n T n p))))) &&& 31))), .int (nI ((3376 + (6 * (sp_iC A.1.1 (sp_wd T n (sp_n T n p))))) + 2)), .ref 1]) (mem' := fm gc8 tp bt (fm_u (fm_u a 1 4206 (nI (sp_iC A.1.1 (sp_wd T n (sp_n T n p))))) 1 4207 (nI (sp_iC A.1.1 (sp_wd T n (sp_n T n (sp_n T n p)))))) b) (by intro _ _ _; eq_refl) ?_
            refine fe_stI (mem' := fm gc8 tp bt (fm_u (fm_u (fm_u a 1 4206 (nI (sp_iC A.1.1 (sp_wd T n (sp_n T n p))))) 1 4207 (nI (sp_iC A.1.1 (sp_wd T n (sp_n T n (sp_n T n p)))))) 1 (nI ((3376 + (6 * (sp_iC A.1.1 (sp_wd T n (sp_n T n p))))) + 2) : Int32).toNatClampNeg (((fm_u (fm_u a 1 4206 (nI (sp_iC A.1.1 (sp_wd T n (sp_n T n p))))) 1 4207 (nI (sp_iC A.1.1 (sp_wd T n (sp_n T n (sp_n T n p)))))) 1 ((3376 + (6 * (sp_iC A.1.1 (sp_wd T n (sp_n T n p))))) + 2)) ||| ((1 : Int32) <<< ((nI (sp_iC A.1.1 (sp_wd T n (sp_n T n (sp_n T n p))))) &&& 31)))) b) (by rfl) (by rfl) (fx_inN (i := (3376 + (6 * (sp_iC A.1.1 (sp_wd T n (sp_n T n p))))) + 2) (by omega) (by omega)) fm_si1 ?_
            rw [show Int32.toNatClampNeg (nI ((3376 + (6 * (sp_iC A.1.1 (sp_wd T n (sp_n T n p))))) + 2)) = (3376 + (6 * (sp_iC A.1.1 (sp_wd T n (sp_n T n p))))) + 2 from nI_clamp (by omega)]
            have hTw10 := mT_u (t := 1) (i := (3376 + (6 * (sp_iC A.1.1 (sp_wd T n (sp_n T n p))))) + 2) (x := ((fm_u (fm_u a 1 4206 (nI (sp_iC A.1.1 (sp_wd T n (sp_n T n p))))) 1 4207 (nI (sp_iC A.1.1 (sp_wd T n (sp_n T n (sp_n T n p)))))) 1 ((3376 + (6 * (sp_iC A.1.1 (sp_wd T n (sp_n T n p))))) + 2)) ||| ((1 : Int32) <<< ((nI (sp_iC A.1.1 (sp_wd T n (sp_n T n (sp_n T n p))))) &&& 31))) (by decide) hTw9
            refine fe_s 10 (pc' := 155) (lc' := [(4, .int (nI (sp_iC A.1.1 (sp_wd T n (sp_n T n (sp_n T n p)))))), (3, .int (nI (sp_iC A.1.1 (sp_wd T n (sp_n T n p))))), (2, .int 4206), (0, .ref 0), (1, .int 2)]) (stk' := [.int ((3376 + (6 * (nI (sp_iC A.1.1 (sp_wd T n (sp_n T n (sp_n T n p))))))) + 2), .ref 1, .int ((3376 + (6 * (nI (sp_iC A.1.1 (sp_wd T n (sp_n T n (sp_n T n p))))))) + 2), .ref 1]) (mem' := fm gc8 tp bt (fm_u (fm_u (fm_u a 1 4206 (nI (sp_iC A.1.1 (sp_wd T n (sp_n T n p))))) 1 4207 (nI (sp_iC A.1.1 (sp_wd T n (sp_n T n (sp_n T n p)))))) 1 ((3376 + (6 * (sp_iC A.1.1 (sp_wd T n (sp_n T n p))))) + 2) (((fm_u (fm_u a 1 4206 (nI (sp_iC A.1.1 (sp_wd T n (sp_n T n p))))) 1 4207 (nI (sp_iC A.1.1 (sp_wd T n (sp_n T n (sp_n T n p)))))) 1 ((3376 + (6 * (sp_iC A.1.1 (sp_wd T n (sp_n T n p))))) + 2)) ||| ((1 : Int32) <<< ((nI (sp_iC A.1.1 (sp_wd T n (sp_n T n (sp_n T n p))))) &&& 31)))) b) (by intro _ _ _; eq_refl) ?_
            rw [show ((3376 + (6 * (nI (sp_iC A.1.1 (sp_wd T n (sp_n T n (sp_n T n p))))))) + 2 : Int32) = nI ((3376 + (6 * (sp_iC A.1.1 (sp_wd T n (sp_n T n (sp_n T n p)))))) + 2) from by simp only [show (3376 : Int32) = nI 3376 from rfl, show (6 : Int32) = nI 6 from rfl, show (2 : Int32) = nI 2 from rfl, nI_add, fm_mul]]
            refine fe_ldI (by rfl) (by rfl) (fx_inN (i := (3376 + (6 * (sp_iC A.1.1 (sp_wd T n (sp_n T n (sp_n T n p)))))) + 2) (by omega) (by omega)) ?_
            rw [show Int32.toNatClampNeg (nI ((3376 + (6 * (sp_iC A.1.1 (sp_wd T n (sp_n T n (sp_n T n p)))))) + 2)) = (3376 + (6 * (sp_iC A.1.1 (sp_wd T n (sp_n T n (sp_n T n p)))))) + 2 from nI_clamp (by omega)]
            refine fe_s 4 (pc' := 160) (lc' := [(4, .int (nI (sp_iC A.1.1 (sp_wd T n (sp_n T n (sp_n T n p)))))), (3, .int (nI (sp_iC A.1.1 (sp_wd T n (sp_n T n p))))), (2, .int 4206), (0, .ref 0), (1, .int 2)]) (stk' := [.int (((fm_u (fm_u (fm_u a 1 4206 (nI (sp_iC A.1.1 (sp_wd T n (sp_n T n p))))) 1 4207 (nI (sp_iC A.1.1 (sp_wd T n (sp_n T n (sp_n T n p)))))) 1 ((3376 + (6 * (sp_iC A.1.1 (sp_wd T n (sp_n T n p))))) + 2) (((fm_u (fm_u a 1 4206 (nI (sp_iC A.1.1 (sp_wd T n (sp_n T n p))))) 1 4207 (nI (sp_iC A.1.1 (sp_wd T n (sp_n T n (sp_n T n p)))))) 1 ((3376 + (6 * (sp_iC A.1.1 (sp_wd T n (sp_n T n p))))) + 2)) ||| ((1 : Int32) <<< ((nI (sp_iC A.1.1 (sp_wd T n (sp_n T n (sp_n T n p))))) &&& 31)))) 1 ((3376 + (6 * (sp_iC A.1.1 (sp_wd T n (sp_n T n (sp_n T n p)))))) + 2)) ||| ((1 : Int32) <<< ((nI (sp_iC A.1.1 (sp_wd T n (sp_n T n p)))) &&& 31))), .int (nI ((3376 + (6 * (sp_iC A.1.1 (sp_wd T n (sp_n T n (sp_n T n p)))))) + 2)), .ref 1]) (mem' := fm gc8 tp bt (fm_u (fm_u (fm_u a 1 4206 (nI (sp_iC A.1.1 (sp_wd T n (sp_n T n p))))) 1 4207 (nI (sp_iC A.1.1 (sp_wd T n (sp_n T n (sp_n T n p)))))) 1 ((3376 + (6 * (sp_iC A.1.1 (sp_wd T n (sp_n T n p))))) + 2) (((fm_u (fm_u a 1 4206 (nI (sp_iC A.1.1 (sp_wd T n (sp_n T n p))))) 1 4207 (nI (sp_iC A.1.1 (sp_wd T n (sp_n T n (sp_n T n p)))))) 1 ((3376 + (6 * (sp_iC A.1.1 (sp_wd T n (sp_n T n p))))) + 2)) ||| ((1 : Int32) <<< ((nI (sp_iC A.1.1 (sp_wd T n (sp_n T n (sp_n T n p))))) &&& 31)))) b) (by intro _ _ _; eq_refl) ?_
            refine fe_stI (mem' := fm gc8 tp bt (fm_u (fm_u (fm_u (fm_u a 1 4206 (nI (sp_iC A.1.1 (sp_wd T n (sp_n T n p))))) 1 4207 (nI (sp_iC A.1.1 (sp_wd T n (sp_n T n (sp_n T n p)))))) 1 ((3376 + (6 * (sp_iC A.1.1 (sp_wd T n (sp_n T n p))))) + 2) (((fm_u (fm_u a 1 4206 (nI (sp_iC A.1.1 (sp_wd T n (sp_n T n p))))) 1 4207 (nI (sp_iC A.1.1 (sp_wd T n (sp_n T n (sp_n T n p)))))) 1 ((3376 + (6 * (sp_iC A.1.1 (sp_wd T n (sp_n T n p))))) + 2)) ||| ((1 : Int32) <<< ((nI (sp_iC A.1.1 (sp_wd T n (sp_n T n (sp_n T n p))))) &&& 31)))) 1 (nI ((3376 + (6 * (sp_iC A.1.1 (sp_wd T n (sp_n T n (sp_n T n p)))))) + 2) : Int32).toNatClampNeg (((fm_u (fm_u (fm_u a 1 4206 (nI (sp_iC A.1.1 (sp_wd T n (sp_n T n p))))) 1 4207 (nI (sp_iC A.1.1 (sp_wd T n (sp_n T n (sp_n T n p)))))) 1 ((3376 + (6 * (sp_iC A.1.1 (sp_wd T n (sp_n T n p))))) + 2) (((fm_u (fm_u a 1 4206 (nI (sp_iC A.1.1 (sp_wd T n (sp_n T n p))))) 1 4207 (nI (sp_iC A.1.1 (sp_wd T n (sp_n T n (sp_n T n p)))))) 1 ((3376 + (6 * (sp_iC A.1.1 (sp_wd T n (sp_n T n p))))) + 2)) ||| ((1 : Int32) <<< ((nI (sp_iC A.1.1 (sp_wd T n (sp_n T n (sp_n T n p))))) &&& 31)))) 1 ((3376 + (6 * (sp_iC A.1.1 (sp_wd T n (sp_n T n (sp_n T n p)))))) + 2)) ||| ((1 : Int32) <<< ((nI (sp_iC A.1.1 (sp_wd T n (sp_n T n p)))) &&& 31)))) b) (by rfl) (by rfl) (fx_inN (i := (3376 + (6 * (sp_iC A.1.1 (sp_wd T n (sp_n T n (sp_n T n p)))))) + 2) (by omega) (by omega)) fm_si1 ?_
            rw [show Int32.toNatClampNeg (nI ((3376 + (6 * (sp_iC A.1.1 (sp_wd T n (sp_n T n (sp_n T n p)))))) + 2)) = (3376 + (6 * (sp_iC A.1.1 (sp_wd T n (sp_n T n (sp_n T n p)))))) + 2 from nI_clamp (by omega)]
            have hTw11 := mT_u (t := 1) (i := (3376 + (6 * (sp_iC A.1.1 (sp_wd T n (sp_n T n (sp_n T n p)))))) + 2) (x := ((fm_u (fm_u (fm_u a 1 4206 (nI (sp_iC A.1.1 (sp_wd T n (sp_n T n p))))) 1 4207 (nI (sp_iC A.1.1 (sp_wd T n (sp_n T n (sp_n T n p)))))) 1 ((3376 + (6 * (sp_iC A.1.1 (sp_wd T n (sp_n T n p))))) + 2) (((fm_u (fm_u a 1 4206 (nI (sp_iC A.1.1 (sp_wd T n (sp_n T n p))))) 1 4207 (nI (sp_iC A.1.1 (sp_wd T n (sp_n T n (sp_n T n p)))))) 1 ((3376 + (6 * (sp_iC A.1.1 (sp_wd T n (sp_n T n p))))) + 2)) ||| ((1 : Int32) <<< ((nI (sp_iC A.1.1 (sp_wd T n (sp_n T n (sp_n T n p))))) &&& 31)))) 1 ((3376 + (6 * (sp_iC A.1.1 (sp_wd T n (sp_n T n (sp_n T n p)))))) + 2)) ||| ((1 : Int32) <<< ((nI (sp_iC A.1.1 (sp_wd T n (sp_n T n p)))) &&& 31))) (by decide) hTw10
            refine fe_s 1 (pc' := 162) (lc' := [(4, .int (nI (sp_iC A.1.1 (sp_wd T n (sp_n T n (sp_n T n p)))))), (3, .int (nI (sp_iC A.1.1 (sp_wd T n (sp_n T n p))))), (2, .int 4206), (0, .ref 0), (1, .int 2)]) (stk' := [.int 1]) (mem' := fm gc8 tp bt (fm_u (fm_u (fm_u (fm_u a 1 4206 (nI (sp_iC A.1.1 (sp_wd T n (sp_n T n p))))) 1 4207 (nI (sp_iC A.1.1 (sp_wd T n (sp_n T n (sp_n T n p)))))) 1 ((3376 + (6 * (sp_iC A.1.1 (sp_wd T n (sp_n T n p))))) + 2) (((fm_u (fm_u a 1 4206 (nI (sp_iC A.1.1 (sp_wd T n (sp_n T n p))))) 1 4207 (nI (sp_iC A.1.1 (sp_wd T n (sp_n T n (sp_n T n p)))))) 1 ((3376 + (6 * (sp_iC A.1.1 (sp_wd T n (sp_n T n p))))) + 2)) ||| ((1 : Int32) <<< ((nI (sp_iC A.1.1 (sp_wd T n (sp_n T n (sp_n T n p))))) &&& 31)))) 1 ((3376 + (6 * (sp_iC A.1.1 (sp_wd T n (sp_n T n (sp_n T n p)))))) + 2) (((fm_u (fm_u (fm_u a 1 4206 (nI (sp_iC A.1.1 (sp_wd T n (sp_n T n p))))) 1 4207 (nI (sp_iC A.1.1 (sp_wd T n (sp_n T n (sp_n T n p)))))) 1 ((3376 + (6 * (sp_iC A.1.1 (sp_wd T n (sp_n T n p))))) + 2) (((fm_u (fm_u a 1 4206 (nI (sp_iC A.1.1 (sp_wd T n (sp_n T n p))))) 1 4207 (nI (sp_iC A.1.1 (sp_wd T n (sp_n T n (sp_n T n p)))))) 1 ((3376 + (6 * (sp_iC A.1.1 (sp_wd T n (sp_n T n p))))) + 2)) ||| ((1 : Int32) <<< ((nI (sp_iC A.1.1 (sp_wd T n (sp_n T n (sp_n T n p))))) &&& 31)))) 1 ((3376 + (6 * (sp_iC A.1.1 (sp_wd T n (sp_n T n (sp_n T n p)))))) + 2)) ||| ((1 : Int32) <<< ((nI (sp_iC A.1.1 (sp_wd T n (sp_n T n p)))) &&& 31)))) b) (by intro _ _ _; eq_refl) ?_
            refine fe_ret ⟨1, _, _, _, ⟨(fm_tx8_tr (fm_tx8_tr (fm_tx8_tr fm_tx8_rf txc1) txc3) txc8), (mfa_u (mfa_u (mfa_u (mfa_u mfa_rf (by omega)) (by omega)) (by omega)) (by omega)), mfb_rf, Or.inl ⟨rfl, (A.1, sp_pr A.2.1 (sp_iC A.1.1 (sp_wd T n (sp_n T n p))) (sp_iC A.1.1 (sp_wd T n (sp_n T n (sp_n T n p)))), A.2.2), s, (sp_n T n (sp_n T n (sp_n T n p))), ?_, hmc8, ?_, hst.1, (((fm_tx8_tr (fm_tx8_tr (fm_tx8_tr fm_tx8_rf txc1) txc3) txc8) 20 (by decide) (by decide) (by decide) (by decide) (by decide) (by decide)).trans hst.2)⟩⟩, rfl⟩ (by rfl) (by rfl) (by rfl)
            · unfold sp_pPair
              rw [sp_cell_t nnc3 ffc3, if_neg (fun z => absurd z.1 (by decide)), sp_cell_t nnc8 ffc8, if_neg (fun z => by rcases z with z | z; exact absurd z (by omega); exact absurd z.1 (by decide)), if_neg (by decide)]
            · exact md_way (by omega) (by omega) hAw9
          · exact absurd foc5 ffc8
          · exact absurd nmc5 nnc8
      · have nkc5 := nmc5.1
        refine fe_s 3 (pc' := 66) (lc' := [(4, .int (-1)), (3, .int (nI (sp_iC A.1.1 (sp_wd T n (sp_n T n p))))), (2, .int 4206), (0, .ref 0), (1, .int 2)]) (stk' := [.int (-1), .int (-1)]) (mem' := fm gc3 tp bt (fm_u a 1 4206 (nI (sp_iC A.1.1 (sp_wd T n (sp_n T n p))))) b) (by intro _ _ _; eq_refl) ?_
        refine fe_s 1 (pc' := cond (fx_cb .eq (-1) (-1)) 95 69) (lc' := [(4, .int (-1)), (3, .int (nI (sp_iC A.1.1 (sp_wd T n (sp_n T n p))))), (2, .int 4206), (0, .ref 0), (1, .int 2)]) (stk' := []) (mem' := fm gc3 tp bt (fm_u a 1 4206 (nI (sp_iC A.1.1 (sp_wd T n (sp_n T n p))))) b) (by intro _ _ _; eq_refl) ?_
        rw [show (fx_cb .eq (-1) (-1)) = true from by decide]
        dsimp only [cond]
        refine fe_s 5 (pc' := 105) (lc' := [(4, .int (-1)), (3, .int (nI (sp_iC A.1.1 (sp_wd T n (sp_n T n p))))), (2, .int 4206), (0, .ref 0), (1, .int 2)]) (stk' := [.int 3368, .ref 1, .int 72, .ref 0]) (mem' := fm gc3 tp bt (fm_u a 1 4206 (nI (sp_iC A.1.1 (sp_wd T n (sp_n T n p))))) b) (by intro _ _ _; eq_refl) ?_
        refine fe_ldI (by rfl) (by rfl) (fx_inN (i := 3368) (by omega) (by omega)) ?_
        rw [show Int32.toNatClampNeg (3368) = 3368 from rfl]
        rw [show (fm_u a 1 4206 (nI (sp_iC A.1.1 (sp_wd T n (sp_n T n p))))) 1 3368 = nI (A.1.1.length) from hAw4.1.1]
        refine fe_s 3 (pc' := 109) (lc' := [(4, .int (-1)), (3, .int (nI (sp_iC A.1.1 (sp_wd T n (sp_n T n p))))), (2, .int 4206), (0, .ref 0), (1, .int 2)]) (stk' := [.int (4206 + 1), .int (nI (A.1.1.length)), .int 72, .ref 0]) (mem' := fm gc3 tp bt (fm_u a 1 4206 (nI (sp_iC A.1.1 (sp_wd T n (sp_n T n p))))) b) (by intro _ _ _; eq_refl) ?_
        rw [show (4206 + 1 : Int32) = 4207 from rfl]
        obtain ⟨xc12, gc12, ac12, bc12, hrc12, txc12, ebc12, hxc12⟩ := mr_oldOne (t := 4207) (tp := tp) (bt := bt) hTw4 hAw4 hmc3 (by omega)
        rw [ebc12] at hrc12
        refine fe_ivV hrc12 (by omega) (by rfl) (by rfl) (by rfl) (by rfl) (by rfl) (by rfl) ?_
        rcases hxc12 with ⟨nnc12, ffc12, rfl, eac12, hmc12⟩ | ⟨nnc12, ffc12, rfl, eac12, hmc12⟩ | ⟨nnc12, rfl, eac12, hmc12⟩
        · exact absurd ffc12 foc5
        · rw [eac12]
          have hTw13 := mT_u (t := 1) (i := 4207) (x := (-1)) (by decide) hTw4
          have hAw13 := md_u (t := 4207) (x := (-1)) hAw4 (by omega) (by omega) (fun c hc => by omega) (fun i hi => by omega) (fun i hi => by omega)
          refine fe_s 1 (pc' := cond (fx_cb .ne 0 0) 117 115) (lc' := [(4, .int (-1)), (3, .int (nI (sp_iC A.1.1 (sp_wd T n (sp_n T n p))))), (2, .int 4206), (0, .ref 0), (1, .int 2)]) (stk' := []) (mem' := fm gc12 tp bt (fm_u (fm_u a 1 4206 (nI (sp_iC A.1.1 (sp_wd T n (sp_n T n p))))) 1 4207 (-1)) b) (by intro _ _ _; eq_refl) ?_
          rw [show (fx_cb .ne 0 0) = false from by decide]
          dsimp only [cond]
          refine fe_s 1 (pc' := 116) (lc' := [(4, .int (-1)), (3, .int (nI (sp_iC A.1.1 (sp_wd T n (sp_n T n p))))), (2, .int 4206), (0, .ref 0), (1, .int 2)]) (stk' := [.int 0]) (mem' := fm gc12 tp bt (fm_u (fm_u a 1 4206 (nI (sp_iC A.1.1 (sp_wd T n (sp_n T n p))))) 1 4207 (-1)) b) (by intro _ _ _; eq_refl) ?_
          refine fe_ret ⟨0, _, _, _, ⟨(fm_tx8_tr (fm_tx8_tr (fm_tx8_tr fm_tx8_rf txc1) txc3) txc12), (mfa_u (mfa_u mfa_rf (by omega)) (by omega)), mfb_rf, Or.inr ⟨rfl, (3, sp_s T n (sp_n T n (sp_n T n p))), ?_, hmc12⟩⟩, rfl⟩ (by rfl) (by rfl) (by rfl)
          unfold sp_pPair
          rw [sp_cell_t nnc3 ffc3, if_neg (fun z => absurd z.1 (by decide)), sp_cell_3 nnc12 ffc12]
        · exact absurd nmc5 nnc12
      · refine fe_s 3 (pc' := 66) (lc' := [(4, .int (-1)), (3, .int (nI (sp_iC A.1.1 (sp_wd T n (sp_n T n p))))), (2, .int 4206), (0, .ref 0), (1, .int 2)]) (stk' := [.int (-1), .int (-1)]) (mem' := fm gc3 tp bt (fm_u a 1 4206 (nI (sp_iC A.1.1 (sp_wd T n (sp_n T n p))))) b) (by intro _ _ _; eq_refl) ?_
        refine fe_s 1 (pc' := cond (fx_cb .eq (-1) (-1)) 95 69) (lc' := [(4, .int (-1)), (3, .int (nI (sp_iC A.1.1 (sp_wd T n (sp_n T n p))))), (2, .int 4206), (0, .ref 0), (1, .int 2)]) (stk' := []) (mem' := fm gc3 tp bt (fm_u a 1 4206 (nI (sp_iC A.1.1 (sp_wd T n (sp_n T n p))))) b) (by intro _ _ _; eq_refl) ?_
        rw [show (fx_cb .eq (-1) (-1)) = true from by decide]
        dsimp only [cond]
        refine fe_s 5 (pc' := 105) (lc' := [(4, .int (-1)), (3, .int (nI (sp_iC A.1.1 (sp_wd T n (sp_n T n p))))), (2, .int 4206), (0, .ref 0), (1, .int 2)]) (stk' := [.int 3368, .ref 1, .int 72, .ref 0]) (mem' := fm gc3 tp bt (fm_u a 1 4206 (nI (sp_iC A.1.1 (sp_wd T n (sp_n T n p))))) b) (by intro _ _ _; eq_refl) ?_
        refine fe_ldI (by rfl) (by rfl) (fx_inN (i := 3368) (by omega) (by omega)) ?_
        rw [show Int32.toNatClampNeg (3368) = 3368 from rfl]
        rw [show (fm_u a 1 4206 (nI (sp_iC A.1.1 (sp_wd T n (sp_n T n p))))) 1 3368 = nI (A.1.1.length) from hAw4.1.1]
        refine fe_s 3 (pc' := 109) (lc' := [(4, .int (-1)), (3, .int (nI (sp_iC A.1.1 (sp_wd T n (sp_n T n p))))), (2, .int 4206), (0, .ref 0), (1, .int 2)]) (stk' := [.int (4206 + 1), .int (nI (A.1.1.length)), .int 72, .ref 0]) (mem' := fm gc3 tp bt (fm_u a 1 4206 (nI (sp_iC A.1.1 (sp_wd T n (sp_n T n p))))) b) (by intro _ _ _; eq_refl) ?_
        rw [show (4206 + 1 : Int32) = 4207 from rfl]
        obtain ⟨xc14, gc14, ac14, bc14, hrc14, txc14, ebc14, hxc14⟩ := mr_oldOne (t := 4207) (tp := tp) (bt := bt) hTw4 hAw4 hmc3 (by omega)
        rw [ebc14] at hrc14
        refine fe_ivV hrc14 (by omega) (by rfl) (by rfl) (by rfl) (by rfl) (by rfl) (by rfl) ?_
        rcases hxc14 with ⟨nnc14, ffc14, rfl, eac14, hmc14⟩ | ⟨nnc14, ffc14, rfl, eac14, hmc14⟩ | ⟨nnc14, rfl, eac14, hmc14⟩
        · exact absurd nnc14 nmc5
        · exact absurd nnc14 nmc5
        · rw [eac14]
          refine fe_s 1 (pc' := cond (fx_cb .ne 0 0) 117 115) (lc' := [(4, .int (-1)), (3, .int (nI (sp_iC A.1.1 (sp_wd T n (sp_n T n p))))), (2, .int 4206), (0, .ref 0), (1, .int 2)]) (stk' := []) (mem' := fm gc14 tp bt (fm_u a 1 4206 (nI (sp_iC A.1.1 (sp_wd T n (sp_n T n p))))) b) (by intro _ _ _; eq_refl) ?_
          rw [show (fx_cb .ne 0 0) = false from by decide]
          dsimp only [cond]
          refine fe_s 1 (pc' := 116) (lc' := [(4, .int (-1)), (3, .int (nI (sp_iC A.1.1 (sp_wd T n (sp_n T n p))))), (2, .int 4206), (0, .ref 0), (1, .int 2)]) (stk' := [.int 0]) (mem' := fm gc14 tp bt (fm_u a 1 4206 (nI (sp_iC A.1.1 (sp_wd T n (sp_n T n p))))) b) (by intro _ _ _; eq_refl) ?_
          refine fe_ret ⟨0, _, _, _, ⟨(fm_tx8_tr (fm_tx8_tr (fm_tx8_tr fm_tx8_rf txc1) txc3) txc14), (mfa_u mfa_rf (by omega)), mfb_rf, Or.inr ⟨rfl, (sp_m T n (sp_n T n (sp_n T n p)), sp_s T n (sp_n T n (sp_n T n p))), ?_, hmc14⟩⟩, rfl⟩ (by rfl) (by rfl) (by rfl)
          unfold sp_pPair
          rw [sp_cell_t nnc3 ffc3, if_neg (fun z => absurd z.1 (by decide)), sp_cell_f nnc14]
    · exact absurd foc2 ffc3
    · exact absurd nmc2 nnc3
  · have nkc2 := nmc2.1
    refine fe_s 3 (pc' := 15) (lc' := [(3, .int (-1)), (2, .int 4206), (0, .ref 0), (1, .int 2)]) (stk' := [.int 3, .int 2]) (mem' := fm gc1 tp bt a b) (by intro _ _ _; eq_refl) ?_
    refine fe_s 1 (pc' := cond (fx_cb .ne 2 3) 37 18) (lc' := [(3, .int (-1)), (2, .int 4206), (0, .ref 0), (1, .int 2)]) (stk' := []) (mem' := fm gc1 tp bt a b) (by intro _ _ _; eq_refl) ?_
    rw [show (fx_cb .ne 2 3) = true from by decide]
    dsimp only [cond]
    refine fe_s 5 (pc' := 47) (lc' := [(3, .int (-1)), (2, .int 4206), (0, .ref 0), (1, .int 2)]) (stk' := [.int 3368, .ref 1, .int 72, .ref 0]) (mem' := fm gc1 tp bt a b) (by intro _ _ _; eq_refl) ?_
    refine fe_ldI (by rfl) (by rfl) (fx_inN (i := 3368) (by omega) (by omega)) ?_
    rw [show Int32.toNatClampNeg (3368) = 3368 from rfl]
    rw [show a 1 3368 = nI (A.1.1.length) from hA.1.1]
    refine fe_s 1 (pc' := 49) (lc' := [(3, .int (-1)), (2, .int 4206), (0, .ref 0), (1, .int 2)]) (stk' := [.int 4206, .int (nI (A.1.1.length)), .int 72, .ref 0]) (mem' := fm gc1 tp bt a b) (by intro _ _ _; eq_refl) ?_
    obtain ⟨xc15, gc15, ac15, bc15, hrc15, txc15, ebc15, hxc15⟩ := mr_oldOne (t := 4206) (tp := tp) (bt := bt) hT hA hmc1 (by omega)
    rw [ebc15] at hrc15
    refine fe_ivV hrc15 (by omega) (by rfl) (by rfl) (by rfl) (by rfl) (by rfl) (by rfl) ?_
    rcases hxc15 with ⟨nnc15, ffc15, rfl, eac15, hmc15⟩ | ⟨nnc15, ffc15, rfl, eac15, hmc15⟩ | ⟨nnc15, rfl, eac15, hmc15⟩
    · exact absurd ffc15 foc2
    · rw [eac15]
      have hTw16 := mT_u (t := 1) (i := 4206) (x := (-1)) (by decide) hT
      have hAw16 := md_u (t := 4206) (x := (-1)) hA (by omega) (by omega) (fun c hc => by omega) (fun i hi => by omega) (fun i hi => by omega)
      refine fe_s 1 (pc' := cond (fx_cb .ne 0 0) 57 55) (lc' := [(3, .int (-1)), (2, .int 4206), (0, .ref 0), (1, .int 2)]) (stk' := []) (mem' := fm gc15 tp bt (fm_u a 1 4206 (-1)) b) (by intro _ _ _; eq_refl) ?_
      rw [show (fx_cb .ne 0 0) = false from by decide]
      dsimp only [cond]
      refine fe_s 1 (pc' := 56) (lc' := [(3, .int (-1)), (2, .int 4206), (0, .ref 0), (1, .int 2)]) (stk' := [.int 0]) (mem' := fm gc15 tp bt (fm_u a 1 4206 (-1)) b) (by intro _ _ _; eq_refl) ?_
      refine fe_ret ⟨0, _, _, _, ⟨(fm_tx8_tr (fm_tx8_tr fm_tx8_rf txc1) txc15), (mfa_u mfa_rf (by omega)), mfb_rf, Or.inr ⟨rfl, (3, sp_s T n (sp_n T n p)), ?_, hmc15⟩⟩, rfl⟩ (by rfl) (by rfl) (by rfl)
      unfold sp_pPair
      rw [sp_cell_3 nnc15 ffc15]
    · exact absurd nmc2 nnc15
  · refine fe_s 3 (pc' := 15) (lc' := [(3, .int (-1)), (2, .int 4206), (0, .ref 0), (1, .int 2)]) (stk' := [.int 3, .int 2]) (mem' := fm gc1 tp bt a b) (by intro _ _ _; eq_refl) ?_
    refine fe_s 1 (pc' := cond (fx_cb .ne 2 3) 37 18) (lc' := [(3, .int (-1)), (2, .int 4206), (0, .ref 0), (1, .int 2)]) (stk' := []) (mem' := fm gc1 tp bt a b) (by intro _ _ _; eq_refl) ?_
    rw [show (fx_cb .ne 2 3) = true from by decide]
    dsimp only [cond]
    refine fe_s 5 (pc' := 47) (lc' := [(3, .int (-1)), (2, .int 4206), (0, .ref 0), (1, .int 2)]) (stk' := [.int 3368, .ref 1, .int 72, .ref 0]) (mem' := fm gc1 tp bt a b) (by intro _ _ _; eq_refl) ?_
    refine fe_ldI (by rfl) (by rfl) (fx_inN (i := 3368) (by omega) (by omega)) ?_
    rw [show Int32.toNatClampNeg (3368) = 3368 from rfl]
    rw [show a 1 3368 = nI (A.1.1.length) from hA.1.1]
    refine fe_s 1 (pc' := 49) (lc' := [(3, .int (-1)), (2, .int 4206), (0, .ref 0), (1, .int 2)]) (stk' := [.int 4206, .int (nI (A.1.1.length)), .int 72, .ref 0]) (mem' := fm gc1 tp bt a b) (by intro _ _ _; eq_refl) ?_
    obtain ⟨xc17, gc17, ac17, bc17, hrc17, txc17, ebc17, hxc17⟩ := mr_oldOne (t := 4206) (tp := tp) (bt := bt) hT hA hmc1 (by omega)
    rw [ebc17] at hrc17
    refine fe_ivV hrc17 (by omega) (by rfl) (by rfl) (by rfl) (by rfl) (by rfl) (by rfl) ?_
    rcases hxc17 with ⟨nnc17, ffc17, rfl, eac17, hmc17⟩ | ⟨nnc17, ffc17, rfl, eac17, hmc17⟩ | ⟨nnc17, rfl, eac17, hmc17⟩
    · exact absurd nnc17 nmc2
    · exact absurd nnc17 nmc2
    · rw [eac17]
      refine fe_s 1 (pc' := cond (fx_cb .ne 0 0) 57 55) (lc' := [(3, .int (-1)), (2, .int 4206), (0, .ref 0), (1, .int 2)]) (stk' := []) (mem' := fm gc17 tp bt a b) (by intro _ _ _; eq_refl) ?_
      rw [show (fx_cb .ne 0 0) = false from by decide]
      dsimp only [cond]
      refine fe_s 1 (pc' := 56) (lc' := [(3, .int (-1)), (2, .int 4206), (0, .ref 0), (1, .int 2)]) (stk' := [.int 0]) (mem' := fm gc17 tp bt a b) (by intro _ _ _; eq_refl) ?_
      refine fe_ret ⟨0, _, _, _, ⟨(fm_tx8_tr (fm_tx8_tr fm_tx8_rf txc1) txc17), mfa_rf, mfb_rf, Or.inr ⟨rfl, (sp_m T n (sp_n T n p), sp_s T n (sp_n T n p)), ?_, hmc17⟩⟩, rfl⟩ (by rfl) (by rfl) (by rfl)
      unfold sp_pPair
      rw [sp_cell_f nnc17]
theorem mr_aCouple3 (hT : mT a T n) (hA : md_L 3368 72 A a b) (h : mo g T n p) (hst : s < 8 ∧ g 20 = nI (32 * s)) (hk : sp_k T n p = 1) : ∃ (v : Int32) (g' : Nat → Int32) (a' : Nat → Nat → Int32) (b' : Nat → Nat → Int64), fr_T 8 242 [.ref 0, .int 3] (fm g tp bt a b) (some (.int v)) (fm g' tp bt a' b') ∧ fm_tx8 g g' ∧ mfa a a' ∧ mfb b b' ∧ mPart T n (sp_pPair T n A s p true) v g' a' b' := by
  suffices h : ∃ (v : Option Value) (mem' : fx_M), (fun R => ∃ (v : Int32) (g' : Nat → Int32) (a' : Nat → Nat → Int32) (b' : Nat → Nat → Int64), (fm_tx8 g g' ∧ mfa a a' ∧ mfb b b' ∧ mPart T n (sp_pPair T n A s p true) v g' a' b') ∧ R = (some (.int v), fm g' tp bt a' b')) (v, mem') ∧ fr_T 8 242 [.ref 0, .int 3] (fm g tp bt a b) v mem' by
    obtain ⟨v, mem', ⟨w, g', a', b', h1, hR⟩, h2⟩ := h
    cases hR
    exact ⟨w, g', a', b', h2, h1⟩
  refine fe_meth (f := 242) (as := [.ref 0, .int 3]) (F := fun R => ∃ (v : Int32) (g' : Nat → Int32) (a' : Nat → Nat → Int32) (b' : Nat → Nat → Int64), (fm_tx8 g g' ∧ mfa a a' ∧ mfb b b' ∧ mPart T n (sp_pPair T n A s p true) v g' a' b') ∧ R = (some (.int v), fm g' tp bt a' b')) (M := gk_m242) (by rfl) (by rfl) ?_
  have hq0 := hA.1.2.1
  have hq1 := hA.1.2.2.2
  refine fe_s 3 (pc' := 5) (lc' := [(2, .int 4206), (0, .ref 0), (1, .int 3)]) (stk' := [.ref 0]) (mem' := fm g tp bt a b) (by intro _ _ _; eq_refl) ?_
  obtain ⟨gc1, hrc1, txc1, hmc1⟩ := mr_aheado (tp := tp) (bt := bt) (b := b) hT h (by omega)
  refine fe_ivV hrc1 (by omega) (by rfl) (by rfl) (by rfl) (by rfl) (by rfl) (by rfl) ?_
  refine fe_s 1 (pc' := 9) (lc' := [(2, .int 4206), (0, .ref 0), (1, .int 3)]) (stk' := [.ref 0]) (mem' := fm gc1 tp bt a b) (by intro _ _ _; eq_refl) ?_
  obtain ⟨xc2, hrc2, hxc2⟩ := mr_cellHere (tp := tp) (bt := bt) hT hA hmc1
  refine fe_ivV hrc2 (by omega) (by rfl) (by rfl) (by rfl) (by rfl) (by rfl) (by rfl) ?_
  rcases hxc2 with ⟨nmc2, foc2, rfl⟩ | ⟨nmc2, foc2, rfl⟩ | ⟨nmc2, rfl⟩
  · have nkc2 := nmc2.1
    refine fe_s 3 (pc' := 15) (lc' := [(3, .int (nI (sp_iC A.1.1 (sp_wd T n (sp_n T n p))))), (2, .int 4206), (0, .ref 0), (1, .int 3)]) (stk' := [.int 3, .int 3]) (mem' := fm gc1 tp bt a b) (by intro _ _ _; eq_refl) ?_
    refine fe_s 1 (pc' := cond (fx_cb .ne 3 3) 37 18) (lc' := [(3, .int (nI (sp_iC A.1.1 (sp_wd T n (sp_n T n p))))), (2, .int 4206), (0, .ref 0), (1, .int 3)]) (stk' := []) (mem' := fm gc1 tp bt a b) (by intro _ _ _; eq_refl) ?_
    rw [show (fx_cb .ne 3 3) = false from by decide]
    dsimp only [cond]
    refine fe_s 2 (pc' := 20) (lc' := [(3, .int (nI (sp_iC A.1.1 (sp_wd T n (sp_n T n p))))), (2, .int 4206), (0, .ref 0), (1, .int 3)]) (stk' := [.int (-1), .int (nI (sp_iC A.1.1 (sp_wd T n (sp_n T n p))))]) (mem' := fm gc1 tp bt a b) (by intro _ _ _; eq_refl) ?_
    refine fe_s 1 (pc' := cond (fx_cb .eq (nI (sp_iC A.1.1 (sp_wd T n (sp_n T n p)))) (-1)) 37 23) (lc' := [(3, .int (nI (sp_iC A.1.1 (sp_wd T n (sp_n T n p))))), (2, .int 4206), (0, .ref 0), (1, .int 3)]) (stk' := []) (mem' := fm gc1 tp bt a b) (by intro _ _ _; eq_refl) ?_
    rw [show (fx_cb .eq (nI (sp_iC A.1.1 (sp_wd T n (sp_n T n p)))) (-1)) = false from cb_n_eq (by omega) (by decide)]
    dsimp only [cond]
    refine fe_s 2 (pc' := 25) (lc' := [(3, .int (nI (sp_iC A.1.1 (sp_wd T n (sp_n T n p))))), (2, .int 4206), (0, .ref 0), (1, .int 3)]) (stk' := [.int (nI (sp_iC A.1.1 (sp_wd T n (sp_n T n p)))), .ref 0]) (mem' := fm gc1 tp bt a b) (by intro _ _ _; eq_refl) ?_
    have hrc3 := mr_isNewShore (g := gc1) (tp := tp) (bt := bt) hA foc2
    cases hsc3 : sp_sh A (sp_iC A.1.1 (sp_wd T n (sp_n T n p)))
    · rw [hsc3, if_neg (by decide)] at hrc3
      refine fe_ivV hrc3 (by omega) (by rfl) (by rfl) (by rfl) (by rfl) (by rfl) (by rfl) ?_
      refine fe_s 1 (pc' := cond (fx_cb .eq 0 0) 37 31) (lc' := [(3, .int (nI (sp_iC A.1.1 (sp_wd T n (sp_n T n p))))), (2, .int 4206), (0, .ref 0), (1, .int 3)]) (stk' := []) (mem' := fm gc1 tp bt a b) (by intro _ _ _; eq_refl) ?_
      rw [show (fx_cb .eq 0 0) = true from by decide]
      dsimp only [cond]
      refine fe_s 5 (pc' := 47) (lc' := [(3, .int (nI (sp_iC A.1.1 (sp_wd T n (sp_n T n p))))), (2, .int 4206), (0, .ref 0), (1, .int 3)]) (stk' := [.int 3368, .ref 1, .int 72, .ref 0]) (mem' := fm gc1 tp bt a b) (by intro _ _ _; eq_refl) ?_
      refine fe_ldI (by rfl) (by rfl) (fx_inN (i := 3368) (by omega) (by omega)) ?_
      rw [show Int32.toNatClampNeg (3368) = 3368 from rfl]
      rw [show a 1 3368 = nI (A.1.1.length) from hA.1.1]
      refine fe_s 1 (pc' := 49) (lc' := [(3, .int (nI (sp_iC A.1.1 (sp_wd T n (sp_n T n p))))), (2, .int 4206), (0, .ref 0), (1, .int 3)]) (stk' := [.int 4206, .int (nI (A.1.1.length)), .int 72, .ref 0]) (mem' := fm gc1 tp bt a b) (by intro _ _ _; eq_refl) ?_
      obtain ⟨xc4, gc4, ac4, bc4, hrc4, txc4, ebc4, hxc4⟩ := mr_oldOne (t := 4206) (tp := tp) (bt := bt) hT hA hmc1 (by omega)
      rw [ebc4] at hrc4
      refine fe_ivV hrc4 (by omega) (by rfl) (by rfl) (by rfl) (by rfl) (by rfl) (by rfl) ?_
      rcases hxc4 with ⟨nnc4, ffc4, rfl, eac4, hmc4⟩ | ⟨nnc4, ffc4, rfl, eac4, hmc4⟩ | ⟨nnc4, rfl, eac4, hmc4⟩
      · rw [eac4]
        have hTw5 := mT_u (t := 1) (i := 4206) (x := nI (sp_iC A.1.1 (sp_wd T n (sp_n T n p)))) (by decide) hT
        have hAw5 := md_u (t := 4206) (x := nI (sp_iC A.1.1 (sp_wd T n (sp_n T n p)))) hA (by omega) (by omega) (fun c hc => by omega) (fun i hi => by omega) (fun i hi => by omega)
        refine fe_s 1 (pc' := cond (fx_cb .ne 1 0) 57 55) (lc' := [(3, .int (nI (sp_iC A.1.1 (sp_wd T n (sp_n T n p))))), (2, .int 4206), (0, .ref 0), (1, .int 3)]) (stk' := []) (mem' := fm gc4 tp bt (fm_u a 1 4206 (nI (sp_iC A.1.1 (sp_wd T n (sp_n T n p))))) b) (by intro _ _ _; eq_refl) ?_
        rw [show (fx_cb .ne 1 0) = true from by decide]
        dsimp only [cond]
        refine fe_s 1 (pc' := 58) (lc' := [(3, .int (nI (sp_iC A.1.1 (sp_wd T n (sp_n T n p))))), (2, .int 4206), (0, .ref 0), (1, .int 3)]) (stk' := [.ref 0]) (mem' := fm gc4 tp bt (fm_u a 1 4206 (nI (sp_iC A.1.1 (sp_wd T n (sp_n T n p))))) b) (by intro _ _ _; eq_refl) ?_
        obtain ⟨xc6, hrc6, hxc6⟩ := mr_cellHere (tp := tp) (bt := bt) hTw5 hAw5 hmc4
        refine fe_ivV hrc6 (by omega) (by rfl) (by rfl) (by rfl) (by rfl) (by rfl) (by rfl) ?_
        rcases hxc6 with ⟨nmc6, foc6, rfl⟩ | ⟨nmc6, foc6, rfl⟩ | ⟨nmc6, rfl⟩
        · have nkc6 := nmc6.1
          refine fe_s 3 (pc' := 66) (lc' := [(4, .int (nI (sp_iC A.1.1 (sp_wd T n (sp_n T n (sp_n T n p)))))), (3, .int (nI (sp_iC A.1.1 (sp_wd T n (sp_n T n p))))), (2, .int 4206), (0, .ref 0), (1, .int 3)]) (stk' := [.int (-1), .int (nI (sp_iC A.1.1 (sp_wd T n (sp_n T n (sp_n T n p)))))]) (mem' := fm gc4 tp bt (fm_u a 1 4206 (nI (sp_iC A.1.1 (sp_wd T n (sp_n T n p))))) b) (by intro _ _ _; eq_refl) ?_
          refine fe_s 1 (pc' := cond (fx_cb .eq (nI (sp_iC A.1.1 (sp_wd T n (sp_n T n (sp_n T n p))))) (-1)) 95 69) (lc' := [(4, .int (nI (sp_iC A.1.1 (sp_wd T n (sp_n T n (sp_n T n p)))))), (3, .int (nI (sp_iC A.1.1 (sp_wd T n (sp_n T n p))))), (2, .int 4206), (0, .ref 0), (1, .int 3)]) (stk' := []) (mem' := fm gc4 tp bt (fm_u a 1 4206 (nI (sp_iC A.1.1 (sp_wd T n (sp_n T n p))))) b) (by intro _ _ _; eq_refl) ?_
          rw [show (fx_cb .eq (nI (sp_iC A.1.1 (sp_wd T n (sp_n T n (sp_n T n p))))) (-1)) = false from cb_n_eq (by omega) (by decide)]
          dsimp only [cond]
          refine fe_s 2 (pc' := 72) (lc' := [(4, .int (nI (sp_iC A.1.1 (sp_wd T n (sp_n T n (sp_n T n p)))))), (3, .int (nI (sp_iC A.1.1 (sp_wd T n (sp_n T n p))))), (2, .int 4206), (0, .ref 0), (1, .int 3)]) (stk' := [.int (nI (sp_iC A.1.1 (sp_wd T n (sp_n T n p)))), .int (nI (sp_iC A.1.1 (sp_wd T n (sp_n T n (sp_n T n p)))))]) (mem' := fm gc4 tp bt (fm_u a 1 4206 (nI (sp_iC A.1.1 (sp_wd T n (sp_n T n p))))) b) (by intro _ _ _; eq_refl) ?_
          refine fe_s 1 (pc' := cond (fx_cb .eq (nI (sp_iC A.1.1 (sp_wd T n (sp_n T n (sp_n T n p))))) (nI (sp_iC A.1.1 (sp_wd T n (sp_n T n p))))) 89 75) (lc' := [(4, .int (nI (sp_iC A.1.1 (sp_wd T n (sp_n T n (sp_n T n p)))))), (3, .int (nI (sp_iC A.1.1 (sp_wd T n (sp_n T n p))))), (2, .int 4206), (0, .ref 0), (1, .int 3)]) (stk' := []) (mem' := fm gc4 tp bt (fm_u a 1 4206 (nI (sp_iC A.1.1 (sp_wd T n (sp_n T n p))))) b) (by intro _ _ _; eq_refl) ?_
          by_cases y7 : (sp_iC A.1.1 (sp_wd T n (sp_n T n (sp_n T n p)))) = (sp_iC A.1.1 (sp_wd T n (sp_n T n p)))
          · rw [show (fx_cb .eq (nI (sp_iC A.1.1 (sp_wd T n (sp_n T n (sp_n T n p))))) (nI (sp_iC A.1.1 (sp_wd T n (sp_n T n p))))) = true from cb_eqT (a := (sp_iC A.1.1 (sp_wd T n (sp_n T n (sp_n T n p))))) (b := (sp_iC A.1.1 (sp_wd T n (sp_n T n p)))) (by omega) (by omega) (by omega)]
            dsimp only [cond]
            refine fe_s 2 (pc' := 91) (lc' := [(4, .int (nI (sp_iC A.1.1 (sp_wd T n (sp_n T n (sp_n T n p)))))), (3, .int (nI (sp_iC A.1.1 (sp_wd T n (sp_n T n p))))), (2, .int 4206), (0, .ref 0), (1, .int 3)]) (stk' := [.int 5, .ref 0]) (mem' := fm gc4 tp bt (fm_u a 1 4206 (nI (sp_iC A.1.1 (sp_wd T n (sp_n T n p))))) b) (by intro _ _ _; eq_refl) ?_
            obtain ⟨gc8, hrc8, txc8, hmc8⟩ := mr_failsx (tp := tp) (bt := bt) (a := (fm_u a 1 4206 (nI (sp_iC A.1.1 (sp_wd T n (sp_n T n p)))))) (b := b) (x := 5) hmc4 (by decide) (by omega)
            refine fe_ivV hrc8 (by omega) (by rfl) (by rfl) (by rfl) (by rfl) (by rfl) (by rfl) ?_
            refine fe_ret ⟨0, _, _, _, ⟨(fm_tx8_tr (fm_tx8_tr (fm_tx8_tr fm_tx8_rf txc1) txc4) txc8), (mfa_u mfa_rf (by omega)), mfb_rf, Or.inr ⟨rfl, (5, sp_s T n (sp_n T n (sp_n T n p))), ?_, hmc8⟩⟩, rfl⟩ (by rfl) (by rfl) (by rfl)
            unfold sp_pPair
            rw [sp_cell_t nnc4 ffc4, if_neg (fun z => by rw [hsc3] at z; exact absurd z.2 (by decide)), sp_cell_t nmc6 foc6, if_pos (Or.inl (by omega))]
            try rfl
          · rw [show (fx_cb .eq (nI (sp_iC A.1.1 (sp_wd T n (sp_n T n (sp_n T n p))))) (nI (sp_iC A.1.1 (sp_wd T n (sp_n T n p))))) = false from cb_eqF (a := (sp_iC A.1.1 (sp_wd T n (sp_n T n (sp_n T n p))))) (b := (sp_iC A.1.1 (sp_wd T n (sp_n T n p)))) (by omega) (by omega) (by omega)]
            dsimp only [cond]
            refine fe_s 2 (pc' := 77) (lc' := [(4, .int (nI (sp_iC A.1.1 (sp_wd T n (sp_n T n (sp_n T n p)))))), (3, .int (nI (sp_iC A.1.1 (sp_wd T n (sp_n T n p))))), (2, .int 4206), (0, .ref 0), (1, .int 3)]) (stk' := [.int 3, .int 3]) (mem' := fm gc4 tp bt (fm_u a 1 4206 (nI (sp_iC A.1.1 (sp_wd T n (sp_n T n p))))) b) (by intro _ _ _; eq_refl) ?_
            refine fe_s 1 (pc' := cond (fx_cb .ne 3 3) 95 80) (lc' := [(4, .int (nI (sp_iC A.1.1 (sp_wd T n (sp_n T n (sp_n T n p)))))), (3, .int (nI (sp_iC A.1.1 (sp_wd T n (sp_n T n p))))), (2, .int 4206), (0, .ref 0), (1, .int 3)]) (stk' := []) (mem' := fm gc4 tp bt (fm_u a 1 4206 (nI (sp_iC A.1.1 (sp_wd T n (sp_n T n p))))) b) (by intro _ _ _; eq_refl) ?_
            rw [show (fx_cb .ne 3 3) = false from by decide]
            dsimp only [cond]
            refine fe_s 2 (pc' := 83) (lc' := [(4, .int (nI (sp_iC A.1.1 (sp_wd T n (sp_n T n (sp_n T n p)))))), (3, .int (nI (sp_iC A.1.1 (sp_wd T n (sp_n T n p))))), (2, .int 4206), (0, .ref 0), (1, .int 3)]) (stk' := [.int (nI (sp_iC A.1.1 (sp_wd T n (sp_n T n (sp_n T n p))))), .ref 0]) (mem' := fm gc4 tp bt (fm_u a 1 4206 (nI (sp_iC A.1.1 (sp_wd T n (sp_n T n p))))) b) (by intro _ _ _; eq_refl) ?_
            have hrc9 := mr_isNewShore (g := gc4) (tp := tp) (bt := bt) hAw5 foc6
            cases hsc9 : sp_sh A (sp_iC A.1.1 (sp_wd T n (sp_n T n (sp_n T n p))))
            · rw [hsc9, if_neg (by decide)] at hrc9
              refine fe_ivV hrc9 (by omega) (by rfl) (by rfl) (by rfl) (by rfl) (by rfl) (by rfl) ?_
              refine fe_s 1 (pc' := cond (fx_cb .eq 0 0) 95 89) (lc' := [(4, .int (nI (sp_iC A.1.1 (sp_wd T n (sp_n T n (sp_n T n p)))))), (3, .int (nI (sp_iC A.1.1 (sp_wd T n (sp_n T n p))))), (2, .int 4206), (0, .ref 0), (1, .int 3)]) (stk' := []) (mem' := fm gc4 tp bt (fm_u a 1 4206 (nI (sp_iC A.1.1 (sp_wd T n (sp_n T n p))))) b) (by intro _ _ _; eq_refl) ?_
              rw [show (fx_cb .eq 0 0) = true from by decide]
              dsimp only [cond]
              refine fe_s 5 (pc' := 105) (lc' := [(4, .int (nI (sp_iC A.1.1 (sp_wd T n (sp_n T n (sp_n T n p)))))), (3, .int (nI (sp_iC A.1.1 (sp_wd T n (sp_n T n p))))), (2, .int 4206), (0, .ref 0), (1, .int 3)]) (stk' := [.int 3368, .ref 1, .int 72, .ref 0]) (mem' := fm gc4 tp bt (fm_u a 1 4206 (nI (sp_iC A.1.1 (sp_wd T n (sp_n T n p))))) b) (by intro _ _ _; eq_refl) ?_
              refine fe_ldI (by rfl) (by rfl) (fx_inN (i := 3368) (by omega) (by omega)) ?_
              rw [show Int32.toNatClampNeg (3368) = 3368 from rfl]
              rw [show (fm_u a 1 4206 (nI (sp_iC A.1.1 (sp_wd T n (sp_n T n p))))) 1 3368 = nI (A.1.1.length) from hAw5.1.1]
              refine fe_s 3 (pc' := 109) (lc' := [(4, .int (nI (sp_iC A.1.1 (sp_wd T n (sp_n T n (sp_n T n p)))))), (3, .int (nI (sp_iC A.1.1 (sp_wd T n (sp_n T n p))))), (2, .int 4206), (0, .ref 0), (1, .int 3)]) (stk' := [.int (4206 + 1), .int (nI (A.1.1.length)), .int 72, .ref 0]) (mem' := fm gc4 tp bt (fm_u a 1 4206 (nI (sp_iC A.1.1 (sp_wd T n (sp_n T n p))))) b) (by intro _ _ _; eq_refl) ?_
              rw [show (4206 + 1 : Int32) = 4207 from rfl]
              obtain ⟨xc10, gc10, ac10, bc10, hrc10, txc10, ebc10, hxc10⟩ := mr_oldOne (t := 4207) (tp := tp) (bt := bt) hTw5 hAw5 hmc4 (by omega)
              rw [ebc10] at hrc10
              refine fe_ivV hrc10 (by omega) (by rfl) (by rfl) (by rfl) (by rfl) (by rfl) (by rfl) ?_
              rcases hxc10 with ⟨nnc10, ffc10, rfl, eac10, hmc10⟩ | ⟨nnc10, ffc10, rfl, eac10, hmc10⟩ | ⟨nnc10, rfl, eac10, hmc10⟩
              · rw [eac10]
                have hTw11 := mT_u (t := 1) (i := 4207) (x := nI (sp_iC A.1.1 (sp_wd T n (sp_n T n (sp_n T n p))))) (by decide) hTw5
                have hAw11 := md_u (t := 4207) (x := nI (sp_iC A.1.1 (sp_wd T n (sp_n T n (sp_n T n p))))) hAw5 (by omega) (by omega) (fun c hc => by omega) (fun i hi => by omega) (fun i hi => by omega)
                refine fe_s 1 (pc' := cond (fx_cb .ne 1 0) 117 115) (lc' := [(4, .int (nI (sp_iC A.1.1 (sp_wd T n (sp_n T n (sp_n T n p)))))), (3, .int (nI (sp_iC A.1.1 (sp_wd T n (sp_n T n p))))), (2, .int 4206), (0, .ref 0), (1, .int 3)]) (stk' := []) (mem' := fm gc10 tp bt (fm_u (fm_u a 1 4206 (nI (sp_iC A.1.1 (sp_wd T n (sp_n T n p))))) 1 4207 (nI (sp_iC A.1.1 (sp_wd T n (sp_n T n (sp_n T n p)))))) b) (by intro _ _ _; eq_refl) ?_
                rw [show (fx_cb .ne 1 0) = true from by decide]
                dsimp only [cond]
                refine fe_s 10 (pc' := 132) (lc' := [(4, .int (nI (sp_iC A.1.1 (sp_wd T n (sp_n T n (sp_n T n p)))))), (3, .int (nI (sp_iC A.1.1 (sp_wd T n (sp_n T n p))))), (2, .int 4206), (0, .ref 0), (1, .int 3)]) (stk' := [.int ((3376 + (6 * (nI (sp_iC A.1.1 (sp_wd T n (sp_n T n p)))))) + 3), .ref 1, .int ((3376 + (6 * (nI (sp_iC A.1.1 (sp_wd T n (sp_n T n p)))))) + 3), .ref 1]) (mem' := fm gc10 tp bt (fm_u (fm_u a 1 4206 (nI (sp_iC A.1.1 (sp_wd T n (sp_n T n p))))) 1 4207 (nI (sp_iC A.1.1 (sp_wd T n (sp_n T n (sp_n T n p)))))) b) (by intro _ _ _; eq_refl) ?_
                rw [show ((3376 + (6 * (nI (sp_iC A.1.1 (sp_wd T n (sp_n T n p)))))) + 3 : Int32) = nI ((3376 + (6 * (sp_iC A.1.1 (sp_wd T n (sp_n T n p))))) + 3) from by simp only [show (3376 : Int32) = nI 3376 from rfl, show (6 : Int32) = nI 6 from rfl, show (3 : Int32) = nI 3 from rfl, nI_add, fm_mul]]
                refine fe_ldI (by rfl) (by rfl) (fx_inN (i := (3376 + (6 * (sp_iC A.1.1 (sp_wd T n (sp_n T n p))))) + 3) (by omega) (by omega)) ?_
                rw [show Int32.toNatClampNeg (nI ((3376 + (6 * (sp_iC A.1.1 (sp_wd T n (sp_n T n p))))) + 3)) = (3376 + (6 * (sp_iC A.1.1 (sp_wd T n (sp_n T n p))))) + 3 from nI_clamp (by omega)]
                refine fe_s 4 (pc' := 138) (lc' := [(4, .int (nI (sp_iC A.1.1 (sp_wd T n (sp_n T n (sp_n T n p)))))), (3, .int (nI (sp_iC A.1.1 (sp_wd T n (sp_n T n p))))), (2, .int 4206), (0, .ref 0), (1, .int 3)]) (stk' := [.int (((fm_u (fm_u a 1 4206 (nI (sp_iC A.1.1 (sp_wd T n (sp_n T n p))))) 1 4207 (nI (sp_iC A.1.1 (sp_wd T n (sp_n T n (sp_n T n p)))))) 1 ((3376 + (6 * (sp_iC A.1.1 (sp_wd T n (sp_n T n p))))) + 3)) ||| ((1 : Int32) <<< ((nI (sp_iC A.1.1 (sp_wd T n (sp_n T n (sp_n T n p))))) &&& 31))), .int (nI ((3376 + (6 * (sp_iC A.1.1 (sp_wd T n (sp_n T n p))))) + 3)), .ref 1]) (mem' := fm gc10 tp bt (fm_u (fm_u a 1 4206 (nI (sp_iC A.1.1 (sp_wd T n (sp_n T n p))))) 1 4207 (nI (sp_iC A.1.1 (sp_wd T n (sp_n T n (sp_n T n p)))))) b) (by intro _ _ _; eq_refl) ?_
                refine fe_stI (mem' := fm gc10 tp bt (fm_u (fm_u (fm_u a 1 4206 (nI (sp_iC A.1.1 (sp_wd T n (sp_n T n p))))) 1 4207 (nI (sp_iC A.1.1 (sp_wd T n (sp_n T n (sp_n T n p)))))) 1 (nI ((3376 + (6 * (sp_iC A.1.1 (sp_wd T n (sp_n T n p))))) + 3) : Int32).toNatClampNeg (((fm_u (fm_u a 1 4206 (nI (sp_iC A.1.1 (sp_wd T n (sp_n T n p))))) 1 4207 (nI (sp_iC A.1.1 (sp_wd T n (sp_n T n (sp_n T n p)))))) 1 ((3376 + (6 * (sp_iC A.1.1 (sp_wd T n (sp_n T n p))))) + 3)) ||| ((1 : Int32) <<< ((nI (sp_iC A.1.1 (sp_wd T n (sp_n T n (sp_n T n p))))) &&& 31)))) b) (by rfl) (by rfl) (fx_inN (i := (3376 + (6 * (sp_iC A.1.1 (sp_wd T n (sp_n T n p))))) + 3) (by omega) (by omega)) fm_si1 ?_
                rw [show Int32.toNatClampNeg (nI ((3376 + (6 * (sp_iC A.1.1 (sp_wd T n (sp_n T n p))))) + 3)) = (3376 + (6 * (sp_iC A.1.1 (sp_wd T n (sp_n T n p))))) + 3 from nI_clamp (by omega)]
                have hTw12 := mT_u (t := 1) (i := (3376 + (6 * (sp_iC A.1.1 (sp_wd T n (sp_n T n p))))) + 3) (x := ((fm_u (fm_u a 1 4206 (nI (sp_iC A.1.1 (sp_wd T n (sp_n T n p))))) 1 4207 (nI (sp_iC A.1.1 (sp_wd T n (sp_n T n (sp_n T n p)))))) 1 ((3376 + (6 * (sp_iC A.1.1 (sp_wd T n (sp_n T n p))))) + 3)) ||| ((1 : Int32) <<< ((nI (sp_iC A.1.1 (sp_wd T n (sp_n T n (sp_n T n p))))) &&& 31))) (by decide) hTw11
                refine fe_s 10 (pc' := 155) (lc' := [(4, .int (nI (sp_iC A.1.1 (sp_wd T n (sp_n T n (sp_n T n p)))))), (3, .int (nI (sp_iC A.1.1 (sp_wd T n (sp_n T n p))))), (2, .int 4206), (0, .ref 0), (1, .int 3)]) (stk' := [.int ((3376 + (6 * (nI (sp_iC A.1.1 (sp_wd T n (sp_n T n (sp_n T n p))))))) + 3), .ref 1, .int ((3376 + (6 * (nI (sp_iC A.1.1 (sp_wd T n (sp_n T n (sp_n T n p))))))) + 3), .ref 1]) (mem' := fm gc10 tp bt (fm_u (fm_u (fm_u a 1 4206 (nI (sp_iC A.1.1 (sp_wd T n (sp_n T n p))))) 1 4207 (nI (sp_iC A.1.1 (sp_wd T n (sp_n T n (sp_n T n p)))))) 1 ((3376 + (6 * (sp_iC A.1.1 (sp_wd T n (sp_n T n p))))) + 3) (((fm_u (fm_u a 1 4206 (nI (sp_iC A.1.1 (sp_wd T n (sp_n T n p))))) 1 4207 (nI (sp_iC A.1.1 (sp_wd T n (sp_n T n (sp_n T n p)))))) 1 ((3376 + (6 * (sp_iC A.1.1 (sp_wd T n (sp_n T n p))))) + 3)) ||| ((1 : Int32) <<< ((nI (sp_iC A.1.1 (sp_wd T n (sp_n T n (sp_n T n p))))) &&& 31)))) b) (by intro _ _ _; eq_refl) ?_
                rw [show ((3376 + (6 * (nI (sp_iC A.1.1 (sp_wd T n (sp_n T n (sp_n T n p))))))) + 3 : Int32) = nI ((3376 + (6 * (sp_iC A.1.1 (sp_wd T n (sp_n T n (sp_n T n p)))))) + 3) from by simp only [show (3376 : Int32) = nI 3376 from rfl, show (6 : Int32) = nI 6 from rfl, show (3 : Int32) = nI 3 from rfl, nI_add, fm_mul]]
                refine fe_ldI (by rfl) (by rfl) (fx_inN (i := (3376 + (6 * (sp_iC A.1.1 (sp_wd T n (sp_n T n (sp_n T n p)))))) + 3) (by omega) (by omega)) ?_
                rw [show Int32.toNatClampNeg (nI ((3376 + (6 * (sp_iC A.1.1 (sp_wd T n (sp_n T n (sp_n T n p)))))) + 3)) = (3376 + (6 * (sp_iC A.1.1 (sp_wd T n (sp_n T n (sp_n T n p)))))) + 3 from nI_clamp (by omega)]
                refine fe_s 4 (pc' := 160) (lc' := [(4, .int (nI (sp_iC A.1.1 (sp_wd T n (sp_n T n (sp_n T n p)))))), (3, .int (nI (sp_iC A.1.1 (sp_wd T n (sp_n T n p))))), (2, .int 4206), (0, .ref 0), (1, .int 3)]) (stk' := [.int (((fm_u (fm_u (fm_u a 1 4206 (nI (sp_iC A.1.1 (sp_wd T n (sp_n T n p))))) 1 4207 (nI (sp_iC A.1.1 (sp_wd T n (sp_n T n (sp_n T n p)))))) 1 ((3376 + (6 * (sp_iC A.1.1 (sp_wd T n (sp_n T n p))))) + 3) (((fm_u (fm_u a 1 4206 (nI (sp_iC A.1.1 (sp_wd T n (sp_n T n p))))) 1 4207 (nI (sp_iC A.1.1 (sp_wd T n (sp_n T n (sp_n T n p)))))) 1 ((3376 + (6 * (sp_iC A.1.1 (sp_wd T n (sp_n T n p))))) + 3)) ||| ((1 : Int32) <<< ((nI (sp_iC A.1.1 (sp_wd T n (sp_n T n (sp_n T n p))))) &&& 31)))) 1 ((3376 + (6 * (sp_iC A.1.1 (sp_wd T n (sp_n T n (sp_n T n p)))))) + 3)) ||| ((1 : Int32) <<< ((nI (sp_iC A.1.1 (sp_wd T n (sp_n T n p)))) &&& 31))), .int (nI ((3376 + (6 * (sp_iC A.1.1 (sp_wd T n (sp_n T n (sp_n T n p)))))) + 3)), .ref 1]) (mem' := fm gc10 tp bt (fm_u (fm_u (fm_u a 1 4206 (nI (sp_iC A.1.1 (sp_wd T n (sp_n T n p))))) 1 4207 (nI (sp_iC A.1.1 (sp_wd T n (sp_n T n (sp_n T n p)))))) 1 ((3376 + (6 * (sp_iC A.1.1 (sp_wd T n (sp_n T n p))))) + 3) (((fm_u (fm_u a 1 4206 (nI (sp_iC A.1.1 (sp_wd T n (sp_n T n p))))) 1 4207 (nI (sp_iC A.1.1 (sp_wd T n (sp_n T n (sp_n T n p)))))) 1 ((3376 + (6 * (sp_iC A.1.1 (sp_wd T n (sp_n T n p))))) + 3)) ||| ((1 : Int32) <<< ((nI (sp_iC A.1.1 (sp_wd T n (sp_n T n (sp_n T n p))))) &&& 31)))) b) (by intro _ _ _; eq_refl) ?_
                refine fe_stI (mem' := fm gc10 tp bt (fm_u (fm_u (fm_u (fm_u a 1 4206 (nI (sp_iC A.1.1 (sp_wd T n (sp_n T n p))))) 1 4207 (nI (sp_iC A.1.1 (sp_wd T n (sp_n T n (sp_n T n p)))))) 1 ((3376 + (6 * (sp_iC A.1.1 (sp_wd T n (sp_n T n p))))) + 3) (((fm_u (fm_u a 1 4206 (nI (sp_iC A.1.1 (sp_wd T n (sp_n T n p))))) 1 4207 (nI (sp_iC A.1.1 (sp_wd T n (sp_n T n (sp_n T n p)))))) 1 ((3376 + (6 * (sp_iC A.1.1 (sp_wd T n (sp_n T n p))))) + 3)) ||| ((1 : Int32) <<< ((nI (sp_iC A.1.1 (sp_wd T n (sp_n T n (sp_n T n p))))) &&& 31)))) 1 (nI ((3376 + (6 * (sp_iC A.1.1 (sp_wd T n (sp_n T n (sp_n T n p)))))) + 3) : Int32).toNatClampNeg (((fm_u (fm_u (fm_u a 1 4206 (nI (sp_iC A.1.1 (sp_wd T n (sp_n T n p))))) 1 4207 (nI (sp_iC A.1.1 (sp_wd T n (sp_n T n (sp_n T n p)))))) 1 ((3376 + (6 * (sp_iC A.1.1 (sp_wd T n (sp_n T n p))))) + 3) (((fm_u (fm_u a 1 4206 (nI (sp_iC A.1.1 (sp_wd T n (sp_n T n p))))) 1 4207 (nI (sp_iC A.1.1 (sp_wd T n (sp_n T n (sp_n T n p)))))) 1 ((3376 + (6 * (sp_iC A.1.1 (sp_wd T n (sp_n T n p))))) + 3)) ||| ((1 : Int32) <<< ((nI (sp_iC A.1.1 (sp_wd T n (sp_n T n (sp_n T n p))))) &&& 31)))) 1 ((3376 + (6 * (sp_iC A.1.1 (sp_wd T n (sp_n T n (sp_n T n p)))))) + 3)) ||| ((1 : Int32) <<< ((nI (sp_iC A.1.1 (sp_wd T n (sp_n T n p)))) &&& 31)))) b) (by rfl) (by rfl) (fx_inN (i := (3376 + (6 * (sp_iC A.1.1 (sp_wd T n (sp_n T n (sp_n T n p)))))) + 3) (by omega) (by omega)) fm_si1 ?_
                rw [show Int32.toNatClampNeg (nI ((3376 + (6 * (sp_iC A.1.1 (sp_wd T n (sp_n T n (sp_n T n p)))))) + 3)) = (3376 + (6 * (sp_iC A.1.1 (sp_wd T n (sp_n T n (sp_n T n p)))))) + 3 from nI_clamp (by omega)]
                have hTw13 := mT_u (t := 1) (i := (3376 + (6 * (sp_iC A.1.1 (sp_wd T n (sp_n T n (sp_n T n p)))))) + 3) (x := ((fm_u (fm_u (fm_u a 1 4206 (nI (sp_iC A.1.1 (sp_wd T n (sp_n T n p))))) 1 4207 (nI (sp_iC A.1.1 (sp_wd T n (sp_n T n (sp_n T n p)))))) 1 ((3376 + (6 * (sp_iC A.1.1 (sp_wd T n (sp_n T n p))))) + 3) (((fm_u (fm_u a 1 4206 (nI (sp_iC A.1.1 (sp_wd T n (sp_n T n p))))) 1 4207 (nI (sp_iC A.1.1 (sp_wd T n (sp_n T n (sp_n T n p)))))) 1 ((3376 + (6 * (sp_iC A.1.1 (sp_wd T n (sp_n T n p))))) + 3)) ||| ((1 : Int32) <<< ((nI (sp_iC A.1.1 (sp_wd T n (sp_n T n (sp_n T n p))))) &&& 31)))) 1 ((3376 + (6 * (sp_iC A.1.1 (sp_wd T n (sp_n T n (sp_n T n p)))))) + 3)) ||| ((1 : Int32) <<< ((nI (sp_iC A.1.1 (sp_wd T n (sp_n T n p)))) &&& 31))) (by decide) hTw12
                refine fe_s 1 (pc' := 162) (lc' := [(4, .int (nI (sp_iC A.1.1 (sp_wd T n (sp_n T n (sp_n T n p)))))), (3, .int (nI (sp_iC A.1.1 (sp_wd T n (sp_n T n p))))), (2, .int 4206), (0, .ref 0), (1, .int 3)]) (stk' := [.int 1]) (mem' := fm gc10 tp bt (fm_u (fm_u (fm_u (fm_u a 1 4206 (nI (sp_iC A.1.1 (sp_wd T n (sp_n T n p))))) 1 4207 (nI (sp_iC A.1.1 (sp_wd T n (sp_n T n (sp_n T n p)))))) 1 ((3376 + (6 * (sp_iC A.1.1 (sp_wd T n (sp_n T n p))))) + 3) (((fm_u (fm_u a 1 4206 (nI (sp_iC A.1.1 (sp_wd T n (sp_n T n p))))) 1 4207 (nI (sp_iC A.1.1 (sp_wd T n (sp_n T n (sp_n T n p)))))) 1 ((3376 + (6 * (sp_iC A.1.1 (sp_wd T n (sp_n T n p))))) + 3)) ||| ((1 : Int32) <<< ((nI (sp_iC A.1.1 (sp_wd T n (sp_n T n (sp_n T n p))))) &&& 31)))) 1 ((3376 + (6 * (sp_iC A.1.1 (sp_wd T n (sp_n T n (sp_n T n p)))))) + 3) (((fm_u (fm_u (fm_u a 1 4206 (nI (sp_iC A.1.1 (sp_wd T n (sp_n T n p))))) 1 4207 (nI (sp_iC A.1.1 (sp_wd T n (sp_n T n (sp_n T n p)))))) 1 ((3376 + (6 * (sp_iC A.1.1 (sp_wd T n (sp_n T n p))))) + 3) (((fm_u (fm_u a 1 4206 (nI (sp_iC A.1.1 (sp_wd T n (sp_n T n p))))) 1 4207 (nI (sp_iC A.1.1 (sp_wd T n (sp_n T n (sp_n T n p)))))) 1 ((3376 + (6 * (sp_iC A.1.1 (sp_wd T n (sp_n T n p))))) + 3)) ||| ((1 : Int32) <<< ((nI (sp_iC A.1.1 (sp_wd T n (sp_n T n (sp_n T n p))))) &&& 31)))) 1 ((3376 + (6 * (sp_iC A.1.1 (sp_wd T n (sp_n T n (sp_n T n p)))))) + 3)) ||| ((1 : Int32) <<< ((nI (sp_iC A.1.1 (sp_wd T n (sp_n T n p)))) &&& 31)))) b) (by intro _ _ _; eq_refl) ?_
                refine fe_ret ⟨1, _, _, _, ⟨(fm_tx8_tr (fm_tx8_tr (fm_tx8_tr fm_tx8_rf txc1) txc4) txc10), (mfa_u (mfa_u (mfa_u (mfa_u mfa_rf (by omega)) (by omega)) (by omega)) (by omega)), mfb_rf, Or.inl ⟨rfl, (A.1, A.2.1, sp_pr A.2.2 (sp_iC A.1.1 (sp_wd T n (sp_n T n p))) (sp_iC A.1.1 (sp_wd T n (sp_n T n (sp_n T n p))))), s, (sp_n T n (sp_n T n (sp_n T n p))), ?_, hmc10, ?_, hst.1, (((fm_tx8_tr (fm_tx8_tr (fm_tx8_tr fm_tx8_rf txc1) txc4) txc10) 20 (by decide) (by decide) (by decide) (by decide) (by decide) (by decide)).trans hst.2)⟩⟩, rfl⟩ (by rfl) (by rfl) (by rfl)
                · unfold sp_pPair
                  rw [sp_cell_t nnc4 ffc4, if_neg (fun z => by rw [hsc3] at z; exact absurd z.2 (by decide)), sp_cell_t nnc10 ffc10, if_neg (fun z => by rcases z with z | z; exact absurd z (by omega); rw [hsc9] at z; exact absurd z.2 (by decide)), if_pos rfl]
                · exact md_bes (by omega) (by omega) hAw11
              · exact absurd foc6 ffc10
              · exact absurd nmc6 nnc10
            · rw [hsc9, if_pos rfl] at hrc9
              refine fe_ivV hrc9 (by omega) (by rfl) (by rfl) (by rfl) (by rfl) (by rfl) (by rfl) ?_
              refine fe_s 1 (pc' := cond (fx_cb .eq 1 0) 95 89) (lc' := [(4, .int (nI (sp_iC A.1.1 (sp_wd T n (sp_n T n (sp_n T n p)))))), (3, .int (nI (sp_iC A.1.1 (sp_wd T n (sp_n T n p))))), (2, .int 4206), (0, .ref 0), (1, .int 3)]) (stk' := []) (mem' := fm gc4 tp bt (fm_u a 1 4206 (nI (sp_iC A.1.1 (sp_wd T n (sp_n T n p))))) b) (by intro _ _ _; eq_refl) ?_
              rw [show (fx_cb .eq 1 0) = false from by decide]
              dsimp only [cond]
              refine fe_s 2 (pc' := 91) (lc' := [(4, .int (nI (sp_iC A.1.1 (sp_wd T n (sp_n T n (sp_n T n p)))))), (3, .int (nI (sp_iC A.1.1 (sp_wd T n (sp_n T n p))))), (2, .int 4206), (0, .ref 0), (1, .int 3)]) (stk' := [.int 5, .ref 0]) (mem' := fm gc4 tp bt (fm_u a 1 4206 (nI (sp_iC A.1.1 (sp_wd T n (sp_n T n p))))) b) (by intro _ _ _; eq_refl) ?_
              obtain ⟨gc14, hrc14, txc14, hmc14⟩ := mr_failsx (tp := tp) (bt := bt) (a := (fm_u a 1 4206 (nI (sp_iC A.1.1 (sp_wd T n (sp_n T n p)))))) (b := b) (x := 5) hmc4 (by decide) (by omega)
              refine fe_ivV hrc14 (by omega) (by rfl) (by rfl) (by rfl) (by rfl) (by rfl) (by rfl) ?_
              refine fe_ret ⟨0, _, _, _, ⟨(fm_tx8_tr (fm_tx8_tr (fm_tx8_tr fm_tx8_rf txc1) txc4) txc14), (mfa_u mfa_rf (by omega)), mfb_rf, Or.inr ⟨rfl, (5, sp_s T n (sp_n T n (sp_n T n p))), ?_, hmc14⟩⟩, rfl⟩ (by rfl) (by rfl) (by rfl)
              unfold sp_pPair
              rw [sp_cell_t nnc4 ffc4, if_neg (fun z => by rw [hsc3] at z; exact absurd z.2 (by decide)), sp_cell_t nmc6 foc6, if_pos (Or.inr ⟨rfl, hsc9⟩)]
              try rfl
        · have nkc6 := nmc6.1
          refine fe_s 3 (pc' := 66) (lc' := [(4, .int (-1)), (3, .int (nI (sp_iC A.1.1 (sp_wd T n (sp_n T n p))))), (2, .int 4206), (0, .ref 0), (1, .int 3)]) (stk' := [.int (-1), .int (-1)]) (mem' := fm gc4 tp bt (fm_u a 1 4206 (nI (sp_iC A.1.1 (sp_wd T n (sp_n T n p))))) b) (by intro _ _ _; eq_refl) ?_
          refine fe_s 1 (pc' := cond (fx_cb .eq (-1) (-1)) 95 69) (lc' := [(4, .int (-1)), (3, .int (nI (sp_iC A.1.1 (sp_wd T n (sp_n T n p))))), (2, .int 4206), (0, .ref 0), (1, .int 3)]) (stk' := []) (mem' := fm gc4 tp bt (fm_u a 1 4206 (nI (sp_iC A.1.1 (sp_wd T n (sp_n T n p))))) b) (by intro _ _ _; eq_refl) ?_
          rw [show (fx_cb .eq (-1) (-1)) = true from by decide]
          dsimp only [cond]
          refine fe_s 5 (pc' := 105) (lc' := [(4, .int (-1)), (3, .int (nI (sp_iC A.1.1 (sp_wd T n (sp_n T n p))))), (2, .int 4206), (0, .ref 0), (1, .int 3)]) (stk' := [.int 3368, .ref 1, .int 72, .ref 0]) (mem' := fm gc4 tp bt (fm_u a 1 4206 (nI (sp_iC A.1.1 (sp_wd T n (sp_n T n p))))) b) (by intro _ _ _; eq_refl) ?_
          refine fe_ldI (by rfl) (by rfl) (fx_inN (i := 3368) (by omega) (by omega)) ?_
          rw [show Int32.toNatClampNeg (3368) = 3368 from rfl]
          rw [show (fm_u a 1 4206 (nI (sp_iC A.1.1 (sp_wd T n (sp_n T n p))))) 1 3368 = nI (A.1.1.length) from hAw5.1.1]
          refine fe_s 3 (pc' := 109) (lc' := [(4, .int (-1)), (3, .int (nI (sp_iC A.1.1 (sp_wd T n (sp_n T n p))))), (2, .int 4206), (0, .ref 0), (1, .int 3)]) (stk' := [.int (4206 + 1), .int (nI (A.1.1.length)), .int 72, .ref 0]) (mem' := fm gc4 tp bt (fm_u a 1 4206 (nI (sp_iC A.1.1 (sp_wd T n (sp_n T n p))))) b) (by intro _ _ _; eq_refl) ?_
          rw [show (4206 + 1 : Int32) = 4207 from rfl]
          obtain ⟨xc15, gc15, ac15, bc15, hrc15, txc15, ebc15, hxc15⟩ := mr_oldOne (t := 4207) (tp := tp) (bt := bt) hTw5 hAw5 hmc4 (by omega)
          rw [ebc15] at hrc15
          refine fe_ivV hrc15 (by omega) (by rfl) (by rfl) (by rfl) (by rfl) (by rfl) (by rfl) ?_
          rcases hxc15 with ⟨nnc15, ffc15, rfl, eac15, hmc15⟩ | ⟨nnc15, ffc15, rfl, eac15, hmc15⟩ | ⟨nnc15, rfl, eac15, hmc15⟩
          · exact absurd ffc15 foc6
          · rw [eac15]
            have hTw16 := mT_u (t := 1) (i := 4207) (x := (-1)) (by decide) hTw5
            have hAw16 := md_u (t := 4207) (x := (-1)) hAw5 (by omega) (by omega) (fun c hc => by omega) (fun i hi => by omega) (fun i hi => by omega)
            refine fe_s 1 (pc' := cond (fx_cb .ne 0 0) 117 115) (lc' := [(4, .int (-1)), (3, .int (nI (sp_iC A.1.1 (sp_wd T n (sp_n T n p))))), (2, .int 4206), (0, .ref 0), (1, .int 3)]) (stk' := []) (mem' := fm gc15 tp bt (fm_u (fm_u a 1 4206 (nI (sp_iC A.1.1 (sp_wd T n (sp_n T n p))))) 1 4207 (-1)) b) (by intro _ _ _; eq_refl) ?_
            rw [show (fx_cb .ne 0 0) = false from by decide]
            dsimp only [cond]
            refine fe_s 1 (pc' := 116) (lc' := [(4, .int (-1)), (3, .int (nI (sp_iC A.1.1 (sp_wd T n (sp_n T n p))))), (2, .int 4206), (0, .ref 0), (1, .int 3)]) (stk' := [.int 0]) (mem' := fm gc15 tp bt (fm_u (fm_u a 1 4206 (nI (sp_iC A.1.1 (sp_wd T n (sp_n T n p))))) 1 4207 (-1)) b) (by intro _ _ _; eq_refl) ?_
            refine fe_ret ⟨0, _, _, _, ⟨(fm_tx8_tr (fm_tx8_tr (fm_tx8_tr fm_tx8_rf txc1) txc4) txc15), (mfa_u (mfa_u mfa_rf (by omega)) (by omega)), mfb_rf, Or.inr ⟨rfl, (3, sp_s T n (sp_n T n (sp_n T n p))), ?_, hmc15⟩⟩, rfl⟩ (by rfl) (by rfl) (by rfl)
            unfold sp_pPair
            rw [sp_cell_t nnc4 ffc4, if_neg (fun z => by rw [hsc3] at z; exact absurd z.2 (by decide)), sp_cell_3 nnc15 ffc15]
          · exact absurd nmc6 nnc15
        · refine fe_s 3 (pc' := 66) (lc' := [(4, .int (-1)), (3, .int (nI (sp_iC A.1.1 (sp_wd T n (sp_n T n p))))), (2, .int 4206), (0, .ref 0), (1, .int 3)]) (stk' := [.int (-1), .int (-1)]) (mem' := fm gc4 tp bt (fm_u a 1 4206 (nI (sp_iC A.1.1 (sp_wd T n (sp_n T n p))))) b) (by intro _ _ _; eq_refl) ?_
          refine fe_s 1 (pc' := cond (fx_cb .eq (-1) (-1)) 95 69) (lc' := [(4, .int (-1)), (3, .int (nI (sp_iC A.1.1 (sp_wd T n (sp_n T n p))))), (2, .int 4206), (0, .ref 0), (1, .int 3)]) (stk' := []) (mem' := fm gc4 tp bt (fm_u a 1 4206 (nI (sp_iC A.1.1 (sp_wd T n (sp_n T n p))))) b) (by intro _ _ _; eq_refl) ?_
          rw [show (fx_cb .eq (-1) (-1)) = true from by decide]
          dsimp only [cond]
          refine fe_s 5 (pc' := 105) (lc' := [(4, .int (-1)), (3, .int (nI (sp_iC A.1.1 (sp_wd T n (sp_n T n p))))), (2, .int 4206), (0, .ref 0), (1, .int 3)]) (stk' := [.int 3368, .ref 1, .int 72, .ref 0]) (mem' := fm gc4 tp bt (fm_u a 1 4206 (nI (sp_iC A.1.1 (sp_wd T n (sp_n T n p))))) b) (by intro _ _ _; eq_refl) ?_
          refine fe_ldI (by rfl) (by rfl) (fx_inN (i := 3368) (by omega) (by omega)) ?_
          rw [show Int32.toNatClampNeg (3368) = 3368 from rfl]
          rw [show (fm_u a 1 4206 (nI (sp_iC A.1.1 (sp_wd T n (sp_n T n p))))) 1 3368 = nI (A.1.1.length) from hAw5.1.1]
          refine fe_s 3 (pc' := 109) (lc' := [(4, .int (-1)), (3, .int (nI (sp_iC A.1.1 (sp_wd T n (sp_n T n p))))), (2, .int 4206), (0, .ref 0), (1, .int 3)]) (stk' := [.int (4206 + 1), .int (nI (A.1.1.length)), .int 72, .ref 0]) (mem' := fm gc4 tp bt (fm_u a 1 4206 (nI (sp_iC A.1.1 (sp_wd T n (sp_n T n p))))) b) (by intro _ _ _; eq_refl) ?_
          rw [show (4206 + 1 : Int32) = 4207 from rfl]
          obtain ⟨xc17, gc17, ac17, bc17, hrc17, txc17, ebc17, hxc17⟩ := mr_oldOne (t := 4207) (tp := tp) (bt := bt) hTw5 hAw5 hmc4 (by omega)
          rw [ebc17] at hrc17
          refine fe_ivV hrc17 (by omega) (by rfl) (by rfl) (by rfl) (by rfl) (by rfl) (by rfl) ?_
          rcases hxc17 with ⟨nnc17, ffc17, rfl, eac17, hmc17⟩ | ⟨nnc17, ffc17, rfl, eac17, hmc17⟩ | ⟨nnc17, rfl, eac17, hmc17⟩
          · exact absurd nnc17 nmc6
          · exact absurd nnc17 nmc6
          · rw [eac17]
            refine fe_s 1 (pc' := cond (fx_cb .ne 0 0) 117 115) (lc' := [(4, .int (-1)), (3, .int (nI (sp_iC A.1.1 (sp_wd T n (sp_n T n p))))), (2, .int 4206), (0, .ref 0), (1, .int 3)]) (stk' := []) (mem' := fm gc17 tp bt (fm_u a 1 4206 (nI (sp_iC A.1.1 (sp_wd T n (sp_n T n p))))) b) (by intro _ _ _; eq_refl) ?_
            rw [show (fx_cb .ne 0 0) = false from by decide]
            dsimp only [cond]
            refine fe_s 1 (pc' := 116) (lc' := [(4, .int (-1)), (3, .int (nI (sp_iC A.1.1 (sp_wd T n (sp_n T n p))))), (2, .int 4206), (0, .ref 0), (1, .int 3)]) (stk' := [.int 0]) (mem' := fm gc17 tp bt (fm_u a 1 4206 (nI (sp_iC A.1.1 (sp_wd T n (sp_n T n p))))) b) (by intro _ _ _; eq_refl) ?_
            refine fe_ret ⟨0, _, _, _, ⟨(fm_tx8_tr (fm_tx8_tr (fm_tx8_tr fm_tx8_rf txc1) txc4) txc17), (mfa_u mfa_rf (by omega)), mfb_rf, Or.inr ⟨rfl, (sp_m T n (sp_n T n (sp_n T n p)), sp_s T n (sp_n T n (sp_n T n p))), ?_, hmc17⟩⟩, rfl⟩ (by rfl) (by rfl) (by rfl)
            unfold sp_pPair
            rw [sp_cell_t nnc4 ffc4, if_neg (fun z => by rw [hsc3] at z; exact absurd z.2 (by decide)), sp_cell_f nnc17]
      · exact absurd foc2 ffc4
      · exact absurd nmc2 nnc4
    · rw [hsc3, if_pos rfl] at hrc3
      refine fe_ivV hrc3 (by omega) (by rfl) (by rfl) (by rfl) (by rfl) (by rfl) (by rfl) ?_
      refine fe_s 1 (pc' := cond (fx_cb .eq 1 0) 37 31) (lc' := [(3, .int (nI (sp_iC A.1.1 (sp_wd T n (sp_n T n p))))), (2, .int 4206), (0, .ref 0), (1, .int 3)]) (stk' := []) (mem' := fm gc1 tp bt a b) (by intro _ _ _; eq_refl) ?_
      rw [show (fx_cb .eq 1 0) = false from by decide]
      dsimp only [cond]
      refine fe_s 2 (pc' := 33) (lc' := [(3, .int (nI (sp_iC A.1.1 (sp_wd T n (sp_n T n p))))), (2, .int 4206), (0, .ref 0), (1, .int 3)]) (stk' := [.int 5, .ref 0]) (mem' := fm gc1 tp bt a b) (by intro _ _ _; eq_refl) ?_
      obtain ⟨gc18, hrc18, txc18, hmc18⟩ := mr_failsx (tp := tp) (bt := bt) (a := a) (b := b) (x := 5) hmc1 (by decide) (by omega)
      refine fe_ivV hrc18 (by omega) (by rfl) (by rfl) (by rfl) (by rfl) (by rfl) (by rfl) ?_
      refine fe_ret ⟨0, _, _, _, ⟨(fm_tx8_tr (fm_tx8_tr fm_tx8_rf txc1) txc18), mfa_rf, mfb_rf, Or.inr ⟨rfl, (5, sp_s T n (sp_n T n p)), ?_, hmc18⟩⟩, rfl⟩ (by rfl) (by rfl) (by rfl)
      unfold sp_pPair
      rw [sp_cell_t nmc2 foc2, if_pos ⟨rfl, hsc3⟩]
      try rfl
  · have nkc2 := nmc2.1
    refine fe_s 3 (pc' := 15) (lc' := [(3, .int (-1)), (2, .int 4206), (0, .ref 0), (1, .int 3)]) (stk' := [.int 3, .int 3]) (mem' := fm gc1 tp bt a b) (by intro _ _ _; eq_refl) ?_
    refine fe_s 1 (pc' := cond (fx_cb .ne 3 3) 37 18) (lc' := [(3, .int (-1)), (2, .int 4206), (0, .ref 0), (1, .int 3)]) (stk' := []) (mem' := fm gc1 tp bt a b) (by intro _ _ _; eq_refl) ?_
    rw [show (fx_cb .ne 3 3) = false from by decide]
    dsimp only [cond]
    refine fe_s 2 (pc' := 20) (lc' := [(3, .int (-1)), (2, .int 4206), (0, .ref 0), (1, .int 3)]) (stk' := [.int (-1), .int (-1)]) (mem' := fm gc1 tp bt a b) (by intro _ _ _; eq_refl) ?_
    refine fe_s 1 (pc' := cond (fx_cb .eq (-1) (-1)) 37 23) (lc' := [(3, .int (-1)), (2, .int 4206), (0, .ref 0), (1, .int 3)]) (stk' := []) (mem' := fm gc1 tp bt a b) (by intro _ _ _; eq_refl) ?_
    rw [show (fx_cb .eq (-1) (-1)) = true from by decide]
    dsimp only [cond]
    refine fe_s 5 (pc' := 47) (lc' := [(3, .int (-1)), (2, .int 4206), (0, .ref 0), (1, .int 3)]) (stk' := [.int 3368, .ref 1, .int 72, .ref 0]) (mem' := fm gc1 tp bt a b) (by intro _ _ _; eq_refl) ?_
    refine fe_ldI (by rfl) (by rfl) (fx_inN (i := 3368) (by omega) (by omega)) ?_
    rw [show Int32.toNatClampNeg (3368) = 3368 from rfl]
    rw [show a 1 3368 = nI (A.1.1.length) from hA.1.1]
    refine fe_s 1 (pc' := 49) (lc' := [(3, .int (-1)), (2, .int 4206), (0, .ref 0), (1, .int 3)]) (stk' := [.int 4206, .int (nI (A.1.1.length)), .int 72, .ref 0]) (mem' := fm gc1 tp bt a b) (by intro _ _ _; eq_refl) ?_
    obtain ⟨xc19, gc19, ac19, bc19, hrc19, txc19, ebc19, hxc19⟩ := mr_oldOne (t := 4206) (tp := tp) (bt := bt) hT hA hmc1 (by omega)
    rw [ebc19] at hrc19
    refine fe_ivV hrc19 (by omega) (by rfl) (by rfl) (by rfl) (by rfl) (by rfl) (by rfl) ?_
    rcases hxc19 with ⟨nnc19, ffc19, rfl, eac19, hmc19⟩ | ⟨nnc19, ffc19, rfl, eac19, hmc19⟩ | ⟨nnc19, rfl, eac19, hmc19⟩
    · exact absurd ffc19 foc2
    · rw [eac19]
      have hTw20 := mT_u (t := 1) (i := 4206) (x := (-1)) (by decide) hT
      have hAw20 := md_u (t := 4206) (x := (-1)) hA (by omega) (by omega) (fun c hc => by omega) (fun i hi => by omega) (fun i hi => by omega)
      refine fe_s 1 (pc' := cond (fx_cb .ne 0 0) 57 55) (lc' := [(3, .int (-1)), (2, .int 4206), (0, .ref 0), (1, .int 3)]) (stk' := []) (mem' := fm gc19 tp bt (fm_u a 1 4206 (-1)) b) (by intro _ _ _; eq_refl) ?_
      rw [show (fx_cb .ne 0 0) = false from by decide]
      dsimp only [cond]
      refine fe_s 1 (pc' := 56) (lc' := [(3, .int (-1)), (2, .int 4206), (0, .ref 0), (1, .int 3)]) (stk' := [.int 0]) (mem' := fm gc19 tp bt (fm_u a 1 4206 (-1)) b) (by intro _ _ _; eq_refl) ?_
      refine fe_ret ⟨0, _, _, _, ⟨(fm_tx8_tr (fm_tx8_tr fm_tx8_rf txc1) txc19), (mfa_u mfa_rf (by omega)), mfb_rf, Or.inr ⟨rfl, (3, sp_s T n (sp_n T n p)), ?_, hmc19⟩⟩, rfl⟩ (by rfl) (by rfl) (by rfl)
      unfold sp_pPair
      rw [sp_cell_3 nnc19 ffc19]
    · exact absurd nmc2 nnc19
  · refine fe_s 3 (pc' := 15) (lc' := [(3, .int (-1)), (2, .int 4206), (0, .ref 0), (1, .int 3)]) (stk' := [.int 3, .int 3]) (mem' := fm gc1 tp bt a b) (by intro _ _ _; eq_refl) ?_
    refine fe_s 1 (pc' := cond (fx_cb .ne 3 3) 37 18) (lc' := [(3, .int (-1)), (2, .int 4206), (0, .ref 0), (1, .int 3)]) (stk' := []) (mem' := fm gc1 tp bt a b) (by intro _ _ _; eq_refl) ?_
    rw [show (fx_cb .ne 3 3) = false from by decide]
    dsimp only [cond]
    refine fe_s 2 (pc' := 20) (lc' := [(3, .int (-1)), (2, .int 4206), (0, .ref 0), (1, .int 3)]) (stk' := [.int (-1), .int (-1)]) (mem' := fm gc1 tp bt a b) (by intro _ _ _; eq_refl) ?_
    refine fe_s 1 (pc' := cond (fx_cb .eq (-1) (-1)) 37 23) (lc' := [(3, .int (-1)), (2, .int 4206), (0, .ref 0), (1, .int 3)]) (stk' := []) (mem' := fm gc1 tp bt a b) (by intro _ _ _; eq_refl) ?_
    rw [show (fx_cb .eq (-1) (-1)) = true from by decide]
    dsimp only [cond]
    refine fe_s 5 (pc' := 47) (lc' := [(3, .int (-1)), (2, .int 4206), (0, .ref 0), (1, .int 3)]) (stk' := [.int 3368, .ref 1, .int 72, .ref 0]) (mem' := fm gc1 tp bt a b) (by intro _ _ _; eq_refl) ?_
    refine fe_ldI (by rfl) (by rfl) (fx_inN (i := 3368) (by omega) (by omega)) ?_
    rw [show Int32.toNatClampNeg (3368) = 3368 from rfl]
    rw [show a 1 3368 = nI (A.1.1.length) from hA.1.1]
    refine fe_s 1 (pc' := 49) (lc' := [(3, .int (-1)), (2, .int 4206), (0, .ref 0), (1, .int 3)]) (stk' := [.int 4206, .int (nI (A.1.1.length)), .int 72, .ref 0]) (mem' := fm gc1 tp bt a b) (by intro _ _ _; eq_refl) ?_
    obtain ⟨xc21, gc21, ac21, bc21, hrc21, txc21, ebc21, hxc21⟩ := mr_oldOne (t := 4206) (tp := tp) (bt := bt) hT hA hmc1 (by omega)
    rw [ebc21] at hrc21
    refine fe_ivV hrc21 (by omega) (by rfl) (by rfl) (by rfl) (by rfl) (by rfl) (by rfl) ?_
    rcases hxc21 with ⟨nnc21, ffc21, rfl, eac21, hmc21⟩ | ⟨nnc21, ffc21, rfl, eac21, hmc21⟩ | ⟨nnc21, rfl, eac21, hmc21⟩
    · exact absurd nnc21 nmc2
    · exact absurd nnc21 nmc2
    · rw [eac21]
      refine fe_s 1 (pc' := cond (fx_cb .ne 0 0) 57 55) (lc' := [(3, .int (-1)), (2, .int 4206), (0, .ref 0), (1, .int 3)]) (stk' := []) (mem' := fm gc21 tp bt a b) (by intro _ _ _; eq_refl) ?_
      rw [show (fx_cb .ne 0 0) = false from by decide]
      dsimp only [cond]
      refine fe_s 1 (pc' := 56) (lc' := [(3, .int (-1)), (2, .int 4206), (0, .ref 0), (1, .int 3)]) (stk' := [.int 0]) (mem' := fm gc21 tp bt a b) (by intro _ _ _; eq_refl) ?_
      refine fe_ret ⟨0, _, _, _, ⟨(fm_tx8_tr (fm_tx8_tr fm_tx8_rf txc1) txc21), mfa_rf, mfb_rf, Or.inr ⟨rfl, (sp_m T n (sp_n T n p), sp_s T n (sp_n T n p)), ?_, hmc21⟩⟩, rfl⟩ (by rfl) (by rfl) (by rfl)
      unfold sp_pPair
      rw [sp_cell_f nnc21]
theorem mr_aWalker (hT : mT a T n) (hA : md_L 3368 72 A a b) (h : mo g T n p) (hst : s < 8 ∧ g 20 = nI (32 * s)) (hk : sp_k T n p = 1) : ∃ (v : Int32) (g' : Nat → Int32) (a' : Nat → Nat → Int32) (b' : Nat → Nat → Int64), fr_T 8 243 [.ref 0] (fm g tp bt a b) (some (.int v)) (fm g' tp bt a' b') ∧ fm_tx8 g g' ∧ mfa a a' ∧ mfb b b' ∧ mPart T n (sp_pWalk T n A s p) v g' a' b' := by
  suffices h : ∃ (v : Option Value) (mem' : fx_M), (fun R => ∃ (v : Int32) (g' : Nat → Int32) (a' : Nat → Nat → Int32) (b' : Nat → Nat → Int64), (fm_tx8 g g' ∧ mfa a a' ∧ mfb b b' ∧ mPart T n (sp_pWalk T n A s p) v g' a' b') ∧ R = (some (.int v), fm g' tp bt a' b')) (v, mem') ∧ fr_T 8 243 [.ref 0] (fm g tp bt a b) v mem' by
    obtain ⟨v, mem', ⟨w, g', a', b', h1, hR⟩, h2⟩ := h
    cases hR
    exact ⟨w, g', a', b', h2, h1⟩
  refine fe_meth (f := 243) (as := [.ref 0]) (F := fun R => ∃ (v : Int32) (g' : Nat → Int32) (a' : Nat → Nat → Int32) (b' : Nat → Nat → Int64), (fm_tx8 g g' ∧ mfa a a' ∧ mfb b b' ∧ mPart T n (sp_pWalk T n A s p) v g' a' b') ∧ R = (some (.int v), fm g' tp bt a' b')) (M := gk_m243) (by rfl) (by rfl) ?_
  have hq0 := hA.1.2.1
  have hq1 := hA.1.2.2.2
  refine fe_s 5 (pc' := 11) (lc' := [(0, .ref 0)]) (stk' := [.int 3369, .ref 1, .int 5, .int 3646]) (mem' := fm g tp bt a b) (by intro _ _ _; eq_refl) ?_
  refine fe_ldI (by rfl) (by rfl) (fx_inN (i := 3369) (by omega) (by omega)) ?_
  rw [show Int32.toNatClampNeg (3369) = 3369 from rfl]
  rw [show a 1 3369 = nI (A.1.2.length) from hA.1.2.2.1]
  refine fe_s 7 (pc' := 21) (lc' := [(1, .int (3646 + (5 * (nI (A.1.2.length))))), (0, .ref 0)]) (stk' := [.int 10, .int 8, .int 1, .ref 0]) (mem' := fm g tp bt a b) (by intro _ _ _; eq_refl) ?_
  rw [show (3646 + (5 * (nI (A.1.2.length))) : Int32) = nI (3646 + (5 * (A.1.2.length))) from by simp only [show (3646 : Int32) = nI 3646 from rfl, show (5 : Int32) = nI 5 from rfl, nI_add, fm_mul]]
  obtain ⟨xc1, gc1, ac1, bc1, hrc1, txc1, eac1, hxc1⟩ := mr_newW (tp := tp) (bt := bt) hT hA h hk
  rw [eac1] at hrc1
  refine fe_ivV hrc1 (by omega) (by rfl) (by rfl) (by rfl) (by rfl) (by rfl) (by rfl) ?_
  rcases hxc1 with ⟨hfc1, nmc1, htc1, rfl, ebc1, hmc1⟩ | ⟨ebc1, rfl, ⟨hfc1, hmc1⟩ | ⟨hfc1, nmc1, hmc1⟩ | ⟨hfc1, nmc1, htc1, hmc1⟩⟩
  · rw [ebc1]
    have hAc1 := md_nm (t := 82 + A.1.2.length) (x := Int64.ofNat (sp_c8 (sp_wd T n (sp_n T n p)))) hA (fun i hi => by omega) (fun i hi => by omega)
    refine fe_s 1 (pc' := cond (fx_cb .eq 1 0) 60 27) (lc' := [(1, .int (nI (3646 + (5 * (A.1.2.length))))), (0, .ref 0)]) (stk' := []) (mem' := fm gc1 tp bt a (fm_uL b 2 (82 + A.1.2.length) (Int64.ofNat (sp_c8 (sp_wd T n (sp_n T n p)))))) (by intro _ _ _; eq_refl) ?_
    rw [show (fx_cb .eq 1 0) = false from by decide]
    dsimp only [cond]
    refine fe_s 3 (pc' := 32) (lc' := [(1, .int (nI (3646 + (5 * (A.1.2.length))))), (0, .ref 0)]) (stk' := [.int 9, .ref 22, .ref 0]) (mem' := fm gc1 tp bt a (fm_uL b 2 (82 + A.1.2.length) (Int64.ofNat (sp_c8 (sp_wd T n (sp_n T n p)))))) (by intro _ _ _; eq_refl) ?_
    obtain ⟨xc2, gc2, hrc2, txc2, hxc2⟩ := mr_wantWord (m := 9) (c := 6) (tp := tp) (bt := bt) (b := (fm_uL b 2 (82 + A.1.2.length) (Int64.ofNat (sp_c8 (sp_wd T n (sp_n T n p)))))) hT (by decide) (by decide) (by decide) hmc1
    refine fe_ivV hrc2 (by omega) (by rfl) (by rfl) (by rfl) (by rfl) (by rfl) (by rfl) ?_
    rcases hxc2 with ⟨hwc2, rfl, hmc2⟩ | ⟨hwc2, rfl, hmc2⟩
    · refine fe_s 1 (pc' := cond (fx_cb .eq 1 0) 60 38) (lc' := [(1, .int (nI (3646 + (5 * (A.1.2.length))))), (0, .ref 0)]) (stk' := []) (mem' := fm gc2 tp bt a (fm_uL b 2 (82 + A.1.2.length) (Int64.ofNat (sp_c8 (sp_wd T n (sp_n T n p)))))) (by intro _ _ _; eq_refl) ?_
      rw [show (fx_cb .eq 1 0) = false from by decide]
      dsimp only [cond]
      refine fe_s 4 (pc' := 43) (lc' := [(1, .int (nI (3646 + (5 * (A.1.2.length))))), (0, .ref 0)]) (stk' := [.int 99, .int 1, .int (nI (3646 + (5 * (A.1.2.length)))), .ref 0]) (mem' := fm gc2 tp bt a (fm_uL b 2 (82 + A.1.2.length) (Int64.ofNat (sp_c8 (sp_wd T n (sp_n T n p)))))) (by intro _ _ _; eq_refl) ?_
      obtain ⟨xc3, gc3, ac3, hrc3, txc3, hxc3⟩ := mr_number (t := 3646 + (5 * (A.1.2.length))) (lo := 1) (hi := 99) (tp := tp) (bt := bt) (b := (fm_uL b 2 (82 + A.1.2.length) (Int64.ofNat (sp_c8 (sp_wd T n (sp_n T n p)))))) hT (by omega) (by decide) (by decide) hmc2
      refine fe_ivV hrc3 (by omega) (by rfl) (by rfl) (by rfl) (by rfl) (by rfl) (by rfl) ?_
      rcases hxc3 with ⟨hwc3, hvc3, rfl, eac3, hmc3⟩ | ⟨hwc3, hvc3, rfl, eac3, hmc3⟩ | ⟨hwc3, rfl, eac3, hmc3⟩
      · rw [eac3]
        have hTw4 := mT_u (t := 1) (i := 3646 + (5 * (A.1.2.length))) (x := nI (sp_v T n (sp_n T n (sp_n T n (sp_n T n p))))) (by decide) hT
        have hAw4 := md_u (t := 3646 + (5 * (A.1.2.length))) (x := nI (sp_v T n (sp_n T n (sp_n T n (sp_n T n p))))) hAc1 (by omega) (by omega) (fun c hc => by omega) (fun i hi => by omega) (fun i hi => by omega)
        refine fe_s 1 (pc' := cond (fx_cb .eq 1 0) 60 49) (lc' := [(1, .int (nI (3646 + (5 * (A.1.2.length))))), (0, .ref 0)]) (stk' := []) (mem' := fm gc3 tp bt (fm_u a 1 (3646 + (5 * (A.1.2.length))) (nI (sp_v T n (sp_n T n (sp_n T n (sp_n T n p)))))) (fm_uL b 2 (82 + A.1.2.length) (Int64.ofNat (sp_c8 (sp_wd T n (sp_n T n p)))))) (by intro _ _ _; eq_refl) ?_
        rw [show (fx_cb .eq 1 0) = false from by decide]
        dsimp only [cond]
        refine fe_s 3 (pc' := 54) (lc' := [(1, .int (nI (3646 + (5 * (A.1.2.length))))), (0, .ref 0)]) (stk' := [.int 10, .ref 22, .ref 0]) (mem' := fm gc3 tp bt (fm_u a 1 (3646 + (5 * (A.1.2.length))) (nI (sp_v T n (sp_n T n (sp_n T n (sp_n T n p)))))) (fm_uL b 2 (82 + A.1.2.length) (Int64.ofNat (sp_c8 (sp_wd T n (sp_n T n p)))))) (by intro _ _ _; eq_refl) ?_
        obtain ⟨xc5, gc5, hrc5, txc5, hxc5⟩ := mr_wantWord (m := 10) (c := 7) (tp := tp) (bt := bt) (b := (fm_uL b 2 (82 + A.1.2.length) (Int64.ofNat (sp_c8 (sp_wd T n (sp_n T n p)))))) hTw4 (by decide) (by decide) (by decide) hmc3
        refine fe_ivV hrc5 (by omega) (by rfl) (by rfl) (by rfl) (by rfl) (by rfl) (by rfl) ?_
        rcases hxc5 with ⟨hwc5, rfl, hmc5⟩ | ⟨hwc5, rfl, hmc5⟩
        · refine fe_s 1 (pc' := cond (fx_cb .ne 1 0) 62 60) (lc' := [(1, .int (nI (3646 + (5 * (A.1.2.length))))), (0, .ref 0)]) (stk' := []) (mem' := fm gc5 tp bt (fm_u a 1 (3646 + (5 * (A.1.2.length))) (nI (sp_v T n (sp_n T n (sp_n T n (sp_n T n p)))))) (fm_uL b 2 (82 + A.1.2.length) (Int64.ofNat (sp_c8 (sp_wd T n (sp_n T n p)))))) (by intro _ _ _; eq_refl) ?_
          rw [show (fx_cb .ne 1 0) = true from by decide]
          dsimp only [cond]
          refine fe_s 1 (pc' := 63) (lc' := [(1, .int (nI (3646 + (5 * (A.1.2.length))))), (0, .ref 0)]) (stk' := [.ref 0]) (mem' := fm gc5 tp bt (fm_u a 1 (3646 + (5 * (A.1.2.length))) (nI (sp_v T n (sp_n T n (sp_n T n (sp_n T n p)))))) (fm_uL b 2 (82 + A.1.2.length) (Int64.ofNat (sp_c8 (sp_wd T n (sp_n T n p)))))) (by intro _ _ _; eq_refl) ?_
          obtain ⟨xc6, hrc6, hxc6⟩ := mr_cellHere (tp := tp) (bt := bt) hTw4 hAw4 hmc5
          refine fe_ivV hrc6 (by omega) (by rfl) (by rfl) (by rfl) (by rfl) (by rfl) (by rfl) ?_
          rcases hxc6 with ⟨nmc6, foc6, rfl⟩ | ⟨nmc6, foc6, rfl⟩ | ⟨nmc6, rfl⟩
          · have nkc6 := nmc6.1
            refine fe_s 3 (pc' := 69) (lc' := [(2, .int (nI (sp_iC A.1.1 (sp_wd T n (sp_n T n (sp_n T n (sp_n T n (sp_n T n (sp_n T n p))))))))), (1, .int (nI (3646 + (5 * (A.1.2.length))))), (0, .ref 0)]) (stk' := [.int (-1), .int (nI (sp_iC A.1.1 (sp_wd T n (sp_n T n (sp_n T n (sp_n T n (sp_n T n (sp_n T n p))))))))]) (mem' := fm gc5 tp bt (fm_u a 1 (3646 + (5 * (A.1.2.length))) (nI (sp_v T n (sp_n T n (sp_n T n (sp_n T n p)))))) (fm_uL b 2 (82 + A.1.2.length) (Int64.ofNat (sp_c8 (sp_wd T n (sp_n T n p)))))) (by intro _ _ _; eq_refl) ?_
            refine fe_s 1 (pc' := cond (fx_cb .eq (nI (sp_iC A.1.1 (sp_wd T n (sp_n T n (sp_n T n (sp_n T n (sp_n T n (sp_n T n p)))))))) (-1)) 86 72) (lc' := [(2, .int (nI (sp_iC A.1.1 (sp_wd T n (sp_n T n (sp_n T n (sp_n T n (sp_n T n (sp_n T n p))))))))), (1, .int (nI (3646 + (5 * (A.1.2.length))))), (0, .ref 0)]) (stk' := []) (mem' := fm gc5 tp bt (fm_u a 1 (3646 + (5 * (A.1.2.length))) (nI (sp_v T n (sp_n T n (sp_n T n (sp_n T n p)))))) (fm_uL b 2 (82 + A.1.2.length) (Int64.ofNat (sp_c8 (sp_wd T n (sp_n T n p)))))) (by intro _ _ _; eq_refl) ?_
            rw [show (fx_cb .eq (nI (sp_iC A.1.1 (sp_wd T n (sp_n T n (sp_n T n (sp_n T n (sp_n T n (sp_n T n p)))))))) (-1)) = false from cb_n_eq (by omega) (by decide)]
            dsimp only [cond]
            refine fe_s 2 (pc' := 74) (lc' := [(2, .int (nI (sp_iC A.1.1 (sp_wd T n (sp_n T n (sp_n T n (sp_n T n (sp_n T n (sp_n T n p))))))))), (1, .int (nI (3646 + (5 * (A.1.2.length))))), (0, .ref 0)]) (stk' := [.int (nI (sp_iC A.1.1 (sp_wd T n (sp_n T n (sp_n T n (sp_n T n (sp_n T n (sp_n T n p)))))))), .ref 0]) (mem' := fm gc5 tp bt (fm_u a 1 (3646 + (5 * (A.1.2.length))) (nI (sp_v T n (sp_n T n (sp_n T n (sp_n T n p)))))) (fm_uL b 2 (82 + A.1.2.length) (Int64.ofNat (sp_c8 (sp_wd T n (sp_n T n p)))))) (by intro _ _ _; eq_refl) ?_
            have hrc7 := mr_isNewShore (g := gc5) (tp := tp) (bt := bt) hAw4 foc6
            cases hsc7 : sp_sh A (sp_iC A.1.1 (sp_wd T n (sp_n T n (sp_n T n (sp_n T n (sp_n T n (sp_n T n p)))))))
            · rw [hsc7, if_neg (by decide)] at hrc7
              refine fe_ivV hrc7 (by omega) (by rfl) (by rfl) (by rfl) (by rfl) (by rfl) (by rfl) ?_
              refine fe_s 1 (pc' := cond (fx_cb .ne 0 0) 86 80) (lc' := [(2, .int (nI (sp_iC A.1.1 (sp_wd T n (sp_n T n (sp_n T n (sp_n T n (sp_n T n (sp_n T n p))))))))), (1, .int (nI (3646 + (5 * (A.1.2.length))))), (0, .ref 0)]) (stk' := []) (mem' := fm gc5 tp bt (fm_u a 1 (3646 + (5 * (A.1.2.length))) (nI (sp_v T n (sp_n T n (sp_n T n (sp_n T n p)))))) (fm_uL b 2 (82 + A.1.2.length) (Int64.ofNat (sp_c8 (sp_wd T n (sp_n T n p)))))) (by intro _ _ _; eq_refl) ?_
              rw [show (fx_cb .ne 0 0) = false from by decide]
              dsimp only [cond]
              refine fe_s 2 (pc' := 82) (lc' := [(2, .int (nI (sp_iC A.1.1 (sp_wd T n (sp_n T n (sp_n T n (sp_n T n (sp_n T n (sp_n T n p))))))))), (1, .int (nI (3646 + (5 * (A.1.2.length))))), (0, .ref 0)]) (stk' := [.int 5, .ref 0]) (mem' := fm gc5 tp bt (fm_u a 1 (3646 + (5 * (A.1.2.length))) (nI (sp_v T n (sp_n T n (sp_n T n (sp_n T n p)))))) (fm_uL b 2 (82 + A.1.2.length) (Int64.ofNat (sp_c8 (sp_wd T n (sp_n T n p)))))) (by intro _ _ _; eq_refl) ?_
              obtain ⟨gc8, hrc8, txc8, hmc8⟩ := mr_failsx (tp := tp) (bt := bt) (a := (fm_u a 1 (3646 + (5 * (A.1.2.length))) (nI (sp_v T n (sp_n T n (sp_n T n (sp_n T n p))))))) (b := (fm_uL b 2 (82 + A.1.2.length) (Int64.ofNat (sp_c8 (sp_wd T n (sp_n T n p)))))) (x := 5) hmc5 (by decide) (by omega)
              refine fe_ivV hrc8 (by omega) (by rfl) (by rfl) (by rfl) (by rfl) (by rfl) (by rfl) ?_
              refine fe_ret ⟨0, _, _, _, ⟨(fm_tx8_tr (fm_tx8_tr (fm_tx8_tr (fm_tx8_tr (fm_tx8_tr fm_tx8_rf txc1) txc2) txc3) txc5) txc8), (mfa_u mfa_rf (by omega)), (mfb_u mfb_rf (by omega)), Or.inr ⟨rfl, (5, sp_s T n (sp_n T n (sp_n T n (sp_n T n (sp_n T n (sp_n T n p)))))), ?_, hmc8⟩⟩, rfl⟩ (by rfl) (by rfl) (by rfl)
              unfold sp_pWalk
              rw [if_neg (by omega), sp_new_t nmc1 htc1, sp_word_t hwc2, sp_num_t hwc3 hvc3, sp_word_t hwc5, sp_cell_t nmc6 foc6, if_neg (by rw [hsc7]; decide)]
            · rw [hsc7, if_pos rfl] at hrc7
              refine fe_ivV hrc7 (by omega) (by rfl) (by rfl) (by rfl) (by rfl) (by rfl) (by rfl) ?_
              refine fe_s 1 (pc' := cond (fx_cb .ne 1 0) 86 80) (lc' := [(2, .int (nI (sp_iC A.1.1 (sp_wd T n (sp_n T n (sp_n T n (sp_n T n (sp_n T n (sp_n T n p))))))))), (1, .int (nI (3646 + (5 * (A.1.2.length))))), (0, .ref 0)]) (stk' := []) (mem' := fm gc5 tp bt (fm_u a 1 (3646 + (5 * (A.1.2.length))) (nI (sp_v T n (sp_n T n (sp_n T n (sp_n T n p)))))) (fm_uL b 2 (82 + A.1.2.length) (Int64.ofNat (sp_c8 (sp_wd T n (sp_n T n p)))))) (by intro _ _ _; eq_refl) ?_
              rw [show (fx_cb .ne 1 0) = true from by decide]
              dsimp only [cond]
              refine fe_s 5 (pc' := 96) (lc' := [(2, .int (nI (sp_iC A.1.1 (sp_wd T n (sp_n T n (sp_n T n (sp_n T n (sp_n T n (sp_n T n p))))))))), (1, .int (nI (3646 + (5 * (A.1.2.length))))), (0, .ref 0)]) (stk' := [.int 3368, .ref 1, .int 72, .ref 0]) (mem' := fm gc5 tp bt (fm_u a 1 (3646 + (5 * (A.1.2.length))) (nI (sp_v T n (sp_n T n (sp_n T n (sp_n T n p)))))) (fm_uL b 2 (82 + A.1.2.length) (Int64.ofNat (sp_c8 (sp_wd T n (sp_n T n p)))))) (by intro _ _ _; eq_refl) ?_
              refine fe_ldI (by rfl) (by rfl) (fx_inN (i := 3368) (by omega) (by omega)) ?_
              rw [show Int32.toNatClampNeg (3368) = 3368 from rfl]
              rw [show (fm_u a 1 (3646 + (5 * (A.1.2.length))) (nI (sp_v T n (sp_n T n (sp_n T n (sp_n T n p)))))) 1 3368 = nI (A.1.1.length) from hAw4.1.1]
              refine fe_s 3 (pc' := 100) (lc' := [(2, .int (nI (sp_iC A.1.1 (sp_wd T n (sp_n T n (sp_n T n (sp_n T n (sp_n T n (sp_n T n p))))))))), (1, .int (nI (3646 + (5 * (A.1.2.length))))), (0, .ref 0)]) (stk' := [.int ((nI (3646 + (5 * (A.1.2.length)))) + 1), .int (nI (A.1.1.length)), .int 72, .ref 0]) (mem' := fm gc5 tp bt (fm_u a 1 (3646 + (5 * (A.1.2.length))) (nI (sp_v T n (sp_n T n (sp_n T n (sp_n T n p)))))) (fm_uL b 2 (82 + A.1.2.length) (Int64.ofNat (sp_c8 (sp_wd T n (sp_n T n p)))))) (by intro _ _ _; eq_refl) ?_
              rw [show ((nI (3646 + (5 * (A.1.2.length)))) + 1 : Int32) = nI ((3646 + (5 * (A.1.2.length))) + 1) from by simp only [show (1 : Int32) = nI 1 from rfl, nI_add, fm_mul]]
              obtain ⟨xc9, gc9, ac9, bc9, hrc9, txc9, ebc9, hxc9⟩ := mr_oldOne (t := (3646 + (5 * (A.1.2.length))) + 1) (tp := tp) (bt := bt) hTw4 hAw4 hmc5 (by omega)
              rw [ebc9] at hrc9
              refine fe_ivV hrc9 (by omega) (by rfl) (by rfl) (by rfl) (by rfl) (by rfl) (by rfl) ?_
              rcases hxc9 with ⟨nnc9, ffc9, rfl, eac9, hmc9⟩ | ⟨nnc9, ffc9, rfl, eac9, hmc9⟩ | ⟨nnc9, rfl, eac9, hmc9⟩
              · rw [eac9]
                have hTw10 := mT_u (t := 1) (i := (3646 + (5 * (A.1.2.length))) + 1) (x := nI (sp_iC A.1.1 (sp_wd T n (sp_n T n (sp_n T n (sp_n T n (sp_n T n (sp_n T n p)))))))) (by decide) hTw4
                have hAw10 := md_u (t := (3646 + (5 * (A.1.2.length))) + 1) (x := nI (sp_iC A.1.1 (sp_wd T n (sp_n T n (sp_n T n (sp_n T n (sp_n T n (sp_n T n p)))))))) hAw4 (by omega) (by omega) (fun c hc => by omega) (fun i hi => by omega) (fun i hi => by omega)
                refine fe_s 1 (pc' := cond (fx_cb .ne 1 0) 108 106) (lc' := [(2, .int (nI (sp_iC A.1.1 (sp_wd T n (sp_n T n (sp_n T n (sp_n T n (sp_n T n (sp_n T n p))))))))), (1, .int (nI (3646 + (5 * (A.1.2.length))))), (0, .ref 0)]) (stk' := []) (mem' := fm gc9 tp bt (fm_u (fm_u a 1 (3646 + (5 * (A.1.2.length))) (nI (sp_v T n (sp_n T n (sp_n T n (sp_n T n p)))))) 1 ((3646 + (5 * (A.1.2.length))) + 1) (nI (sp_iC A.1.1 (sp_wd T n (sp_n T n (sp_n T n (sp_n T n (sp_n T n (sp_n T n p))))))))) (fm_uL b 2 (82 + A.1.2.length) (Int64.ofNat (sp_c8 (sp_wd T n (sp_n T n p)))))) (by intro _ _ _; eq_refl) ?_
                rw [show (fx_cb .ne 1 0) = true from by decide]
                dsimp only [cond]
                refine fe_s 4 (pc' := 116) (lc' := [(2, .int (nI (sp_iC A.1.1 (sp_wd T n (sp_n T n (sp_n T n (sp_n T n (sp_n T n (sp_n T n p))))))))), (1, .int (nI (3646 + (5 * (A.1.2.length))))), (0, .ref 0)]) (stk' := [.int 3369, .ref 1, .int 3369, .ref 1]) (mem' := fm gc9 tp bt (fm_u (fm_u a 1 (3646 + (5 * (A.1.2.length))) (nI (sp_v T n (sp_n T n (sp_n T n (sp_n T n p)))))) 1 ((3646 + (5 * (A.1.2.length))) + 1) (nI (sp_iC A.1.1 (sp_wd T n (sp_n T n (sp_n T n (sp_n T n (sp_n T n (sp_n T n p))))))))) (fm_uL b 2 (82 + A.1.2.length) (Int64.ofNat (sp_c8 (sp_wd T n (sp_n T n p)))))) (by intro _ _ _; eq_refl) ?_
                refine fe_ldI (by rfl) (by rfl) (fx_inN (i := 3369) (by omega) (by omega)) ?_
                rw [show Int32.toNatClampNeg (3369) = 3369 from rfl]
                rw [show (fm_u (fm_u a 1 (3646 + (5 * (A.1.2.length))) (nI (sp_v T n (sp_n T n (sp_n T n (sp_n T n p)))))) 1 ((3646 + (5 * (A.1.2.length))) + 1) (nI (sp_iC A.1.1 (sp_wd T n (sp_n T n (sp_n T n (sp_n T n (sp_n T n (sp_n T n p))))))))) 1 3369 = nI (A.1.2.length) from hAw10.1.2.2.1]
                refine fe_s 2 (pc' := 119) (lc' := [(2, .int (nI (sp_iC A.1.1 (sp_wd T n (sp_n T n (sp_n T n (sp_n T n (sp_n T n (sp_n T n p))))))))), (1, .int (nI (3646 + (5 * (A.1.2.length))))), (0, .ref 0)]) (stk' := [.int ((nI (A.1.2.length)) + 1), .int 3369, .ref 1]) (mem' := fm gc9 tp bt (fm_u (fm_u a 1 (3646 + (5 * (A.1.2.length))) (nI (sp_v T n (sp_n T n (sp_n T n (sp_n T n p)))))) 1 ((3646 + (5 * (A.1.2.length))) + 1) (nI (sp_iC A.1.1 (sp_wd T n (sp_n T n (sp_n T n (sp_n T n (sp_n T n (sp_n T n p))))))))) (fm_uL b 2 (82 + A.1.2.length) (Int64.ofNat (sp_c8 (sp_wd T n (sp_n T n p)))))) (by intro _ _ _; eq_refl) ?_
                rw [show ((nI (A.1.2.length)) + 1 : Int32) = nI ((A.1.2.length) + 1) from by simp only [show (1 : Int32) = nI 1 from rfl, nI_add, fm_mul]]
                refine fe_stI (mem' := fm gc9 tp bt (fm_u (fm_u (fm_u a 1 (3646 + (5 * (A.1.2.length))) (nI (sp_v T n (sp_n T n (sp_n T n (sp_n T n p)))))) 1 ((3646 + (5 * (A.1.2.length))) + 1) (nI (sp_iC A.1.1 (sp_wd T n (sp_n T n (sp_n T n (sp_n T n (sp_n T n (sp_n T n p))))))))) 1 (3369 : Int32).toNatClampNeg (nI ((A.1.2.length) + 1))) (fm_uL b 2 (82 + A.1.2.length) (Int64.ofNat (sp_c8 (sp_wd T n (sp_n T n p)))))) (by rfl) (by rfl) (fx_inN (i := 3369) (by omega) (by omega)) fm_si1 ?_
                rw [show Int32.toNatClampNeg (3369) = 3369 from rfl]
                have hTw11 := mT_u (t := 1) (i := 3369) (x := nI ((A.1.2.length) + 1)) (by decide) hTw10
                refine fe_s 1 (pc' := 121) (lc' := [(2, .int (nI (sp_iC A.1.1 (sp_wd T n (sp_n T n (sp_n T n (sp_n T n (sp_n T n (sp_n T n p))))))))), (1, .int (nI (3646 + (5 * (A.1.2.length))))), (0, .ref 0)]) (stk' := [.int 1]) (mem' := fm gc9 tp bt (fm_u (fm_u (fm_u a 1 (3646 + (5 * (A.1.2.length))) (nI (sp_v T n (sp_n T n (sp_n T n (sp_n T n p)))))) 1 ((3646 + (5 * (A.1.2.length))) + 1) (nI (sp_iC A.1.1 (sp_wd T n (sp_n T n (sp_n T n (sp_n T n (sp_n T n (sp_n T n p))))))))) 1 3369 (nI ((A.1.2.length) + 1))) (fm_uL b 2 (82 + A.1.2.length) (Int64.ofNat (sp_c8 (sp_wd T n (sp_n T n p)))))) (by intro _ _ _; eq_refl) ?_
                refine fe_ret ⟨1, _, _, _, ⟨(fm_tx8_tr (fm_tx8_tr (fm_tx8_tr (fm_tx8_tr (fm_tx8_tr fm_tx8_rf txc1) txc2) txc3) txc5) txc9), (mfa_u (mfa_u (mfa_u mfa_rf (by omega)) (by omega)) (by omega)), (mfb_u mfb_rf (by omega)), Or.inl ⟨rfl, sp_addW A (sp_wd T n (sp_n T n p)) (sp_v T n (sp_n T n (sp_n T n (sp_n T n p)))), s, (sp_n T n (sp_n T n (sp_n T n (sp_n T n (sp_n T n (sp_n T n p)))))), ?_, hmc9, ?_, hst.1, (((fm_tx8_tr (fm_tx8_tr (fm_tx8_tr (fm_tx8_tr (fm_tx8_tr fm_tx8_rf txc1) txc2) txc3) txc5) txc9) 20 (by decide) (by decide) (by decide) (by decide) (by decide) (by decide)).trans hst.2)⟩⟩, rfl⟩ (by rfl) (by rfl) (by rfl)
                · unfold sp_pWalk
                  rw [if_neg (by omega), sp_new_t nmc1 htc1, sp_word_t hwc2, sp_num_t hwc3 hvc3, sp_word_t hwc5, sp_cell_t nnc9 ffc9, if_pos hsc7]
                · refine md_addW (w := (sp_v T n (sp_n T n (sp_n T n (sp_n T n p))))) hAw10 (by omega) ?_ hvc3 fm_vL2s (sp_nm_lt (sp_n_le h.1) nmc1)
                  rw [fm_v1 (by omega)]; exact fm_v1s
              · exact absurd foc6 ffc9
              · exact absurd nmc6 nnc9
          · have nkc6 := nmc6.1
            refine fe_s 3 (pc' := 69) (lc' := [(2, .int (-1)), (1, .int (nI (3646 + (5 * (A.1.2.length))))), (0, .ref 0)]) (stk' := [.int (-1), .int (-1)]) (mem' := fm gc5 tp bt (fm_u a 1 (3646 + (5 * (A.1.2.length))) (nI (sp_v T n (sp_n T n (sp_n T n (sp_n T n p)))))) (fm_uL b 2 (82 + A.1.2.length) (Int64.ofNat (sp_c8 (sp_wd T n (sp_n T n p)))))) (by intro _ _ _; eq_refl) ?_
            refine fe_s 1 (pc' := cond (fx_cb .eq (-1) (-1)) 86 72) (lc' := [(2, .int (-1)), (1, .int (nI (3646 + (5 * (A.1.2.length))))), (0, .ref 0)]) (stk' := []) (mem' := fm gc5 tp bt (fm_u a 1 (3646 + (5 * (A.1.2.length))) (nI (sp_v T n (sp_n T n (sp_n T n (sp_n T n p)))))) (fm_uL b 2 (82 + A.1.2.length) (Int64.ofNat (sp_c8 (sp_wd T n (sp_n T n p)))))) (by intro _ _ _; eq_refl) ?_
            rw [show (fx_cb .eq (-1) (-1)) = true from by decide]
            dsimp only [cond]
            refine fe_s 5 (pc' := 96) (lc' := [(2, .int (-1)), (1, .int (nI (3646 + (5 * (A.1.2.length))))), (0, .ref 0)]) (stk' := [.int 3368, .ref 1, .int 72, .ref 0]) (mem' := fm gc5 tp bt (fm_u a 1 (3646 + (5 * (A.1.2.length))) (nI (sp_v T n (sp_n T n (sp_n T n (sp_n T n p)))))) (fm_uL b 2 (82 + A.1.2.length) (Int64.ofNat (sp_c8 (sp_wd T n (sp_n T n p)))))) (by intro _ _ _; eq_refl) ?_
            refine fe_ldI (by rfl) (by rfl) (fx_inN (i := 3368) (by omega) (by omega)) ?_
            rw [show Int32.toNatClampNeg (3368) = 3368 from rfl]
            rw [show (fm_u a 1 (3646 + (5 * (A.1.2.length))) (nI (sp_v T n (sp_n T n (sp_n T n (sp_n T n p)))))) 1 3368 = nI (A.1.1.length) from hAw4.1.1]
            refine fe_s 3 (pc' := 100) (lc' := [(2, .int (-1)), (1, .int (nI (3646 + (5 * (A.1.2.length))))), (0, .ref 0)]) (stk' := [.int ((nI (3646 + (5 * (A.1.2.length)))) + 1), .int (nI (A.1.1.length)), .int 72, .ref 0]) (mem' := fm gc5 tp bt (fm_u a 1 (3646 + (5 * (A.1.2.length))) (nI (sp_v T n (sp_n T n (sp_n T n (sp_n T n p)))))) (fm_uL b 2 (82 + A.1.2.length) (Int64.ofNat (sp_c8 (sp_wd T n (sp_n T n p)))))) (by intro _ _ _; eq_refl) ?_
            rw [show ((nI (3646 + (5 * (A.1.2.length)))) + 1 : Int32) = nI ((3646 + (5 * (A.1.2.length))) + 1) from by simp only [show (1 : Int32) = nI 1 from rfl, nI_add, fm_mul]]
            obtain ⟨xc12, gc12, ac12, bc12, hrc12, txc12, ebc12, hxc12⟩ := mr_oldOne (t := (3646 + (5 * (A.1.2.length))) + 1) (tp := tp) (bt := bt) hTw4 hAw4 hmc5 (by omega)
            rw [ebc12] at hrc12
            refine fe_ivV hrc12 (by omega) (by rfl) (by rfl) (by rfl) (by rfl) (by rfl) (by rfl) ?_
            rcases hxc12 with ⟨nnc12, ffc12, rfl, eac12, hmc12⟩ | ⟨nnc12, ffc12, rfl, eac12, hmc12⟩ | ⟨nnc12, rfl, eac12, hmc12⟩
            · exact absurd ffc12 foc6
            · rw [eac12]
              have hTw13 := mT_u (t := 1) (i := (3646 + (5 * (A.1.2.length))) + 1) (x := (-1)) (by decide) hTw4
              have hAw13 := md_u (t := (3646 + (5 * (A.1.2.length))) + 1) (x := (-1)) hAw4 (by omega) (by omega) (fun c hc => by omega) (fun i hi => by omega) (fun i hi => by omega)
              refine fe_s 1 (pc' := cond (fx_cb .ne 0 0) 108 106) (lc' := [(2, .int (-1)), (1, .int (nI (3646 + (5 * (A.1.2.length))))), (0, .ref 0)]) (stk' := []) (mem' := fm gc12 tp bt (fm_u (fm_u a 1 (3646 + (5 * (A.1.2.length))) (nI (sp_v T n (sp_n T n (sp_n T n (sp_n T n p)))))) 1 ((3646 + (5 * (A.1.2.length))) + 1) (-1)) (fm_uL b 2 (82 + A.1.2.length) (Int64.ofNat (sp_c8 (sp_wd T n (sp_n T n p)))))) (by intro _ _ _; eq_refl) ?_
              rw [show (fx_cb .ne 0 0) = false from by decide]
              dsimp only [cond]
              refine fe_s 1 (pc' := 107) (lc' := [(2, .int (-1)), (1, .int (nI (3646 + (5 * (A.1.2.length))))), (0, .ref 0)]) (stk' := [.int 0]) (mem' := fm gc12 tp bt (fm_u (fm_u a 1 (3646 + (5 * (A.1.2.length))) (nI (sp_v T n (sp_n T n (sp_n T n (sp_n T n p)))))) 1 ((3646 + (5 * (A.1.2.length))) + 1) (-1)) (fm_uL b 2 (82 + A.1.2.length) (Int64.ofNat (sp_c8 (sp_wd T n (sp_n T n p)))))) (by intro _ _ _; eq_refl) ?_
              refine fe_ret ⟨0, _, _, _, ⟨(fm_tx8_tr (fm_tx8_tr (fm_tx8_tr (fm_tx8_tr (fm_tx8_tr fm_tx8_rf txc1) txc2) txc3) txc5) txc12), (mfa_u (mfa_u mfa_rf (by omega)) (by omega)), (mfb_u mfb_rf (by omega)), Or.inr ⟨rfl, (3, sp_s T n (sp_n T n (sp_n T n (sp_n T n (sp_n T n (sp_n T n p)))))), ?_, hmc12⟩⟩, rfl⟩ (by rfl) (by rfl) (by rfl)
              unfold sp_pWalk
              rw [if_neg (by omega), sp_new_t nmc1 htc1, sp_word_t hwc2, sp_num_t hwc3 hvc3, sp_word_t hwc5, sp_cell_3 nnc12 ffc12]
            · exact absurd nmc6 nnc12
          · refine fe_s 3 (pc' := 69) (lc' := [(2, .int (-1)), (1, .int (nI (3646 + (5 * (A.1.2.length))))), (0, .ref 0)]) (stk' := [.int (-1), .int (-1)]) (mem' := fm gc5 tp bt (fm_u a 1 (3646 + (5 * (A.1.2.length))) (nI (sp_v T n (sp_n T n (sp_n T n (sp_n T n p)))))) (fm_uL b 2 (82 + A.1.2.length) (Int64.ofNat (sp_c8 (sp_wd T n (sp_n T n p)))))) (by intro _ _ _; eq_refl) ?_
            refine fe_s 1 (pc' := cond (fx_cb .eq (-1) (-1)) 86 72) (lc' := [(2, .int (-1)), (1, .int (nI (3646 + (5 * (A.1.2.length))))), (0, .ref 0)]) (stk' := []) (mem' := fm gc5 tp bt (fm_u a 1 (3646 + (5 * (A.1.2.length))) (nI (sp_v T n (sp_n T n (sp_n T n (sp_n T n p)))))) (fm_uL b 2 (82 + A.1.2.length) (Int64.ofNat (sp_c8 (sp_wd T n (sp_n T n p)))))) (by intro _ _ _; eq_refl) ?_
            rw [show (fx_cb .eq (-1) (-1)) = true from by decide]
            dsimp only [cond]
            refine fe_s 5 (pc' := 96) (lc' := [(2, .int (-1)), (1, .int (nI (3646 + (5 * (A.1.2.length))))), (0, .ref 0)]) (stk' := [.int 3368, .ref 1, .int 72, .ref 0]) (mem' := fm gc5 tp bt (fm_u a 1 (3646 + (5 * (A.1.2.length))) (nI (sp_v T n (sp_n T n (sp_n T n (sp_n T n p)))))) (fm_uL b 2 (82 + A.1.2.length) (Int64.ofNat (sp_c8 (sp_wd T n (sp_n T n p)))))) (by intro _ _ _; eq_refl) ?_
            refine fe_ldI (by rfl) (by rfl) (fx_inN (i := 3368) (by omega) (by omega)) ?_
            rw [show Int32.toNatClampNeg (3368) = 3368 from rfl]
            rw [show (fm_u a 1 (3646 + (5 * (A.1.2.length))) (nI (sp_v T n (sp_n T n (sp_n T n (sp_n T n p)))))) 1 3368 = nI (A.1.1.length) from hAw4.1.1]
            refine fe_s 3 (pc' := 100) (lc' := [(2, .int (-1)), (1, .int (nI (3646 + (5 * (A.1.2.length))))), (0, .ref 0)]) (stk' := [.int ((nI (3646 + (5 * (A.1.2.length)))) + 1), .int (nI (A.1.1.length)), .int 72, .ref 0]) (mem' := fm gc5 tp bt (fm_u a 1 (3646 + (5 * (A.1.2.length))) (nI (sp_v T n (sp_n T n (sp_n T n (sp_n T n p)))))) (fm_uL b 2 (82 + A.1.2.length) (Int64.ofNat (sp_c8 (sp_wd T n (sp_n T n p)))))) (by intro _ _ _; eq_refl) ?_
            rw [show ((nI (3646 + (5 * (A.1.2.length)))) + 1 : Int32) = nI ((3646 + (5 * (A.1.2.length))) + 1) from by simp only [show (1 : Int32) = nI 1 from rfl, nI_add, fm_mul]]
            obtain ⟨xc14, gc14, ac14, bc14, hrc14, txc14, ebc14, hxc14⟩ := mr_oldOne (t := (3646 + (5 * (A.1.2.length))) + 1) (tp := tp) (bt := bt) hTw4 hAw4 hmc5 (by omega)
            rw [ebc14] at hrc14
            refine fe_ivV hrc14 (by omega) (by rfl) (by rfl) (by rfl) (by rfl) (by rfl) (by rfl) ?_
            rcases hxc14 with ⟨nnc14, ffc14, rfl, eac14, hmc14⟩ | ⟨nnc14, ffc14, rfl, eac14, hmc14⟩ | ⟨nnc14, rfl, eac14, hmc14⟩
            · exact absurd nnc14 nmc6
            · exact absurd nnc14 nmc6
            · rw [eac14]
              refine fe_s 1 (pc' := cond (fx_cb .ne 0 0) 108 106) (lc' := [(2, .int (-1)), (1, .int (nI (3646 + (5 * (A.1.2.length))))), (0, .ref 0)]) (stk' := []) (mem' := fm gc14 tp bt (fm_u a 1 (3646 + (5 * (A.1.2.length))) (nI (sp_v T n (sp_n T n (sp_n T n (sp_n T n p)))))) (fm_uL b 2 (82 + A.1.2.length) (Int64.ofNat (sp_c8 (sp_wd T n (sp_n T n p)))))) (by intro _ _ _; eq_refl) ?_
              rw [show (fx_cb .ne 0 0) = false from by decide]
              dsimp only [cond]
              refine fe_s 1 (pc' := 107) (lc' := [(2, .int (-1)), (1, .int (nI (3646 + (5 * (A.1.2.length))))), (0, .ref 0)]) (stk' := [.int 0]) (mem' := fm gc14 tp bt (fm_u a 1 (3646 + (5 * (A.1.2.length))) (nI (sp_v T n (sp_n T n (sp_n T n (sp_n T n p)))))) (fm_uL b 2 (82 + A.1.2.length) (Int64.ofNat (sp_c8 (sp_wd T n (sp_n T n p)))))) (by intro _ _ _; eq_refl) ?_
              refine fe_ret ⟨0, _, _, _, ⟨(fm_tx8_tr (fm_tx8_tr (fm_tx8_tr (fm_tx8_tr (fm_tx8_tr fm_tx8_rf txc1) txc2) txc3) txc5) txc14), (mfa_u mfa_rf (by omega)), (mfb_u mfb_rf (by omega)), Or.inr ⟨rfl, (sp_m T n (sp_n T n (sp_n T n (sp_n T n (sp_n T n (sp_n T n p))))), sp_s T n (sp_n T n (sp_n T n (sp_n T n (sp_n T n (sp_n T n p)))))), ?_, hmc14⟩⟩, rfl⟩ (by rfl) (by rfl) (by rfl)
              unfold sp_pWalk
              rw [if_neg (by omega), sp_new_t nmc1 htc1, sp_word_t hwc2, sp_num_t hwc3 hvc3, sp_word_t hwc5, sp_cell_f nnc14]
        · refine fe_s 1 (pc' := cond (fx_cb .ne 0 0) 62 60) (lc' := [(1, .int (nI (3646 + (5 * (A.1.2.length))))), (0, .ref 0)]) (stk' := []) (mem' := fm gc5 tp bt (fm_u a 1 (3646 + (5 * (A.1.2.length))) (nI (sp_v T n (sp_n T n (sp_n T n (sp_n T n p)))))) (fm_uL b 2 (82 + A.1.2.length) (Int64.ofNat (sp_c8 (sp_wd T n (sp_n T n p)))))) (by intro _ _ _; eq_refl) ?_
          rw [show (fx_cb .ne 0 0) = false from by decide]
          dsimp only [cond]
          refine fe_s 1 (pc' := 61) (lc' := [(1, .int (nI (3646 + (5 * (A.1.2.length))))), (0, .ref 0)]) (stk' := [.int 0]) (mem' := fm gc5 tp bt (fm_u a 1 (3646 + (5 * (A.1.2.length))) (nI (sp_v T n (sp_n T n (sp_n T n (sp_n T n p)))))) (fm_uL b 2 (82 + A.1.2.length) (Int64.ofNat (sp_c8 (sp_wd T n (sp_n T n p)))))) (by intro _ _ _; eq_refl) ?_
          refine fe_ret ⟨0, _, _, _, ⟨(fm_tx8_tr (fm_tx8_tr (fm_tx8_tr (fm_tx8_tr fm_tx8_rf txc1) txc2) txc3) txc5), (mfa_u mfa_rf (by omega)), (mfb_u mfb_rf (by omega)), Or.inr ⟨rfl, (sp_m T n (sp_n T n (sp_n T n (sp_n T n (sp_n T n p)))), sp_s T n (sp_n T n (sp_n T n (sp_n T n (sp_n T n p))))), ?_, hmc5⟩⟩, rfl⟩ (by rfl) (by rfl) (by rfl)
          unfold sp_pWalk
          rw [if_neg (by omega), sp_new_t nmc1 htc1, sp_word_t hwc2, sp_num_t hwc3 hvc3, sp_word_f hwc5]
      · rw [eac3]
        refine fe_s 1 (pc' := cond (fx_cb .eq 0 0) 60 49) (lc' := [(1, .int (nI (3646 + (5 * (A.1.2.length))))), (0, .ref 0)]) (stk' := []) (mem' := fm gc3 tp bt a (fm_uL b 2 (82 + A.1.2.length) (Int64.ofNat (sp_c8 (sp_wd T n (sp_n T n p)))))) (by intro _ _ _; eq_refl) ?_
        rw [show (fx_cb .eq 0 0) = true from by decide]
        dsimp only [cond]
        refine fe_s 1 (pc' := 61) (lc' := [(1, .int (nI (3646 + (5 * (A.1.2.length))))), (0, .ref 0)]) (stk' := [.int 0]) (mem' := fm gc3 tp bt a (fm_uL b 2 (82 + A.1.2.length) (Int64.ofNat (sp_c8 (sp_wd T n (sp_n T n p)))))) (by intro _ _ _; eq_refl) ?_
        refine fe_ret ⟨0, _, _, _, ⟨(fm_tx8_tr (fm_tx8_tr (fm_tx8_tr fm_tx8_rf txc1) txc2) txc3), mfa_rf, (mfb_u mfb_rf (by omega)), Or.inr ⟨rfl, (4, sp_s T n (sp_n T n (sp_n T n (sp_n T n p)))), ?_, hmc3⟩⟩, rfl⟩ (by rfl) (by rfl) (by rfl)
        unfold sp_pWalk
        rw [if_neg (by omega), sp_new_t nmc1 htc1, sp_word_t hwc2, sp_num_4 hwc3 hvc3]
      · rw [eac3]
        refine fe_s 1 (pc' := cond (fx_cb .eq 0 0) 60 49) (lc' := [(1, .int (nI (3646 + (5 * (A.1.2.length))))), (0, .ref 0)]) (stk' := []) (mem' := fm gc3 tp bt a (fm_uL b 2 (82 + A.1.2.length) (Int64.ofNat (sp_c8 (sp_wd T n (sp_n T n p)))))) (by intro _ _ _; eq_refl) ?_
        rw [show (fx_cb .eq 0 0) = true from by decide]
        dsimp only [cond]
        refine fe_s 1 (pc' := 61) (lc' := [(1, .int (nI (3646 + (5 * (A.1.2.length))))), (0, .ref 0)]) (stk' := [.int 0]) (mem' := fm gc3 tp bt a (fm_uL b 2 (82 + A.1.2.length) (Int64.ofNat (sp_c8 (sp_wd T n (sp_n T n p)))))) (by intro _ _ _; eq_refl) ?_
        refine fe_ret ⟨0, _, _, _, ⟨(fm_tx8_tr (fm_tx8_tr (fm_tx8_tr fm_tx8_rf txc1) txc2) txc3), mfa_rf, (mfb_u mfb_rf (by omega)), Or.inr ⟨rfl, (sp_m T n (sp_n T n (sp_n T n (sp_n T n p))), sp_s T n (sp_n T n (sp_n T n (sp_n T n p)))), ?_, hmc3⟩⟩, rfl⟩ (by rfl) (by rfl) (by rfl)
        unfold sp_pWalk
        rw [if_neg (by omega), sp_new_t nmc1 htc1, sp_word_t hwc2, sp_num_f hwc3]
    · refine fe_s 1 (pc' := cond (fx_cb .eq 0 0) 60 38) (lc' := [(1, .int (nI (3646 + (5 * (A.1.2.length))))), (0, .ref 0)]) (stk' := []) (mem' := fm gc2 tp bt a (fm_uL b 2 (82 + A.1.2.length) (Int64.ofNat (sp_c8 (sp_wd T n (sp_n T n p)))))) (by intro _ _ _; eq_refl) ?_
      rw [show (fx_cb .eq 0 0) = true from by decide]
      dsimp only [cond]
      refine fe_s 1 (pc' := 61) (lc' := [(1, .int (nI (3646 + (5 * (A.1.2.length))))), (0, .ref 0)]) (stk' := [.int 0]) (mem' := fm gc2 tp bt a (fm_uL b 2 (82 + A.1.2.length) (Int64.ofNat (sp_c8 (sp_wd T n (sp_n T n p)))))) (by intro _ _ _; eq_refl) ?_
      refine fe_ret ⟨0, _, _, _, ⟨(fm_tx8_tr (fm_tx8_tr fm_tx8_rf txc1) txc2), mfa_rf, (mfb_u mfb_rf (by omega)), Or.inr ⟨rfl, (sp_m T n (sp_n T n (sp_n T n p)), sp_s T n (sp_n T n (sp_n T n p))), ?_, hmc2⟩⟩, rfl⟩ (by rfl) (by rfl) (by rfl)
      unfold sp_pWalk
      rw [if_neg (by omega), sp_new_t nmc1 htc1, sp_word_f hwc2]
  · rw [ebc1]
    refine fe_s 1 (pc' := cond (fx_cb .eq 0 0) 60 27) (lc' := [(1, .int (nI (3646 + (5 * (A.1.2.length))))), (0, .ref 0)]) (stk' := []) (mem' := fm gc1 tp bt a b) (by intro _ _ _; eq_refl) ?_
    rw [show (fx_cb .eq 0 0) = true from by decide]
    dsimp only [cond]
    refine fe_s 1 (pc' := 61) (lc' := [(1, .int (nI (3646 + (5 * (A.1.2.length))))), (0, .ref 0)]) (stk' := [.int 0]) (mem' := fm gc1 tp bt a b) (by intro _ _ _; eq_refl) ?_
    refine fe_ret ⟨0, _, _, _, ⟨(fm_tx8_tr fm_tx8_rf txc1), mfa_rf, mfb_rf, Or.inr ⟨rfl, (6, sp_s T n p), ?_, hmc1⟩⟩, rfl⟩ (by rfl) (by rfl) (by rfl)
    unfold sp_pWalk
    rw [if_pos (by omega)]
    try rfl
  · rw [ebc1]
    refine fe_s 1 (pc' := cond (fx_cb .eq 0 0) 60 27) (lc' := [(1, .int (nI (3646 + (5 * (A.1.2.length))))), (0, .ref 0)]) (stk' := []) (mem' := fm gc1 tp bt a b) (by intro _ _ _; eq_refl) ?_
    rw [show (fx_cb .eq 0 0) = true from by decide]
    dsimp only [cond]
    refine fe_s 1 (pc' := 61) (lc' := [(1, .int (nI (3646 + (5 * (A.1.2.length))))), (0, .ref 0)]) (stk' := [.int 0]) (mem' := fm gc1 tp bt a b) (by intro _ _ _; eq_refl) ?_
    refine fe_ret ⟨0, _, _, _, ⟨(fm_tx8_tr fm_tx8_rf txc1), mfa_rf, mfb_rf, Or.inr ⟨rfl, (sp_m T n (sp_n T n p), sp_s T n (sp_n T n p)), ?_, hmc1⟩⟩, rfl⟩ (by rfl) (by rfl) (by rfl)
    unfold sp_pWalk
    rw [if_neg (by omega), sp_new_f nmc1]
  · rw [ebc1]
    refine fe_s 1 (pc' := cond (fx_cb .eq 0 0) 60 27) (lc' := [(1, .int (nI (3646 + (5 * (A.1.2.length))))), (0, .ref 0)]) (stk' := []) (mem' := fm gc1 tp bt a b) (by intro _ _ _; eq_refl) ?_
    rw [show (fx_cb .eq 0 0) = true from by decide]
    dsimp only [cond]
    refine fe_s 1 (pc' := 61) (lc' := [(1, .int (nI (3646 + (5 * (A.1.2.length))))), (0, .ref 0)]) (stk' := [.int 0]) (mem' := fm gc1 tp bt a b) (by intro _ _ _; eq_refl) ?_
    refine fe_ret ⟨0, _, _, _, ⟨(fm_tx8_tr fm_tx8_rf txc1), mfa_rf, mfb_rf, Or.inr ⟨rfl, (3, sp_s T n (sp_n T n p)), ?_, hmc1⟩⟩, rfl⟩ (by rfl) (by rfl) (by rfl)
    unfold sp_pWalk
    rw [if_neg (by omega), sp_new_3 nmc1 htc1]
theorem mo_u20 {x : Int32} (h : mo g T n p) : mo (upd g 20 x) T n p := by
  obtain ⟨h0, ⟨h11, h13, ⟨e, h14, q⟩, h12, h15, h16, h17, h18⟩, k1, k2⟩ := h
  have e15 : (upd g 20 x) 15 = g 15 := pk_un (by decide)
  exact ⟨h0, ⟨(pk_un (by decide)).trans h11, (pk_un (by decide)).trans h13, ⟨e, (pk_un (by decide)).trans h14, q⟩, (pk_un (by decide)).trans h12, fun z => e15.trans (h15 z), fun z => e15.trans (h16 z), by rw [e15]; exact h17, by rw [e15]; exact h18⟩, (pk_un (by decide)).trans k1, (pk_un (by decide)).trans k2⟩
/-- told0 may change, too -/
def fm_tx9 (g g' : Nat → Int32) : Prop := ∀ j, j ≠ 12 → j ≠ 13 → j ≠ 14 → j ≠ 15 → j ≠ 17 → j ≠ 18 → j ≠ 20 → g' j = g j
theorem mr_once0 (hT : mT a T n) (hA : md_L 3368 72 A a b) (h : mo g T n p) (hst : s < 8 ∧ g 20 = nI (32 * s)) (hk : sp_k T n p = 1) : ∃ (v : Int32) (g' : Nat → Int32) (a' : Nat → Nat → Int32) (b' : Nat → Nat → Int64), fr_T 8 244 [.ref 0, .int 5] (fm g tp bt a b) (some (.int v)) (fm g' tp bt a' b') ∧ (fm_tx9 g g') ∧ mfa a a' ∧ mfb b b' ∧ mPart T n (sp_pSet T n A s p 0 0) v g' a' b' := by
  suffices h : ∃ (v : Option Value) (mem' : fx_M), (fun R => ∃ (v : Int32) (g' : Nat → Int32) (a' : Nat → Nat → Int32) (b' : Nat → Nat → Int64), ((fm_tx9 g g') ∧ mfa a a' ∧ mfb b b' ∧ mPart T n (sp_pSet T n A s p 0 0) v g' a' b') ∧ R = (some (.int v), fm g' tp bt a' b')) (v, mem') ∧ fr_T 8 244 [.ref 0, .int 5] (fm g tp bt a b) v mem' by
    obtain ⟨v, mem', ⟨w, g', a', b', h1, hR⟩, h2⟩ := h
    cases hR
    exact ⟨w, g', a', b', h2, h1⟩
  refine fe_meth (f := 244) (as := [.ref 0, .int 5]) (F := fun R => ∃ (v : Int32) (g' : Nat → Int32) (a' : Nat → Nat → Int32) (b' : Nat → Nat → Int64), ((fm_tx9 g g') ∧ mfa a a' ∧ mfb b b' ∧ mPart T n (sp_pSet T n A s p 0 0) v g' a' b') ∧ R = (some (.int v), fm g' tp bt a' b')) (M := gk_m244) (by rfl) (by rfl) ?_
  have hq0 := hA.1.2.1
  have hq1 := hA.1.2.2.2
  have hs8 := hst.1
  by_cases hb : s / 2 ^ 0 % 2 = 1
  · have b1 : (nI (32 * s) >>> ((5 : Int32) &&& 31)) &&& 1 = 1 := mst_b0 s hs8 0 (by decide) hb
    refine fe_s 7 (pc' := 9) (lc' := [(0, .ref 0), (1, .int 5)]) (stk' := [.int 1, .int (((g 20) >>> (5 &&& 31)) &&& 1)]) (mem' := fm g tp bt a b) (by intro _ _ _; eq_refl) ?_
    try rw [hst.2]
    refine fe_s 1 (pc' := cond (fx_cb .ne (((nI (32 * s)) >>> (5 &&& 31)) &&& 1) 1) 18 12) (lc' := [(0, .ref 0), (1, .int 5)]) (stk' := []) (mem' := fm g tp bt a b) (by intro _ _ _; eq_refl) ?_
    rw [show (fx_cb .ne (((nI (32 * s)) >>> (5 &&& 31)) &&& 1) 1) = false from (by rw [b1]; decide)]
    dsimp only [cond]
    refine fe_s 2 (pc' := 14) (lc' := [(0, .ref 0), (1, .int 5)]) (stk' := [.int 5, .ref 0]) (mem' := fm g tp bt a b) (by intro _ _ _; eq_refl) ?_
    obtain ⟨gc1, hrc1, txc1, hmc1⟩ := mr_failsx (tp := tp) (bt := bt) (a := a) (b := b) (x := 5) h (by decide) (by omega)
    refine fe_ivV hrc1 (by omega) (by rfl) (by rfl) (by rfl) (by rfl) (by rfl) (by rfl) ?_
    refine fe_ret ⟨0, _, _, _, ⟨(fun j q1 q2 q3 q4 q5 q6 q7 => ((fm_tx8_tr fm_tx8_rf txc1) j q1 q2 q3 q4 q5 q6)), mfa_rf, mfb_rf, Or.inr ⟨rfl, (5, sp_s T n p), ?_, hmc1⟩⟩, rfl⟩ (by rfl) (by rfl) (by rfl)
    unfold sp_pSet
    rw [if_pos hb]
  · obtain ⟨b0, b2, b3⟩ := mst_b1 s hs8 0 (by decide) hb
    have b1 : ¬ (nI (32 * s) >>> ((5 : Int32) &&& 31)) &&& 1 = 1 := b0
    refine fe_s 7 (pc' := 9) (lc' := [(0, .ref 0), (1, .int 5)]) (stk' := [.int 1, .int (((g 20) >>> (5 &&& 31)) &&& 1)]) (mem' := fm g tp bt a b) (by intro _ _ _; eq_refl) ?_
    try rw [hst.2]
    refine fe_s 1 (pc' := cond (fx_cb .ne (((nI (32 * s)) >>> (5 &&& 31)) &&& 1) 1) 18 12) (lc' := [(0, .ref 0), (1, .int 5)]) (stk' := []) (mem' := fm g tp bt a b) (by intro _ _ _; eq_refl) ?_
    rw [show (fx_cb .ne (((nI (32 * s)) >>> (5 &&& 31)) &&& 1) 1) = true from (by show (!decide (_ = (1 : Int32))) = true; rw [decide_eq_false b1]; rfl)]
    dsimp only [cond]
    refine fe_s 9 (pc' := 31) (lc' := [(0, .ref 0), (1, .int 5)]) (stk' := [.ref 0]) (mem' := fm (upd g 20 ((g 20) ||| ((1 : Int32) <<< (5 &&& 31)))) tp bt a b) (by intro _ _ _; eq_refl) ?_
    try rw [hst.2]
    have hmc1 := mo_u20 (x := (nI (32 * s)) ||| ((1 : Int32) <<< (5 &&& 31))) h
    generalize hgc1 : upd g 20 ((nI (32 * s)) ||| ((1 : Int32) <<< (5 &&& 31))) = gc1 at hmc1 ⊢
    have h20c1 : gc1 20 = nI (32 * (s + 2 ^ 0)) := by rw [← hgc1, pk_us]; exact b2
    have huc1 : ∀ j, j ≠ 20 → gc1 j = g j := fun j hj => by rw [← hgc1, pk_un hj]
    obtain ⟨gc2, hrc2, txc2, hmc2⟩ := mr_aheado (tp := tp) (bt := bt) (b := b) hT hmc1 (by omega)
    refine fe_ivV hrc2 (by omega) (by rfl) (by rfl) (by rfl) (by rfl) (by rfl) (by rfl) ?_
    refine fe_s 8 (pc' := 45) (lc' := [(0, .ref 0), (1, .int 5)]) (stk' := [.int 6, .int 5, .int ((3370 + 5) - 5), .ref 0]) (mem' := fm gc2 tp bt a b) (by intro _ _ _; eq_refl) ?_
    rw [show ((3370 + 5) - 5 : Int32) = 3370 from rfl]
    refine fe_s 1 (pc' := cond (fx_cb .ne 5 6) 52 48) (lc' := [(0, .ref 0), (1, .int 5)]) (stk' := [.int 3370, .ref 0]) (mem' := fm gc2 tp bt a b) (by intro _ _ _; eq_refl) ?_
    rw [show (fx_cb .ne 5 6) = true from by decide]
    dsimp only [cond]
    refine fe_s 2 (pc' := 55) (lc' := [(0, .ref 0), (1, .int 5)]) (stk' := [.int 20, .int 0, .int 3370, .ref 0]) (mem' := fm gc2 tp bt a b) (by intro _ _ _; eq_refl) ?_
    obtain ⟨xc3, gc3, ac3, hrc3, txc3, hxc3⟩ := mr_number (t := 3370) (lo := 0) (hi := 20) (tp := tp) (bt := bt) (b := b) hT (by omega) (by decide) (by decide) hmc2
    refine fe_ivV hrc3 (by omega) (by rfl) (by rfl) (by rfl) (by rfl) (by rfl) (by rfl) ?_
    rcases hxc3 with ⟨hwc3, hvc3, rfl, eac3, hmc3⟩ | ⟨hwc3, hvc3, rfl, eac3, hmc3⟩ | ⟨hwc3, rfl, eac3, hmc3⟩
    · rw [eac3]
      have hTw4 := mT_u (t := 1) (i := 3370) (x := nI (sp_v T n (sp_n T n p))) (by decide) hT
      have hAw4 := md_u (t := 3370) (x := nI (sp_v T n (sp_n T n p))) hA (by omega) (by omega) (fun c hc => by omega) (fun i hi => by omega) (fun i hi => by omega)
      refine fe_ret ⟨1, _, _, _, ⟨(fun j q1 q2 q3 q4 q5 q6 q7 => ((fm_tx8_tr (fm_tx8_tr fm_tx8_rf txc2) txc3) j q1 q2 q3 q4 q5 q6).trans (huc1 j q7)), (mfa_u mfa_rf (by omega)), mfb_rf, Or.inl ⟨rfl, A, s + 2 ^ 0, (sp_n T n (sp_n T n p)), ?_, hmc3, hAw4, b3, ((fm_tx8_tr (fm_tx8_tr fm_tx8_rf txc2) txc3) 20 (by decide) (by decide) (by decide) (by decide) (by decide) (by decide)).trans h20c1⟩⟩, rfl⟩ (by rfl) (by rfl) (by rfl)
      unfold sp_pSet
      rw [if_neg hb, sp_num_t hwc3 hvc3]
    · rw [eac3]
      refine fe_ret ⟨0, _, _, _, ⟨(fun j q1 q2 q3 q4 q5 q6 q7 => ((fm_tx8_tr (fm_tx8_tr fm_tx8_rf txc2) txc3) j q1 q2 q3 q4 q5 q6).trans (huc1 j q7)), mfa_rf, mfb_rf, Or.inr ⟨rfl, (4, sp_s T n (sp_n T n p)), ?_, hmc3⟩⟩, rfl⟩ (by rfl) (by rfl) (by rfl)
      unfold sp_pSet
      rw [if_neg hb, sp_num_4 hwc3 hvc3]
    · rw [eac3]
      refine fe_ret ⟨0, _, _, _, ⟨(fun j q1 q2 q3 q4 q5 q6 q7 => ((fm_tx8_tr (fm_tx8_tr fm_tx8_rf txc2) txc3) j q1 q2 q3 q4 q5 q6).trans (huc1 j q7)), mfa_rf, mfb_rf, Or.inr ⟨rfl, (sp_m T n (sp_n T n p), sp_s T n (sp_n T n p)), ?_, hmc3⟩⟩, rfl⟩ (by rfl) (by rfl) (by rfl)
      unfold sp_pSet
      rw [if_neg hb, sp_num_f hwc3]
theorem mr_once1 (hT : mT a T n) (hA : md_L 3368 72 A a b) (h : mo g T n p) (hst : s < 8 ∧ g 20 = nI (32 * s)) (hk : sp_k T n p = 1) : ∃ (v : Int32) (g' : Nat → Int32) (a' : Nat → Nat → Int32) (b' : Nat → Nat → Int64), fr_T 8 244 [.ref 0, .int 6] (fm g tp bt a b) (some (.int v)) (fm g' tp bt a' b') ∧ (fm_tx9 g g') ∧ mfa a a' ∧ mfb b b' ∧ mPart T n (sp_pSet T n A s p 1 1) v g' a' b' := by
  suffices h : ∃ (v : Option Value) (mem' : fx_M), (fun R => ∃ (v : Int32) (g' : Nat → Int32) (a' : Nat → Nat → Int32) (b' : Nat → Nat → Int64), ((fm_tx9 g g') ∧ mfa a a' ∧ mfb b b' ∧ mPart T n (sp_pSet T n A s p 1 1) v g' a' b') ∧ R = (some (.int v), fm g' tp bt a' b')) (v, mem') ∧ fr_T 8 244 [.ref 0, .int 6] (fm g tp bt a b) v mem' by
    obtain ⟨v, mem', ⟨w, g', a', b', h1, hR⟩, h2⟩ := h
    cases hR
    exact ⟨w, g', a', b', h2, h1⟩
  refine fe_meth (f := 244) (as := [.ref 0, .int 6]) (F := fun R => ∃ (v : Int32) (g' : Nat → Int32) (a' : Nat → Nat → Int32) (b' : Nat → Nat → Int64), ((fm_tx9 g g') ∧ mfa a a' ∧ mfb b b' ∧ mPart T n (sp_pSet T n A s p 1 1) v g' a' b') ∧ R = (some (.int v), fm g' tp bt a' b')) (M := gk_m244) (by rfl) (by rfl) ?_
  have hq0 := hA.1.2.1
  have hq1 := hA.1.2.2.2
  have hs8 := hst.1
  by_cases hb : s / 2 ^ 1 % 2 = 1
  · have b1 : (nI (32 * s) >>> ((6 : Int32) &&& 31)) &&& 1 = 1 := mst_b0 s hs8 1 (by decide) hb
    refine fe_s 7 (pc' := 9) (lc' := [(0, .ref 0), (1, .int 6)]) (stk' := [.int 1, .int (((g 20) >>> (6 &&& 31)) &&& 1)]) (mem' := fm g tp bt a b) (by intro _ _ _; eq_refl) ?_
    try rw [hst.2]
    refine fe_s 1 (pc' := cond (fx_cb .ne (((nI (32 * s)) >>> (6 &&& 31)) &&& 1) 1) 18 12) (lc' := [(0, .ref 0), (1, .int 6)]) (stk' := []) (mem' := fm g tp bt a b) (by intro _ _ _; eq_refl) ?_
    rw [show (fx_cb .ne (((nI (32 * s)) >>> (6 &&& 31)) &&& 1) 1) = false from (by rw [b1]; decide)]
    dsimp only [cond]
    refine fe_s 2 (pc' := 14) (lc' := [(0, .ref 0), (1, .int 6)]) (stk' := [.int 5, .ref 0]) (mem' := fm g tp bt a b) (by intro _ _ _; eq_refl) ?_
    obtain ⟨gc1, hrc1, txc1, hmc1⟩ := mr_failsx (tp := tp) (bt := bt) (a := a) (b := b) (x := 5) h (by decide) (by omega)
    refine fe_ivV hrc1 (by omega) (by rfl) (by rfl) (by rfl) (by rfl) (by rfl) (by rfl) ?_
    refine fe_ret ⟨0, _, _, _, ⟨(fun j q1 q2 q3 q4 q5 q6 q7 => ((fm_tx8_tr fm_tx8_rf txc1) j q1 q2 q3 q4 q5 q6)), mfa_rf, mfb_rf, Or.inr ⟨rfl, (5, sp_s T n p), ?_, hmc1⟩⟩, rfl⟩ (by rfl) (by rfl) (by rfl)
    unfold sp_pSet
    rw [if_pos hb]
  · obtain ⟨b0, b2, b3⟩ := mst_b1 s hs8 1 (by decide) hb
    have b1 : ¬ (nI (32 * s) >>> ((6 : Int32) &&& 31)) &&& 1 = 1 := b0
    refine fe_s 7 (pc' := 9) (lc' := [(0, .ref 0), (1, .int 6)]) (stk' := [.int 1, .int (((g 20) >>> (6 &&& 31)) &&& 1)]) (mem' := fm g tp bt a b) (by intro _ _ _; eq_refl) ?_
    try rw [hst.2]
    refine fe_s 1 (pc' := cond (fx_cb .ne (((nI (32 * s)) >>> (6 &&& 31)) &&& 1) 1) 18 12) (lc' := [(0, .ref 0), (1, .int 6)]) (stk' := []) (mem' := fm g tp bt a b) (by intro _ _ _; eq_refl) ?_
    rw [show (fx_cb .ne (((nI (32 * s)) >>> (6 &&& 31)) &&& 1) 1) = true from (by show (!decide (_ = (1 : Int32))) = true; rw [decide_eq_false b1]; rfl)]
    dsimp only [cond]
    refine fe_s 9 (pc' := 31) (lc' := [(0, .ref 0), (1, .int 6)]) (stk' := [.ref 0]) (mem' := fm (upd g 20 ((g 20) ||| ((1 : Int32) <<< (6 &&& 31)))) tp bt a b) (by intro _ _ _; eq_refl) ?_
    try rw [hst.2]
    have hmc1 := mo_u20 (x := (nI (32 * s)) ||| ((1 : Int32) <<< (6 &&& 31))) h
    generalize hgc1 : upd g 20 ((nI (32 * s)) ||| ((1 : Int32) <<< (6 &&& 31))) = gc1 at hmc1 ⊢
    have h20c1 : gc1 20 = nI (32 * (s + 2 ^ 1)) := by rw [← hgc1, pk_us]; exact b2
    have huc1 : ∀ j, j ≠ 20 → gc1 j = g j := fun j hj => by rw [← hgc1, pk_un hj]
    obtain ⟨gc2, hrc2, txc2, hmc2⟩ := mr_aheado (tp := tp) (bt := bt) (b := b) hT hmc1 (by omega)
    refine fe_ivV hrc2 (by omega) (by rfl) (by rfl) (by rfl) (by rfl) (by rfl) (by rfl) ?_
    refine fe_s 8 (pc' := 45) (lc' := [(0, .ref 0), (1, .int 6)]) (stk' := [.int 6, .int 6, .int ((3370 + 6) - 5), .ref 0]) (mem' := fm gc2 tp bt a b) (by intro _ _ _; eq_refl) ?_
    rw [show ((3370 + 6) - 5 : Int32) = 3371 from rfl]
    refine fe_s 1 (pc' := cond (fx_cb .ne 6 6) 52 48) (lc' := [(0, .ref 0), (1, .int 6)]) (stk' := [.int 3371, .ref 0]) (mem' := fm gc2 tp bt a b) (by intro _ _ _; eq_refl) ?_
    rw [show (fx_cb .ne 6 6) = false from by decide]
    dsimp only [cond]
    refine fe_s 3 (pc' := 55) (lc' := [(0, .ref 0), (1, .int 6)]) (stk' := [.int 20, .int 1, .int 3371, .ref 0]) (mem' := fm gc2 tp bt a b) (by intro _ _ _; eq_refl) ?_
    obtain ⟨xc3, gc3, ac3, hrc3, txc3, hxc3⟩ := mr_number (t := 3371) (lo := 1) (hi := 20) (tp := tp) (bt := bt) (b := b) hT (by omega) (by decide) (by decide) hmc2
    refine fe_ivV hrc3 (by omega) (by rfl) (by rfl) (by rfl) (by rfl) (by rfl) (by rfl) ?_
    rcases hxc3 with ⟨hwc3, hvc3, rfl, eac3, hmc3⟩ | ⟨hwc3, hvc3, rfl, eac3, hmc3⟩ | ⟨hwc3, rfl, eac3, hmc3⟩
    · rw [eac3]
      have hTw4 := mT_u (t := 1) (i := 3371) (x := nI (sp_v T n (sp_n T n p))) (by decide) hT
      have hAw4 := md_u (t := 3371) (x := nI (sp_v T n (sp_n T n p))) hA (by omega) (by omega) (fun c hc => by omega) (fun i hi => by omega) (fun i hi => by omega)
      refine fe_ret ⟨1, _, _, _, ⟨(fun j q1 q2 q3 q4 q5 q6 q7 => ((fm_tx8_tr (fm_tx8_tr fm_tx8_rf txc2) txc3) j q1 q2 q3 q4 q5 q6).trans (huc1 j q7)), (mfa_u mfa_rf (by omega)), mfb_rf, Or.inl ⟨rfl, A, s + 2 ^ 1, (sp_n T n (sp_n T n p)), ?_, hmc3, hAw4, b3, ((fm_tx8_tr (fm_tx8_tr fm_tx8_rf txc2) txc3) 20 (by decide) (by decide) (by decide) (by decide) (by decide) (by decide)).trans h20c1⟩⟩, rfl⟩ (by rfl) (by rfl) (by rfl)
      unfold sp_pSet
      rw [if_neg hb, sp_num_t hwc3 hvc3]
    · rw [eac3]
      refine fe_ret ⟨0, _, _, _, ⟨(fun j q1 q2 q3 q4 q5 q6 q7 => ((fm_tx8_tr (fm_tx8_tr fm_tx8_rf txc2) txc3) j q1 q2 q3 q4 q5 q6).trans (huc1 j q7)), mfa_rf, mfb_rf, Or.inr ⟨rfl, (4, sp_s T n (sp_n T n p)), ?_, hmc3⟩⟩, rfl⟩ (by rfl) (by rfl) (by rfl)
      unfold sp_pSet
      rw [if_neg hb, sp_num_4 hwc3 hvc3]
    · rw [eac3]
      refine fe_ret ⟨0, _, _, _, ⟨(fun j q1 q2 q3 q4 q5 q6 q7 => ((fm_tx8_tr (fm_tx8_tr fm_tx8_rf txc2) txc3) j q1 q2 q3 q4 q5 q6).trans (huc1 j q7)), mfa_rf, mfb_rf, Or.inr ⟨rfl, (sp_m T n (sp_n T n p), sp_s T n (sp_n T n p)), ?_, hmc3⟩⟩, rfl⟩ (by rfl) (by rfl) (by rfl)
      unfold sp_pSet
      rw [if_neg hb, sp_num_f hwc3]
theorem mr_once2 (hT : mT a T n) (hA : md_L 3368 72 A a b) (h : mo g T n p) (hst : s < 8 ∧ g 20 = nI (32 * s)) (hk : sp_k T n p = 1) : ∃ (v : Int32) (g' : Nat → Int32) (a' : Nat → Nat → Int32) (b' : Nat → Nat → Int64), fr_T 8 244 [.ref 0, .int 7] (fm g tp bt a b) (some (.int v)) (fm g' tp bt a' b') ∧ (fm_tx9 g g') ∧ mfa a a' ∧ mfb b b' ∧ mPart T n (sp_pSet T n A s p 2 0) v g' a' b' := by
  suffices h : ∃ (v : Option Value) (mem' : fx_M), (fun R => ∃ (v : Int32) (g' : Nat → Int32) (a' : Nat → Nat → Int32) (b' : Nat → Nat → Int64), ((fm_tx9 g g') ∧ mfa a a' ∧ mfb b b' ∧ mPart T n (sp_pSet T n A s p 2 0) v g' a' b') ∧ R = (some (.int v), fm g' tp bt a' b')) (v, mem') ∧ fr_T 8 244 [.ref 0, .int 7] (fm g tp bt a b) v mem' by
    obtain ⟨v, mem', ⟨w, g', a', b', h1, hR⟩, h2⟩ := h
    cases hR
    exact ⟨w, g', a', b', h2, h1⟩
  refine fe_meth (f := 244) (as := [.ref 0, .int 7]) (F := fun R => ∃ (v : Int32) (g' : Nat → Int32) (a' : Nat → Nat → Int32) (b' : Nat → Nat → Int64), ((fm_tx9 g g') ∧ mfa a a' ∧ mfb b b' ∧ mPart T n (sp_pSet T n A s p 2 0) v g' a' b') ∧ R = (some (.int v), fm g' tp bt a' b')) (M := gk_m244) (by rfl) (by rfl) ?_
  have hq0 := hA.1.2.1
  have hq1 := hA.1.2.2.2
  have hs8 := hst.1
  by_cases hb : s / 2 ^ 2 % 2 = 1
  · have b1 : (nI (32 * s) >>> ((7 : Int32) &&& 31)) &&& 1 = 1 := mst_b0 s hs8 2 (by decide) hb
    refine fe_s 7 (pc' := 9) (lc' := [(0, .ref 0), (1, .int 7)]) (stk' := [.int 1, .int (((g 20) >>> (7 &&& 31)) &&& 1)]) (mem' := fm g tp bt a b) (by intro _ _ _; eq_refl) ?_
    try rw [hst.2]
    refine fe_s 1 (pc' := cond (fx_cb .ne (((nI (32 * s)) >>> (7 &&& 31)) &&& 1) 1) 18 12) (lc' := [(0, .ref 0), (1, .int 7)]) (stk' := []) (mem' := fm g tp bt a b) (by intro _ _ _; eq_refl) ?_
    rw [show (fx_cb .ne (((nI (32 * s)) >>> (7 &&& 31)) &&& 1) 1) = false from (by rw [b1]; decide)]
    dsimp only [cond]
    refine fe_s 2 (pc' := 14) (lc' := [(0, .ref 0), (1, .int 7)]) (stk' := [.int 5, .ref 0]) (mem' := fm g tp bt a b) (by intro _ _ _; eq_refl) ?_
    obtain ⟨gc1, hrc1, txc1, hmc1⟩ := mr_failsx (tp := tp) (bt := bt) (a := a) (b := b) (x := 5) h (by decide) (by omega)
    refine fe_ivV hrc1 (by omega) (by rfl) (by rfl) (by rfl) (by rfl) (by rfl) (by rfl) ?_
    refine fe_ret ⟨0, _, _, _, ⟨(fun j q1 q2 q3 q4 q5 q6 q7 => ((fm_tx8_tr fm_tx8_rf txc1) j q1 q2 q3 q4 q5 q6)), mfa_rf, mfb_rf, Or.inr ⟨rfl, (5, sp_s T n p), ?_, hmc1⟩⟩, rfl⟩ (by rfl) (by rfl) (by rfl)
    unfold sp_pSet
    rw [if_pos hb]
  · obtain ⟨b0, b2, b3⟩ := mst_b1 s hs8 2 (by decide) hb
    have b1 : ¬ (nI (32 * s) >>> ((7 : Int32) &&& 31)) &&& 1 = 1 := b0
    refine fe_s 7 (pc' := 9) (lc' := [(0, .ref 0), (1, .int 7)]) (stk' := [.int 1, .int (((g 20) >>> (7 &&& 31)) &&& 1)]) (mem' := fm g tp bt a b) (by intro _ _ _; eq_refl) ?_
    try rw [hst.2]
    refine fe_s 1 (pc' := cond (fx_cb .ne (((nI (32 * s)) >>> (7 &&& 31)) &&& 1) 1) 18 12) (lc' := [(0, .ref 0), (1, .int 7)]) (stk' := []) (mem' := fm g tp bt a b) (by intro _ _ _; eq_refl) ?_
    rw [show (fx_cb .ne (((nI (32 * s)) >>> (7 &&& 31)) &&& 1) 1) = true from (by show (!decide (_ = (1 : Int32))) = true; rw [decide_eq_false b1]; rfl)]
    dsimp only [cond]
    refine fe_s 9 (pc' := 31) (lc' := [(0, .ref 0), (1, .int 7)]) (stk' := [.ref 0]) (mem' := fm (upd g 20 ((g 20) ||| ((1 : Int32) <<< (7 &&& 31)))) tp bt a b) (by intro _ _ _; eq_refl) ?_
    try rw [hst.2]
    have hmc1 := mo_u20 (x := (nI (32 * s)) ||| ((1 : Int32) <<< (7 &&& 31))) h
    generalize hgc1 : upd g 20 ((nI (32 * s)) ||| ((1 : Int32) <<< (7 &&& 31))) = gc1 at hmc1 ⊢
    have h20c1 : gc1 20 = nI (32 * (s + 2 ^ 2)) := by rw [← hgc1, pk_us]; exact b2
    have huc1 : ∀ j, j ≠ 20 → gc1 j = g j := fun j hj => by rw [← hgc1, pk_un hj]
    obtain ⟨gc2, hrc2, txc2, hmc2⟩ := mr_aheado (tp := tp) (bt := bt) (b := b) hT hmc1 (by omega)
    refine fe_ivV hrc2 (by omega) (by rfl) (by rfl) (by rfl) (by rfl) (by rfl) (by rfl) ?_
    refine fe_s 8 (pc' := 45) (lc' := [(0, .ref 0), (1, .int 7)]) (stk' := [.int 6, .int 7, .int ((3370 + 7) - 5), .ref 0]) (mem' := fm gc2 tp bt a b) (by intro _ _ _; eq_refl) ?_
    rw [show ((3370 + 7) - 5 : Int32) = 3372 from rfl]
    refine fe_s 1 (pc' := cond (fx_cb .ne 7 6) 52 48) (lc' := [(0, .ref 0), (1, .int 7)]) (stk' := [.int 3372, .ref 0]) (mem' := fm gc2 tp bt a b) (by intro _ _ _; eq_refl) ?_
    rw [show (fx_cb .ne 7 6) = true from by decide]
    dsimp only [cond]
    refine fe_s 2 (pc' := 55) (lc' := [(0, .ref 0), (1, .int 7)]) (stk' := [.int 20, .int 0, .int 3372, .ref 0]) (mem' := fm gc2 tp bt a b) (by intro _ _ _; eq_refl) ?_
    obtain ⟨xc3, gc3, ac3, hrc3, txc3, hxc3⟩ := mr_number (t := 3372) (lo := 0) (hi := 20) (tp := tp) (bt := bt) (b := b) hT (by omega) (by decide) (by decide) hmc2
    refine fe_ivV hrc3 (by omega) (by rfl) (by rfl) (by rfl) (by rfl) (by rfl) (by rfl) ?_
    rcases hxc3 with ⟨hwc3, hvc3, rfl, eac3, hmc3⟩ | ⟨hwc3, hvc3, rfl, eac3, hmc3⟩ | ⟨hwc3, rfl, eac3, hmc3⟩
    · rw [eac3]
      have hTw4 := mT_u (t := 1) (i := 3372) (x := nI (sp_v T n (sp_n T n p))) (by decide) hT
      have hAw4 := md_u (t := 3372) (x := nI (sp_v T n (sp_n T n p))) hA (by omega) (by omega) (fun c hc => by omega) (fun i hi => by omega) (fun i hi => by omega)
      refine fe_ret ⟨1, _, _, _, ⟨(fun j q1 q2 q3 q4 q5 q6 q7 => ((fm_tx8_tr (fm_tx8_tr fm_tx8_rf txc2) txc3) j q1 q2 q3 q4 q5 q6).trans (huc1 j q7)), (mfa_u mfa_rf (by omega)), mfb_rf, Or.inl ⟨rfl, A, s + 2 ^ 2, (sp_n T n (sp_n T n p)), ?_, hmc3, hAw4, b3, ((fm_tx8_tr (fm_tx8_tr fm_tx8_rf txc2) txc3) 20 (by decide) (by decide) (by decide) (by decide) (by decide) (by decide)).trans h20c1⟩⟩, rfl⟩ (by rfl) (by rfl) (by rfl)
      unfold sp_pSet
      rw [if_neg hb, sp_num_t hwc3 hvc3]
    · rw [eac3]
      refine fe_ret ⟨0, _, _, _, ⟨(fun j q1 q2 q3 q4 q5 q6 q7 => ((fm_tx8_tr (fm_tx8_tr fm_tx8_rf txc2) txc3) j q1 q2 q3 q4 q5 q6).trans (huc1 j q7)), mfa_rf, mfb_rf, Or.inr ⟨rfl, (4, sp_s T n (sp_n T n p)), ?_, hmc3⟩⟩, rfl⟩ (by rfl) (by rfl) (by rfl)
      unfold sp_pSet
      rw [if_neg hb, sp_num_4 hwc3 hvc3]
    · rw [eac3]
      refine fe_ret ⟨0, _, _, _, ⟨(fun j q1 q2 q3 q4 q5 q6 q7 => ((fm_tx8_tr (fm_tx8_tr fm_tx8_rf txc2) txc3) j q1 q2 q3 q4 q5 q6).trans (huc1 j q7)), mfa_rf, mfb_rf, Or.inr ⟨rfl, (sp_m T n (sp_n T n p), sp_s T n (sp_n T n p)), ?_, hmc3⟩⟩, rfl⟩ (by rfl) (by rfl) (by rfl)
      unfold sp_pSet
      rw [if_neg hb, sp_num_f hwc3]
end MPT
end MH21_0
section MH21_1
/-! ===== the model's lake(): exact ===== -/
def mRes (T : Nat → Nat) (n : Nat) (r : sp_R) (v : Int32) (g' : Nat → Int32) (a' : Nat → Nat → Int32) (b' : Nat → Nat → Int64) : Prop := (v = 1 ∧ ∃ z, r = .inr z ∧ mo g' T n z.2.2 ∧ md_L 3368 72 z.1 a' b' ∧ z.2.1 < 8 ∧ g' 20 = nI (32 * z.2.1)) ∨ (v = 0 ∧ ∃ z, r = .inl z ∧ mf g' z.1 z.2)
theorem fm_tx9_of {g g1 : Nat → Int32} (h : fm_tx8 g g1) : fm_tx9 g g1 := fun j q1 q2 q3 q4 q5 q6 _ => h j q1 q2 q3 q4 q5 q6
theorem fm_tx9_rf {g : Nat → Int32} : fm_tx9 g g := fun _ _ _ _ _ _ _ _ => rfl
theorem fm_tx9_tr {g g1 g2 : Nat → Int32} (h : fm_tx9 g g1) (h2 : fm_tx9 g1 g2) : fm_tx9 g g2 := fun j q1 q2 q3 q4 q5 q6 q7 => (h2 j q1 q2 q3 q4 q5 q6 q7).trans (h j q1 q2 q3 q4 q5 q6 q7)
section MLK
variable {g : Nat → Int32} {tp bt : Int64} {a : Nat → Nat → Int32} {b : Nat → Nat → Int64} {T : Nat → Nat} {n p : Nat} {A : sp_A} {s : Nat}
/-- behind a part: its last sign -/
theorem mr_131 {g1 : Nat → Int32} {a1 : Nat → Nat → Int32} {b1 : Nat → Nat → Int64} {r : sp_R} {v : Int32} (hT : mT a1 T n) (h1 : fm_tx9 g g1) (h2 : mfa a a1) (h3 : mfb b b1) (h : mPart T n r v g1 a1 b1) : fe_R 8 gk_m245 131 [(1, .int v), (0, .ref 0)] [] (fm g1 tp bt a1 b1) (fun R => ∃ (v : Int32) (g' : Nat → Int32) (a' : Nat → Nat → Int32) (b' : Nat → Nat → Int64), (fm_tx9 g g' ∧ mfa a a' ∧ mfb b b' ∧ mRes T n r v g' a' b') ∧ R = (some (.int v), fm g' tp bt a' b')) := by
  rcases h with ⟨rfl, A', st', p', hr, hm, hA, hs, h20⟩ | ⟨rfl, z, hr, hm⟩
  · obtain ⟨x, g2, k1, k2, k3⟩ := mr_wantSign (tp := tp) (bt := bt) (b := b1) (w := 59) hT (by decide) hm
    refine fe_s 4 (pc' := 138) (lc' := [(1, .int 1), (0, .ref 0)]) (stk' := [.int 59, .ref 0]) (mem' := fm g1 tp bt a1 b1) (by intro _ _ _; eq_refl) ?_
    refine fe_ivV k1 (by omega) (by rfl) (by rfl) (by rfl) (by rfl) (by rfl) (by rfl) ?_
    rcases k3 with ⟨hw, rfl, hm2⟩ | ⟨hw, rfl, hm2⟩
    · refine fe_s 3 (pc' := 149) (lc' := [(1, .int 1), (0, .ref 0)]) (stk' := [.int 1]) (mem' := fm g2 tp bt a1 b1) (by intro _ _ _; eq_refl) ?_
      refine fe_ret ⟨1, _, _, _, ⟨fm_tx9_tr h1 (fm_tx9_of k2), h2, h3, Or.inl ⟨rfl, (A', st', sp_n T n p'), ?_, hm2, hA, hs, (k2 20 (by decide) (by decide) (by decide) (by decide) (by decide) (by decide)).trans h20⟩⟩, rfl⟩ (by rfl) (by rfl) (by rfl)
      rw [hr, sp_fin_t hw]
    · refine fe_s 2 (pc' := 149) (lc' := [(1, .int 1), (0, .ref 0)]) (stk' := [.int 0]) (mem' := fm g2 tp bt a1 b1) (by intro _ _ _; eq_refl) ?_
      refine fe_ret ⟨0, _, _, _, ⟨fm_tx9_tr h1 (fm_tx9_of k2), h2, h3, Or.inr ⟨rfl, (sp_m T n p', sp_s T n p'), ?_, hm2⟩⟩, rfl⟩ (by rfl) (by rfl) (by rfl)
      rw [hr, sp_fin_f hw]
  · refine fe_s 3 (pc' := 149) (lc' := [(1, .int 0), (0, .ref 0)]) (stk' := [.int 0]) (mem' := fm g1 tp bt a1 b1) (by intro _ _ _; eq_refl) ?_
    exact fe_ret ⟨0, _, _, _, ⟨h1, h2, h3, Or.inr ⟨rfl, z, hr, hm⟩⟩, rfl⟩ (by rfl) (by rfl) (by rfl)
theorem mr_mis125 (h : mo g T n p) (hr : sp_part T n A s p = sp_mis T n p) : fe_R 8 gk_m245 125 [(0, .ref 0)] [] (fm g tp bt a b) (fun R => ∃ (v : Int32) (g' : Nat → Int32) (a' : Nat → Nat → Int32) (b' : Nat → Nat → Int64), (fm_tx9 g g' ∧ mfa a a' ∧ mfb b b' ∧ mRes T n (sp_part T n A s p) v g' a' b') ∧ R = (some (.int v), fm g' tp bt a' b')) := by
  obtain ⟨g', k1, k2, k3⟩ := mr_fails2 (tp := tp) (bt := bt) (a := a) (b := b) h
  refine fe_s 2 (pc' := 127) (lc' := [(0, .ref 0)]) (stk' := [.int 2, .ref 0]) (mem' := fm g tp bt a b) (by intro _ _ _; eq_refl) ?_
  refine fe_ivV k1 (by omega) (by rfl) (by rfl) (by rfl) (by rfl) (by rfl) (by rfl) ?_
  exact fe_ret ⟨0, _, _, _, ⟨fm_tx9_of k2, mfa_rf, mfb_rf, Or.inr ⟨rfl, (sp_m T n p, sp_s T n p), hr, k3⟩⟩, rfl⟩ (by rfl) (by rfl) (by rfl)
theorem mr_part (hT : mT a T n) (hA : md_L 3368 72 A a b) (h : mo g T n p) (hst : s < 8 ∧ g 20 = nI (32 * s)) : ∃ (v : Int32) (g' : Nat → Int32) (a' : Nat → Nat → Int32) (b' : Nat → Nat → Int64), fr_T 9 245 [.ref 0] (fm g tp bt a b) (some (.int v)) (fm g' tp bt a' b') ∧ fm_tx9 g g' ∧ mfa a a' ∧ mfb b b' ∧ mRes T n (sp_part T n A s p) v g' a' b' := by
  suffices h : ∃ (v : Option Value) (mem' : fx_M), (fun R => ∃ (v : Int32) (g' : Nat → Int32) (a' : Nat → Nat → Int32) (b' : Nat → Nat → Int64), (fm_tx9 g g' ∧ mfa a a' ∧ mfb b b' ∧ mRes T n (sp_part T n A s p) v g' a' b') ∧ R = (some (.int v), fm g' tp bt a' b')) (v, mem') ∧ fr_T 9 245 [.ref 0] (fm g tp bt a b) v mem' by
    obtain ⟨v, mem', ⟨w, g', a', b', h1, hR⟩, h2⟩ := h
    cases hR
    exact ⟨w, g', a', b', h2, h1⟩
  refine fe_meth (f := 245) (as := [.ref 0]) (F := fun R => ∃ (v : Int32) (g' : Nat → Int32) (a' : Nat → Nat → Int32) (b' : Nat → Nat → Int64), (fm_tx9 g g' ∧ mfa a a' ∧ mfb b b' ∧ mRes T n (sp_part T n A s p) v g' a' b') ∧ R = (some (.int v), fm g' tp bt a' b')) (M := gk_m245) (by rfl) (by rfl) ?_
  refine fe_s 2 (pc' := 3) (lc' := [(0, .ref 0)]) (stk' := [.ref 22, .ref 0]) (mem' := fm g tp bt a b) (by intro _ _ _; eq_refl) ?_
  refine fe_ivV (mr_inWords (tp := tp) (bt := bt) (b := b) hT h.1 h.2.1) (by omega) (by rfl) (by rfl) (by rfl) (by rfl) (by rfl) (by rfl) ?_
  by_cases hk : sp_k T n p = 1
  · have hle := sp_kw_le (sp_wd T n p)
    have hcw : sp_mw T n p = if sp_kw (sp_wd T n p) < 23 then nI (sp_pm.getD (sp_kw (sp_wd T n p)) 0) else -1 := by
      unfold sp_mw
      by_cases e : sp_kw (sp_wd T n p) < 23
      · rw [if_pos ⟨hk, e⟩, if_pos e]
      · rw [if_neg (fun z => e z.2), if_neg e]
    have hpt : ∀ k, sp_kw (sp_wd T n p) = k → sp_part T n A s p = sp_pk T n A s p k := fun k e => by
      unfold sp_part
      rw [if_pos hk, e]
    rcases (by omega : sp_kw (sp_wd T n p) = 0 ∨ sp_kw (sp_wd T n p) = 1 ∨ sp_kw (sp_wd T n p) = 2 ∨ sp_kw (sp_wd T n p) = 3 ∨ sp_kw (sp_wd T n p) = 4 ∨ sp_kw (sp_wd T n p) = 5 ∨ sp_kw (sp_wd T n p) = 6 ∨ sp_kw (sp_wd T n p) = 7 ∨ sp_kw (sp_wd T n p) = 8 ∨ sp_kw (sp_wd T n p) = 9 ∨ sp_kw (sp_wd T n p) = 10 ∨ sp_kw (sp_wd T n p) = 11 ∨ sp_kw (sp_wd T n p) = 12 ∨ sp_kw (sp_wd T n p) = 13 ∨ sp_kw (sp_wd T n p) = 14 ∨ sp_kw (sp_wd T n p) = 15 ∨ sp_kw (sp_wd T n p) = 16 ∨ sp_kw (sp_wd T n p) = 17 ∨ sp_kw (sp_wd T n p) = 18 ∨ sp_kw (sp_wd T n p) = 19 ∨ sp_kw (sp_wd T n p) = 20 ∨ sp_kw (sp_wd T n p) = 21 ∨ sp_kw (sp_wd T n p) = 22 ∨ sp_kw (sp_wd T n p) = 23) with e | e | e | e | e | e | e | e | e | e | e | e | e | e | e | e | e | e | e | e | e | e | e | e
    · rw [show sp_mw T n p = 0 from by rw [hcw, e]; rfl]
      have hp := hpt 0 e
      refine fe_s 1 (pc' := 52) (lc' := [(0, .ref 0)]) (stk' := []) (mem' := fm g tp bt a b) (by intro _ _ _; eq_refl) ?_
      obtain ⟨v1, g1, a1, b1, k1, k2, k3, k4, k5⟩ := mr_aCell0 (tp := tp) (bt := bt) hT hA h hst hk
      refine fe_s 2 (pc' := 54) (lc' := [(0, .ref 0)]) (stk' := [.int 0, .ref 0]) (mem' := fm g tp bt a b) (by intro _ _ _; eq_refl) ?_
      refine fe_ivV k1 (by omega) (by rfl) (by rfl) (by rfl) (by rfl) (by rfl) (by rfl) ?_
      refine fe_s 2 (pc' := 131) (lc' := [(1, .int v1), (0, .ref 0)]) (stk' := []) (mem' := fm g1 tp bt a1 b1) (by intro _ _ _; eq_refl) ?_
      rw [hp]
      exact mr_131 (mT_fa hT k3) (fm_tx9_of k2) k3 k4 k5
    · rw [show sp_mw T n p = 8 from by rw [hcw, e]; rfl]
      have hp := hpt 1 e
      refine fe_s 1 (pc' := 125) (lc' := [(0, .ref 0)]) (stk' := []) (mem' := fm g tp bt a b) (by intro _ _ _; eq_refl) ?_
      exact mr_mis125 h hp
    · rw [show sp_mw T n p = 1 from by rw [hcw, e]; rfl]
      have hp := hpt 2 e
      refine fe_s 1 (pc' := 61) (lc' := [(0, .ref 0)]) (stk' := []) (mem' := fm g tp bt a b) (by intro _ _ _; eq_refl) ?_
      obtain ⟨v1, g1, a1, b1, k1, k2, k3, k4, k5⟩ := mr_aCell1 (tp := tp) (bt := bt) hT hA h hst hk
      refine fe_s 2 (pc' := 63) (lc' := [(0, .ref 0)]) (stk' := [.int 1, .ref 0]) (mem' := fm g tp bt a b) (by intro _ _ _; eq_refl) ?_
      refine fe_ivV k1 (by omega) (by rfl) (by rfl) (by rfl) (by rfl) (by rfl) (by rfl) ?_
      refine fe_s 2 (pc' := 131) (lc' := [(1, .int v1), (0, .ref 0)]) (stk' := []) (mem' := fm g1 tp bt a1 b1) (by intro _ _ _; eq_refl) ?_
      rw [hp]
      exact mr_131 (mT_fa hT k3) (fm_tx9_of k2) k3 k4 k5
    · rw [show sp_mw T n p = 2 from by rw [hcw, e]; rfl]
      have hp := hpt 3 e
      refine fe_s 1 (pc' := 70) (lc' := [(0, .ref 0)]) (stk' := []) (mem' := fm g tp bt a b) (by intro _ _ _; eq_refl) ?_
      obtain ⟨v1, g1, a1, b1, k1, k2, k3, k4, k5⟩ := mr_aCouple2 (tp := tp) (bt := bt) hT hA h hst hk
      refine fe_s 2 (pc' := 72) (lc' := [(0, .ref 0)]) (stk' := [.int 2, .ref 0]) (mem' := fm g tp bt a b) (by intro _ _ _; eq_refl) ?_
      refine fe_ivV k1 (by omega) (by rfl) (by rfl) (by rfl) (by rfl) (by rfl) (by rfl) ?_
      refine fe_s 2 (pc' := 131) (lc' := [(1, .int v1), (0, .ref 0)]) (stk' := []) (mem' := fm g1 tp bt a1 b1) (by intro _ _ _; eq_refl) ?_
      rw [hp]
      exact mr_131 (mT_fa hT k3) (fm_tx9_of k2) k3 k4 k5
    · rw [show sp_mw T n p = 3 from by rw [hcw, e]; rfl]
      have hp := hpt 4 e
      refine fe_s 1 (pc' := 79) (lc' := [(0, .ref 0)]) (stk' := []) (mem' := fm g tp bt a b) (by intro _ _ _; eq_refl) ?_
      obtain ⟨v1, g1, a1, b1, k1, k2, k3, k4, k5⟩ := mr_aCouple3 (tp := tp) (bt := bt) hT hA h hst hk
      refine fe_s 2 (pc' := 81) (lc' := [(0, .ref 0)]) (stk' := [.int 3, .ref 0]) (mem' := fm g tp bt a b) (by intro _ _ _; eq_refl) ?_
      refine fe_ivV k1 (by omega) (by rfl) (by rfl) (by rfl) (by rfl) (by rfl) (by rfl) ?_
      refine fe_s 2 (pc' := 131) (lc' := [(1, .int v1), (0, .ref 0)]) (stk' := []) (mem' := fm g1 tp bt a1 b1) (by intro _ _ _; eq_refl) ?_
      rw [hp]
      exact mr_131 (mT_fa hT k3) (fm_tx9_of k2) k3 k4 k5
    · rw [show sp_mw T n p = 4 from by rw [hcw, e]; rfl]
      have hp := hpt 5 e
      refine fe_s 1 (pc' := 88) (lc' := [(0, .ref 0)]) (stk' := []) (mem' := fm g tp bt a b) (by intro _ _ _; eq_refl) ?_
      obtain ⟨v1, g1, a1, b1, k1, k2, k3, k4, k5⟩ := mr_aWalker (tp := tp) (bt := bt) hT hA h hst hk
      refine fe_s 1 (pc' := 89) (lc' := [(0, .ref 0)]) (stk' := [.ref 0]) (mem' := fm g tp bt a b) (by intro _ _ _; eq_refl) ?_
      refine fe_ivV k1 (by omega) (by rfl) (by rfl) (by rfl) (by rfl) (by rfl) (by rfl) ?_
      refine fe_s 2 (pc' := 131) (lc' := [(1, .int v1), (0, .ref 0)]) (stk' := []) (mem' := fm g1 tp bt a1 b1) (by intro _ _ _; eq_refl) ?_
      rw [hp]
      exact mr_131 (mT_fa hT k3) (fm_tx9_of k2) k3 k4 k5
    · rw [show sp_mw T n p = 9 from by rw [hcw, e]; rfl]
      have hp := hpt 6 e
      refine fe_s 1 (pc' := 125) (lc' := [(0, .ref 0)]) (stk' := []) (mem' := fm g tp bt a b) (by intro _ _ _; eq_refl) ?_
      exact mr_mis125 h hp
    · rw [show sp_mw T n p = 10 from by rw [hcw, e]; rfl]
      have hp := hpt 7 e
      refine fe_s 1 (pc' := 125) (lc' := [(0, .ref 0)]) (stk' := []) (mem' := fm g tp bt a b) (by intro _ _ _; eq_refl) ?_
      exact mr_mis125 h hp
    · rw [show sp_mw T n p = 5 from by rw [hcw, e]; rfl]
      have hp := hpt 8 e
      refine fe_s 1 (pc' := 96) (lc' := [(0, .ref 0)]) (stk' := []) (mem' := fm g tp bt a b) (by intro _ _ _; eq_refl) ?_
      obtain ⟨v1, g1, a1, b1, k1, k2, k3, k4, k5⟩ := mr_once0 (tp := tp) (bt := bt) hT hA h hst hk
      refine fe_s 2 (pc' := 98) (lc' := [(0, .ref 0)]) (stk' := [.int 5, .ref 0]) (mem' := fm g tp bt a b) (by intro _ _ _; eq_refl) ?_
      refine fe_ivV k1 (by omega) (by rfl) (by rfl) (by rfl) (by rfl) (by rfl) (by rfl) ?_
      refine fe_s 2 (pc' := 131) (lc' := [(1, .int v1), (0, .ref 0)]) (stk' := []) (mem' := fm g1 tp bt a1 b1) (by intro _ _ _; eq_refl) ?_
      rw [hp]
      exact mr_131 (mT_fa hT k3) k2 k3 k4 k5
    · rw [show sp_mw T n p = 6 from by rw [hcw, e]; rfl]
      have hp := hpt 9 e
      refine fe_s 1 (pc' := 105) (lc' := [(0, .ref 0)]) (stk' := []) (mem' := fm g tp bt a b) (by intro _ _ _; eq_refl) ?_
      obtain ⟨v1, g1, a1, b1, k1, k2, k3, k4, k5⟩ := mr_once1 (tp := tp) (bt := bt) hT hA h hst hk
      refine fe_s 2 (pc' := 108) (lc' := [(0, .ref 0)]) (stk' := [.int 6, .ref 0]) (mem' := fm g tp bt a b) (by intro _ _ _; eq_refl) ?_
      refine fe_ivV k1 (by omega) (by rfl) (by rfl) (by rfl) (by rfl) (by rfl) (by rfl) ?_
      refine fe_s 2 (pc' := 131) (lc' := [(1, .int v1), (0, .ref 0)]) (stk' := []) (mem' := fm g1 tp bt a1 b1) (by intro _ _ _; eq_refl) ?_
      rw [hp]
      exact mr_131 (mT_fa hT k3) k2 k3 k4 k5
    · rw [show sp_mw T n p = 7 from by rw [hcw, e]; rfl]
      have hp := hpt 10 e
      refine fe_s 1 (pc' := 115) (lc' := [(0, .ref 0)]) (stk' := []) (mem' := fm g tp bt a b) (by intro _ _ _; eq_refl) ?_
      obtain ⟨v1, g1, a1, b1, k1, k2, k3, k4, k5⟩ := mr_once2 (tp := tp) (bt := bt) hT hA h hst hk
      refine fe_s 2 (pc' := 118) (lc' := [(0, .ref 0)]) (stk' := [.int 7, .ref 0]) (mem' := fm g tp bt a b) (by intro _ _ _; eq_refl) ?_
      refine fe_ivV k1 (by omega) (by rfl) (by rfl) (by rfl) (by rfl) (by rfl) (by rfl) ?_
      refine fe_s 2 (pc' := 131) (lc' := [(1, .int v1), (0, .ref 0)]) (stk' := []) (mem' := fm g1 tp bt a1 b1) (by intro _ _ _; eq_refl) ?_
      rw [hp]
      exact mr_131 (mT_fa hT k3) k2 k3 k4 k5
    · rw [show sp_mw T n p = 11 from by rw [hcw, e]; rfl]
      have hp := hpt 11 e
      refine fe_s 1 (pc' := 125) (lc' := [(0, .ref 0)]) (stk' := []) (mem' := fm g tp bt a b) (by intro _ _ _; eq_refl) ?_
      exact mr_mis125 h hp
    · rw [show sp_mw T n p = 16 from by rw [hcw, e]; rfl]
      have hp := hpt 12 e
      refine fe_s 1 (pc' := 125) (lc' := [(0, .ref 0)]) (stk' := []) (mem' := fm g tp bt a b) (by intro _ _ _; eq_refl) ?_
      exact mr_mis125 h hp
    · rw [show sp_mw T n p = 12 from by rw [hcw, e]; rfl]
      have hp := hpt 13 e
      refine fe_s 1 (pc' := 125) (lc' := [(0, .ref 0)]) (stk' := []) (mem' := fm g tp bt a b) (by intro _ _ _; eq_refl) ?_
      exact mr_mis125 h hp
    · rw [show sp_mw T n p = 13 from by rw [hcw, e]; rfl]
      have hp := hpt 14 e
      refine fe_s 1 (pc' := 125) (lc' := [(0, .ref 0)]) (stk' := []) (mem' := fm g tp bt a b) (by intro _ _ _; eq_refl) ?_
      exact mr_mis125 h hp
    · rw [show sp_mw T n p = 14 from by rw [hcw, e]; rfl]
      have hp := hpt 15 e
      refine fe_s 1 (pc' := 125) (lc' := [(0, .ref 0)]) (stk' := []) (mem' := fm g tp bt a b) (by intro _ _ _; eq_refl) ?_
      exact mr_mis125 h hp
    · rw [show sp_mw T n p = 15 from by rw [hcw, e]; rfl]
      have hp := hpt 16 e
      refine fe_s 1 (pc' := 125) (lc' := [(0, .ref 0)]) (stk' := []) (mem' := fm g tp bt a b) (by intro _ _ _; eq_refl) ?_
      exact mr_mis125 h hp
    · rw [show sp_mw T n p = 18 from by rw [hcw, e]; rfl]
      have hp := hpt 17 e
      refine fe_s 1 (pc' := 125) (lc' := [(0, .ref 0)]) (stk' := []) (mem' := fm g tp bt a b) (by intro _ _ _; eq_refl) ?_
      exact mr_mis125 h hp
    · rw [show sp_mw T n p = 17 from by rw [hcw, e]; rfl]
      have hp := hpt 18 e
      refine fe_s 1 (pc' := 125) (lc' := [(0, .ref 0)]) (stk' := []) (mem' := fm g tp bt a b) (by intro _ _ _; eq_refl) ?_
      exact mr_mis125 h hp
    · rw [show sp_mw T n p = 22 from by rw [hcw, e]; rfl]
      have hp := hpt 19 e
      refine fe_s 1 (pc' := 125) (lc' := [(0, .ref 0)]) (stk' := []) (mem' := fm g tp bt a b) (by intro _ _ _; eq_refl) ?_
      exact mr_mis125 h hp
    · rw [show sp_mw T n p = 19 from by rw [hcw, e]; rfl]
      have hp := hpt 20 e
      refine fe_s 1 (pc' := 125) (lc' := [(0, .ref 0)]) (stk' := []) (mem' := fm g tp bt a b) (by intro _ _ _; eq_refl) ?_
      exact mr_mis125 h hp
    · rw [show sp_mw T n p = 20 from by rw [hcw, e]; rfl]
      have hp := hpt 21 e
      refine fe_s 1 (pc' := 125) (lc' := [(0, .ref 0)]) (stk' := []) (mem' := fm g tp bt a b) (by intro _ _ _; eq_refl) ?_
      exact mr_mis125 h hp
    · rw [show sp_mw T n p = 21 from by rw [hcw, e]; rfl]
      have hp := hpt 22 e
      refine fe_s 1 (pc' := 125) (lc' := [(0, .ref 0)]) (stk' := []) (mem' := fm g tp bt a b) (by intro _ _ _; eq_refl) ?_
      exact mr_mis125 h hp
    · rw [show sp_mw T n p = (-1) from by rw [hcw, e]; rfl]
      have hp := hpt 23 e
      refine fe_s 1 (pc' := 125) (lc' := [(0, .ref 0)]) (stk' := []) (mem' := fm g tp bt a b) (by intro _ _ _; eq_refl) ?_
      exact mr_mis125 h hp
  · rw [show sp_mw T n p = -1 from if_neg (fun z => hk z.1)]
    refine fe_s 1 (pc' := 125) (lc' := [(0, .ref 0)]) (stk' := []) (mem' := fm g tp bt a b) (by intro _ _ _; eq_refl) ?_
    exact mr_mis125 h (if_neg hk)
theorem by8_0 : ∀ m : Nat, m < 256 → (Int32.ofInt ((m : Int) - 128)).toInt8.toInt32 = Int32.ofInt ((m : Int) - 128) := by decide +kernel
theorem by8 {x : Int32} (h1 : -128 ≤ x.toInt) (h2 : x.toInt ≤ 127) : x.toInt8.toInt32 = x := by
  have e : x = Int32.ofInt (((x.toInt + 128).toNat : Int) - 128) := by
    rw [show (((x.toInt + 128).toNat : Int) - 128) = x.toInt by omega, Int32.ofInt_toInt]
  have k := by8_0 (x.toInt + 128).toNat (by omega)
  rw [← e] at k
  exact k
theorem mT_of {f : Nat → Int32} {N : Nat} (hN : N ≤ 900) (h : ∀ k, k < N → a 7 k = f k) : mT a (sp_T f N) N := ⟨hN, fun k hk => by
  obtain ⟨m, h1, h2⟩ := fm_255 (f k)
  have e : sp_T f N k = m := by
    show (if k < N then (f k &&& 255).toBitVec.toNat else 0) = m
    rw [if_pos hk]
    rw [h2]
    show (BitVec.ofNat 32 m).toNat = m
    rw [BitVec.toNat_ofNat]
    omega
  rw [h k hk, e]
  exact ⟨h1, h2⟩⟩
/-- begins(n, most) -/
theorem mr_begins {x : Int32} {most : Nat} (hm : most ≤ 900) (hf : 0 ≤ (g 10).toInt ∧ (g 10).toInt ≤ 900) (hb : ∀ k, k < 900 → -128 ≤ (a 6 k).toInt ∧ (a 6 k).toInt ≤ 127) : (¬ (0 ≤ x.toInt ∧ x.toInt ≤ (g 10).toInt ∧ x.toInt ≤ most) ∧ fr_T 3 228 [.ref 0, .int x, .int (nI most)] (fm g tp bt a b) (some (.int 0)) (fm g tp bt a b)) ∨ ∃ (N : Nat) (g' : Nat → Int32) (a' : Nat → Nat → Int32), x = nI N ∧ (N : Int) ≤ (g 10).toInt ∧ N ≤ most ∧ fr_T 3 228 [.ref 0, .int x, .int (nI most)] (fm g tp bt a b) (some (.int 1)) (fm g' tp bt a' b) ∧ mT a' (sp_T (a 6) N) N ∧ mo g' (sp_T (a 6) N) N 0 ∧ g' 10 = 0 ∧ (∀ t, t ≠ 7 → a' t = a t) ∧ (∀ j, ¬ (10 ≤ j ∧ j ≤ 19) ∨ j = 16 → g' j = g j) := by
  have bad : ∀ lc, fr_R 2 gk_m228 17 lc [] (fm g tp bt a b) (some (.int 0), fm g tp bt a b) := fun lc => by
    refine fr_s 1 (pc' := 18) (lc' := lc) (stk' := [.int 0]) (mem' := fm g tp bt a b) (by intro _ _ _; eq_refl) ?_
    exact fr_ret (by rfl) (by rfl) (by rfl)
  have c1 : ∀ R, (x.toInt < 0 → fr_R 2 gk_m228 17 [(0, .ref 0), (1, .int x), (2, .int (nI most))] [] (fm g tp bt a b) R) → (0 ≤ x.toInt → fr_R 2 gk_m228 4 [(0, .ref 0), (1, .int x), (2, .int (nI most))] [] (fm g tp bt a b) R) → fr_R 2 gk_m228 0 (lv_args 0 [.ref 0, .int x, .int (nI most)]) [] (fm g tp bt a b) R := fun R q1 q2 => by
    refine fr_s 2 (pc' := cond (fx_cb .lt x 0) 17 4) (lc' := [(0, .ref 0), (1, .int x), (2, .int (nI most))]) (stk' := []) (mem' := fm g tp bt a b) (by intro _ _ _; eq_refl) ?_
    cases h1 : fx_cb .lt x 0
    · exact q2 (tc_ltF h1)
    · exact q1 (tc_lt h1)
  have c2 : ∀ R, ((g 10).toInt < x.toInt → fr_R 2 gk_m228 17 [(0, .ref 0), (1, .int x), (2, .int (nI most))] [] (fm g tp bt a b) R) → (x.toInt ≤ (g 10).toInt → fr_R 2 gk_m228 12 [(0, .ref 0), (1, .int x), (2, .int (nI most))] [] (fm g tp bt a b) R) → fr_R 2 gk_m228 4 [(0, .ref 0), (1, .int x), (2, .int (nI most))] [] (fm g tp bt a b) R := fun R q1 q2 => by
    refine fr_s 3 (pc' := 9) (lc' := [(0, .ref 0), (1, .int x), (2, .int (nI most))]) (stk' := [.int (g 10), .int x]) (mem' := fm g tp bt a b) (by intro _ _ _; eq_refl) ?_
    refine fr_s 1 (pc' := cond (fx_cb .gt x (g 10)) 17 12) (lc' := [(0, .ref 0), (1, .int x), (2, .int (nI most))]) (stk' := []) (mem' := fm g tp bt a b) (by intro _ _ _; eq_refl) ?_
    cases h1 : fx_cb .gt x (g 10)
    · exact q2 (tc_gtF h1)
    · exact q1 (tc_gt h1)
  have c3 : ∀ R, ((nI most).toInt < x.toInt → fr_R 2 gk_m228 17 [(0, .ref 0), (1, .int x), (2, .int (nI most))] [] (fm g tp bt a b) R) → (x.toInt ≤ (nI most).toInt → fr_R 2 gk_m228 19 [(0, .ref 0), (1, .int x), (2, .int (nI most))] [] (fm g tp bt a b) R) → fr_R 2 gk_m228 12 [(0, .ref 0), (1, .int x), (2, .int (nI most))] [] (fm g tp bt a b) R := fun R q1 q2 => by
    refine fr_s 3 (pc' := cond (fx_cb .le x (nI most)) 19 17) (lc' := [(0, .ref 0), (1, .int x), (2, .int (nI most))]) (stk' := []) (mem' := fm g tp bt a b) (by intro _ _ _; eq_refl) ?_
    cases h1 : fx_cb .le x (nI most)
    · exact q1 (tc_leF h1)
    · exact q2 (tc_le h1)
  have em : (nI most).toInt = (most : Int) := nI_i32 (by omega)
  by_cases h0 : 0 ≤ x.toInt ∧ x.toInt ≤ (g 10).toInt ∧ x.toInt ≤ most
  · obtain ⟨N, hN, rfl⟩ := nI_bd (x := x) (n := 900) h0.1 (by omega)
    have eN : (nI N).toInt = (N : Int) := nI_i32 (by omega)
    rw [eN] at h0
    -- the copy
    have loop : ∀ (r k : Nat), k + r = N → ∀ a1 : Nat → Nat → Int32, (∀ t, t ≠ 7 → a1 t = a t) → (∀ i, i < k → a1 7 i = a 6 i) → ∃ (g' : Nat → Int32) (a' : Nat → Nat → Int32), fr_R 2 gk_m228 26 [(3, .int (nI k)), (0, .ref 0), (1, .int (nI N)), (2, .int (nI most))] [] (fm (upd g 11 (nI N)) tp bt a1 b) (some (.int 1), fm g' tp bt a' b) ∧ mT a' (sp_T (a 6) N) N ∧ mo g' (sp_T (a 6) N) N 0 ∧ g' 10 = 0 ∧ (∀ t, t ≠ 7 → a' t = a t) ∧ (∀ j, ¬ (10 ≤ j ∧ j ≤ 19) ∨ j = 16 → g' j = g j) := by
      intro r
      induction r with
      | zero =>
        intro k hk a1 k1 k2
        obtain rfl : k = N := by omega
        have hT : mT a1 (sp_T (a 6) k) k := mT_of hN k2
        obtain ⟨g', m1, m2, m3⟩ := mr_ahead (g := upd (upd (upd (upd (upd (upd g 11 (nI k)) 10 0) 18 0) 17 (-1)) 14 0) 19 0) (tp := tp) (bt := bt) (b := b) (p := 0) hT (Nat.zero_le _) (by rw [pk_un (by decide), pk_un (by decide), pk_un (by decide), pk_un (by decide), pk_un (by decide), pk_us]) (by rw [pk_un (by decide), pk_us]; rfl)
        refine ⟨g', a1, ?_, hT, ⟨Nat.zero_le _, m3, ?_, ?_⟩, ?_, k1, fun j hj => ?_⟩
        · refine fr_s 3 (pc' := cond (fx_cb .ge (nI k) (nI k)) 49 31) (lc' := [(3, .int (nI k)), (0, .ref 0), (1, .int (nI k)), (2, .int (nI most))]) (stk' := []) (mem' := fm (upd g 11 (nI k)) tp bt a1 b) (by intro _ _ _; eq_refl) ?_
          rw [show fx_cb .ge (nI k) (nI k) = true from cb_geT (a := k) (b := k) (by omega) (by omega) (by omega)]
          refine fr_s 16 (pc' := 75) (lc' := [(3, .int (nI k)), (0, .ref 0), (1, .int (nI k)), (2, .int (nI most))]) (stk' := [.ref 0]) (mem' := fm (upd (upd (upd (upd (upd (upd g 11 (nI k)) 10 0) 18 0) 17 (-1)) 14 0) 19 0) tp bt a1 b) (by intro _ _ _; eq_refl) ?_
          refine fr_ivV m1 (by omega) (by rfl) (by rfl) (by rfl) (by rfl) (by rfl) (by rfl) ?_
          refine fr_s 1 (pc' := 79) (lc' := [(3, .int (nI k)), (0, .ref 0), (1, .int (nI k)), (2, .int (nI most))]) (stk' := [.int 1]) (mem' := fm g' tp bt a1 b) (by intro _ _ _; eq_refl) ?_
          exact fr_ret (by rfl) (by rfl) (by rfl)
        · rw [m2 18 (by decide) (by decide) (by decide) (by decide), pk_un (by decide), pk_un (by decide), pk_un (by decide), pk_us]
        · rw [m2 17 (by decide) (by decide) (by decide) (by decide), pk_un (by decide), pk_un (by decide), pk_us]
        · rw [m2 10 (by decide) (by decide) (by decide) (by decide), pk_un (by decide), pk_un (by decide), pk_un (by decide), pk_un (by decide), pk_us]
        · rw [m2 j (by omega) (by omega) (by omega) (by omega), pk_un (by omega), pk_un (by omega), pk_un (by omega), pk_un (by omega), pk_un (by omega), pk_un (by omega)]
      | succ r ih =>
        intro k hk a1 k1 k2
        have hv := hb k (by omega)
        obtain ⟨g', a', m1, m2⟩ := ih (k + 1) (by omega) (fm_u a1 7 k (a 6 k)) (fun t ht => (show (fm_u a1 7 k (a 6 k)) t = a1 t from if_neg ht).trans (k1 t ht)) (fun i hi => by
          show (if 7 = 7 then upd (a1 7) k (a 6 k) else a1 7) i = a 6 i
          rw [if_pos rfl]
          by_cases e : i = k
          · rw [e, pk_us]
          · rw [pk_un e]; exact k2 i (by omega))
        refine ⟨g', a', ?_, m2⟩
        refine fr_s 3 (pc' := cond (fx_cb .ge (nI k) (nI N)) 49 31) (lc' := [(3, .int (nI k)), (0, .ref 0), (1, .int (nI N)), (2, .int (nI most))]) (stk' := []) (mem' := fm (upd g 11 (nI N)) tp bt a1 b) (by intro _ _ _; eq_refl) ?_
        rw [show fx_cb .ge (nI k) (nI N) = false from cb_geF (a := k) (b := N) (by omega) (by omega) (by omega)]
        refine fr_s 6 (pc' := 41) (lc' := [(3, .int (nI k)), (0, .ref 0), (1, .int (nI N)), (2, .int (nI most))]) (stk' := [.int (nI k), .ref 6, .int (nI k), .ref 7]) (mem' := fm (upd g 11 (nI N)) tp bt a1 b) (by intro _ _ _; eq_refl) ?_
        refine fr_ldB (by rfl) (by rfl) (fx_inN (i := k) (by omega) (by omega)) ?_
        rw [show (nI k).toNatClampNeg = k from nI_clamp (by omega), show a1 6 k = a 6 k from congrFun (k1 6 (by decide)) k]
        refine fr_1 (fun _ _ => fx_stB (by rfl) (by rfl) (fx_inN (i := k) (by omega) (by omega)) (show _ = fm (upd g 11 (nI N)) tp bt (fm_u a1 7 (nI k).toNatClampNeg (a 6 k).toInt8.toInt32) b from rfl)) ?_
        rw [show (nI k).toNatClampNeg = k from nI_clamp (by omega), by8 hv.1 hv.2]
        refine fr_s 2 (pc' := 26) (lc' := [(3, .int (nI k + 1)), (0, .ref 0), (1, .int (nI N)), (2, .int (nI most))]) (stk' := []) (mem' := fm (upd g 11 (nI N)) tp bt (fm_u a1 7 k (a 6 k)) b) (by intro _ _ _; eq_refl) ?_
        rw [show nI k + 1 = nI (k + 1) from nI_add k 1]
        exact m1
    obtain ⟨g', a', m1, m2⟩ := loop N 0 (by omega) a (fun _ _ => rfl) (fun i hi => absurd hi (by omega))
    refine Or.inr ⟨N, g', a', rfl, h0.2.1, by omega, fr_meth (by rfl) (by rfl) (c1 _ (fun z => absurd z (by omega)) (fun _ => c2 _ (fun z => absurd z (by omega)) (fun _ => c3 _ (fun z => absurd z (by omega)) (fun _ => ?_)))), m2⟩
    refine fr_s 5 (pc' := 26) (lc' := [(3, .int 0), (0, .ref 0), (1, .int (nI N)), (2, .int (nI most))]) (stk' := []) (mem' := fm (upd g 11 (nI N)) tp bt a b) (by intro _ _ _; eq_refl) ?_
    exact m1
  · refine Or.inl ⟨h0, fr_meth (by rfl) (by rfl) (c1 _ (fun _ => bad _) (fun q0 => c2 _ (fun _ => bad _) (fun q1 => c3 _ (fun _ => bad _) (fun q2 => absurd ⟨q0, q1, by omega⟩ h0))))⟩
theorem md_0 {a1 : Nat → Nat → Int32} (h : fm_pln a a1) : md_L 3368 72 sp_A0 a1 b := by
  have hz : ∀ i, i < 842 → i ≠ 2 → i ≠ 3 → i ≠ 4 → i ≠ 6 → a1 1 (3368 + i) = 0 := fun i hi q1 q2 q3 q4 => by
    rw [h.2.2 i hi]
    unfold fm_pl
    rw [if_neg q1, if_neg q2, if_neg q3, if_neg q4]
  refine ⟨⟨hz 0 (by decide) (by decide) (by decide) (by decide) (by decide), by decide, hz 1 (by decide) (by decide) (by decide) (by decide) (by decide), by decide⟩, ⟨⟨fun i L hi => (by cases hi), fun L hL => absurd hL List.not_mem_nil⟩, ⟨fun i L hi => (by cases hi), fun L hL => absurd hL List.not_mem_nil⟩⟩, fun c hc => absurd hc (Nat.not_lt_zero _), fun i hi => ?_, fun i hi => ?_, fun i L w hi => (by cases hi)⟩
  · have := hz (8 + 6 * i + 2) (by omega) (by omega) (by omega) (by omega) (by omega)
    rw [show 3368 + (8 + 6 * i + 2) = 3368 + 8 + 6 * i + 2 by omega] at this
    exact this
  · have := hz (8 + 6 * i + 3) (by omega) (by omega) (by omega) (by omega) (by omega)
    rw [show 3368 + (8 + 6 * i + 3) = 3368 + 8 + 6 * i + 3 by omega] at this
    exact this
/-- the new lake is copied to the first slot -/
theorem md_cp {a1 : Nat → Nat → Int32} {b1 : Nat → Nat → Int64} (h : md_L 3368 72 A a b) (h1 : ∀ i, i < 842 → a1 1 i = a 1 (3368 + i)) (h2 : ∀ i, i < 18 → b1 2 i = b 2 (72 + i)) : md_L 0 0 A a1 b1 := by
  obtain ⟨⟨k1, k2, k3, k4⟩, ⟨k5, k6⟩, k7, k8, k9, k10⟩ := h
  refine ⟨⟨(h1 0 (by decide)).trans k1, k2, (h1 1 (by decide)).trans k3, k4⟩, ⟨sp_nM_un k5 (fun i hi => ?_), sp_nM_un k6 (fun i hi => ?_)⟩, fun c hc => ?_, fun i hi => ?_, fun i hi => ?_, fun i L w hi => ⟨?_, (k10 i L w hi).2⟩⟩
  · rw [List.length_map] at hi
    have := h2 (0 + i) (by omega)
    rw [show 72 + (0 + i) = 72 + i by omega] at this
    exact this
  · rw [List.length_map] at hi
    have := h2 (0 + 10 + i) (by omega)
    rw [show 72 + (0 + 10 + i) = 72 + 10 + i by omega] at this
    exact this
  · have := h1 (0 + 8 + 6 * c) (by omega)
    rw [show 3368 + (0 + 8 + 6 * c) = 3368 + 8 + 6 * c by omega] at this
    exact this.trans (k7 c hc)
  · have := h1 (0 + 8 + 6 * i + 2) (by omega)
    rw [show 3368 + (0 + 8 + 6 * i + 2) = 3368 + 8 + 6 * i + 2 by omega] at this
    exact this.trans (k8 i hi)
  · have := h1 (0 + 8 + 6 * i + 3) (by omega)
    rw [show 3368 + (0 + 8 + 6 * i + 3) = 3368 + 8 + 6 * i + 3 by omega] at this
    exact this.trans (k9 i hi)
  · have hl := (List.getElem?_eq_some_iff.mp hi).1
    have := h1 (0 + 278 + 5 * i) (by omega)
    rw [show 3368 + (0 + 278 + 5 * i) = 3368 + 278 + 5 * i by omega] at this
    exact this.trans (k10 i L w hi).1
/-- taken(x) -/
theorem mr_taken {x : Int32} {F : Int32} (hF : g 18 = F) (hFr : F = 0 ∨ 0 < F.toInt) : fr_T 2 236 [.ref 0, .int x] (fm g tp bt a b) (some (.int (if F = 0 then x else -1))) (fm (upd (upd g 16 F) 2 (if F = 0 then 0 else 9)) tp bt a b) := by
  refine fr_meth (by rfl) (by rfl) ?_
  refine fr_s 3 (pc' := 5) (lc' := [(0, .ref 0), (1, .int x)]) (stk' := [.int (g 18), .ref 0]) (mem' := fm g tp bt a b) (by intro _ _ _; eq_refl) ?_
  rw [hF]
  refine fr_s 3 (pc' := 12) (lc' := [(0, .ref 0), (1, .int x)]) (stk' := [.int (g 18)]) (mem' := fm (upd g 16 F) tp bt a b) (by intro _ _ _; eq_refl) ?_
  rw [hF]
  refine fr_s 1 (pc' := cond (fx_cb .le F 0) 24 15) (lc' := [(0, .ref 0), (1, .int x)]) (stk' := []) (mem' := fm (upd g 16 F) tp bt a b) (by intro _ _ _; eq_refl) ?_
  rcases hFr with rfl | hFr
  · rw [show fx_cb .le 0 0 = true from by decide, if_pos rfl, if_pos rfl]
    refine fr_s 2 (pc' := 26) (lc' := [(0, .ref 0), (1, .int x)]) (stk' := [.int x, .ref 0]) (mem' := fm (upd g 16 0) tp bt a b) (by intro _ _ _; eq_refl) ?_
    refine fr_ivV fr_gives (by omega) (by rfl) (by rfl) (by rfl) (by rfl) (by rfl) (by rfl) ?_
    exact fr_ret (by rfl) (by rfl) (by rfl)
  · have hne : F ≠ 0 := fun z => by rw [z] at hFr; exact absurd hFr (by decide)
    rw [show fx_cb .le F 0 = false from decide_eq_false (fun z => by rw [Int32.le_iff_toInt_le] at z; have : (0 : Int32).toInt = 0 := by decide
                                                                     omega), if_neg hne, if_neg hne]
    refine fr_s 2 (pc' := 18) (lc' := [(0, .ref 0), (1, .int x)]) (stk' := [.int 9, .ref 0]) (mem' := fm (upd g 16 F) tp bt a b) (by intro _ _ _; eq_refl) ?_
    refine fr_ivV fr_refuse (by omega) (by rfl) (by rfl) (by rfl) (by rfl) (by rfl) (by rfl) ?_
    refine fr_s 1 (pc' := 29) (lc' := [(0, .ref 0), (1, .int x)]) (stk' := [.int (-1)]) (mem' := fm (upd (upd g 16 F) 2 9) tp bt a b) (by intro _ _ _; eq_refl) ?_
    exact fr_ret (by rfl) (by rfl) (by rfl)
end MLK
end MH21_1
section MH21_2
/-! ===== the model's lake() as a whole ===== -/
/-- what lake() of the model does -/
def mLk (g : Nat → Int32) (a : Nat → Nat → Int32) (b : Nat → Nat → Int64) (x v : Int32) (g' : Nat → Int32) (a' : Nat → Nat → Int32) (b' : Nat → Nat → Int64) : Prop :=
  (¬ (0 ≤ x.toInt ∧ x.toInt ≤ (g 10).toInt) ∧ v = -1 ∧ g' = upd g 2 1 ∧ a' = a ∧ b' = b) ∨ ∃ N, x = nI N ∧ (N : Int) ≤ (g 10).toInt ∧ g' 10 = 0 ∧ (match sp_lake (sp_T (a 6) N) N with
  | .inl z => v = -1 ∧ 0 < z.1.toInt ∧ g' 2 = 9 ∧ g' 16 = z.1 ∧ g' 17 = nI z.2 ∧ (∀ i, ¬ (3368 ≤ i ∧ i < 4210) → a' 1 i = a 1 i) ∧ ∀ i, ¬ (72 ≤ i ∧ i < 90) → b' 2 i = b 2 i
  | .inr z => v = nI z.1.1.1.length ∧ g' 2 = 0 ∧ g' 16 = 0 ∧ g' 17 = -1 ∧ md_L 0 0 z.1 a' b' ∧ a' 1 6 = -1 ∧ (∀ i, ¬ i < 842 → ¬ (3368 ≤ i ∧ i < 4210) → a' 1 i = a 1 i) ∧ ∀ i, ¬ i < 18 → ¬ (72 ≤ i ∧ i < 90) → b' 2 i = b 2 i)
/-- behind the parts -/
def mEnd (g0 : Nat → Int32) (a0 : Nat → Nat → Int32) (b0 : Nat → Nat → Int64) (r : sp_R) (v : Int32) (g' : Nat → Int32) (a' : Nat → Nat → Int32) (b' : Nat → Nat → Int64) : Prop := g' 10 = 0 ∧ (match r with
  | .inl z => v = -1 ∧ 0 < z.1.toInt ∧ g' 2 = 9 ∧ g' 16 = z.1 ∧ g' 17 = nI z.2 ∧ (∀ i, ¬ (3368 ≤ i ∧ i < 4210) → a' 1 i = a0 1 i) ∧ ∀ i, ¬ (72 ≤ i ∧ i < 90) → b' 2 i = b0 2 i
  | .inr z => v = nI z.1.1.1.length ∧ g' 2 = 0 ∧ g' 16 = 0 ∧ g' 17 = -1 ∧ md_L 0 0 z.1 a' b' ∧ a' 1 6 = -1 ∧ (∀ i, ¬ i < 842 → ¬ (3368 ≤ i ∧ i < 4210) → a' 1 i = a0 1 i) ∧ ∀ i, ¬ i < 18 → ¬ (72 ≤ i ∧ i < 90) → b' 2 i = b0 2 i)
section MLA
variable {g : Nat → Int32} {tp bt : Int64} {a : Nat → Nat → Int32} {b : Nat → Nat → Int64} {T : Nat → Nat} {n p : Nat} {A : sp_A} {s : Nat}
abbrev mF (tp bt : Int64) (g0 : Nat → Int32) (a0 : Nat → Nat → Int32) (b0 : Nat → Nat → Int64) (r : sp_R) : Option Value × fx_M → Prop := fun R => ∃ (v : Int32) (g' : Nat → Int32) (a' : Nat → Nat → Int32) (b' : Nat → Nat → Int64), mEnd g0 a0 b0 r v g' a' b' ∧ R = (some (.int v), fm g' tp bt a' b')
theorem mr_50f {g0 : Nat → Int32} {a0 : Nat → Nat → Int32} {b0 : Nat → Nat → Int64} {x w : Int32} {z : Int32 × Nat} (h : mf g z.1 z.2) (h10 : g 10 = 0) (ha : ∀ i, ¬ (3368 ≤ i ∧ i < 4210) → a 1 i = a0 1 i) (hb : ∀ i, ¬ (72 ≤ i ∧ i < 90) → b 2 i = b0 2 i) : fe_R 9 gk_m246 50 [(2, .int w), (0, .ref 0), (1, .int x)] [] (fm g tp bt a b) (mF tp bt g0 a0 b0 (.inl z)) := by
  have hne : z.1 ≠ 0 := fun e => by have := h.1; rw [e] at this; exact absurd this (by decide)
  refine fe_s 2 (pc' := 54) (lc' := [(2, .int w), (0, .ref 0), (1, .int x)]) (stk' := [.int (g 18)]) (mem' := fm g tp bt a b) (by intro _ _ _; eq_refl) ?_
  rw [h.2.1]
  refine fe_s 1 (pc' := cond (fx_cb .ne z.1 0) 117 57) (lc' := [(2, .int w), (0, .ref 0), (1, .int x)]) (stk' := []) (mem' := fm g tp bt a b) (by intro _ _ _; eq_refl) ?_
  rw [cb_nz_ne hne]
  dsimp only [cond]
  refine fe_s 4 (pc' := 123) (lc' := [(2, .int w), (0, .ref 0), (1, .int x)]) (stk' := [.int 0, .ref 1, .ref 0]) (mem' := fm g tp bt a b) (by intro _ _ _; eq_refl) ?_
  refine fe_ldI (by rfl) (by rfl) (fx_inN (i := 0) (by omega) (by omega)) ?_
  rw [show Int32.toNatClampNeg (0) = 0 from rfl]
  have ht := mr_taken (g := g) (tp := tp) (bt := bt) (a := a) (b := b) (x := a 1 0) h.2.1 (Or.inr h.1)
  rw [if_neg hne, if_neg hne] at ht
  refine fe_ivV ht (by omega) (by rfl) (by rfl) (by rfl) (by rfl) (by rfl) (by rfl) ?_
  refine fe_ret ⟨-1, _, _, _, ⟨?_, rfl, h.1, pk_us, ?_, ?_, ha, hb⟩, rfl⟩ (by rfl) (by rfl) (by rfl)
  · rw [pk_un (by decide), pk_un (by decide)]; exact h10
  · rw [pk_un (by decide), pk_us]
  · rw [pk_un (by decide), pk_un (by decide)]; exact h.2.2
theorem mr_50o {g0 : Nat → Int32} {a0 : Nat → Nat → Int32} {b0 : Nat → Nat → Int64} {x w : Int32} {z : sp_A × Nat × Nat} (h : mo g T n p) (hA : md_L 3368 72 z.1 a b) (h10 : g 10 = 0) (h6 : a 1 3374 = -1) (ha : ∀ i, ¬ (3368 ≤ i ∧ i < 4210) → a 1 i = a0 1 i) (hb : ∀ i, ¬ (72 ≤ i ∧ i < 90) → b 2 i = b0 2 i) : fe_R 9 gk_m246 50 [(2, .int w), (0, .ref 0), (1, .int x)] [] (fm g tp bt a b) (mF tp bt g0 a0 b0 (.inr z)) := by
  refine fe_s 2 (pc' := 54) (lc' := [(2, .int w), (0, .ref 0), (1, .int x)]) (stk' := [.int (g 18)]) (mem' := fm g tp bt a b) (by intro _ _ _; eq_refl) ?_
  rw [h.2.2.1]
  refine fe_s 3 (pc' := 59) (lc' := [(3, .int 0), (2, .int w), (0, .ref 0), (1, .int x)]) (stk' := []) (mem' := fm g tp bt a b) (by intro _ _ _; eq_refl) ?_
  have l90 : ∀ (r k : Nat), k + r = 18 → ∀ (a3 : Nat → Nat → Int32) (b3 : Nat → Nat → Int64), (∀ i, ¬ i < 842 → a3 1 i = a 1 i) → (∀ i, i < 842 → a3 1 i = a 1 (3368 + i)) → (∀ i, ¬ i < k → b3 2 i = b 2 i) → (∀ i, i < k → b3 2 i = b 2 (72 + i)) → fe_R 9 gk_m246 90 [(3, .int (nI k)), (2, .int w), (0, .ref 0), (1, .int x)] [] (fm g tp bt a3 b3) (mF tp bt g0 a0 b0 (.inr z)) := by
    intro r
    induction r with
    | zero =>
      intro k hk a3 b3 k1 k2 k3 k4
      obtain rfl : k = 18 := by omega
      have hD : md_L 0 0 z.1 a3 b3 := md_cp hA k2 k4
      refine fe_s 3 (pc' := cond (fx_cb .ge (nI 18) 18) 117 96) (lc' := [(3, .int (nI 18)), (2, .int w), (0, .ref 0), (1, .int x)]) (stk' := []) (mem' := fm g tp bt a3 b3) (by intro _ _ _; eq_refl) ?_
      rw [show (fx_cb .ge (nI 18) 18) = true from by decide]
      dsimp only [cond]
      refine fe_s 4 (pc' := 123) (lc' := [(3, .int (nI 18)), (2, .int w), (0, .ref 0), (1, .int x)]) (stk' := [.int 0, .ref 1, .ref 0]) (mem' := fm g tp bt a3 b3) (by intro _ _ _; eq_refl) ?_
      refine fe_ldI (by rfl) (by rfl) (fx_inN (i := 0) (by omega) (by omega)) ?_
      rw [show Int32.toNatClampNeg (0) = 0 from rfl, show a3 1 0 = nI z.1.1.1.length from hD.1.1]
      have ht := mr_taken (g := g) (tp := tp) (bt := bt) (a := a3) (b := b3) (x := nI z.1.1.1.length) h.2.2.1 (Or.inl rfl)
      rw [if_pos rfl, if_pos rfl] at ht
      refine fe_ivV ht (by omega) (by rfl) (by rfl) (by rfl) (by rfl) (by rfl) (by rfl) ?_
      refine fe_ret ⟨_, _, _, _, ⟨?_, rfl, pk_us, ?_, ?_, hD, ?_, fun i q1 q2 => (k1 i q1).trans (ha i q2), fun i q1 q2 => (k3 i q1).trans (hb i q2)⟩, rfl⟩ (by rfl) (by rfl) (by rfl)
      · rw [pk_un (by decide), pk_un (by decide)]; exact h10
      · rw [pk_un (by decide), pk_us]
      · rw [pk_un (by decide), pk_un (by decide)]; exact h.2.2.2
      · exact (k2 6 (by decide)).trans h6
    | succ r ih =>
      intro k hk a3 b3 k1 k2 k3 k4
      refine fe_s 3 (pc' := cond (fx_cb .ge (nI k) 18) 117 96) (lc' := [(3, .int (nI k)), (2, .int w), (0, .ref 0), (1, .int x)]) (stk' := []) (mem' := fm g tp bt a3 b3) (by intro _ _ _; eq_refl) ?_
      rw [show (fx_cb .ge (nI k) 18) = false from cb_geF (a := k) (b := 18) (by omega) (by omega) (by omega)]
      dsimp only [cond]
      refine fe_s 8 (pc' := 109) (lc' := [(3, .int (nI k)), (2, .int w), (0, .ref 0), (1, .int x)]) (stk' := [.int (72 + (nI k)), .ref 2, .int (nI k), .ref 2]) (mem' := fm g tp bt a3 b3) (by intro _ _ _; eq_refl) ?_
      rw [show (72 + (nI k) : Int32) = nI (72 + k) from by simp only [show (72 : Int32) = nI 72 from rfl, nI_add, fm_mul]]
      refine fe_ldL (by rfl) (by rfl) (fx_inN (i := 72 + k) (by omega) (by omega)) ?_
      rw [show Int32.toNatClampNeg (nI (72 + k)) = 72 + k from nI_clamp (by omega)]
      refine fe_stL (mem' := fm g tp bt a3 (fm_uL b3 2 (nI k : Int32).toNatClampNeg (b3 2 (72 + k)))) (by rfl) (by rfl) (fx_inN (i := k) (by omega) (by omega)) fm_sl2 ?_
      rw [show Int32.toNatClampNeg (nI k) = k from nI_clamp (by omega)]
      refine fe_s 2 (pc' := 90) (lc' := [(3, .int ((nI k) + 1)), (2, .int w), (0, .ref 0), (1, .int x)]) (stk' := []) (mem' := fm g tp bt a3 (fm_uL b3 2 k (b3 2 (72 + k)))) (by intro _ _ _; eq_refl) ?_
      rw [show nI k + 1 = nI (k + 1) from nI_add k 1]
      refine ih (k + 1) (by omega) a3 _ k1 k2 (fun i hi => (fm_vL2 (by omega)).trans (k3 i (by omega))) (fun i hi => ?_)
      by_cases e : i = k
      · rw [e, fm_vL2s]; exact k3 (72 + k) (by omega)
      · rw [fm_vL2 e]; exact k4 i (by omega)
  have l59 : ∀ (r k : Nat), k + r = 842 → ∀ a3 : Nat → Nat → Int32, (∀ i, ¬ i < k → a3 1 i = a 1 i) → (∀ i, i < k → a3 1 i = a 1 (3368 + i)) → fe_R 9 gk_m246 59 [(3, .int (nI k)), (2, .int w), (0, .ref 0), (1, .int x)] [] (fm g tp bt a3 b) (mF tp bt g0 a0 b0 (.inr z)) := by
    intro r
    induction r with
    | zero =>
      intro k hk a3 k1 k2
      obtain rfl : k = 842 := by omega
      refine fe_s 3 (pc' := cond (fx_cb .ge (nI 842) 842) 88 66) (lc' := [(3, .int (nI 842)), (2, .int w), (0, .ref 0), (1, .int x)]) (stk' := []) (mem' := fm g tp bt a3 b) (by intro _ _ _; eq_refl) ?_
      rw [show (fx_cb .ge (nI 842) 842) = true from cb_geT (a := 842) (b := 842) (by omega) (by omega) (by omega)]
      dsimp only [cond]
      refine fe_s 2 (pc' := 90) (lc' := [(3, .int 0), (2, .int w), (0, .ref 0), (1, .int x)]) (stk' := []) (mem' := fm g tp bt a3 b) (by intro _ _ _; eq_refl) ?_
      exact l90 18 0 (by omega) a3 b k1 k2 (fun _ _ => rfl) (fun i hi => absurd hi (by omega))
    | succ r ih =>
      intro k hk a3 k1 k2
      refine fe_s 3 (pc' := cond (fx_cb .ge (nI k) 842) 88 66) (lc' := [(3, .int (nI k)), (2, .int w), (0, .ref 0), (1, .int x)]) (stk' := []) (mem' := fm g tp bt a3 b) (by intro _ _ _; eq_refl) ?_
      rw [show (fx_cb .ge (nI k) 842) = false from cb_geF (a := k) (b := 842) (by omega) (by omega) (by omega)]
      dsimp only [cond]
      refine fe_s 8 (pc' := 80) (lc' := [(3, .int (nI k)), (2, .int w), (0, .ref 0), (1, .int x)]) (stk' := [.int (3368 + (nI k)), .ref 1, .int (nI k), .ref 1]) (mem' := fm g tp bt a3 b) (by intro _ _ _; eq_refl) ?_
      rw [show (3368 + (nI k) : Int32) = nI (3368 + k) from by simp only [show (3368 : Int32) = nI 3368 from rfl, nI_add, fm_mul]]
      refine fe_ldI (by rfl) (by rfl) (fx_inN (i := 3368 + k) (by omega) (by omega)) ?_
      rw [show Int32.toNatClampNeg (nI (3368 + k)) = 3368 + k from nI_clamp (by omega)]
      refine fe_stI (mem' := fm g tp bt (fm_u a3 1 (nI k : Int32).toNatClampNeg (a3 1 (3368 + k))) b) (by rfl) (by rfl) (fx_inN (i := k) (by omega) (by omega)) fm_si1 ?_
      rw [show Int32.toNatClampNeg (nI k) = k from nI_clamp (by omega)]
      refine fe_s 2 (pc' := 59) (lc' := [(3, .int ((nI k) + 1)), (2, .int w), (0, .ref 0), (1, .int x)]) (stk' := []) (mem' := fm g tp bt (fm_u a3 1 k (a3 1 (3368 + k))) b) (by intro _ _ _; eq_refl) ?_
      rw [show nI k + 1 = nI (k + 1) from nI_add k 1]
      refine ih (k + 1) (by omega) _ (fun i hi => (fm_v1 (by omega)).trans (k1 i (by omega))) (fun i hi => ?_)
      by_cases e : i = k
      · rw [e, fm_v1s]; exact k1 (3368 + k) (by omega)
      · rw [fm_v1 e]; exact k2 i (by omega)
  exact l59 842 0 (by omega) a (fun _ _ => rfl) (fun i hi => absurd hi (by omega))
/-- the parts, one after the other -/
theorem mr_31 {g0 : Nat → Int32} {a0 : Nat → Nat → Int32} {b0 : Nat → Nat → Int64} {x : Int32} : ∀ (r f p : Nat) (A : sp_A) (s : Nat) (g : Nat → Int32) (a : Nat → Nat → Int32) (b : Nat → Nat → Int64), n - p < r → n - p < f → mT a T n → mo g T n p → md_L 3368 72 A a b → s < 8 ∧ g 20 = nI (32 * s) → g 10 = 0 → a 1 3374 = -1 → (∀ i, ¬ (3368 ≤ i ∧ i < 4210) → a 1 i = a0 1 i) → (∀ i, ¬ (72 ≤ i ∧ i < 90) → b 2 i = b0 2 i) → fe_R 9 gk_m246 31 [(2, .int 1), (0, .ref 0), (1, .int x)] [] (fm g tp bt a b) (mF tp bt g0 a0 b0 (sp_all T n f A s p)) := by
  intro r
  induction r with
  | zero => intro f p A s g a b h; omega
  | succ r ih =>
    intro f p A s g a b hr hf hT h hA hst h10 h6 ha hb
    obtain ⟨f, rfl⟩ : ∃ k, f = k + 1 := ⟨f - 1, by omega⟩
    have hm := mkd_1 (sp_k4 (T := T) (n := n) (p := p))
    refine fe_s 4 (pc' := 39) (lc' := [(2, .int 1), (0, .ref 0), (1, .int x)]) (stk' := [.int (g 12)]) (mem' := fm g tp bt a b) (by intro _ _ _; eq_refl) ?_
    rw [h.2.1.2.2.2.1]
    refine fe_s 1 (pc' := cond (fx_cb .eq (nI (mkd (sp_k T n p))) 0) 50 42) (lc' := [(2, .int 1), (0, .ref 0), (1, .int x)]) (stk' := []) (mem' := fm g tp bt a b) (by intro _ _ _; eq_refl) ?_
    by_cases h0 : sp_k T n p = 0
    · rw [show fx_cb .eq (nI (mkd (sp_k T n p))) 0 = true from cb_eqT (a := mkd (sp_k T n p)) (b := 0) (by omega) (by omega) (hm.2.2.2.2.1.mpr h0), show sp_all T n (f + 1) A s p = .inr (A, s, p) from if_pos h0]
      exact mr_50o (z := (A, s, p)) h hA h10 h6 ha hb
    · rw [show fx_cb .eq (nI (mkd (sp_k T n p))) 0 = false from cb_eqF (a := mkd (sp_k T n p)) (b := 0) (by omega) (by omega) (fun z => h0 (hm.2.2.2.2.1.mp z)), show sp_all T n (f + 1) A s p = (match sp_part T n A s p with
        | .inl z => .inl z
        | .inr z => sp_all T n f z.1 z.2.1 z.2.2) from if_neg h0]
      dsimp only [cond]
      have hQ := sp_Q_part (T := T) (A := A) (st := s) h.1
      obtain ⟨v, g1, a1, b1, k1, k2, k3, k4, k5⟩ := mr_part (tp := tp) (bt := bt) hT hA h hst
      refine fe_s 1 (pc' := 43) (lc' := [(2, .int 1), (0, .ref 0), (1, .int x)]) (stk' := [.ref 0]) (mem' := fm g tp bt a b) (by intro _ _ _; eq_refl) ?_
      refine fe_ivV k1 (by omega) (by rfl) (by rfl) (by rfl) (by rfl) (by rfl) (by rfl) ?_
      refine fe_s 2 (pc' := 31) (lc' := [(2, .int v), (0, .ref 0), (1, .int x)]) (stk' := []) (mem' := fm g1 tp bt a1 b1) (by intro _ _ _; eq_refl) ?_
      have i10 : g1 10 = 0 := (k2 10 (by decide) (by decide) (by decide) (by decide) (by decide) (by decide) (by decide)).trans h10
      have i6 : a1 1 3374 = -1 := (k3.2 3374 (by decide)).trans h6
      have ia : ∀ i, ¬ (3368 ≤ i ∧ i < 4210) → a1 1 i = a0 1 i := fun i hi => (k3.2 i (by omega)).trans (ha i hi)
      have ib : ∀ i, ¬ (72 ≤ i ∧ i < 90) → b1 2 i = b0 2 i := fun i hi => (k4.2 i hi).trans (hb i hi)
      rcases k5 with ⟨rfl, z, hz, hm2, hA2, hs2⟩ | ⟨rfl, z, hz, hm2⟩
      · rw [hz]
        have := hQ z hz
        exact ih f z.2.2 z.1 z.2.1 g1 a1 b1 (by have := hm2.1; omega) (by have := hm2.1; omega) (mT_fa hT k3) hm2 hA2 hs2 i10 i6 ia ib
      · rw [hz]
        refine fe_s 2 (pc' := 50) (lc' := [(2, .int 0), (0, .ref 0), (1, .int x)]) (stk' := []) (mem' := fm g1 tp bt a1 b1) (by intro _ _ _; eq_refl) ?_
        exact mr_50f hm2 i10 ia ib
theorem mr_lake {x : Int32} (hf : 0 ≤ (g 10).toInt ∧ (g 10).toInt ≤ 900) (hb : ∀ k, k < 900 → -128 ≤ (a 6 k).toInt ∧ (a 6 k).toInt ≤ 127) : ∃ (v : Int32) (g' : Nat → Int32) (a' : Nat → Nat → Int32) (b' : Nat → Nat → Int64), fr_T 10 246 [.ref 0, .int x] (fm g tp bt a b) (some (.int v)) (fm g' tp bt a' b') ∧ mLk g a b x v g' a' b' := by
  rcases mr_begins (tp := tp) (bt := bt) (b := b) (x := x) (most := 900) (Nat.le_refl _) hf hb with ⟨hno, hr⟩ | ⟨N, g1, a1, rfl, hN, hN9, hr, hT, hm, h10, hat, hgt⟩
  · refine ⟨-1, upd g 2 1, a, b, fr_meth (by rfl) (by rfl) ?_, Or.inl ⟨fun z => hno ⟨z.1, z.2, by omega⟩, rfl, rfl, rfl, rfl⟩⟩
    refine fr_s 3 (pc' := 5) (lc' := [(0, .ref 0), (1, .int x)]) (stk' := [.int 900, .int x, .ref 0]) (mem' := fm g tp bt a b) (by intro _ _ _; eq_refl) ?_
    refine fr_ivV hr (by omega) (by rfl) (by rfl) (by rfl) (by rfl) (by rfl) (by rfl) ?_
    refine fr_s 3 (pc' := 13) (lc' := [(0, .ref 0), (1, .int x)]) (stk' := [.int 1, .ref 0]) (mem' := fm g tp bt a b) (by intro _ _ _; eq_refl) ?_
    refine fr_ivV fr_refuse (by omega) (by rfl) (by rfl) (by rfl) (by rfl) (by rfl) (by rfl) ?_
    exact fr_ret (by rfl) (by rfl) (by rfl)
  · obtain ⟨v0, mem0, ⟨a2, hp, hR⟩, hpr⟩ := fr_plain (g := g1) (tp := tp) (bt := bt) (a := a1) (b := b)
    cases hR
    have hT2 : mT a2 (sp_T (a 6) N) N := ⟨hT.1, fun k hk => by rw [hp.1 7 (by decide)]; exact hT.2 k hk⟩
    have hm2 := mo_u20 (x := 0) hm
    obtain ⟨R, ⟨v, g', a', b', hE, hR⟩, hrun⟩ := mr_31 (tp := tp) (bt := bt) (g0 := g) (a0 := a) (b0 := b) (x := nI N) (N + 1) 901 0 sp_A0 0 (upd g1 20 0) a2 b (by omega) (by omega) hT2 hm2 (md_0 hp) ⟨by decide, pk_us⟩ ((pk_un (by decide)).trans h10) (hp.2.2 6 (by decide)) (fun i hi => (hp.2.1 i hi).trans (congrFun (hat 1 (by decide)) i)) (fun _ _ => rfl)
    cases hR
    refine ⟨v, g', a', b', fr_meth (by rfl) (by rfl) ?_, Or.inr ⟨N, rfl, hN, hE.1, hE.2⟩⟩
    refine fr_s 3 (pc' := 5) (lc' := [(0, .ref 0), (1, .int (nI N))]) (stk' := [.int 900, .int (nI N), .ref 0]) (mem' := fm g tp bt a b) (by intro _ _ _; eq_refl) ?_
    refine fr_ivV hr (by omega) (by rfl) (by rfl) (by rfl) (by rfl) (by rfl) (by rfl) ?_
    refine fr_s 3 (pc' := 21) (lc' := [(0, .ref 0), (1, .int (nI N))]) (stk' := [.int 3368, .ref 0]) (mem' := fm g1 tp bt a1 b) (by intro _ _ _; eq_refl) ?_
    refine fr_ivV hpr (by omega) (by rfl) (by rfl) (by rfl) (by rfl) (by rfl) (by rfl) ?_
    refine fr_s 5 (pc' := 31) (lc' := [(2, .int 1), (0, .ref 0), (1, .int (nI N))]) (stk' := []) (mem' := fm (upd g1 20 0) tp bt a2 b) (by intro _ _ _; eq_refl) ?_
    exact hrun
end MLA
end MH21_2
section MH21_3
/-! ===== a call of the class, exact and typed at once ===== -/
/-- two contracts of one method, one beginning: both ends -/
theorem lw_Met_and {l : Launch} {y : MethodName} {cs : List Jvm.Cond} {rm : Room} {Pc : Array Value → State → Prop} {Q1 Q2 : Array Value → State → Outcome → State → Prop} {mc ms : Nat} {F1 F2 : Addr → Prop} (h1 : Met l y cs rm Pc Q1 mc ms F1) (h2 : Met l y cs rm Pc Q2 mc ms F2) : Met l y cs rm Pc (fun a st o t => Q1 a st o t ∧ Q2 a st o t) mc ms F1 := by
  unfold Met at h1 h2 ⊢
  have h := MetFree.all (G := Bool) (P := fun _ => Pc) (Q := fun i => cond i (fun a st o t => Q1 a st o t ∧ ∃ L, FrameEnd st o t L mc ms ∧ ∀ q ∈ L, F1 q.base) (fun a st o t => Q2 a st o t ∧ ∃ L, FrameEnd st o t L mc ms ∧ ∀ q ∈ L, F2 q.base)) (fun i => by cases i; exact h2; exact h1)
  refine MetFree.mono h (fun a U z => ⟨true, z⟩) (fun _ _ _ _ _ z => z) (fun a st o t hP hQ => ?_)
  obtain ⟨q1, L, q2, q3⟩ := hQ true hP
  exact ⟨⟨q1, (hQ false hP).1⟩, L, q2, q3⟩
theorem lw_Met_up {l : Launch} {y : MethodName} {cs : List Jvm.Cond} {Pc : Array Value → State → Prop} {Qc : Array Value → State → Outcome → State → Prop} {F1 : Addr → Prop} {d d' : Nat} (hd : d ≤ d') (h : Met l y cs { frames := d, cells := 0, slots := 0, locals := 40 * d } Pc Qc 0 0 F1) : Met l y cs { frames := d', cells := 0, slots := 0, locals := 40 * d' } Pc Qc 0 0 F1 := by
  unfold Met at h ⊢
  exact MetFree.respec h (fun _ _ z => z) hd (by show 40 * d ≤ 40 * d'; omega) (Nat.le_refl _) (Nat.le_refl _)
/-- what stands at a place of a world, as an int, as a long -/
def gw (ws : va_W) (j i : Nat) : Int32 := match lw_at ws (j, i) with
  | some (.int x) => x
  | _ => 0
def lwl (ws : va_W) (j i : Nat) : Int64 := match lw_at ws (j, i) with
  | some (.long x) => x
  | _ => 0
theorem gw_of {ws : va_W} {j i : Nat} {x : Int32} (h : lw_at ws (j, i) = some (.int x)) : gw ws j i = x := by
  unfold gw
  rw [h]
theorem lwl_of {ws : va_W} {j i : Nat} {x : Int64} (h : lw_at ws (j, i) = some (.long x)) : lwl ws j i = x := by
  unfold lwl
  rw [h]
theorem gw_eq {ws ws' : va_W} {j i : Nat} (h : lw_at ws' (j, i) = lw_at ws (j, i)) : gw ws' j i = gw ws j i := by
  unfold gw
  rw [h]
theorem lwl_eq {ws ws' : va_W} {j i : Nat} (h : lw_at ws' (j, i) = lw_at ws (j, i)) : lwl ws' j i = lwl ws j i := by
  unfold lwl
  rw [h]
/-- two pictures of one cell -/
theorem ag_I {H : Heap} {y n : Nat} {cA cA' : ClassId} {f f' : Nat → Int32} (h1 : H[y]? = some (vp_cell cA (n, .inl f))) (h2 : H[y]? = some (vp_cell cA' (n, .inl f'))) {i : Nat} (hi : i < n) : f i = f' i := by
  have e := Option.some.inj (h1.symm.trans h2)
  have e2 := congrArg (fun c : Cell => c.slots[i]?) e
  have e3 : (arrV cA n (fun j => .int (f j))).slots[i]? = (arrV cA' n (fun j => .int (f' j))).slots[i]? := e2
  rw [arrV_read _ _ hi, arrV_read _ _ hi] at e3
  exact Value.int.inj (Option.some.inj e3)
theorem ag_L {H : Heap} {y n : Nat} {cA cA' : ClassId} {f f' : Nat → Int64} (h1 : H[y]? = some (vp_cell cA (n, .inr (.inl f)))) (h2 : H[y]? = some (vp_cell cA' (n, .inr (.inl f')))) {i : Nat} (hi : i < n) : f i = f' i := by
  have e := Option.some.inj (h1.symm.trans h2)
  have e2 := congrArg (fun c : Cell => c.slots[i]?) e
  have e3 : (arrV cA n (fun j => .long (f j))).slots[i]? = (arrV cA' n (fun j => .long (f' j))).slots[i]? := e2
  rw [arrV_read _ _ hi, arrV_read _ _ hi] at e3
  exact Value.long.inj (Option.some.inj e3)
theorem ag_O {H : Heap} {y N : Nat} {cC : ClassId} {iS : Nat → Nat} {vs vs' : List Value} (h1 : t_OB y cC N iS H (vp_V vs)) (h2 : t_OB y cC N iS H (vp_V vs')) {i : Nat} (hi : i < N) : vs.getD i .null = vs'.getD i .null := by
  obtain ⟨c1, a1, -, -, a4⟩ := h1
  obtain ⟨c2, b1, -, -, b4⟩ := h2
  obtain rfl : c1 = c2 := Option.some.inj (a1.symm.trans b1)
  exact Option.some.inj ((a4 i hi).symm.trans (b4 i hi))
section AGW
variable {D : va_G} {ads : List Nat} {t : State} {ws ws' : va_W} {mem' : fx_M}
/-- what the typed end and the exact end have in common -/
def hc_two (D : va_G) (ads : List Nat) (ws ws' : va_W) (mem' : fx_M) : Prop := ∃ t : State, ws'.map Prod.fst = ads ∧ rk_A2 (fun b (q : Nat × va_E) => tk_cl gc_TY lc_ro ads lw_twC t b q.2) lw_twC ws' ∧ va_P D gk_cl ws' t.heap ∧ va_P D gk_cl (fx_w (hc_ps ws) mem') t.heap ∧ ws.map Prod.fst = ads
theorem hc_two_at (h : hc_two D ads ws ws' mem') {j tt : Nat} {e : fx_E} (ht : lw_twC[j]? = some tt) (hm : mem'[j]? = some e) : ∃ (t : State) (y : Nat) (e1 : va_E) (cA : ClassId), ws'[j]? = some (y, e1) ∧ tk_cl gc_TY lc_ro ads lw_twC t tt e1 ∧ va_at D gk_cl (y, e1) t.heap ∧ va_at D gk_cl (y, fx_c (hc_ps ws) cA e) t.heap := by
  obtain ⟨t, h1, h2, h3, h4, h5⟩ := h
  obtain ⟨q1, k1, k2⟩ := h2.get ht
  have hl : j < ws.length := by
    have e1 : ws.length = ws'.length := by rw [← List.length_map (f := Prod.fst) (as := ws), ← List.length_map (f := Prod.fst) (as := ws'), h1, h5]
    rw [e1]
    exact (List.getElem?_eq_some_iff.mp k1).1
  have hw : ws[j]? = some ws[j] := List.getElem?_eq_getElem hl
  have ey : q1.1 = ws[j].1 := by
    have a1 : (ws'.map Prod.fst)[j]? = some q1.1 := by rw [List.getElem?_map, k1]; rfl
    have a2 : (ws.map Prod.fst)[j]? = some ws[j].1 := by rw [List.getElem?_map, hw]; rfl
    rw [h1] at a1
    rw [h5] at a2
    exact Option.some.inj (a1.symm.trans a2)
  have hx : (fx_w (hc_ps ws) mem')[j]? = some (ws[j].1, fx_c (hc_ps ws) (hc_cl ws[j].2) e) := by
    unfold fx_w
    rw [List.getElem?_zipWith, hc_ps_at hw, hm]
  refine ⟨t, q1.1, q1.2, hc_cl ws[j].2, k1, k2, h3 j q1 k1, ?_⟩
  have := h4 j _ hx
  rw [ey]
  exact this
theorem hc_two_I (h : hc_two D ads ws ws' mem') {j tt n : Nat} {kd : FieldType} {fl : tk_F} {f : Nat → Int32} (ht : lw_twC[j]? = some tt) (hk : gc_ty[tt]? = some (.inr (kd, n, fl))) (hkd : kd = .int ∨ kd = .byte) (hm : mem'[j]? = some (.inr (kd, n, .inl f))) : ∀ i, i < n → lw_at ws' (j, i) = some (.int (f i)) := by
  intro i hi
  obtain ⟨t, y, e1, cA, k1, k2, k3, k4⟩ := hc_two_at h ht hm
  unfold tk_cl at k2
  rw [show gc_TY.1[tt]? = _ from hk] at k2
  obtain ⟨cB, -, -, h3⟩ := k2
  obtain ⟨f2, e⟩ : ∃ f2, e1 = .inl (cB, n, .inl f2) := by
    unfold tk_ar at h3
    rcases hkd with rfl | rfl
    · obtain ⟨f2, e, -⟩ := h3; exact ⟨f2, e⟩
    · obtain ⟨f2, e, -⟩ := h3; exact ⟨f2, e⟩
  subst e
  have a1 : t.heap[y]? = some (vp_cell cB (n, .inl f2)) := k3
  have a2 : t.heap[y]? = some (vp_cell cA (n, .inl f)) := k4
  unfold lw_at
  dsimp only
  rw [k1]
  show (if i < n then some (Value.int (f2 i)) else none) = _
  rw [if_pos hi, ag_I a1 a2 hi]
theorem hc_two_L (h : hc_two D ads ws ws' mem') {j tt n : Nat} {fl : tk_F} {f : Nat → Int64} (ht : lw_twC[j]? = some tt) (hk : gc_ty[tt]? = some (.inr (.long, n, fl))) (hm : mem'[j]? = some (.inr (.long, n, .inr (.inl f)))) : ∀ i, i < n → lw_at ws' (j, i) = some (.long (f i)) := by
  intro i hi
  obtain ⟨t, y, e1, cA, k1, k2, k3, k4⟩ := hc_two_at h ht hm
  unfold tk_cl at k2
  rw [show gc_TY.1[tt]? = _ from hk] at k2
  obtain ⟨cB, -, -, h3⟩ := k2
  obtain ⟨f2, e, -⟩ := (show ∃ f : Nat → Int64, e1 = .inl (cB, n, .inr (.inl f)) ∧ _ from h3)
  subst e
  have a1 : t.heap[y]? = some (vp_cell cB (n, .inr (.inl f2))) := k3
  have a2 : t.heap[y]? = some (vp_cell cA (n, .inr (.inl f))) := k4
  unfold lw_at
  dsimp only
  rw [k1]
  show (if i < n then some (Value.long (f2 i)) else none) = _
  rw [if_pos hi, ag_L a1 a2 hi]
theorem hc_two_O (h : hc_two D ads ws ws' mem') {j tt ci : Nat} {fs : List tk_F} {vs : List Value} {r : vw_C} (ht : lw_twC[j]? = some tt) (hk : gc_ty[tt]? = some (.inl (ci, fs))) (hr : gk_cl[ci]? = some r) (hn : r.2.2 = fs.length) (hl : vs.length = fs.length) (hm : mem'[j]? = some (.inl (ci, vs))) {i : Nat} {v : Value} (hv : vs[i]? = some v) (hkd : fx_kd v ≤ 1) : lw_at ws' (j, i) = some v := by
  obtain ⟨t, y, e1, cA, k1, k2, k3, k4⟩ := hc_two_at h ht hm
  unfold tk_cl at k2
  rw [show gc_TY.1[tt]? = _ from hk] at k2
  obtain ⟨vs2, rfl, hvl, -⟩ := k2
  obtain ⟨r1, a1, a2⟩ := (show ∃ r : vw_C, gk_cl[ci]? = some r ∧ t_OB y (D.1 ci) r.2.2 (D.2 ci) t.heap (vp_V vs2) from k3)
  obtain ⟨r2, b1, b2⟩ := (show ∃ r : vw_C, gk_cl[ci]? = some r ∧ t_OB y (D.1 ci) r.2.2 (D.2 ci) t.heap (vp_V (vs.map (fx_v (hc_ps ws)))) from k4)
  rw [hr] at a1 b1
  cases a1
  cases b1
  have hi : i < vs.length := (List.getElem?_eq_some_iff.mp hv).1
  have e := ag_O a2 b2 (i := i) (by rw [hn]; omega)
  unfold lw_at
  dsimp only
  rw [k1]
  show vs2[i]? = some v
  have hi2 : i < vs2.length := by
    rw [show vs2.length = fs.length from hvl]
    omega
  rw [List.getElem?_eq_getElem hi2]
  rw [List.getD_eq_getElem?_getD, List.getD_eq_getElem?_getD, List.getElem?_eq_getElem hi2, List.getElem?_map, hv] at e
  have e : vs2[i] = fx_v (hc_ps ws) v := e
  rw [e, fx_v_id hkd]
end AGW
section HCS2
variable {l : Launch} {D : va_G} {xt : tk_XT} {ads : List Nat} {X : va_W → Prop}
set_option maxHeartbeats 8000000 in
/-- a typed contract and an exact run -/
theorem hc_sem2 (hxt : tk_xtok xt) {k f d : Nat} {kinds : List Nat} {envs : List tk_I} {Q0 : List Value → va_W → va_W → Value → Prop} {Q1 : List Value → va_W → fx_M → Value → Prop} (hd : k + 4 ≤ d) (hK : lw_sem l D xt gc_TY X ads lw_twC d f kinds envs Q0)
    (hex : ∀ (U : State) (ax : Nat) (rest : List Value) (ws : va_W), tk_ty ads lw_twC 0 ax → rk_A2 lq_av (kinds.zip envs) rest → rk_A2 (fun t (q : Nat × va_E) => tk_cl gc_TY lc_ro ads lw_twC U t q.2) lw_twC ws → ws.map Prod.fst = ads → va_D (fun _ => True) ws → X ws → ∃ (v : Value) (mem' : fx_M), fx_kd v ≤ 1 ∧ hr_T k f (.ref 0 :: rest) (hc_mem ads lw_twC ws) (some v) mem' ∧ Q1 rest ws mem' v) : lw_sem l D xt gc_TY X ads lw_twC d f kinds envs (fun av ws ws' v => Q0 av ws ws' v ∧ ∃ mem', Q1 av ws mem' v ∧ hc_two D ads ws ws' mem') := by
  intro qn hqn
  obtain ⟨M, hM, hM21, hK⟩ := hK qn hqn
  refine ⟨M, hM, hM21, fun h0 ws rest sz hty hA2' h4 hob => rk_Met_case (fun aU U hP => ?_)⟩
  obtain ⟨p1, p2, p3, p4, p5, p6, p7, p8, p10⟩ := id hP
  obtain ⟨v, mem', hvv, hfr, hQ⟩ := hex U h0 rest ws hty hA2' p6 h4 p5 p10
  obtain ⟨M2, hM2, -, hmet⟩ := hr_Met (l := l) (D := D) hxt hfr qn hqn
  obtain rfl : M = M2 := Option.some.inj (hM.symm.trans hM2)
  have hl : ws.length = lw_twC.length := p6.len.symm
  have hcell : ∀ {j t : Nat} {q : Nat × va_E}, ws[j]? = some q → lw_twC[j]? = some t → tk_cl gc_TY lc_ro ads lw_twC U t q.2 := fun {j t q} h1 h2 => by
    obtain ⟨q', h3, h5⟩ := p6.get h2
    rw [h1] at h3
    cases h3
    exact h5
  have hO : hx_ok U (hc_ps ws) (hc_mem ads lw_twC ws) := ⟨by rw [hc_mem_len hl, hc_ps_len]; exact Nat.le_refl _, fun j q ty z hq hm => by
    have hlt : j < ws.length := by rw [← hc_ps_len (ws := ws)]; exact (List.getElem?_eq_some_iff.mp hq).1
    have hw : ws[j]? = some ws[j] := List.getElem?_eq_getElem hlt
    have ht : lw_twC[j]? = some (lw_twC[j]'(by omega)) := List.getElem?_eq_getElem (by omega)
    rw [hc_ps_at hw] at hq
    rw [hc_mem_at hw ht] at hm
    cases hq
    exact (hc_c h4 (hcell hw ht) (lw_twC_lt ht)).2.2.2 ty z (Option.some.inj hm)⟩
  have hPw : va_P D gk_cl (hc_w ads lw_twC ws) U.heap := fun j q hq => by
    obtain ⟨q0, t, h1, h2, rfl⟩ := hc_w_inv hl hq
    exact (hc_c h4 (hcell h1 h2) (lw_twC_lt h2)).2.1 D q0.1 U.heap (p3 j q0 h1)
  have hDw : va_D (fun _ => True) (hc_w ads lw_twC ws) := ⟨fun i j a b hi hj e => by
    obtain ⟨a0, t1, h1, -, rfl⟩ := hc_w_inv hl hi
    obtain ⟨b0, t2, h2, -, rfl⟩ := hc_w_inv hl hj
    exact p5.1 i j a0 b0 h1 h2 e, fun _ _ _ => trivial⟩
  have hfree : ∀ q, va_A (fx_w (hc_ps ws) (hc_mem ads lw_twC ws)) sz q → va_A ws sz q := by
    rintro q (⟨k1, e1, hk1⟩ | hq)
    · obtain ⟨q0, t, h1, h2, h3⟩ := hc_w_inv hl (show (hc_w ads lw_twC ws)[k1]? = some (q, e1) from hk1)
      have e9 : q = q0.1 := congrArg Prod.fst h3
      rw [e9]
      exact Or.inl ⟨k1, q0.2, h1⟩
    · exact Or.inr hq
  have hrest : rest.map (fx_v (hc_ps ws)) = rest := by
    apply List.ext_getElem?
    intro i
    rw [List.getElem?_map]
    cases hi : rest[i]? with
    | none => rfl
    | some v =>
      obtain ⟨av0, hav, hg⟩ := hA2'.getR hi
      rcases hg with ⟨-, x, rfl, -⟩ | ⟨-, x, rfl, -⟩
      · rfl
      · rfl
  have hargs : (Value.ref 0 :: rest).map (fx_v (hc_ps ws)) = .ref h0 :: rest := by
    show fx_v (hc_ps ws) (.ref 0) :: rest.map (fx_v (hc_ps ws)) = _
    rw [hrest]
    obtain ⟨j, e, hw, hj, -⟩ := tk_cell h4 p6 hty
    have := lw_twC0 j hj
    subst this
    show Value.ref (fx_ad (hc_ps ws) 0) :: rest = _
    unfold fx_ad
    rw [hc_ps_at hw]
  have m1 := hK h0 ws rest sz hty hA2' h4 hob
  have m2 := lw_Met_up hd (hmet (hc_ps ws) sz)
  have hP2 : hx_Pre D xt (hc_ps ws) (hc_mem ads lw_twC ws) sz (.ref 0 :: rest) aU U := ⟨by rw [hargs]; exact p1, p2, hPw, p4, hDw, hO, p7, hxt.2.2 _ _ _ _ _ p8 (fun _ _ _ => rfl) hfree⟩
  have both := lw_Met_and (rk_Met_imp m1 (Pc' := fun a W => a = aU ∧ W = U) (fun a W z => by obtain ⟨rfl, rfl⟩ := z; exact hP) (fun _ _ _ _ _ _ z => z) (fun _ z => z)) (rk_Met_imp m2 (Pc' := fun a W => a = aU ∧ W = U) (fun a W z => by obtain ⟨rfl, rfl⟩ := z; exact hP2) (fun _ _ _ _ _ _ z => z) (fun _ z => z))
  refine ⟨_, _, both, ⟨rfl, rfl⟩, ?_⟩
  rintro oc t hW ⟨⟨⟨ws', v1, b1, b2, b3, b4, b5, b6, b7⟩, hF1⟩, ⟨⟨e1, hOt, hPt, hDt⟩, hF2⟩⟩
  have ev : v1 = v := by
    rw [b7] at e1
    have e1 : Outcome.returned (some v1) = .returned (some (fx_v (hc_ps ws) v)) := e1
    rw [fx_v_id hvv] at e1
    exact Option.some.inj (Outcome.returned.inj e1)
  exact ⟨⟨ws', v1, b1, b2, b3, b4, b5, ⟨b6, mem', by rw [ev]; exact hQ, t, b1, b2, b3, hPt, h4⟩, b7⟩, hF1⟩
end HCS2
end MH21_3
