/-! ===== the model reads the parts of a lake's text ===== -/
/-- the model's lake in the slot that begins at o, its names from nb on -/
def md_L (o nb : Nat) (A : sp_A) (a : Nat → Nat → Int32) (b : Nat → Nat → Int64) : Prop := (a 1 o = nI A.1.1.length ∧ A.1.1.length ≤ 10 ∧ a 1 (o + 1) = nI A.1.2.length ∧ A.1.2.length ≤ 8) ∧ (sp_nM (fun i => b 2 (nb + i)) (A.1.1.map Prod.fst) ∧ sp_nM (fun i => b 2 (nb + 10 + i)) (A.1.2.map Prod.fst)) ∧ (∀ c, c < A.1.1.length → a 1 (o + 8 + 6 * c) = if sp_sh A c = true then 1 else 0) ∧ (∀ i, i < 10 → a 1 (o + 8 + 6 * i + 2) = A.2.1 i) ∧ (∀ i, i < 10 → a 1 (o + 8 + 6 * i + 3) = A.2.2 i) ∧ ∀ i L w, A.1.2[i]? = some (L, w) → a 1 (o + 278 + 5 * i) = nI w ∧ 1 ≤ w ∧ w ≤ 99
/-- only the new lake's places change -/
def mfa (a a' : Nat → Nat → Int32) : Prop := (∀ t, t ≠ 1 → a' t = a t) ∧ ∀ i, ¬ (3368 ≤ i ∧ i < 4210 ∧ i ≠ 3374) → a' 1 i = a 1 i
def mfb (b b' : Nat → Nat → Int64) : Prop := (∀ t, t ≠ 2 → b' t = b t) ∧ ∀ i, ¬ (72 ≤ i ∧ i < 90) → b' 2 i = b 2 i
section MFR
variable {a a1 a2 : Nat → Nat → Int32} {b b1 b2 : Nat → Nat → Int64}
theorem mfa_rf : mfa a a := ⟨fun _ _ => rfl, fun _ _ => rfl⟩
theorem mfb_rf : mfb b b := ⟨fun _ _ => rfl, fun _ _ => rfl⟩
theorem mfa_tr (h : mfa a a1) (h2 : mfa a1 a2) : mfa a a2 := ⟨fun t ht => (h2.1 t ht).trans (h.1 t ht), fun i hi => (h2.2 i hi).trans (h.2 i hi)⟩
theorem mfb_tr (h : mfb b b1) (h2 : mfb b1 b2) : mfb b b2 := ⟨fun t ht => (h2.1 t ht).trans (h.1 t ht), fun i hi => (h2.2 i hi).trans (h.2 i hi)⟩
theorem mfa_u {i : Nat} {x : Int32} (h : mfa a a1) (hi : 3368 ≤ i ∧ i < 4210 ∧ i ≠ 3374) : mfa a (fm_u a1 1 i x) := ⟨fun t ht => (show (fm_u a1 1 i x) t = a1 t from if_neg ht).trans (h.1 t ht), fun j hj => by
  rw [show (fm_u a1 1 i x) 1 j = a1 1 j from by unfold fm_u; rw [if_pos rfl, pk_un (by omega)]]
  exact h.2 j hj⟩
theorem mfb_u {i : Nat} {x : Int64} (h : mfb b b1) (hi : 72 ≤ i ∧ i < 90) : mfb b (fm_uL b1 2 i x) := ⟨fun t ht => (show (fm_uL b1 2 i x) t = b1 t from if_neg ht).trans (h.1 t ht), fun j hj => by
  rw [show (fm_uL b1 2 i x) 2 j = b1 2 j from by unfold fm_uL vp_updL; rw [if_pos rfl, if_neg (by omega)]]
  exact h.2 j hj⟩
theorem mT_fa {T : Nat → Nat} {n : Nat} (h : mT a T n) (hf : mfa a a1) : mT a1 T n := ⟨h.1, fun k hk => by rw [hf.1 7 (by decide)]; exact h.2 k hk⟩
theorem fm_v1 {i j : Nat} {x : Int32} (h : j ≠ i) : (fm_u a 1 i x) 1 j = a 1 j := by
  unfold fm_u
  rw [if_pos rfl, pk_un h]
theorem fm_v1s {i : Nat} {x : Int32} : (fm_u a 1 i x) 1 i = x := by
  unfold fm_u
  rw [if_pos rfl, pk_us]
/-- a place that is not looked at -/
theorem md_u {A : sp_A} {t : Nat} {x : Int32} (h : md_L 3368 72 A a b) (h1 : t ≠ 3368) (h2 : t ≠ 3369) (h3 : ∀ c, c < A.1.1.length → t ≠ 3376 + 6 * c) (h4 : ∀ i, i < 10 → t ≠ 3376 + 6 * i + 2 ∧ t ≠ 3376 + 6 * i + 3) (h5 : ∀ i, i < A.1.2.length → t ≠ 3646 + 5 * i) : md_L 3368 72 A (fm_u a 1 t x) b := by
  obtain ⟨⟨k1, k2, k3, k4⟩, k5, k6, k7, k8, k9⟩ := h
  refine ⟨⟨(fm_v1 (fun z => h1 z.symm)).trans k1, k2, (fm_v1 (fun z => h2 z.symm)).trans k3, k4⟩, k5, fun c hc => (fm_v1 (fun z => h3 c hc z.symm)).trans (k6 c hc), fun i hi => (fm_v1 (fun z => (h4 i hi).1 z.symm)).trans (k7 i hi), fun i hi => (fm_v1 (fun z => (h4 i hi).2 z.symm)).trans (k8 i hi), fun i L w hi => ⟨(fm_v1 (fun z => h5 i ?_ z.symm)).trans (k9 i L w hi).1, (k9 i L w hi).2⟩⟩
  exact (List.getElem?_eq_some_iff.mp hi).1
theorem sp_nM_add {f f' : Nat → Int64} {l : List (List Nat)} {L : List Nat} (h : sp_nM f l) (hf : ∀ i, i < l.length → f' i = f i) (hl : f' l.length = Int64.ofNat (sp_c8 L)) (hL : sp_lo L) (h8 : L.length ≤ 8) : sp_nM f' (l ++ [L]) := by
  refine ⟨fun i M hi => ?_, fun M hM => ?_⟩
  · by_cases e : i = l.length
    · rw [e, List.getElem?_append_right (Nat.le_refl _), Nat.sub_self] at hi
      cases hi
      rw [e]; exact hl
    · have hlt := (List.getElem?_eq_some_iff.mp hi).1
      rw [List.length_append, show ([L] : List (List Nat)).length = 1 from rfl] at hlt
      rw [List.getElem?_append_left (by omega)] at hi
      rw [hf i (by omega)]
      exact h.1 i M hi
  · rcases List.mem_append.mp hM with z | z
    · exact h.2 M z
    · rw [List.mem_singleton.mp z]; exact ⟨hL, h8⟩
theorem sp_nM_un {f f' : Nat → Int64} {l : List (List Nat)} (h : sp_nM f l) (hf : ∀ i, i < l.length → f' i = f i) : sp_nM f' l := ⟨fun i M hi => (hf i (List.getElem?_eq_some_iff.mp hi).1).trans (h.1 i M hi), h.2⟩
theorem fm_vL2 {i j : Nat} {x : Int64} (h : j ≠ i) : (fm_uL b 2 i x) 2 j = b 2 j := by
  unfold fm_uL vp_updL
  rw [if_pos rfl, if_neg h]
theorem fm_vL2s {i : Nat} {x : Int64} : (fm_uL b 2 i x) 2 i = x := by
  unfold fm_uL vp_updL
  rw [if_pos rfl, if_pos rfl]
end MFR
/-- what a part's reading gives, before its last sign -/
def mPart (T : Nat → Nat) (n : Nat) (r : sp_R) (v : Int32) (g' : Nat → Int32) (a' : Nat → Nat → Int32) (b' : Nat → Nat → Int64) : Prop := (v = 1 ∧ ∃ (A' : sp_A) (st' p' : Nat), r = sp_fin T n A' st' p' ∧ mo g' T n p' ∧ md_L 3368 72 A' a' b' ∧ st' < 8 ∧ g' 20 = nI (32 * st')) ∨ (v = 0 ∧ ∃ z : Int32 × Nat, r = .inl z ∧ mf g' z.1 z.2)
section MPT
variable {g : Nat → Int32} {tp bt : Int64} {a : Nat → Nat → Int32} {b : Nat → Nat → Int64} {T : Nat → Nat} {n p : Nat} {A : sp_A} {s : Nat}
theorem mo_tx {g1 : Nat → Int32} (h : fm_tx8 g g1) : ∀ j, j = 20 → g1 j = g j := fun j hj => h j (by omega) (by omega) (by omega) (by omega) (by omega) (by omega)
/-- a cell's name, if there is one -/
def sp_ch (T : Nat → Nat) (n : Nat) (A : sp_A) (p : Nat) (v : Int32) : Prop := (sp_nm T n p ∧ sp_iC A.1.1 (sp_wd T n p) < A.1.1.length ∧ v = nI (sp_iC A.1.1 (sp_wd T n p))) ∨ (sp_nm T n p ∧ ¬ sp_iC A.1.1 (sp_wd T n p) < A.1.1.length ∧ v = -1) ∨ (¬ sp_nm T n p ∧ v = -1)
theorem mr_cellHere0 (hT : mT a T n) (hA : md_L 3368 72 A a b) (h : mo g T n p) : ∃ (v : Int32) (g' : Nat → Int32) (a' : Nat → Nat → Int32) (b' : Nat → Nat → Int64), fr_T 5 240 [.ref 0] (fm g tp bt a b) (some (.int v)) (fm g' tp bt a' b') ∧ sp_ch T n A p v ∧ g' = g ∧ a' = a ∧ b' = b := by
  suffices h : ∃ (v : Option Value) (mem' : fx_M), (fun R => ∃ (v : Int32) (g' : Nat → Int32) (a' : Nat → Nat → Int32) (b' : Nat → Nat → Int64), (sp_ch T n A p v ∧ g' = g ∧ a' = a ∧ b' = b) ∧ R = (some (.int v), fm g' tp bt a' b')) (v, mem') ∧ fr_T 5 240 [.ref 0] (fm g tp bt a b) v mem' by
    obtain ⟨v, mem', ⟨w, g', a', b', h1, hR⟩, h2⟩ := h
    cases hR
    exact ⟨w, g', a', b', h2, h1⟩
  refine fe_meth (f := 240) (as := [.ref 0]) (F := fun R => ∃ (v : Int32) (g' : Nat → Int32) (a' : Nat → Nat → Int32) (b' : Nat → Nat → Int64), (sp_ch T n A p v ∧ g' = g ∧ a' = a ∧ b' = b) ∧ R = (some (.int v), fm g' tp bt a' b')) (M := gk_m240) (by rfl) (by rfl) ?_
  have hq0 := hA.1.2.1
  have hq1 := hA.1.2.2.2
  refine fe_s 2 (pc' := 3) (lc' := [(0, .ref 0)]) (stk' := [.ref 22, .ref 0]) (mem' := fm g tp bt a b) (by intro _ _ _; eq_refl) ?_
  obtain ⟨xc1, hrc1, hxc1⟩ := mr_isName (tp := tp) (bt := bt) (b := b) hT h
  refine fe_ivV hrc1 (by omega) (by rfl) (by rfl) (by rfl) (by rfl) (by rfl) (by rfl) ?_
  rcases hxc1 with ⟨nmc1, rfl⟩ | ⟨nmc1, rfl⟩
  · have nkc1 := nmc1.1
    have nlc1 := sp_nm_lt h.1 nmc1
    refine fe_s 1 (pc' := cond (fx_cb .eq 1 0) 26 9) (lc' := [(0, .ref 0)]) (stk' := []) (mem' := fm g tp bt a b) (by intro _ _ _; eq_refl) ?_
    rw [show (fx_cb .eq 1 0) = false from by decide]
    dsimp only [cond]
    refine fe_s 5 (pc' := 19) (lc' := [(0, .ref 0)]) (stk' := [.int 3368, .ref 1, .int 72, .ref 0]) (mem' := fm g tp bt a b) (by intro _ _ _; eq_refl) ?_
    refine fe_ldI (by rfl) (by rfl) (fx_inN (i := 3368) (by omega) (by omega)) ?_
    rw [show Int32.toNatClampNeg (3368) = 3368 from rfl]
    rw [show a 1 3368 = nI (A.1.1.length) from hA.1.1]
    obtain ⟨wc2, hrc2, hic2⟩ := mr_findHere (tp := tp) (bt := bt) (b := b) (base := 72) (many := (A.1.1.length)) hT h nmc1 (by omega)
    refine fe_ivV hrc2 (by omega) (by rfl) (by rfl) (by rfl) (by rfl) (by rfl) (by rfl) ?_
    have hzc2 := sp_fxM hA.2.1.1 nlc1.1 nlc1.2 (by rw [List.length_map]; exact hic2)
    rw [List.length_map, sp_iC_map] at hzc2
    rcases hzc2 with ⟨hzc2, rfl⟩ | ⟨hzc2, rfl⟩
    · refine fe_s 1 (pc' := 27) (lc' := [(0, .ref 0)]) (stk' := [.int (-1)]) (mem' := fm g tp bt a b) (by intro _ _ _; eq_refl) ?_
      exact fe_ret ⟨_, _, _, _, ⟨Or.inr (Or.inl ⟨nmc1, by omega, rfl⟩), rfl, rfl, rfl⟩, rfl⟩ (by rfl) (by rfl) (by rfl)
    · refine fe_s 1 (pc' := 27) (lc' := [(0, .ref 0)]) (stk' := [.int (nI (sp_iC A.1.1 (sp_wd T n p)))]) (mem' := fm g tp bt a b) (by intro _ _ _; eq_refl) ?_
      exact fe_ret ⟨_, _, _, _, ⟨Or.inl ⟨nmc1, by omega, rfl⟩, rfl, rfl, rfl⟩, rfl⟩ (by rfl) (by rfl) (by rfl)
  · refine fe_s 1 (pc' := cond (fx_cb .eq 0 0) 26 9) (lc' := [(0, .ref 0)]) (stk' := []) (mem' := fm g tp bt a b) (by intro _ _ _; eq_refl) ?_
    rw [show (fx_cb .eq 0 0) = true from by decide]
    dsimp only [cond]
    refine fe_s 1 (pc' := 27) (lc' := [(0, .ref 0)]) (stk' := [.int (-1)]) (mem' := fm g tp bt a b) (by intro _ _ _; eq_refl) ?_
    exact fe_ret ⟨_, _, _, _, ⟨Or.inr (Or.inr ⟨nmc1, rfl⟩), rfl, rfl, rfl⟩, rfl⟩ (by rfl) (by rfl) (by rfl)
theorem mr_cellHere (hT : mT a T n) (hA : md_L 3368 72 A a b) (h : mo g T n p) : ∃ v : Int32, fr_T 5 240 [.ref 0] (fm g tp bt a b) (some (.int v)) (fm g tp bt a b) ∧ sp_ch T n A p v := by
  obtain ⟨v, g', a', b', h1, h2, rfl, rfl, rfl⟩ := mr_cellHere0 (tp := tp) (bt := bt) hT hA h
  exact ⟨v, h1, h2⟩
theorem mr_isNewShore {i : Nat} (hA : md_L 3368 72 A a b) (hi : i < A.1.1.length) : fr_T 2 241 [.ref 0, .int (nI i)] (fm g tp bt a b) (some (.int (if sp_sh A i = true then 1 else 0))) (fm g tp bt a b) := by
  have hq := hA.1.2.1
  have h6 := hA.2.2.1 i hi
  refine fr_meth (by rfl) (by rfl) ?_
  refine fr_s 7 (pc' := 12) (lc' := [(0, .ref 0), (1, .int (nI i))]) (stk' := [.int (3376 + 6 * nI i), .ref 1]) (mem' := fm g tp bt a b) (by intro _ _ _; eq_refl) ?_
  rw [show (3376 : Int32) + 6 * nI i = nI (3376 + 6 * i) from by rw [show (6 : Int32) = nI 6 from rfl, fm_mul, show (3376 : Int32) = nI 3376 from rfl, nI_add]]
  refine fr_ldI (by rfl) (by rfl) (fx_inN (i := 3376 + 6 * i) (by omega) (by omega)) ?_
  rw [show (nI (3376 + 6 * i)).toNatClampNeg = 3376 + 6 * i from nI_clamp (by omega), show a 1 (3376 + 6 * i) = _ from h6]
  by_cases e : sp_sh A i = true
  · rw [if_pos e]
    refine fr_s 4 (pc' := 22) (lc' := [(0, .ref 0), (1, .int (nI i))]) (stk' := [.int 1]) (mem' := fm g tp bt a b) (by intro _ _ _; eq_refl) ?_
    exact fr_ret (by rfl) (by rfl) (by rfl)
  · rw [if_neg e]
    refine fr_s 3 (pc' := 22) (lc' := [(0, .ref 0), (1, .int (nI i))]) (stk' := [.int 0]) (mem' := fm g tp bt a b) (by intro _ _ _; eq_refl) ?_
    exact fr_ret (by rfl) (by rfl) (by rfl)
theorem mr_oldOne {t : Nat} (hT : mT a T n) (hA : md_L 3368 72 A a b) (h : mo g T n p) (ht : t < 5894) : ∃ (v : Int32) (g' : Nat → Int32) (a' : Nat → Nat → Int32) (b' : Nat → Nat → Int64), fr_T 6 238 [.ref 0, .int 72, .int (nI (A.1.1.length)), .int (nI t)] (fm g tp bt a b) (some (.int v)) (fm g' tp bt a' b') ∧ fm_tx8 g g' ∧ b' = b ∧ ((sp_nm T n p ∧ sp_iC A.1.1 (sp_wd T n p) < A.1.1.length ∧ v = 1 ∧ a' = fm_u a 1 t (nI (sp_iC A.1.1 (sp_wd T n p))) ∧ mo g' T n (sp_n T n p)) ∨ (sp_nm T n p ∧ ¬ sp_iC A.1.1 (sp_wd T n p) < A.1.1.length ∧ v = 0 ∧ a' = fm_u a 1 t (-1) ∧ mf g' 3 (sp_s T n p)) ∨ (¬ sp_nm T n p ∧ v = 0 ∧ a' = a ∧ mf g' (sp_m T n p) (sp_s T n p))) := by
  suffices h : ∃ (v : Option Value) (mem' : fx_M), (fun R => ∃ (v : Int32) (g' : Nat → Int32) (a' : Nat → Nat → Int32) (b' : Nat → Nat → Int64), (fm_tx8 g g' ∧ b' = b ∧ ((sp_nm T n p ∧ sp_iC A.1.1 (sp_wd T n p) < A.1.1.length ∧ v = 1 ∧ a' = fm_u a 1 t (nI (sp_iC A.1.1 (sp_wd T n p))) ∧ mo g' T n (sp_n T n p)) ∨ (sp_nm T n p ∧ ¬ sp_iC A.1.1 (sp_wd T n p) < A.1.1.length ∧ v = 0 ∧ a' = fm_u a 1 t (-1) ∧ mf g' 3 (sp_s T n p)) ∨ (¬ sp_nm T n p ∧ v = 0 ∧ a' = a ∧ mf g' (sp_m T n p) (sp_s T n p)))) ∧ R = (some (.int v), fm g' tp bt a' b')) (v, mem') ∧ fr_T 6 238 [.ref 0, .int 72, .int (nI (A.1.1.length)), .int (nI t)] (fm g tp bt a b) v mem' by
    obtain ⟨v, mem', ⟨w, g', a', b', h1, hR⟩, h2⟩ := h
    cases hR
    exact ⟨w, g', a', b', h2, h1⟩
  refine fe_meth (f := 238) (as := [.ref 0, .int 72, .int (nI (A.1.1.length)), .int (nI t)]) (F := fun R => ∃ (v : Int32) (g' : Nat → Int32) (a' : Nat → Nat → Int32) (b' : Nat → Nat → Int64), (fm_tx8 g g' ∧ b' = b ∧ ((sp_nm T n p ∧ sp_iC A.1.1 (sp_wd T n p) < A.1.1.length ∧ v = 1 ∧ a' = fm_u a 1 t (nI (sp_iC A.1.1 (sp_wd T n p))) ∧ mo g' T n (sp_n T n p)) ∨ (sp_nm T n p ∧ ¬ sp_iC A.1.1 (sp_wd T n p) < A.1.1.length ∧ v = 0 ∧ a' = fm_u a 1 t (-1) ∧ mf g' 3 (sp_s T n p)) ∨ (¬ sp_nm T n p ∧ v = 0 ∧ a' = a ∧ mf g' (sp_m T n p) (sp_s T n p)))) ∧ R = (some (.int v), fm g' tp bt a' b')) (M := gk_m238) (by rfl) (by rfl) ?_
  have hq0 := hA.1.2.1
  have hq1 := hA.1.2.2.2
  refine fe_s 2 (pc' := 3) (lc' := [(0, .ref 0), (1, .int 72), (2, .int (nI (A.1.1.length))), (3, .int (nI t))]) (stk' := [.ref 22, .ref 0]) (mem' := fm g tp bt a b) (by intro _ _ _; eq_refl) ?_
  obtain ⟨xc1, hrc1, hxc1⟩ := mr_isName (tp := tp) (bt := bt) (b := b) hT h
  refine fe_ivV hrc1 (by omega) (by rfl) (by rfl) (by rfl) (by rfl) (by rfl) (by rfl) ?_
  rcases hxc1 with ⟨nmc1, rfl⟩ | ⟨nmc1, rfl⟩
  · have nkc1 := nmc1.1
    have nlc1 := sp_nm_lt h.1 nmc1
    refine fe_s 1 (pc' := cond (fx_cb .ne 1 0) 15 9) (lc' := [(0, .ref 0), (1, .int 72), (2, .int (nI (A.1.1.length))), (3, .int (nI t))]) (stk' := []) (mem' := fm g tp bt a b) (by intro _ _ _; eq_refl) ?_
    rw [show (fx_cb .ne 1 0) = true from by decide]
    dsimp only [cond]
    refine fe_s 6 (pc' := 23) (lc' := [(0, .ref 0), (1, .int 72), (2, .int (nI (A.1.1.length))), (3, .int (nI t))]) (stk' := [.int (nI (A.1.1.length)), .int 72, .ref 0, .int (nI t), .ref 1]) (mem' := fm g tp bt a b) (by intro _ _ _; eq_refl) ?_
    obtain ⟨wc2, hrc2, hic2⟩ := mr_findHere (tp := tp) (bt := bt) (b := b) (base := 72) (many := (A.1.1.length)) hT h nmc1 (by omega)
    refine fe_ivV hrc2 (by omega) (by rfl) (by rfl) (by rfl) (by rfl) (by rfl) (by rfl) ?_
    have hzc2 := sp_fxM hA.2.1.1 nlc1.1 nlc1.2 (by rw [List.length_map]; exact hic2)
    rw [List.length_map, sp_iC_map] at hzc2
    rcases hzc2 with ⟨hzc2, rfl⟩ | ⟨hzc2, rfl⟩
    · refine fe_stI (mem' := fm g tp bt (fm_u a 1 (nI t : Int32).toNatClampNeg (-1)) b) (by rfl) (by rfl) (fx_inN (i := t) (by omega) (by omega)) fm_si1 ?_
      rw [show Int32.toNatClampNeg (nI t) = t from nI_clamp (by omega)]
      have hT2 := mT_u (t := 1) (i := t) (x := (-1)) (by decide) hT
      refine fe_s 3 (pc' := 32) (lc' := [(0, .ref 0), (1, .int 72), (2, .int (nI (A.1.1.length))), (3, .int (nI t))]) (stk' := [.int (nI t), .ref 1]) (mem' := fm g tp bt (fm_u a 1 t (-1)) b) (by intro _ _ _; eq_refl) ?_
      refine fe_ldI (by rfl) (by rfl) (fx_inN (i := t) (by omega) (by omega)) ?_
      rw [show Int32.toNatClampNeg (nI t) = t from nI_clamp (by omega)]
      rw [show (fm_u a 1 t (-1)) 1 t = (-1) from fm_v1s]
      refine fe_s 1 (pc' := 34) (lc' := [(0, .ref 0), (1, .int 72), (2, .int (nI (A.1.1.length))), (3, .int (nI t))]) (stk' := [.int (-1), .int (-1)]) (mem' := fm g tp bt (fm_u a 1 t (-1)) b) (by intro _ _ _; eq_refl) ?_
      refine fe_s 1 (pc' := cond (fx_cb .ne (-1) (-1)) 43 37) (lc' := [(0, .ref 0), (1, .int 72), (2, .int (nI (A.1.1.length))), (3, .int (nI t))]) (stk' := []) (mem' := fm g tp bt (fm_u a 1 t (-1)) b) (by intro _ _ _; eq_refl) ?_
      rw [show (fx_cb .ne (-1) (-1)) = false from by decide]
      dsimp only [cond]
      refine fe_s 2 (pc' := 39) (lc' := [(0, .ref 0), (1, .int 72), (2, .int (nI (A.1.1.length))), (3, .int (nI t))]) (stk' := [.int 3, .ref 0]) (mem' := fm g tp bt (fm_u a 1 t (-1)) b) (by intro _ _ _; eq_refl) ?_
      obtain ⟨gc4, hrc4, txc4, hmc4⟩ := mr_failsx (tp := tp) (bt := bt) (a := (fm_u a 1 t (-1))) (b := b) (x := 3) h (by decide) (by omega)
      refine fe_ivV hrc4 (by omega) (by rfl) (by rfl) (by rfl) (by rfl) (by rfl) (by rfl) ?_
      exact fe_ret ⟨_, _, _, _, ⟨(fm_tx8_tr fm_tx8_rf txc4), rfl, Or.inr (Or.inl ⟨nmc1, by omega, rfl, rfl, hmc4⟩)⟩, rfl⟩ (by rfl) (by rfl) (by rfl)
    · refine fe_stI (mem' := fm g tp bt (fm_u a 1 (nI t : Int32).toNatClampNeg (nI (sp_iC A.1.1 (sp_wd T n p)))) b) (by rfl) (by rfl) (fx_inN (i := t) (by omega) (by omega)) fm_si1 ?_
      rw [show Int32.toNatClampNeg (nI t) = t from nI_clamp (by omega)]
      have hT4 := mT_u (t := 1) (i := t) (x := nI (sp_iC A.1.1 (sp_wd T n p))) (by decide) hT
      refine fe_s 3 (pc' := 32) (lc' := [(0, .ref 0), (1, .int 72), (2, .int (nI (A.1.1.length))), (3, .int (nI t))]) (stk' := [.int (nI t), .ref 1]) (mem' := fm g tp bt (fm_u a 1 t (nI (sp_iC A.1.1 (sp_wd T n p)))) b) (by intro _ _ _; eq_refl) ?_
      refine fe_ldI (by rfl) (by rfl) (fx_inN (i := t) (by omega) (by omega)) ?_
      rw [show Int32.toNatClampNeg (nI t) = t from nI_clamp (by omega)]
      rw [show (fm_u a 1 t (nI (sp_iC A.1.1 (sp_wd T n p)))) 1 t = nI (sp_iC A.1.1 (sp_wd T n p)) from fm_v1s]
      refine fe_s 1 (pc' := 34) (lc' := [(0, .ref 0), (1, .int 72), (2, .int (nI (A.1.1.length))), (3, .int (nI t))]) (stk' := [.int (-1), .int (nI (sp_iC A.1.1 (sp_wd T n p)))]) (mem' := fm g tp bt (fm_u a 1 t (nI (sp_iC A.1.1 (sp_wd T n p)))) b) (by intro _ _ _; eq_refl) ?_
      refine fe_s 1 (pc' := cond (fx_cb .ne (nI (sp_iC A.1.1 (sp_wd T n p))) (-1)) 43 37) (lc' := [(0, .ref 0), (1, .int 72), (2, .int (nI (A.1.1.length))), (3, .int (nI t))]) (stk' := []) (mem' := fm g tp bt (fm_u a 1 t (nI (sp_iC A.1.1 (sp_wd T n p)))) b) (by intro _ _ _; eq_refl) ?_
      rw [show (fx_cb .ne (nI (sp_iC A.1.1 (sp_wd T n p))) (-1)) = true from cb_n_ne (by omega) (by decide)]
      dsimp only [cond]
      refine fe_s 1 (pc' := 44) (lc' := [(0, .ref 0), (1, .int 72), (2, .int (nI (A.1.1.length))), (3, .int (nI t))]) (stk' := [.ref 0]) (mem' := fm g tp bt (fm_u a 1 t (nI (sp_iC A.1.1 (sp_wd T n p)))) b) (by intro _ _ _; eq_refl) ?_
      obtain ⟨gc6, hrc6, txc6, hmc6⟩ := mr_aheado (tp := tp) (bt := bt) (b := b) hT4 h (by omega)
      refine fe_ivV hrc6 (by omega) (by rfl) (by rfl) (by rfl) (by rfl) (by rfl) (by rfl) ?_
      refine fe_s 1 (pc' := 48) (lc' := [(0, .ref 0), (1, .int 72), (2, .int (nI (A.1.1.length))), (3, .int (nI t))]) (stk' := [.int 1]) (mem' := fm gc6 tp bt (fm_u a 1 t (nI (sp_iC A.1.1 (sp_wd T n p)))) b) (by intro _ _ _; eq_refl) ?_
      exact fe_ret ⟨_, _, _, _, ⟨(fm_tx8_tr fm_tx8_rf txc6), rfl, Or.inl ⟨nmc1, by omega, rfl, rfl, hmc6⟩⟩, rfl⟩ (by rfl) (by rfl) (by rfl)
  · refine fe_s 1 (pc' := cond (fx_cb .ne 0 0) 15 9) (lc' := [(0, .ref 0), (1, .int 72), (2, .int (nI (A.1.1.length))), (3, .int (nI t))]) (stk' := []) (mem' := fm g tp bt a b) (by intro _ _ _; eq_refl) ?_
    rw [show (fx_cb .ne 0 0) = false from by decide]
    dsimp only [cond]
    refine fe_s 2 (pc' := 11) (lc' := [(0, .ref 0), (1, .int 72), (2, .int (nI (A.1.1.length))), (3, .int (nI t))]) (stk' := [.int 2, .ref 0]) (mem' := fm g tp bt a b) (by intro _ _ _; eq_refl) ?_
    obtain ⟨gc7, hrc7, txc7, hmc7⟩ := mr_fails2 (tp := tp) (bt := bt) (a := a) (b := b) h
    refine fe_ivV hrc7 (by omega) (by rfl) (by rfl) (by rfl) (by rfl) (by rfl) (by rfl) ?_
    exact fe_ret ⟨_, _, _, _, ⟨(fm_tx8_tr fm_tx8_rf txc7), rfl, Or.inr (Or.inr ⟨nmc1, rfl, rfl, hmc7⟩)⟩, rfl⟩ (by rfl) (by rfl) (by rfl)
theorem mr_newC (hT : mT a T n) (hA : md_L 3368 72 A a b) (h : mo g T n p) (hk : sp_k T n p = 1) : ∃ (v : Int32) (g' : Nat → Int32) (a' : Nat → Nat → Int32) (b' : Nat → Nat → Int64), fr_T 5 237 [.ref 0, .int 0, .int 10, .int 0] (fm g tp bt a b) (some (.int v)) (fm g' tp bt a' b') ∧ fm_tx8 g g' ∧ a' = a ∧ ((¬ A.1.1.length = 10 ∧ sp_nm T n (sp_n T n p) ∧ ¬ (sp_iC A.1.1 (sp_wd T n (sp_n T n p)) < A.1.1.length ∨ sp_iW A.1.2 (sp_wd T n (sp_n T n p)) < A.1.2.length) ∧ v = 1 ∧ b' = fm_uL b 2 (72 + A.1.1.length) (Int64.ofNat (sp_c8 (sp_wd T n (sp_n T n p)))) ∧ mo g' T n (sp_n T n (sp_n T n p))) ∨ (b' = b ∧ v = 0 ∧ ((A.1.1.length = 10 ∧ mf g' 6 (sp_s T n p)) ∨ (¬ A.1.1.length = 10 ∧ ¬ sp_nm T n (sp_n T n p) ∧ mf g' (sp_m T n (sp_n T n p)) (sp_s T n (sp_n T n p))) ∨ (¬ A.1.1.length = 10 ∧ sp_nm T n (sp_n T n p) ∧ (sp_iC A.1.1 (sp_wd T n (sp_n T n p)) < A.1.1.length ∨ sp_iW A.1.2 (sp_wd T n (sp_n T n p)) < A.1.2.length) ∧ mf g' 3 (sp_s T n (sp_n T n p)))))) := by
  suffices h : ∃ (v : Option Value) (mem' : fx_M), (fun R => ∃ (v : Int32) (g' : Nat → Int32) (a' : Nat → Nat → Int32) (b' : Nat → Nat → Int64), (fm_tx8 g g' ∧ a' = a ∧ ((¬ A.1.1.length = 10 ∧ sp_nm T n (sp_n T n p) ∧ ¬ (sp_iC A.1.1 (sp_wd T n (sp_n T n p)) < A.1.1.length ∨ sp_iW A.1.2 (sp_wd T n (sp_n T n p)) < A.1.2.length) ∧ v = 1 ∧ b' = fm_uL b 2 (72 + A.1.1.length) (Int64.ofNat (sp_c8 (sp_wd T n (sp_n T n p)))) ∧ mo g' T n (sp_n T n (sp_n T n p))) ∨ (b' = b ∧ v = 0 ∧ ((A.1.1.length = 10 ∧ mf g' 6 (sp_s T n p)) ∨ (¬ A.1.1.length = 10 ∧ ¬ sp_nm T n (sp_n T n p) ∧ mf g' (sp_m T n (sp_n T n p)) (sp_s T n (sp_n T n p))) ∨ (¬ A.1.1.length = 10 ∧ sp_nm T n (sp_n T n p) ∧ (sp_iC A.1.1 (sp_wd T n (sp_n T n p)) < A.1.1.length ∨ sp_iW A.1.2 (sp_wd T n (sp_n T n p)) < A.1.2.length) ∧ mf g' 3 (sp_s T n (sp_n T n p))))))) ∧ R = (some (.int v), fm g' tp bt a' b')) (v, mem') ∧ fr_T 5 237 [.ref 0, .int 0, .int 10, .int 0] (fm g tp bt a b) v mem' by
    obtain ⟨v, mem', ⟨w, g', a', b', h1, hR⟩, h2⟩ := h
    cases hR
    exact ⟨w, g', a', b', h2, h1⟩
  refine fe_meth (f := 237) (as := [.ref 0, .int 0, .int 10, .int 0]) (F := fun R => ∃ (v : Int32) (g' : Nat → Int32) (a' : Nat → Nat → Int32) (b' : Nat → Nat → Int64), (fm_tx8 g g' ∧ a' = a ∧ ((¬ A.1.1.length = 10 ∧ sp_nm T n (sp_n T n p) ∧ ¬ (sp_iC A.1.1 (sp_wd T n (sp_n T n p)) < A.1.1.length ∨ sp_iW A.1.2 (sp_wd T n (sp_n T n p)) < A.1.2.length) ∧ v = 1 ∧ b' = fm_uL b 2 (72 + A.1.1.length) (Int64.ofNat (sp_c8 (sp_wd T n (sp_n T n p)))) ∧ mo g' T n (sp_n T n (sp_n T n p))) ∨ (b' = b ∧ v = 0 ∧ ((A.1.1.length = 10 ∧ mf g' 6 (sp_s T n p)) ∨ (¬ A.1.1.length = 10 ∧ ¬ sp_nm T n (sp_n T n p) ∧ mf g' (sp_m T n (sp_n T n p)) (sp_s T n (sp_n T n p))) ∨ (¬ A.1.1.length = 10 ∧ sp_nm T n (sp_n T n p) ∧ (sp_iC A.1.1 (sp_wd T n (sp_n T n p)) < A.1.1.length ∨ sp_iW A.1.2 (sp_wd T n (sp_n T n p)) < A.1.2.length) ∧ mf g' 3 (sp_s T n (sp_n T n p))))))) ∧ R = (some (.int v), fm g' tp bt a' b')) (M := gk_m237) (by rfl) (by rfl) ?_
  have hq0 := hA.1.2.1
  have hq1 := hA.1.2.2.2
  refine fe_s 5 (pc' := 9) (lc' := [(0, .ref 0), (1, .int 0), (2, .int 10), (3, .int 0)]) (stk' := [.int (3368 + 0), .ref 1]) (mem' := fm g tp bt a b) (by intro _ _ _; eq_refl) ?_
  rw [show (3368 + 0 : Int32) = 3368 from rfl]
  refine fe_ldI (by rfl) (by rfl) (fx_inN (i := 3368) (by omega) (by omega)) ?_
  rw [show Int32.toNatClampNeg (3368) = 3368 from rfl]
  rw [show a 1 3368 = nI (A.1.1.length) from hA.1.1]
  refine fe_s 1 (pc' := 11) (lc' := [(0, .ref 0), (1, .int 0), (2, .int 10), (3, .int 0)]) (stk' := [.int 10, .int (nI (A.1.1.length))]) (mem' := fm g tp bt a b) (by intro _ _ _; eq_refl) ?_
  refine fe_s 1 (pc' := cond (fx_cb .ne (nI (A.1.1.length)) 10) 21 14) (lc' := [(0, .ref 0), (1, .int 0), (2, .int 10), (3, .int 0)]) (stk' := []) (mem' := fm g tp bt a b) (by intro _ _ _; eq_refl) ?_
  by_cases y1 : (A.1.1.length) = 10
  · rw [show (fx_cb .ne (nI (A.1.1.length)) 10) = false from cb_neF (a := (A.1.1.length)) (b := 10) (by omega) (by omega) (by omega)]
    dsimp only [cond]
    refine fe_s 2 (pc' := 17) (lc' := [(0, .ref 0), (1, .int 0), (2, .int 10), (3, .int 0)]) (stk' := [.int 6, .ref 0]) (mem' := fm g tp bt a b) (by intro _ _ _; eq_refl) ?_
    obtain ⟨gc2, hrc2, txc2, hmc2⟩ := mr_failsx (tp := tp) (bt := bt) (a := a) (b := b) (x := 6) h (by decide) (by omega)
    refine fe_ivV hrc2 (by omega) (by rfl) (by rfl) (by rfl) (by rfl) (by rfl) (by rfl) ?_
    exact fe_ret ⟨_, _, _, _, ⟨(fm_tx8_tr fm_tx8_rf txc2), rfl, Or.inr ⟨rfl, rfl, Or.inl ⟨by omega, hmc2⟩⟩⟩, rfl⟩ (by rfl) (by rfl) (by rfl)
  · rw [show (fx_cb .ne (nI (A.1.1.length)) 10) = true from cb_neT (a := (A.1.1.length)) (b := 10) (by omega) (by omega) (by omega)]
    dsimp only [cond]
    refine fe_s 1 (pc' := 22) (lc' := [(0, .ref 0), (1, .int 0), (2, .int 10), (3, .int 0)]) (stk' := [.ref 0]) (mem' := fm g tp bt a b) (by intro _ _ _; eq_refl) ?_
    obtain ⟨gc3, hrc3, txc3, hmc3⟩ := mr_aheado (tp := tp) (bt := bt) (b := b) hT h (by omega)
    refine fe_ivV hrc3 (by omega) (by rfl) (by rfl) (by rfl) (by rfl) (by rfl) (by rfl) ?_
    refine fe_s 2 (pc' := 28) (lc' := [(0, .ref 0), (1, .int 0), (2, .int 10), (3, .int 0)]) (stk' := [.ref 22, .ref 0]) (mem' := fm gc3 tp bt a b) (by intro _ _ _; eq_refl) ?_
    obtain ⟨xc4, hrc4, hxc4⟩ := mr_isName (tp := tp) (bt := bt) (b := b) hT hmc3
    refine fe_ivV hrc4 (by omega) (by rfl) (by rfl) (by rfl) (by rfl) (by rfl) (by rfl) ?_
    rcases hxc4 with ⟨nmc4, rfl⟩ | ⟨nmc4, rfl⟩
    · have nkc4 := nmc4.1
      have nlc4 := sp_nm_lt hmc3.1 nmc4
      refine fe_s 1 (pc' := cond (fx_cb .ne 1 0) 40 34) (lc' := [(0, .ref 0), (1, .int 0), (2, .int 10), (3, .int 0)]) (stk' := []) (mem' := fm gc3 tp bt a b) (by intro _ _ _; eq_refl) ?_
      rw [show (fx_cb .ne 1 0) = true from by decide]
      dsimp only [cond]
      refine fe_s 5 (pc' := 50) (lc' := [(0, .ref 0), (1, .int 0), (2, .int 10), (3, .int 0)]) (stk' := [.int 3368, .ref 1, .int 72, .ref 0]) (mem' := fm gc3 tp bt a b) (by intro _ _ _; eq_refl) ?_
      refine fe_ldI (by rfl) (by rfl) (fx_inN (i := 3368) (by omega) (by omega)) ?_
      rw [show Int32.toNatClampNeg (3368) = 3368 from rfl]
      rw [show a 1 3368 = nI (A.1.1.length) from hA.1.1]
      obtain ⟨wc5, hrc5, hic5⟩ := mr_findHere (tp := tp) (bt := bt) (b := b) (base := 72) (many := (A.1.1.length)) hT hmc3 nmc4 (by omega)
      refine fe_ivV hrc5 (by omega) (by rfl) (by rfl) (by rfl) (by rfl) (by rfl) (by rfl) ?_
      have hzc5 := sp_fxM hA.2.1.1 nlc4.1 nlc4.2 (by rw [List.length_map]; exact hic5)
      rw [List.length_map, sp_iC_map] at hzc5
      rcases hzc5 with ⟨hzc5, rfl⟩ | ⟨hzc5, rfl⟩
      · refine fe_s 1 (pc' := 55) (lc' := [(0, .ref 0), (1, .int 0), (2, .int 10), (3, .int 0)]) (stk' := [.int (-1), .int (-1)]) (mem' := fm gc3 tp bt a b) (by intro _ _ _; eq_refl) ?_
        refine fe_s 1 (pc' := cond (fx_cb .ne (-1) (-1)) 76 58) (lc' := [(0, .ref 0), (1, .int 0), (2, .int 10), (3, .int 0)]) (stk' := []) (mem' := fm gc3 tp bt a b) (by intro _ _ _; eq_refl) ?_
        rw [show (fx_cb .ne (-1) (-1)) = false from by decide]
        dsimp only [cond]
        refine fe_s 5 (pc' := 68) (lc' := [(0, .ref 0), (1, .int 0), (2, .int 10), (3, .int 0)]) (stk' := [.int 3369, .ref 1, .int 82, .ref 0]) (mem' := fm gc3 tp bt a b) (by intro _ _ _; eq_refl) ?_
        refine fe_ldI (by rfl) (by rfl) (fx_inN (i := 3369) (by omega) (by omega)) ?_
        rw [show Int32.toNatClampNeg (3369) = 3369 from rfl]
        rw [show a 1 3369 = nI (A.1.2.length) from hA.1.2.2.1]
        obtain ⟨wc6, hrc6, hic6⟩ := mr_findHere (tp := tp) (bt := bt) (b := b) (base := 82) (many := (A.1.2.length)) hT hmc3 nmc4 (by omega)
        refine fe_ivV hrc6 (by omega) (by rfl) (by rfl) (by rfl) (by rfl) (by rfl) (by rfl) ?_
        have hzc6 := sp_fxM hA.2.1.2 nlc4.1 nlc4.2 (by rw [List.length_map]; exact hic6)
        rw [List.length_map, sp_iW_map] at hzc6
        rcases hzc6 with ⟨hzc6, rfl⟩ | ⟨hzc6, rfl⟩
        · refine fe_s 1 (pc' := 73) (lc' := [(0, .ref 0), (1, .int 0), (2, .int 10), (3, .int 0)]) (stk' := [.int (-1), .int (-1)]) (mem' := fm gc3 tp bt a b) (by intro _ _ _; eq_refl) ?_
          refine fe_s 1 (pc' := cond (fx_cb .eq (-1) (-1)) 82 76) (lc' := [(0, .ref 0), (1, .int 0), (2, .int 10), (3, .int 0)]) (stk' := []) (mem' := fm gc3 tp bt a b) (by intro _ _ _; eq_refl) ?_
          rw [show (fx_cb .eq (-1) (-1)) = true from by decide]
          dsimp only [cond]
          refine fe_s 10 (pc' := 99) (lc' := [(0, .ref 0), (1, .int 0), (2, .int 10), (3, .int 0)]) (stk' := [.int (3368 + 0), .ref 1, .int (72 + 0), .ref 2]) (mem' := fm gc3 tp bt a b) (by intro _ _ _; eq_refl) ?_
          rw [show (72 + 0 : Int32) = 72 from rfl]
          rw [show (3368 + 0 : Int32) = 3368 from rfl]
          refine fe_ldI (by rfl) (by rfl) (fx_inN (i := 3368) (by omega) (by omega)) ?_
          rw [show Int32.toNatClampNeg (3368) = 3368 from rfl]
          rw [show a 1 3368 = nI (A.1.1.length) from hA.1.1]
          refine fe_s 2 (pc' := 102) (lc' := [(0, .ref 0), (1, .int 0), (2, .int 10), (3, .int 0)]) (stk' := [.ref 0, .int (72 + (nI (A.1.1.length))), .ref 2]) (mem' := fm gc3 tp bt a b) (by intro _ _ _; eq_refl) ?_
          rw [show (72 + (nI (A.1.1.length)) : Int32) = nI (72 + (A.1.1.length)) from by simp only [show (72 : Int32) = nI 72 from rfl, nI_add, fm_mul]]
          refine fe_ivV (mr_nameHere (tp := tp) (bt := bt) (a := a) (b := b) hT hmc3 nmc4) (by omega) (by rfl) (by rfl) (by rfl) (by rfl) (by rfl) (by rfl) ?_
          refine fe_stL (mem' := fm gc3 tp bt a (fm_uL b 2 (nI (72 + (A.1.1.length)) : Int32).toNatClampNeg (Int64.ofNat (sp_c8 (sp_wd T n (sp_n T n p)))))) (by rfl) (by rfl) (fx_inN (i := 72 + (A.1.1.length)) (by omega) (by omega)) fm_sl2 ?_
          rw [show Int32.toNatClampNeg (nI (72 + (A.1.1.length))) = 72 + (A.1.1.length) from nI_clamp (by omega)]
          refine fe_s 1 (pc' := 107) (lc' := [(0, .ref 0), (1, .int 0), (2, .int 10), (3, .int 0)]) (stk' := [.ref 0]) (mem' := fm gc3 tp bt a (fm_uL b 2 (72 + (A.1.1.length)) (Int64.ofNat (sp_c8 (sp_wd T n (sp_n T n p)))))) (by intro _ _ _; eq_refl) ?_
          obtain ⟨gc7, hrc7, txc7, hmc7⟩ := mr_aheado (tp := tp) (bt := bt) (b := (fm_uL b 2 (72 + (A.1.1.length)) (Int64.ofNat (sp_c8 (sp_wd T n (sp_n T n p)))))) hT hmc3 (by omega)
          refine fe_ivV hrc7 (by omega) (by rfl) (by rfl) (by rfl) (by rfl) (by rfl) (by rfl) ?_
          refine fe_s 1 (pc' := 111) (lc' := [(0, .ref 0), (1, .int 0), (2, .int 10), (3, .int 0)]) (stk' := [.int 1]) (mem' := fm gc7 tp bt a (fm_uL b 2 (72 + (A.1.1.length)) (Int64.ofNat (sp_c8 (sp_wd T n (sp_n T n p)))))) (by intro _ _ _; eq_refl) ?_
          exact fe_ret ⟨_, _, _, _, ⟨(fm_tx8_tr (fm_tx8_tr fm_tx8_rf txc3) txc7), rfl, Or.inl ⟨by omega, nmc4, by omega, rfl, rfl, hmc7⟩⟩, rfl⟩ (by rfl) (by rfl) (by rfl)
        · refine fe_s 1 (pc' := 73) (lc' := [(0, .ref 0), (1, .int 0), (2, .int 10), (3, .int 0)]) (stk' := [.int (-1), .int (nI (sp_iW A.1.2 (sp_wd T n (sp_n T n p))))]) (mem' := fm gc3 tp bt a b) (by intro _ _ _; eq_refl) ?_
          refine fe_s 1 (pc' := cond (fx_cb .eq (nI (sp_iW A.1.2 (sp_wd T n (sp_n T n p)))) (-1)) 82 76) (lc' := [(0, .ref 0), (1, .int 0), (2, .int 10), (3, .int 0)]) (stk' := []) (mem' := fm gc3 tp bt a b) (by intro _ _ _; eq_refl) ?_
          rw [show (fx_cb .eq (nI (sp_iW A.1.2 (sp_wd T n (sp_n T n p)))) (-1)) = false from cb_n_eq (by omega) (by decide)]
          dsimp only [cond]
          refine fe_s 2 (pc' := 78) (lc' := [(0, .ref 0), (1, .int 0), (2, .int 10), (3, .int 0)]) (stk' := [.int 3, .ref 0]) (mem' := fm gc3 tp bt a b) (by intro _ _ _; eq_refl) ?_
          obtain ⟨gc8, hrc8, txc8, hmc8⟩ := mr_failsx (tp := tp) (bt := bt) (a := a) (b := b) (x := 3) hmc3 (by decide) (by omega)
          refine fe_ivV hrc8 (by omega) (by rfl) (by rfl) (by rfl) (by rfl) (by rfl) (by rfl) ?_
          exact fe_ret ⟨_, _, _, _, ⟨(fm_tx8_tr (fm_tx8_tr fm_tx8_rf txc3) txc8), rfl, Or.inr ⟨rfl, rfl, Or.inr (Or.inr ⟨by omega, nmc4, by omega, hmc8⟩)⟩⟩, rfl⟩ (by rfl) (by rfl) (by rfl)
      · refine fe_s 1 (pc' := 55) (lc' := [(0, .ref 0), (1, .int 0), (2, .int 10), (3, .int 0)]) (stk' := [.int (-1), .int (nI (sp_iC A.1.1 (sp_wd T n (sp_n T n p))))]) (mem' := fm gc3 tp bt a b) (by intro _ _ _; eq_refl) ?_
        refine fe_s 1 (pc' := cond (fx_cb .ne (nI (sp_iC A.1.1 (sp_wd T n (sp_n T n p)))) (-1)) 76 58) (lc' := [(0, .ref 0), (1, .int 0), (2, .int 10), (3, .int 0)]) (stk' := []) (mem' := fm gc3 tp bt a b) (by intro _ _ _; eq_refl) ?_
        rw [show (fx_cb .ne (nI (sp_iC A.1.1 (sp_wd T n (sp_n T n p)))) (-1)) = true from cb_n_ne (by omega) (by decide)]
        dsimp only [cond]
        refine fe_s 2 (pc' := 78) (lc' := [(0, .ref 0), (1, .int 0), (2, .int 10), (3, .int 0)]) (stk' := [.int 3, .ref 0]) (mem' := fm gc3 tp bt a b) (by intro _ _ _; eq_refl) ?_
        obtain ⟨gc9, hrc9, txc9, hmc9⟩ := mr_failsx (tp := tp) (bt := bt) (a := a) (b := b) (x := 3) hmc3 (by decide) (by omega)
        refine fe_ivV hrc9 (by omega) (by rfl) (by rfl) (by rfl) (by rfl) (by rfl) (by rfl) ?_
        exact fe_ret ⟨_, _, _, _, ⟨(fm_tx8_tr (fm_tx8_tr fm_tx8_rf txc3) txc9), rfl, Or.inr ⟨rfl, rfl, Or.inr (Or.inr ⟨by omega, nmc4, by omega, hmc9⟩)⟩⟩, rfl⟩ (by rfl) (by rfl) (by rfl)
    · refine fe_s 1 (pc' := cond (fx_cb .ne 0 0) 40 34) (lc' := [(0, .ref 0), (1, .int 0), (2, .int 10), (3, .int 0)]) (stk' := []) (mem' := fm gc3 tp bt a b) (by intro _ _ _; eq_refl) ?_
      rw [show (fx_cb .ne 0 0) = false from by decide]
      dsimp only [cond]
      refine fe_s 2 (pc' := 36) (lc' := [(0, .ref 0), (1, .int 0), (2, .int 10), (3, .int 0)]) (stk' := [.int 2, .ref 0]) (mem' := fm gc3 tp bt a b) (by intro _ _ _; eq_refl) ?_
      obtain ⟨gc10, hrc10, txc10, hmc10⟩ := mr_fails2 (tp := tp) (bt := bt) (a := a) (b := b) hmc3
      refine fe_ivV hrc10 (by omega) (by rfl) (by rfl) (by rfl) (by rfl) (by rfl) (by rfl) ?_
      exact fe_ret ⟨_, _, _, _, ⟨(fm_tx8_tr (fm_tx8_tr fm_tx8_rf txc3) txc10), rfl, Or.inr ⟨rfl, rfl, Or.inr (Or.inl ⟨by omega, nmc4, hmc10⟩)⟩⟩, rfl⟩ (by rfl) (by rfl) (by rfl)
theorem mr_newW (hT : mT a T n) (hA : md_L 3368 72 A a b) (h : mo g T n p) (hk : sp_k T n p = 1) : ∃ (v : Int32) (g' : Nat → Int32) (a' : Nat → Nat → Int32) (b' : Nat → Nat → Int64), fr_T 5 237 [.ref 0, .int 1, .int 8, .int 10] (fm g tp bt a b) (some (.int v)) (fm g' tp bt a' b') ∧ fm_tx8 g g' ∧ a' = a ∧ ((¬ A.1.2.length = 8 ∧ sp_nm T n (sp_n T n p) ∧ ¬ (sp_iC A.1.1 (sp_wd T n (sp_n T n p)) < A.1.1.length ∨ sp_iW A.1.2 (sp_wd T n (sp_n T n p)) < A.1.2.length) ∧ v = 1 ∧ b' = fm_uL b 2 (82 + A.1.2.length) (Int64.ofNat (sp_c8 (sp_wd T n (sp_n T n p)))) ∧ mo g' T n (sp_n T n (sp_n T n p))) ∨ (b' = b ∧ v = 0 ∧ ((A.1.2.length = 8 ∧ mf g' 6 (sp_s T n p)) ∨ (¬ A.1.2.length = 8 ∧ ¬ sp_nm T n (sp_n T n p) ∧ mf g' (sp_m T n (sp_n T n p)) (sp_s T n (sp_n T n p))) ∨ (¬ A.1.2.length = 8 ∧ sp_nm T n (sp_n T n p) ∧ (sp_iC A.1.1 (sp_wd T n (sp_n T n p)) < A.1.1.length ∨ sp_iW A.1.2 (sp_wd T n (sp_n T n p)) < A.1.2.length) ∧ mf g' 3 (sp_s T n (sp_n T n p)))))) := by
  suffices h : ∃ (v : Option Value) (mem' : fx_M), (fun R => ∃ (v : Int32) (g' : Nat → Int32) (a' : Nat → Nat → Int32) (b' : Nat → Nat → Int64), (fm_tx8 g g' ∧ a' = a ∧ ((¬ A.1.2.length = 8 ∧ sp_nm T n (sp_n T n p) ∧ ¬ (sp_iC A.1.1 (sp_wd T n (sp_n T n p)) < A.1.1.length ∨ sp_iW A.1.2 (sp_wd T n (sp_n T n p)) < A.1.2.length) ∧ v = 1 ∧ b' = fm_uL b 2 (82 + A.1.2.length) (Int64.ofNat (sp_c8 (sp_wd T n (sp_n T n p)))) ∧ mo g' T n (sp_n T n (sp_n T n p))) ∨ (b' = b ∧ v = 0 ∧ ((A.1.2.length = 8 ∧ mf g' 6 (sp_s T n p)) ∨ (¬ A.1.2.length = 8 ∧ ¬ sp_nm T n (sp_n T n p) ∧ mf g' (sp_m T n (sp_n T n p)) (sp_s T n (sp_n T n p))) ∨ (¬ A.1.2.length = 8 ∧ sp_nm T n (sp_n T n p) ∧ (sp_iC A.1.1 (sp_wd T n (sp_n T n p)) < A.1.1.length ∨ sp_iW A.1.2 (sp_wd T n (sp_n T n p)) < A.1.2.length) ∧ mf g' 3 (sp_s T n (sp_n T n p))))))) ∧ R = (some (.int v), fm g' tp bt a' b')) (v, mem') ∧ fr_T 5 237 [.ref 0, .int 1, .int 8, .int 10] (fm g tp bt a b) v mem' by
    obtain ⟨v, mem', ⟨w, g', a', b', h1, hR⟩, h2⟩ := h
    cases hR
    exact ⟨w, g', a', b', h2, h1⟩
  refine fe_meth (f := 237) (as := [.ref 0, .int 1, .int 8, .int 10]) (F := fun R => ∃ (v : Int32) (g' : Nat → Int32) (a' : Nat → Nat → Int32) (b' : Nat → Nat → Int64), (fm_tx8 g g' ∧ a' = a ∧ ((¬ A.1.2.length = 8 ∧ sp_nm T n (sp_n T n p) ∧ ¬ (sp_iC A.1.1 (sp_wd T n (sp_n T n p)) < A.1.1.length ∨ sp_iW A.1.2 (sp_wd T n (sp_n T n p)) < A.1.2.length) ∧ v = 1 ∧ b' = fm_uL b 2 (82 + A.1.2.length) (Int64.ofNat (sp_c8 (sp_wd T n (sp_n T n p)))) ∧ mo g' T n (sp_n T n (sp_n T n p))) ∨ (b' = b ∧ v = 0 ∧ ((A.1.2.length = 8 ∧ mf g' 6 (sp_s T n p)) ∨ (¬ A.1.2.length = 8 ∧ ¬ sp_nm T n (sp_n T n p) ∧ mf g' (sp_m T n (sp_n T n p)) (sp_s T n (sp_n T n p))) ∨ (¬ A.1.2.length = 8 ∧ sp_nm T n (sp_n T n p) ∧ (sp_iC A.1.1 (sp_wd T n (sp_n T n p)) < A.1.1.length ∨ sp_iW A.1.2 (sp_wd T n (sp_n T n p)) < A.1.2.length) ∧ mf g' 3 (sp_s T n (sp_n T n p))))))) ∧ R = (some (.int v), fm g' tp bt a' b')) (M := gk_m237) (by rfl) (by rfl) ?_
  have hq0 := hA.1.2.1
  have hq1 := hA.1.2.2.2
  refine fe_s 5 (pc' := 9) (lc' := [(0, .ref 0), (1, .int 1), (2, .int 8), (3, .int 10)]) (stk' := [.int (3368 + 1), .ref 1]) (mem' := fm g tp bt a b) (by intro _ _ _; eq_refl) ?_
  rw [show (3368 + 1 : Int32) = 3369 from rfl]
  refine fe_ldI (by rfl) (by rfl) (fx_inN (i := 3369) (by omega) (by omega)) ?_
  rw [show Int32.toNatClampNeg (3369) = 3369 from rfl]
  rw [show a 1 3369 = nI (A.1.2.length) from hA.1.2.2.1]
  refine fe_s 1 (pc' := 11) (lc' := [(0, .ref 0), (1, .int 1), (2, .int 8), (3, .int 10)]) (stk' := [.int 8, .int (nI (A.1.2.length))]) (mem' := fm g tp bt a b) (by intro _ _ _; eq_refl) ?_
  refine fe_s 1 (pc' := cond (fx_cb .ne (nI (A.1.2.length)) 8) 21 14) (lc' := [(0, .ref 0), (1, .int 1), (2, .int 8), (3, .int 10)]) (stk' := []) (mem' := fm g tp bt a b) (by intro _ _ _; eq_refl) ?_
  by_cases y1 : (A.1.2.length) = 8
  · rw [show (fx_cb .ne (nI (A.1.2.length)) 8) = false from cb_neF (a := (A.1.2.length)) (b := 8) (by omega) (by omega) (by omega)]
    dsimp only [cond]
    refine fe_s 2 (pc' := 17) (lc' := [(0, .ref 0), (1, .int 1), (2, .int 8), (3, .int 10)]) (stk' := [.int 6, .ref 0]) (mem' := fm g tp bt a b) (by intro _ _ _; eq_refl) ?_
    obtain ⟨gc2, hrc2, txc2, hmc2⟩ := mr_failsx (tp := tp) (bt := bt) (a := a) (b := b) (x := 6) h (by decide) (by omega)
    refine fe_ivV hrc2 (by omega) (by rfl) (by rfl) (by rfl) (by rfl) (by rfl) (by rfl) ?_
    exact fe_ret ⟨_, _, _, _, ⟨(fm_tx8_tr fm_tx8_rf txc2), rfl, Or.inr ⟨rfl, rfl, Or.inl ⟨by omega, hmc2⟩⟩⟩, rfl⟩ (by rfl) (by rfl) (by rfl)
  · rw [show (fx_cb .ne (nI (A.1.2.length)) 8) = true from cb_neT (a := (A.1.2.length)) (b := 8) (by omega) (by omega) (by omega)]
    dsimp only [cond]
    refine fe_s 1 (pc' := 22) (lc' := [(0, .ref 0), (1, .int 1), (2, .int 8), (3, .int 10)]) (stk' := [.ref 0]) (mem' := fm g tp bt a b) (by intro _ _ _; eq_refl) ?_
    obtain ⟨gc3, hrc3, txc3, hmc3⟩ := mr_aheado (tp := tp) (bt := bt) (b := b) hT h (by omega)
    refine fe_ivV hrc3 (by omega) (by rfl) (by rfl) (by rfl) (by rfl) (by rfl) (by rfl) ?_
    refine fe_s 2 (pc' := 28) (lc' := [(0, .ref 0), (1, .int 1), (2, .int 8), (3, .int 10)]) (stk' := [.ref 22, .ref 0]) (mem' := fm gc3 tp bt a b) (by intro _ _ _; eq_refl) ?_
    obtain ⟨xc4, hrc4, hxc4⟩ := mr_isName (tp := tp) (bt := bt) (b := b) hT hmc3
    refine fe_ivV hrc4 (by omega) (by rfl) (by rfl) (by rfl) (by rfl) (by rfl) (by rfl) ?_
    rcases hxc4 with ⟨nmc4, rfl⟩ | ⟨nmc4, rfl⟩
    · have nkc4 := nmc4.1
      have nlc4 := sp_nm_lt hmc3.1 nmc4
      refine fe_s 1 (pc' := cond (fx_cb .ne 1 0) 40 34) (lc' := [(0, .ref 0), (1, .int 1), (2, .int 8), (3, .int 10)]) (stk' := []) (mem' := fm gc3 tp bt a b) (by intro _ _ _; eq_refl) ?_
      rw [show (fx_cb .ne 1 0) = true from by decide]
      dsimp only [cond]
      refine fe_s 5 (pc' := 50) (lc' := [(0, .ref 0), (1, .int 1), (2, .int 8), (3, .int 10)]) (stk' := [.int 3368, .ref 1, .int 72, .ref 0]) (mem' := fm gc3 tp bt a b) (by intro _ _ _; eq_refl) ?_
      refine fe_ldI (by rfl) (by rfl) (fx_inN (i := 3368) (by omega) (by omega)) ?_
      rw [show Int32.toNatClampNeg (3368) = 3368 from rfl]
      rw [show a 1 3368 = nI (A.1.1.length) from hA.1.1]
      obtain ⟨wc5, hrc5, hic5⟩ := mr_findHere (tp := tp) (bt := bt) (b := b) (base := 72) (many := (A.1.1.length)) hT hmc3 nmc4 (by omega)
      refine fe_ivV hrc5 (by omega) (by rfl) (by rfl) (by rfl) (by rfl) (by rfl) (by rfl) ?_
      have hzc5 := sp_fxM hA.2.1.1 nlc4.1 nlc4.2 (by rw [List.length_map]; exact hic5)
      rw [List.length_map, sp_iC_map] at hzc5
      rcases hzc5 with ⟨hzc5, rfl⟩ | ⟨hzc5, rfl⟩
      · refine fe_s 1 (pc' := 55) (lc' := [(0, .ref 0), (1, .int 1), (2, .int 8), (3, .int 10)]) (stk' := [.int (-1), .int (-1)]) (mem' := fm gc3 tp bt a b) (by intro _ _ _; eq_refl) ?_
        refine fe_s 1 (pc' := cond (fx_cb .ne (-1) (-1)) 76 58) (lc' := [(0, .ref 0), (1, .int 1), (2, .int 8), (3, .int 10)]) (stk' := []) (mem' := fm gc3 tp bt a b) (by intro _ _ _; eq_refl) ?_
        rw [show (fx_cb .ne (-1) (-1)) = false from by decide]
        dsimp only [cond]
        refine fe_s 5 (pc' := 68) (lc' := [(0, .ref 0), (1, .int 1), (2, .int 8), (3, .int 10)]) (stk' := [.int 3369, .ref 1, .int 82, .ref 0]) (mem' := fm gc3 tp bt a b) (by intro _ _ _; eq_refl) ?_
        refine fe_ldI (by rfl) (by rfl) (fx_inN (i := 3369) (by omega) (by omega)) ?_
        rw [show Int32.toNatClampNeg (3369) = 3369 from rfl]
        rw [show a 1 3369 = nI (A.1.2.length) from hA.1.2.2.1]
        obtain ⟨wc6, hrc6, hic6⟩ := mr_findHere (tp := tp) (bt := bt) (b := b) (base := 82) (many := (A.1.2.length)) hT hmc3 nmc4 (by omega)
        refine fe_ivV hrc6 (by omega) (by rfl) (by rfl) (by rfl) (by rfl) (by rfl) (by rfl) ?_
        have hzc6 := sp_fxM hA.2.1.2 nlc4.1 nlc4.2 (by rw [List.length_map]; exact hic6)
        rw [List.length_map, sp_iW_map] at hzc6
        rcases hzc6 with ⟨hzc6, rfl⟩ | ⟨hzc6, rfl⟩
        · refine fe_s 1 (pc' := 73) (lc' := [(0, .ref 0), (1, .int 1), (2, .int 8), (3, .int 10)]) (stk' := [.int (-1), .int (-1)]) (mem' := fm gc3 tp bt a b) (by intro _ _ _; eq_refl) ?_
          refine fe_s 1 (pc' := cond (fx_cb .eq (-1) (-1)) 82 76) (lc' := [(0, .ref 0), (1, .int 1), (2, .int 8), (3, .int 10)]) (stk' := []) (mem' := fm gc3 tp bt a b) (by intro _ _ _; eq_refl) ?_
          rw [show (fx_cb .eq (-1) (-1)) = true from by decide]
          dsimp only [cond]
          refine fe_s 10 (pc' := 99) (lc' := [(0, .ref 0), (1, .int 1), (2, .int 8), (3, .int 10)]) (stk' := [.int (3368 + 1), .ref 1, .int (72 + 10), .ref 2]) (mem' := fm gc3 tp bt a b) (by intro _ _ _; eq_refl) ?_
          rw [show (72 + 10 : Int32) = 82 from rfl]
          rw [show (3368 + 1 : Int32) = 3369 from rfl]
          refine fe_ldI (by rfl) (by rfl) (fx_inN (i := 3369) (by omega) (by omega)) ?_
          rw [show Int32.toNatClampNeg (3369) = 3369 from rfl]
          rw [show a 1 3369 = nI (A.1.2.length) from hA.1.2.2.1]
          refine fe_s 2 (pc' := 102) (lc' := [(0, .ref 0), (1, .int 1), (2, .int 8), (3, .int 10)]) (stk' := [.ref 0, .int (82 + (nI (A.1.2.length))), .ref 2]) (mem' := fm gc3 tp bt a b) (by intro _ _ _; eq_refl) ?_
          rw [show (82 + (nI (A.1.2.length)) : Int32) = nI (82 + (A.1.2.length)) from by simp only [show (82 : Int32) = nI 82 from rfl, nI_add, fm_mul]]
          refine fe_ivV (mr_nameHere (tp := tp) (bt := bt) (a := a) (b := b) hT hmc3 nmc4) (by omega) (by rfl) (by rfl) (by rfl) (by rfl) (by rfl) (by rfl) ?_
          refine fe_stL (mem' := fm gc3 tp bt a (fm_uL b 2 (nI (82 + (A.1.2.length)) : Int32).toNatClampNeg (Int64.ofNat (sp_c8 (sp_wd T n (sp_n T n p)))))) (by rfl) (by rfl) (fx_inN (i := 82 + (A.1.2.length)) (by omega) (by omega)) fm_sl2 ?_
          rw [show Int32.toNatClampNeg (nI (82 + (A.1.2.length))) = 82 + (A.1.2.length) from nI_clamp (by omega)]
          refine fe_s 1 (pc' := 107) (lc' := [(0, .ref 0), (1, .int 1), (2, .int 8), (3, .int 10)]) (stk' := [.ref 0]) (mem' := fm gc3 tp bt a (fm_uL b 2 (82 + (A.1.2.length)) (Int64.ofNat (sp_c8 (sp_wd T n (sp_n T n p)))))) (by intro _ _ _; eq_refl) ?_
          obtain ⟨gc7, hrc7, txc7, hmc7⟩ := mr_aheado (tp := tp) (bt := bt) (b := (fm_uL b 2 (82 + (A.1.2.length)) (Int64.ofNat (sp_c8 (sp_wd T n (sp_n T n p)))))) hT hmc3 (by omega)
          refine fe_ivV hrc7 (by omega) (by rfl) (by rfl) (by rfl) (by rfl) (by rfl) (by rfl) ?_
          refine fe_s 1 (pc' := 111) (lc' := [(0, .ref 0), (1, .int 1), (2, .int 8), (3, .int 10)]) (stk' := [.int 1]) (mem' := fm gc7 tp bt a (fm_uL b 2 (82 + (A.1.2.length)) (Int64.ofNat (sp_c8 (sp_wd T n (sp_n T n p)))))) (by intro _ _ _; eq_refl) ?_
          exact fe_ret ⟨_, _, _, _, ⟨(fm_tx8_tr (fm_tx8_tr fm_tx8_rf txc3) txc7), rfl, Or.inl ⟨by omega, nmc4, by omega, rfl, rfl, hmc7⟩⟩, rfl⟩ (by rfl) (by rfl) (by rfl)
        · refine fe_s 1 (pc' := 73) (lc' := [(0, .ref 0), (1, .int 1), (2, .int 8), (3, .int 10)]) (stk' := [.int (-1), .int (nI (sp_iW A.1.2 (sp_wd T n (sp_n T n p))))]) (mem' := fm gc3 tp bt a b) (by intro _ _ _; eq_refl) ?_
          refine fe_s 1 (pc' := cond (fx_cb .eq (nI (sp_iW A.1.2 (sp_wd T n (sp_n T n p)))) (-1)) 82 76) (lc' := [(0, .ref 0), (1, .int 1), (2, .int 8), (3, .int 10)]) (stk' := []) (mem' := fm gc3 tp bt a b) (by intro _ _ _; eq_refl) ?_
          rw [show (fx_cb .eq (nI (sp_iW A.1.2 (sp_wd T n (sp_n T n p)))) (-1)) = false from cb_n_eq (by omega) (by decide)]
          dsimp only [cond]
          refine fe_s 2 (pc' := 78) (lc' := [(0, .ref 0), (1, .int 1), (2, .int 8), (3, .int 10)]) (stk' := [.int 3, .ref 0]) (mem' := fm gc3 tp bt a b) (by intro _ _ _; eq_refl) ?_
          obtain ⟨gc8, hrc8, txc8, hmc8⟩ := mr_failsx (tp := tp) (bt := bt) (a := a) (b := b) (x := 3) hmc3 (by decide) (by omega)
          refine fe_ivV hrc8 (by omega) (by rfl) (by rfl) (by rfl) (by rfl) (by rfl) (by rfl) ?_
          exact fe_ret ⟨_, _, _, _, ⟨(fm_tx8_tr (fm_tx8_tr fm_tx8_rf txc3) txc8), rfl, Or.inr ⟨rfl, rfl, Or.inr (Or.inr ⟨by omega, nmc4, by omega, hmc8⟩)⟩⟩, rfl⟩ (by rfl) (by rfl) (by rfl)
      · refine fe_s 1 (pc' := 55) (lc' := [(0, .ref 0), (1, .int 1), (2, .int 8), (3, .int 10)]) (stk' := [.int (-1), .int (nI (sp_iC A.1.1 (sp_wd T n (sp_n T n p))))]) (mem' := fm gc3 tp bt a b) (by intro _ _ _; eq_refl) ?_
        refine fe_s 1 (pc' := cond (fx_cb .ne (nI (sp_iC A.1.1 (sp_wd T n (sp_n T n p)))) (-1)) 76 58) (lc' := [(0, .ref 0), (1, .int 1), (2, .int 8), (3, .int 10)]) (stk' := []) (mem' := fm gc3 tp bt a b) (by intro _ _ _; eq_refl) ?_
        rw [show (fx_cb .ne (nI (sp_iC A.1.1 (sp_wd T n (sp_n T n p)))) (-1)) = true from cb_n_ne (by omega) (by decide)]
        dsimp only [cond]
        refine fe_s 2 (pc' := 78) (lc' := [(0, .ref 0), (1, .int 1), (2, .int 8), (3, .int 10)]) (stk' := [.int 3, .ref 0]) (mem' := fm gc3 tp bt a b) (by intro _ _ _; eq_refl) ?_
        obtain ⟨gc9, hrc9, txc9, hmc9⟩ := mr_failsx (tp := tp) (bt := bt) (a := a) (b := b) (x := 3) hmc3 (by decide) (by omega)
        refine fe_ivV hrc9 (by omega) (by rfl) (by rfl) (by rfl) (by rfl) (by rfl) (by rfl) ?_
        exact fe_ret ⟨_, _, _, _, ⟨(fm_tx8_tr (fm_tx8_tr fm_tx8_rf txc3) txc9), rfl, Or.inr ⟨rfl, rfl, Or.inr (Or.inr ⟨by omega, nmc4, by omega, hmc9⟩)⟩⟩, rfl⟩ (by rfl) (by rfl) (by rfl)
    · refine fe_s 1 (pc' := cond (fx_cb .ne 0 0) 40 34) (lc' := [(0, .ref 0), (1, .int 1), (2, .int 8), (3, .int 10)]) (stk' := []) (mem' := fm gc3 tp bt a b) (by intro _ _ _; eq_refl) ?_
      rw [show (fx_cb .ne 0 0) = false from by decide]
      dsimp only [cond]
      refine fe_s 2 (pc' := 36) (lc' := [(0, .ref 0), (1, .int 1), (2, .int 8), (3, .int 10)]) (stk' := [.int 2, .ref 0]) (mem' := fm gc3 tp bt a b) (by intro _ _ _; eq_refl) ?_
      obtain ⟨gc10, hrc10, txc10, hmc10⟩ := mr_fails2 (tp := tp) (bt := bt) (a := a) (b := b) hmc3
      refine fe_ivV hrc10 (by omega) (by rfl) (by rfl) (by rfl) (by rfl) (by rfl) (by rfl) ?_
      exact fe_ret ⟨_, _, _, _, ⟨(fm_tx8_tr (fm_tx8_tr fm_tx8_rf txc3) txc10), rfl, Or.inr ⟨rfl, rfl, Or.inr (Or.inl ⟨by omega, nmc4, hmc10⟩)⟩⟩, rfl⟩ (by rfl) (by rfl) (by rfl)
theorem md_nm {a1 : Nat → Nat → Int32} {b1 : Nat → Nat → Int64} {t : Nat} {x : Int64} (h : md_L 3368 72 A a1 b1) (h1 : ∀ i, i < A.1.1.length → t ≠ 72 + i) (h2 : ∀ i, i < A.1.2.length → t ≠ 82 + i) : md_L 3368 72 A a1 (fm_uL b1 2 t x) := by
  obtain ⟨k1, ⟨k2, k3⟩, k4⟩ := h
  refine ⟨k1, ⟨sp_nM_un k2 (fun i hi => fm_vL2 (fun z => h1 i ?_ z.symm)), sp_nM_un k3 (fun i hi => fm_vL2 (fun z => h2 i ?_ z.symm))⟩, k4⟩
  · rw [List.length_map] at hi; exact hi
  · rw [List.length_map] at hi; exact hi
theorem md_addC {a1 : Nat → Nat → Int32} {b1 : Nat → Nat → Int64} {L : List Nat} {sh : Bool} (h : md_L 3368 72 A a1 b1) (hn : A.1.1.length < 10) (hf : a1 1 (3376 + 6 * A.1.1.length) = if sh = true then 1 else 0) (hb : b1 2 (72 + A.1.1.length) = Int64.ofNat (sp_c8 L)) (hL : sp_lo L ∧ L.length ≤ 8) : md_L 3368 72 (sp_addC A L sh) (fm_u a1 1 3368 (nI (A.1.1.length + 1))) b1 := by
  obtain ⟨⟨k1, k2, k3, k4⟩, ⟨k5, k6⟩, k7, k8, k9, k10⟩ := h
  have hl : (A.1.1 ++ [(L, sh)]).length = A.1.1.length + 1 := by rw [List.length_append]; rfl
  refine ⟨⟨?_, ?_, (fm_v1 (by decide)).trans k3, k4⟩, ⟨?_, k6⟩, fun c hc => ?_, fun i hi => (fm_v1 (by omega)).trans (k8 i hi), fun i hi => (fm_v1 (by omega)).trans (k9 i hi), fun i L w hi => ⟨(fm_v1 (by omega)).trans (k10 i L w hi).1, (k10 i L w hi).2⟩⟩
  · rw [fm_v1s]
    show _ = nI (A.1.1 ++ [(L, sh)]).length
    rw [hl]
  · show (A.1.1 ++ [(L, sh)]).length ≤ 10
    omega
  · show sp_nM (fun i => b1 2 (72 + i)) ((A.1.1 ++ [(L, sh)]).map Prod.fst)
    rw [List.map_append]
    refine sp_nM_add k5 (fun i hi => rfl) ?_ hL.1 hL.2
    show b1 2 (72 + (A.1.1.map Prod.fst).length) = _
    rw [List.length_map]
    exact hb
  · have hc : c < (A.1.1 ++ [(L, sh)]).length := hc
    rw [hl] at hc
    rw [sp_sh_add]
    refine (fm_v1 (by omega)).trans ?_
    by_cases e : c = A.1.1.length
    · rw [if_pos e, e]; exact hf
    · rw [if_neg e]; exact k7 c (by omega)
theorem md_addW {a1 : Nat → Nat → Int32} {b1 : Nat → Nat → Int64} {L : List Nat} {w : Nat} (h : md_L 3368 72 A a1 b1) (hn : A.1.2.length < 8) (hf : a1 1 (3646 + 5 * A.1.2.length) = nI w) (hw : 1 ≤ w ∧ w ≤ 99) (hb : b1 2 (82 + A.1.2.length) = Int64.ofNat (sp_c8 L)) (hL : sp_lo L ∧ L.length ≤ 8) : md_L 3368 72 (sp_addW A L w) (fm_u a1 1 3369 (nI (A.1.2.length + 1))) b1 := by
  obtain ⟨⟨k1, k2, k3, k4⟩, ⟨k5, k6⟩, k7, k8, k9, k10⟩ := h
  have hl : (A.1.2 ++ [(L, w)]).length = A.1.2.length + 1 := by rw [List.length_append]; rfl
  refine ⟨⟨(fm_v1 (by decide)).trans k1, k2, ?_, ?_⟩, ⟨k5, ?_⟩, fun c hc => (fm_v1 (by omega)).trans (k7 c hc), fun i hi => (fm_v1 (by omega)).trans (k8 i hi), fun i hi => (fm_v1 (by omega)).trans (k9 i hi), fun i M v hi => ?_⟩
  · rw [fm_v1s]
    show _ = nI (A.1.2 ++ [(L, w)]).length
    rw [hl]
  · show (A.1.2 ++ [(L, w)]).length ≤ 8
    omega
  · show sp_nM (fun i => b1 2 (72 + 10 + i)) ((A.1.2 ++ [(L, w)]).map Prod.fst)
    rw [List.map_append]
    refine sp_nM_add k6 (fun i hi => rfl) ?_ hL.1 hL.2
    show b1 2 (72 + 10 + (A.1.2.map Prod.fst).length) = _
    rw [List.length_map]
    exact hb
  · rw [fm_v1 (by omega)]
    rcases sp_W_get hi with ⟨j1, j2⟩ | ⟨j1, rfl⟩
    · exact k10 i M v j2
    · rw [j1]; exact ⟨hf, hw⟩
theorem md_way {a1 : Nat → Nat → Int32} {b1 : Nat → Nat → Int64} {i j : Nat} (hi : i < 10) (hj : j < 10) (h : md_L 3368 72 A a1 b1) : md_L 3368 72 (A.1, sp_pr A.2.1 i j, A.2.2) (fm_u (fm_u a1 1 (3376 + 6 * i + 2) (a1 1 (3376 + 6 * i + 2) ||| ((1 : Int32) <<< (nI j &&& 31)))) 1 (3376 + 6 * j + 2) ((fm_u a1 1 (3376 + 6 * i + 2) (a1 1 (3376 + 6 * i + 2) ||| ((1 : Int32) <<< (nI j &&& 31)))) 1 (3376 + 6 * j + 2) ||| ((1 : Int32) <<< (nI i &&& 31)))) b1 := by
  obtain ⟨⟨k1, k2, k3, k4⟩, k5, k7, k8, k9, k10⟩ := h
  have e1 : a1 1 (3376 + 6 * i + 2) = A.2.1 i := k8 i hi
  have e2 : ∀ k, k < 10 → (fm_u a1 1 (3376 + 6 * i + 2) (a1 1 (3376 + 6 * i + 2) ||| ((1 : Int32) <<< (nI j &&& 31)))) 1 (3376 + 6 * k + 2) = upd A.2.1 i (A.2.1 i ||| ((1 : Int32) <<< (nI j &&& 31))) k := fun k hk => by
    by_cases e : k = i
    · rw [e, fm_v1s, pk_us, e1]
    · rw [fm_v1 (by omega), pk_un e]; exact k8 k hk
  refine ⟨⟨(fm_v1 (by omega)).trans ((fm_v1 (by omega)).trans k1), k2, (fm_v1 (by omega)).trans ((fm_v1 (by omega)).trans k3), k4⟩, k5, fun c hc => (fm_v1 (by omega)).trans ((fm_v1 (by omega)).trans (k7 c hc)), fun k hk => ?_, fun k hk => (fm_v1 (by omega)).trans ((fm_v1 (by omega)).trans (k9 k hk)), fun k L w hk => ⟨(fm_v1 (by omega)).trans ((fm_v1 (by omega)).trans (k10 k L w hk).1), (k10 k L w hk).2⟩⟩
  show _ = sp_pr A.2.1 i j k
  unfold sp_pr
  rw [e2 j hj]
  by_cases e : k = j
  · rw [e, pk_us]
    exact fm_v1s
  · rw [pk_un e, ← e2 k hk]
    exact fm_v1 (by omega)
theorem md_bes {a1 : Nat → Nat → Int32} {b1 : Nat → Nat → Int64} {i j : Nat} (hi : i < 10) (hj : j < 10) (h : md_L 3368 72 A a1 b1) : md_L 3368 72 (A.1, A.2.1, sp_pr A.2.2 i j) (fm_u (fm_u a1 1 (3376 + 6 * i + 3) (a1 1 (3376 + 6 * i + 3) ||| ((1 : Int32) <<< (nI j &&& 31)))) 1 (3376 + 6 * j + 3) ((fm_u a1 1 (3376 + 6 * i + 3) (a1 1 (3376 + 6 * i + 3) ||| ((1 : Int32) <<< (nI j &&& 31)))) 1 (3376 + 6 * j + 3) ||| ((1 : Int32) <<< (nI i &&& 31)))) b1 := by
  obtain ⟨⟨k1, k2, k3, k4⟩, k5, k7, k8, k9, k10⟩ := h
  have e1 : a1 1 (3376 + 6 * i + 3) = A.2.2 i := k9 i hi
  have e2 : ∀ k, k < 10 → (fm_u a1 1 (3376 + 6 * i + 3) (a1 1 (3376 + 6 * i + 3) ||| ((1 : Int32) <<< (nI j &&& 31)))) 1 (3376 + 6 * k + 3) = upd A.2.2 i (A.2.2 i ||| ((1 : Int32) <<< (nI j &&& 31))) k := fun k hk => by
    by_cases e : k = i
    · rw [e, fm_v1s, pk_us, e1]
    · rw [fm_v1 (by omega), pk_un e]; exact k9 k hk
  refine ⟨⟨(fm_v1 (by omega)).trans ((fm_v1 (by omega)).trans k1), k2, (fm_v1 (by omega)).trans ((fm_v1 (by omega)).trans k3), k4⟩, k5, fun c hc => (fm_v1 (by omega)).trans ((fm_v1 (by omega)).trans (k7 c hc)), fun k hk => (fm_v1 (by omega)).trans ((fm_v1 (by omega)).trans (k8 k hk)), fun k hk => ?_, fun k L w hk => ⟨(fm_v1 (by omega)).trans ((fm_v1 (by omega)).trans (k10 k L w hk).1), (k10 k L w hk).2⟩⟩
  show _ = sp_pr A.2.2 i j k
  unfold sp_pr
  rw [e2 j hj]
  by_cases e : k = j
  · rw [e, pk_us]
    exact fm_v1s
  · rw [pk_un e, ← e2 k hk]
    exact fm_v1 (by omega)
theorem mst_b0 : ∀ s, s < 8 → ∀ k, k < 3 → s / 2 ^ k % 2 = 1 → (nI (32 * s) >>> (nI (5 + k) &&& 31)) &&& 1 = 1 := by decide +kernel
theorem mst_b1 : ∀ s, s < 8 → ∀ k, k < 3 → ¬ s / 2 ^ k % 2 = 1 → ¬ (nI (32 * s) >>> (nI (5 + k) &&& 31)) &&& 1 = 1 ∧ nI (32 * s) ||| ((1 : Int32) <<< (nI (5 + k) &&& 31)) = nI (32 * (s + 2 ^ k)) ∧ s + 2 ^ k < 8 := by decide +kernel
theorem mr_aCell0 (hT : mT a T n) (hA : md_L 3368 72 A a b) (h : mo g T n p) (hst : s < 8 ∧ g 20 = nI (32 * s)) (hk : sp_k T n p = 1) : ∃ (v : Int32) (g' : Nat → Int32) (a' : Nat → Nat → Int32) (b' : Nat → Nat → Int64), fr_T 8 239 [.ref 0, .int 0] (fm g tp bt a b) (some (.int v)) (fm g' tp bt a' b') ∧ fm_tx8 g g' ∧ mfa a a' ∧ mfb b b' ∧ mPart T n (sp_pCell T n A s p false) v g' a' b' := by
  suffices h : ∃ (v : Option Value) (mem' : fx_M), (fun R => ∃ (v : Int32) (g' : Nat → Int32) (a' : Nat → Nat → Int32) (b' : Nat → Nat → Int64), (fm_tx8 g g' ∧ mfa a a' ∧ mfb b b' ∧ mPart T n (sp_pCell T n A s p false) v g' a' b') ∧ R = (some (.int v), fm g' tp bt a' b')) (v, mem') ∧ fr_T 8 239 [.ref 0, .int 0] (fm g tp bt a b) v mem' by
    obtain ⟨v, mem', ⟨w, g', a', b', h1, hR⟩, h2⟩ := h
    cases hR
    exact ⟨w, g', a', b', h2, h1⟩
  refine fe_meth (f := 239) (as := [.ref 0, .int 0]) (F := fun R => ∃ (v : Int32) (g' : Nat → Int32) (a' : Nat → Nat → Int32) (b' : Nat → Nat → Int64), (fm_tx8 g g' ∧ mfa a a' ∧ mfb b b' ∧ mPart T n (sp_pCell T n A s p false) v g' a' b') ∧ R = (some (.int v), fm g' tp bt a' b')) (M := gk_m239) (by rfl) (by rfl) ?_
  have hq0 := hA.1.2.1
  have hq1 := hA.1.2.2.2
  refine fe_s 5 (pc' := 12) (lc' := [(0, .ref 0), (1, .int 0)]) (stk' := [.int 3368, .ref 1, .int 6, .int 3376]) (mem' := fm g tp bt a b) (by intro _ _ _; eq_refl) ?_
  refine fe_ldI (by rfl) (by rfl) (fx_inN (i := 3368) (by omega) (by omega)) ?_
  rw [show Int32.toNatClampNeg (3368) = 3368 from rfl]
  rw [show a 1 3368 = nI (A.1.1.length) from hA.1.1]
  refine fe_s 7 (pc' := 21) (lc' := [(2, .int (3376 + (6 * (nI (A.1.1.length))))), (0, .ref 0), (1, .int 0)]) (stk' := [.int 0, .int 10, .int 0, .ref 0]) (mem' := fm g tp bt a b) (by intro _ _ _; eq_refl) ?_
  rw [show (3376 + (6 * (nI (A.1.1.length))) : Int32) = nI (3376 + (6 * (A.1.1.length))) from by simp only [show (3376 : Int32) = nI 3376 from rfl, show (6 : Int32) = nI 6 from rfl, nI_add, fm_mul]]
  obtain ⟨xc1, gc1, ac1, bc1, hrc1, txc1, eac1, hxc1⟩ := mr_newC (tp := tp) (bt := bt) hT hA h hk
  rw [eac1] at hrc1
  refine fe_ivV hrc1 (by omega) (by rfl) (by rfl) (by rfl) (by rfl) (by rfl) (by rfl) ?_
  rcases hxc1 with ⟨hfc1, nmc1, htc1, rfl, ebc1, hmc1⟩ | ⟨ebc1, rfl, ⟨hfc1, hmc1⟩ | ⟨hfc1, nmc1, hmc1⟩ | ⟨hfc1, nmc1, htc1, hmc1⟩⟩
  · rw [ebc1]
    have hAc1 := md_nm (t := 72 + A.1.1.length) (x := Int64.ofNat (sp_c8 (sp_wd T n (sp_n T n p)))) hA (fun i hi => by omega) (fun i hi => by omega)
    refine fe_s 1 (pc' := cond (fx_cb .ne 1 0) 29 27) (lc' := [(2, .int (nI (3376 + (6 * (A.1.1.length))))), (0, .ref 0), (1, .int 0)]) (stk' := []) (mem' := fm gc1 tp bt a (fm_uL b 2 (72 + A.1.1.length) (Int64.ofNat (sp_c8 (sp_wd T n (sp_n T n p)))))) (by intro _ _ _; eq_refl) ?_
    rw [show (fx_cb .ne 1 0) = true from by decide]
    dsimp only [cond]
    refine fe_s 4 (pc' := 35) (lc' := [(2, .int (nI (3376 + (6 * (A.1.1.length))))), (0, .ref 0), (1, .int 0)]) (stk' := [.int 0, .int (nI (3376 + (6 * (A.1.1.length)))), .ref 1]) (mem' := fm gc1 tp bt a (fm_uL b 2 (72 + A.1.1.length) (Int64.ofNat (sp_c8 (sp_wd T n (sp_n T n p)))))) (by intro _ _ _; eq_refl) ?_
    refine fe_s 1 (pc' := cond (fx_cb .eq 0 0) 42 38) (lc' := [(2, .int (nI (3376 + (6 * (A.1.1.length))))), (0, .ref 0), (1, .int 0)]) (stk' := [.int (nI (3376 + (6 * (A.1.1.length)))), .ref 1]) (mem' := fm gc1 tp bt a (fm_uL b 2 (72 + A.1.1.length) (Int64.ofNat (sp_c8 (sp_wd T n (sp_n T n p)))))) (by intro _ _ _; eq_refl) ?_
    rw [show (fx_cb .eq 0 0) = true from by decide]
    dsimp only [cond]
    refine fe_s 1 (pc' := 43) (lc' := [(2, .int (nI (3376 + (6 * (A.1.1.length))))), (0, .ref 0), (1, .int 0)]) (stk' := [.int 0, .int (nI (3376 + (6 * (A.1.1.length)))), .ref 1]) (mem' := fm gc1 tp bt a (fm_uL b 2 (72 + A.1.1.length) (Int64.ofNat (sp_c8 (sp_wd T n (sp_n T n p)))))) (by intro _ _ _; eq_refl) ?_
    refine fe_stI (mem' := fm gc1 tp bt (fm_u a 1 (nI (3376 + (6 * (A.1.1.length))) : Int32).toNatClampNeg 0) (fm_uL b 2 (72 + A.1.1.length) (Int64.ofNat (sp_c8 (sp_wd T n (sp_n T n p)))))) (by rfl) (by rfl) (fx_inN (i := 3376 + (6 * (A.1.1.length))) (by omega) (by omega)) fm_si1 ?_
    rw [show Int32.toNatClampNeg (nI (3376 + (6 * (A.1.1.length)))) = 3376 + (6 * (A.1.1.length)) from nI_clamp (by omega)]
    have hTw2 := mT_u (t := 1) (i := 3376 + (6 * (A.1.1.length))) (x := 0) (by decide) hT
    have hAw2 := md_u (t := 3376 + (6 * (A.1.1.length))) (x := 0) hAc1 (by omega) (by omega) (fun c hc => by omega) (fun i hi => by omega) (fun i hi => by omega)
    refine fe_s 1 (pc' := 45) (lc' := [(2, .int (nI (3376 + (6 * (A.1.1.length))))), (0, .ref 0), (1, .int 0)]) (stk' := [.int 0]) (mem' := fm gc1 tp bt (fm_u a 1 (3376 + (6 * (A.1.1.length))) 0) (fm_uL b 2 (72 + A.1.1.length) (Int64.ofNat (sp_c8 (sp_wd T n (sp_n T n p)))))) (by intro _ _ _; eq_refl) ?_
    refine fe_s 1 (pc' := cond (fx_cb .ne 0 0) 75 48) (lc' := [(2, .int (nI (3376 + (6 * (A.1.1.length))))), (0, .ref 0), (1, .int 0)]) (stk' := []) (mem' := fm gc1 tp bt (fm_u a 1 (3376 + (6 * (A.1.1.length))) 0) (fm_uL b 2 (72 + A.1.1.length) (Int64.ofNat (sp_c8 (sp_wd T n (sp_n T n p)))))) (by intro _ _ _; eq_refl) ?_
    rw [show (fx_cb .ne 0 0) = false from by decide]
    dsimp only [cond]
    refine fe_s 3 (pc' := 53) (lc' := [(2, .int (nI (3376 + (6 * (A.1.1.length))))), (0, .ref 0), (1, .int 0)]) (stk' := [.int 8, .ref 22, .ref 0]) (mem' := fm gc1 tp bt (fm_u a 1 (3376 + (6 * (A.1.1.length))) 0) (fm_uL b 2 (72 + A.1.1.length) (Int64.ofNat (sp_c8 (sp_wd T n (sp_n T n p)))))) (by intro _ _ _; eq_refl) ?_
    obtain ⟨xc3, gc3, hrc3, txc3, hxc3⟩ := mr_wantWord (m := 8) (c := 1) (tp := tp) (bt := bt) (b := (fm_uL b 2 (72 + A.1.1.length) (Int64.ofNat (sp_c8 (sp_wd T n (sp_n T n p)))))) hTw2 (by decide) (by decide) (by decide) hmc1
    refine fe_ivV hrc3 (by omega) (by rfl) (by rfl) (by rfl) (by rfl) (by rfl) (by rfl) ?_
    rcases hxc3 with ⟨hwc3, rfl, hmc3⟩ | ⟨hwc3, rfl, hmc3⟩
    · refine fe_s 1 (pc' := cond (fx_cb .eq 1 0) 73 59) (lc' := [(2, .int (nI (3376 + (6 * (A.1.1.length))))), (0, .ref 0), (1, .int 0)]) (stk' := []) (mem' := fm gc3 tp bt (fm_u a 1 (3376 + (6 * (A.1.1.length))) 0) (fm_uL b 2 (72 + A.1.1.length) (Int64.ofNat (sp_c8 (sp_wd T n (sp_n T n p)))))) (by intro _ _ _; eq_refl) ?_
      rw [show (fx_cb .eq 1 0) = false from by decide]
      dsimp only [cond]
      refine fe_s 6 (pc' := 67) (lc' := [(2, .int (nI (3376 + (6 * (A.1.1.length))))), (0, .ref 0), (1, .int 0)]) (stk' := [.int 200, .int 0, .int ((nI (3376 + (6 * (A.1.1.length)))) + 1), .ref 0]) (mem' := fm gc3 tp bt (fm_u a 1 (3376 + (6 * (A.1.1.length))) 0) (fm_uL b 2 (72 + A.1.1.length) (Int64.ofNat (sp_c8 (sp_wd T n (sp_n T n p)))))) (by intro _ _ _; eq_refl) ?_
      rw [show ((nI (3376 + (6 * (A.1.1.length)))) + 1 : Int32) = nI ((3376 + (6 * (A.1.1.length))) + 1) from by simp only [show (1 : Int32) = nI 1 from rfl, nI_add, fm_mul]]
      obtain ⟨xc4, gc4, ac4, hrc4, txc4, hxc4⟩ := mr_number (t := (3376 + (6 * (A.1.1.length))) + 1) (lo := 0) (hi := 200) (tp := tp) (bt := bt) (b := (fm_uL b 2 (72 + A.1.1.length) (Int64.ofNat (sp_c8 (sp_wd T n (sp_n T n p)))))) hTw2 (by omega) (by decide) (by decide) hmc3
      refine fe_ivV hrc4 (by omega) (by rfl) (by rfl) (by rfl) (by rfl) (by rfl) (by rfl) ?_
      rcases hxc4 with ⟨hwc4, hvc4, rfl, eac4, hmc4⟩ | ⟨hwc4, hvc4, rfl, eac4, hmc4⟩ | ⟨hwc4, rfl, eac4, hmc4⟩
      · rw [eac4]
        have hTw5 := mT_u (t := 1) (i := (3376 + (6 * (A.1.1.length))) + 1) (x := nI (sp_v T n (sp_n T n (sp_n T n (sp_n T n p))))) (by decide) hTw2
        have hAw5 := md_u (t := (3376 + (6 * (A.1.1.length))) + 1) (x := nI (sp_v T n (sp_n T n (sp_n T n (sp_n T n p))))) hAw2 (by omega) (by omega) (fun c hc => by omega) (fun i hi => by omega) (fun i hi => by omega)
        refine fe_s 1 (pc' := cond (fx_cb .ne 1 0) 75 73) (lc' := [(2, .int (nI (3376 + (6 * (A.1.1.length))))), (0, .ref 0), (1, .int 0)]) (stk' := []) (mem' := fm gc4 tp bt (fm_u (fm_u a 1 (3376 + (6 * (A.1.1.length))) 0) 1 ((3376 + (6 * (A.1.1.length))) + 1) (nI (sp_v T n (sp_n T n (sp_n T n (sp_n T n p)))))) (fm_uL b 2 (72 + A.1.1.length) (Int64.ofNat (sp_c8 (sp_wd T n (sp_n T n p)))))) (by intro _ _ _; eq_refl) ?_
        rw [show (fx_cb .ne 1 0) = true from by decide]
        dsimp only [cond]
        refine fe_s 4 (pc' := 83) (lc' := [(2, .int (nI (3376 + (6 * (A.1.1.length))))), (0, .ref 0), (1, .int 0)]) (stk' := [.int 3368, .ref 1, .int 3368, .ref 1]) (mem' := fm gc4 tp bt (fm_u (fm_u a 1 (3376 + (6 * (A.1.1.length))) 0) 1 ((3376 + (6 * (A.1.1.length))) + 1) (nI (sp_v T n (sp_n T n (sp_n T n (sp_n T n p)))))) (fm_uL b 2 (72 + A.1.1.length) (Int64.ofNat (sp_c8 (sp_wd T n (sp_n T n p)))))) (by intro _ _ _; eq_refl) ?_
        refine fe_ldI (by rfl) (by rfl) (fx_inN (i := 3368) (by omega) (by omega)) ?_
        rw [show Int32.toNatClampNeg (3368) = 3368 from rfl]
        rw [show (fm_u (fm_u a 1 (3376 + (6 * (A.1.1.length))) 0) 1 ((3376 + (6 * (A.1.1.length))) + 1) (nI (sp_v T n (sp_n T n (sp_n T n (sp_n T n p)))))) 1 3368 = nI (A.1.1.length) from hAw5.1.1]
        refine fe_s 2 (pc' := 86) (lc' := [(2, .int (nI (3376 + (6 * (A.1.1.length))))), (0, .ref 0), (1, .int 0)]) (stk' := [.int ((nI (A.1.1.length)) + 1), .int 3368, .ref 1]) (mem' := fm gc4 tp bt (fm_u (fm_u a 1 (3376 + (6 * (A.1.1.length))) 0) 1 ((3376 + (6 * (A.1.1.length))) + 1) (nI (sp_v T n (sp_n T n (sp_n T n (sp_n T n p)))))) (fm_uL b 2 (72 + A.1.1.length) (Int64.ofNat (sp_c8 (sp_wd T n (sp_n T n p)))))) (by intro _ _ _; eq_refl) ?_
        rw [show ((nI (A.1.1.length)) + 1 : Int32) = nI ((A.1.1.length) + 1) from by simp only [show (1 : Int32) = nI 1 from rfl, nI_add, fm_mul]]
        refine fe_stI (mem' := fm gc4 tp bt (fm_u (fm_u (fm_u a 1 (3376 + (6 * (A.1.1.length))) 0) 1 ((3376 + (6 * (A.1.1.length))) + 1) (nI (sp_v T n (sp_n T n (sp_n T n (sp_n T n p)))))) 1 (3368 : Int32).toNatClampNeg (nI ((A.1.1.length) + 1))) (fm_uL b 2 (72 + A.1.1.length) (Int64.ofNat (sp_c8 (sp_wd T n (sp_n T n p)))))) (by rfl) (by rfl) (fx_inN (i := 3368) (by omega) (by omega)) fm_si1 ?_
        rw [show Int32.toNatClampNeg (3368) = 3368 from rfl]
        have hTw6 := mT_u (t := 1) (i := 3368) (x := nI ((A.1.1.length) + 1)) (by decide) hTw5
        refine fe_s 1 (pc' := 88) (lc' := [(2, .int (nI (3376 + (6 * (A.1.1.length))))), (0, .ref 0), (1, .int 0)]) (stk' := [.int 1]) (mem' := fm gc4 tp bt (fm_u (fm_u (fm_u a 1 (3376 + (6 * (A.1.1.length))) 0) 1 ((3376 + (6 * (A.1.1.length))) + 1) (nI (sp_v T n (sp_n T n (sp_n T n (sp_n T n p)))))) 1 3368 (nI ((A.1.1.length) + 1))) (fm_uL b 2 (72 + A.1.1.length) (Int64.ofNat (sp_c8 (sp_wd T n (sp_n T n p)))))) (by intro _ _ _; eq_refl) ?_
        refine fe_ret ⟨1, _, _, _, ⟨(fm_tx8_tr (fm_tx8_tr (fm_tx8_tr fm_tx8_rf txc1) txc3) txc4), (mfa_u (mfa_u (mfa_u mfa_rf (by omega)) (by omega)) (by omega)), (mfb_u mfb_rf (by omega)), Or.inl ⟨rfl, sp_addC A (sp_wd T n (sp_n T n p)) false, s, (sp_n T n (sp_n T n (sp_n T n (sp_n T n p)))), ?_, hmc4, ?_, hst.1, (((fm_tx8_tr (fm_tx8_tr (fm_tx8_tr fm_tx8_rf txc1) txc3) txc4) 20 (by decide) (by decide) (by decide) (by decide) (by decide) (by decide)).trans hst.2)⟩⟩, rfl⟩ (by rfl) (by rfl) (by rfl)
        · unfold sp_pCell
          rw [if_neg (by omega), sp_new_t nmc1 htc1, if_neg (by decide), sp_word_t hwc3, sp_num_t hwc4 hvc4]
        · refine md_addC (sh := false) hAw5 (by omega) ?_ fm_vL2s (sp_nm_lt (sp_n_le h.1) nmc1)
          rw [fm_v1 (by omega)]; exact fm_v1s
      · rw [eac4]
        refine fe_s 1 (pc' := cond (fx_cb .ne 0 0) 75 73) (lc' := [(2, .int (nI (3376 + (6 * (A.1.1.length))))), (0, .ref 0), (1, .int 0)]) (stk' := []) (mem' := fm gc4 tp bt (fm_u a 1 (3376 + (6 * (A.1.1.length))) 0) (fm_uL b 2 (72 + A.1.1.length) (Int64.ofNat (sp_c8 (sp_wd T n (sp_n T n p)))))) (by intro _ _ _; eq_refl) ?_
        rw [show (fx_cb .ne 0 0) = false from by decide]
        dsimp only [cond]
        refine fe_s 1 (pc' := 74) (lc' := [(2, .int (nI (3376 + (6 * (A.1.1.length))))), (0, .ref 0), (1, .int 0)]) (stk' := [.int 0]) (mem' := fm gc4 tp bt (fm_u a 1 (3376 + (6 * (A.1.1.length))) 0) (fm_uL b 2 (72 + A.1.1.length) (Int64.ofNat (sp_c8 (sp_wd T n (sp_n T n p)))))) (by intro _ _ _; eq_refl) ?_
        refine fe_ret ⟨0, _, _, _, ⟨(fm_tx8_tr (fm_tx8_tr (fm_tx8_tr fm_tx8_rf txc1) txc3) txc4), (mfa_u mfa_rf (by omega)), (mfb_u mfb_rf (by omega)), Or.inr ⟨rfl, (4, sp_s T n (sp_n T n (sp_n T n (sp_n T n p)))), ?_, hmc4⟩⟩, rfl⟩ (by rfl) (by rfl) (by rfl)
        unfold sp_pCell
        rw [if_neg (by omega), sp_new_t nmc1 htc1, if_neg (by decide), sp_word_t hwc3, sp_num_4 hwc4 hvc4]
      · rw [eac4]
        refine fe_s 1 (pc' := cond (fx_cb .ne 0 0) 75 73) (lc' := [(2, .int (nI (3376 + (6 * (A.1.1.length))))), (0, .ref 0), (1, .int 0)]) (stk' := []) (mem' := fm gc4 tp bt (fm_u a 1 (3376 + (6 * (A.1.1.length))) 0) (fm_uL b 2 (72 + A.1.1.length) (Int64.ofNat (sp_c8 (sp_wd T n (sp_n T n p)))))) (by intro _ _ _; eq_refl) ?_
        rw [show (fx_cb .ne 0 0) = false from by decide]
        dsimp only [cond]
        refine fe_s 1 (pc' := 74) (lc' := [(2, .int (nI (3376 + (6 * (A.1.1.length))))), (0, .ref 0), (1, .int 0)]) (stk' := [.int 0]) (mem' := fm gc4 tp bt (fm_u a 1 (3376 + (6 * (A.1.1.length))) 0) (fm_uL b 2 (72 + A.1.1.length) (Int64.ofNat (sp_c8 (sp_wd T n (sp_n T n p)))))) (by intro _ _ _; eq_refl) ?_
        refine fe_ret ⟨0, _, _, _, ⟨(fm_tx8_tr (fm_tx8_tr (fm_tx8_tr fm_tx8_rf txc1) txc3) txc4), (mfa_u mfa_rf (by omega)), (mfb_u mfb_rf (by omega)), Or.inr ⟨rfl, (sp_m T n (sp_n T n (sp_n T n (sp_n T n p))), sp_s T n (sp_n T n (sp_n T n (sp_n T n p)))), ?_, hmc4⟩⟩, rfl⟩ (by rfl) (by rfl) (by rfl)
        unfold sp_pCell
        rw [if_neg (by omega), sp_new_t nmc1 htc1, if_neg (by decide), sp_word_t hwc3, sp_num_f hwc4]
    · refine fe_s 1 (pc' := cond (fx_cb .eq 0 0) 73 59) (lc' := [(2, .int (nI (3376 + (6 * (A.1.1.length))))), (0, .ref 0), (1, .int 0)]) (stk' := []) (mem' := fm gc3 tp bt (fm_u a 1 (3376 + (6 * (A.1.1.length))) 0) (fm_uL b 2 (72 + A.1.1.length) (Int64.ofNat (sp_c8 (sp_wd T n (sp_n T n p)))))) (by intro _ _ _; eq_refl) ?_
      rw [show (fx_cb .eq 0 0) = true from by decide]
      dsimp only [cond]
      refine fe_s 1 (pc' := 74) (lc' := [(2, .int (nI (3376 + (6 * (A.1.1.length))))), (0, .ref 0), (1, .int 0)]) (stk' := [.int 0]) (mem' := fm gc3 tp bt (fm_u a 1 (3376 + (6 * (A.1.1.length))) 0) (fm_uL b 2 (72 + A.1.1.length) (Int64.ofNat (sp_c8 (sp_wd T n (sp_n T n p)))))) (by intro _ _ _; eq_refl) ?_
      refine fe_ret ⟨0, _, _, _, ⟨(fm_tx8_tr (fm_tx8_tr fm_tx8_rf txc1) txc3), (mfa_u mfa_rf (by omega)), (mfb_u mfb_rf (by omega)), Or.inr ⟨rfl, (sp_m T n (sp_n T n (sp_n T n p)), sp_s T n (sp_n T n (sp_n T n p))), ?_, hmc3⟩⟩, rfl⟩ (by rfl) (by rfl) (by rfl)
      unfold sp_pCell
      rw [if_neg (by omega), sp_new_t nmc1 htc1, if_neg (by decide), sp_word_f hwc3]
  · rw [ebc1]
    refine fe_s 1 (pc' := cond (fx_cb .ne 0 0) 29 27) (lc' := [(2, .int (nI (3376 + (6 * (A.1.1.length))))), (0, .ref 0), (1, .int 0)]) (stk' := []) (mem' := fm gc1 tp bt a b) (by intro _ _ _; eq_refl) ?_
    rw [show (fx_cb .ne 0 0) = false from by decide]
    dsimp only [cond]
    refine fe_s 1 (pc' := 28) (lc' := [(2, .int (nI (3376 + (6 * (A.1.1.length))))), (0, .ref 0), (1, .int 0)]) (stk' := [.int 0]) (mem' := fm gc1 tp bt a b) (by intro _ _ _; eq_refl) ?_
    refine fe_ret ⟨0, _, _, _, ⟨(fm_tx8_tr fm_tx8_rf txc1), mfa_rf, mfb_rf, Or.inr ⟨rfl, (6, sp_s T n p), ?_, hmc1⟩⟩, rfl⟩ (by rfl) (by rfl) (by rfl)
    unfold sp_pCell
    rw [if_pos (by omega)]
    try rfl
  · rw [ebc1]
    refine fe_s 1 (pc' := cond (fx_cb .ne 0 0) 29 27) (lc' := [(2, .int (nI (3376 + (6 * (A.1.1.length))))), (0, .ref 0), (1, .int 0)]) (stk' := []) (mem' := fm gc1 tp bt a b) (by intro _ _ _; eq_refl) ?_
    rw [show (fx_cb .ne 0 0) = false from by decide]
    dsimp only [cond]
    refine fe_s 1 (pc' := 28) (lc' := [(2, .int (nI (3376 + (6 * (A.1.1.length))))), (0, .ref 0), (1, .int 0)]) (stk' := [.int 0]) (mem' := fm gc1 tp bt a b) (by intro _ _ _; eq_refl) ?_
    refine fe_ret ⟨0, _, _, _, ⟨(fm_tx8_tr fm_tx8_rf txc1), mfa_rf, mfb_rf, Or.inr ⟨rfl, (sp_m T n (sp_n T n p), sp_s T n (sp_n T n p)), ?_, hmc1⟩⟩, rfl⟩ (by rfl) (by rfl) (by rfl)
    unfold sp_pCell
    rw [if_neg (by omega), sp_new_f nmc1]
  · rw [ebc1]
    refine fe_s 1 (pc' := cond (fx_cb .ne 0 0) 29 27) (lc' := [(2, .int (nI (3376 + (6 * (A.1.1.length))))), (0, .ref 0), (1, .int 0)]) (stk' := []) (mem' := fm gc1 tp bt a b) (by intro _ _ _; eq_refl) ?_
    rw [show (fx_cb .ne 0 0) = false from by decide]
    dsimp only [cond]
    refine fe_s 1 (pc' := 28) (lc' := [(2, .int (nI (3376 + (6 * (A.1.1.length))))), (0, .ref 0), (1, .int 0)]) (stk' := [.int 0]) (mem' := fm gc1 tp bt a b) (by intro _ _ _; eq_refl) ?_
    refine fe_ret ⟨0, _, _, _, ⟨(fm_tx8_tr fm_tx8_rf txc1), mfa_rf, mfb_rf, Or.inr ⟨rfl, (3, sp_s T n (sp_n T n p)), ?_, hmc1⟩⟩, rfl⟩ (by rfl) (by rfl) (by rfl)
    unfold sp_pCell
    rw [if_neg (by omega), sp_new_3 nmc1 htc1]
theorem mr_aCell1 (hT : mT a T n) (hA : md_L 3368 72 A a b) (h : mo g T n p) (hst : s < 8 ∧ g 20 = nI (32 * s)) (hk : sp_k T n p = 1) : ∃ (v : Int32) (g' : Nat → Int32) (a' : Nat → Nat → Int32) (b' : Nat → Nat → Int64), fr_T 8 239 [.ref 0, .int 1] (fm g tp bt a b) (some (.int v)) (fm g' tp bt a' b') ∧ fm_tx8 g g' ∧ mfa a a' ∧ mfb b b' ∧ mPart T n (sp_pCell T n A s p true) v g' a' b' := by
  suffices h : ∃ (v : Option Value) (mem' : fx_M), (fun R => ∃ (v : Int32) (g' : Nat → Int32) (a' : Nat → Nat → Int32) (b' : Nat → Nat → Int64), (fm_tx8 g g' ∧ mfa a a' ∧ mfb b b' ∧ mPart T n (sp_pCell T n A s p true) v g' a' b') ∧ R = (some (.int v), fm g' tp bt a' b')) (v, mem') ∧ fr_T 8 239 [.ref 0, .int 1] (fm g tp bt a b) v mem' by
    obtain ⟨v, mem', ⟨w, g', a', b', h1, hR⟩, h2⟩ := h
    cases hR
    exact ⟨w, g', a', b', h2, h1⟩
  refine fe_meth (f := 239) (as := [.ref 0, .int 1]) (F := fun R => ∃ (v : Int32) (g' : Nat → Int32) (a' : Nat → Nat → Int32) (b' : Nat → Nat → Int64), (fm_tx8 g g' ∧ mfa a a' ∧ mfb b b' ∧ mPart T n (sp_pCell T n A s p true) v g' a' b') ∧ R = (some (.int v), fm g' tp bt a' b')) (M := gk_m239) (by rfl) (by rfl) ?_
  have hq0 := hA.1.2.1
  have hq1 := hA.1.2.2.2
  refine fe_s 5 (pc' := 12) (lc' := [(0, .ref 0), (1, .int 1)]) (stk' := [.int 3368, .ref 1, .int 6, .int 3376]) (mem' := fm g tp bt a b) (by intro _ _ _; eq_refl) ?_
  refine fe_ldI (by rfl) (by rfl) (fx_inN (i := 3368) (by omega) (by omega)) ?_
  rw [show Int32.toNatClampNeg (3368) = 3368 from rfl]
  rw [show a 1 3368 = nI (A.1.1.length) from hA.1.1]
  refine fe_s 7 (pc' := 21) (lc' := [(2, .int (3376 + (6 * (nI (A.1.1.length))))), (0, .ref 0), (1, .int 1)]) (stk' := [.int 0, .int 10, .int 0, .ref 0]) (mem' := fm g tp bt a b) (by intro _ _ _; eq_refl) ?_
  rw [show (3376 + (6 * (nI (A.1.1.length))) : Int32) = nI (3376 + (6 * (A.1.1.length))) from by simp only [show (3376 : Int32) = nI 3376 from rfl, show (6 : Int32) = nI 6 from rfl, nI_add, fm_mul]]
  obtain ⟨xc1, gc1, ac1, bc1, hrc1, txc1, eac1, hxc1⟩ := mr_newC (tp := tp) (bt := bt) hT hA h hk
  rw [eac1] at hrc1
  refine fe_ivV hrc1 (by omega) (by rfl) (by rfl) (by rfl) (by rfl) (by rfl) (by rfl) ?_
  rcases hxc1 with ⟨hfc1, nmc1, htc1, rfl, ebc1, hmc1⟩ | ⟨ebc1, rfl, ⟨hfc1, hmc1⟩ | ⟨hfc1, nmc1, hmc1⟩ | ⟨hfc1, nmc1, htc1, hmc1⟩⟩
  · rw [ebc1]
    have hAc1 := md_nm (t := 72 + A.1.1.length) (x := Int64.ofNat (sp_c8 (sp_wd T n (sp_n T n p)))) hA (fun i hi => by omega) (fun i hi => by omega)
    refine fe_s 1 (pc' := cond (fx_cb .ne 1 0) 29 27) (lc' := [(2, .int (nI (3376 + (6 * (A.1.1.length))))), (0, .ref 0), (1, .int 1)]) (stk' := []) (mem' := fm gc1 tp bt a (fm_uL b 2 (72 + A.1.1.length) (Int64.ofNat (sp_c8 (sp_wd T n (sp_n T n p)))))) (by intro _ _ _; eq_refl) ?_
    rw [show (fx_cb .ne 1 0) = true from by decide]
    dsimp only [cond]
    refine fe_s 4 (pc' := 35) (lc' := [(2, .int (nI (3376 + (6 * (A.1.1.length))))), (0, .ref 0), (1, .int 1)]) (stk' := [.int 1, .int (nI (3376 + (6 * (A.1.1.length)))), .ref 1]) (mem' := fm gc1 tp bt a (fm_uL b 2 (72 + A.1.1.length) (Int64.ofNat (sp_c8 (sp_wd T n (sp_n T n p)))))) (by intro _ _ _; eq_refl) ?_
    refine fe_s 1 (pc' := cond (fx_cb .eq 1 0) 42 38) (lc' := [(2, .int (nI (3376 + (6 * (A.1.1.length))))), (0, .ref 0), (1, .int 1)]) (stk' := [.int (nI (3376 + (6 * (A.1.1.length)))), .ref 1]) (mem' := fm gc1 tp bt a (fm_uL b 2 (72 + A.1.1.length) (Int64.ofNat (sp_c8 (sp_wd T n (sp_n T n p)))))) (by intro _ _ _; eq_refl) ?_
    rw [show (fx_cb .eq 1 0) = false from by decide]
    dsimp only [cond]
    refine fe_s 2 (pc' := 43) (lc' := [(2, .int (nI (3376 + (6 * (A.1.1.length))))), (0, .ref 0), (1, .int 1)]) (stk' := [.int 1, .int (nI (3376 + (6 * (A.1.1.length)))), .ref 1]) (mem' := fm gc1 tp bt a (fm_uL b 2 (72 + A.1.1.length) (Int64.ofNat (sp_c8 (sp_wd T n (sp_n T n p)))))) (by intro _ _ _; eq_refl) ?_
    refine fe_stI (mem' := fm gc1 tp bt (fm_u a 1 (nI (3376 + (6 * (A.1.1.length))) : Int32).toNatClampNeg 1) (fm_uL b 2 (72 + A.1.1.length) (Int64.ofNat (sp_c8 (sp_wd T n (sp_n T n p)))))) (by rfl) (by rfl) (fx_inN (i := 3376 + (6 * (A.1.1.length))) (by omega) (by omega)) fm_si1 ?_
    rw [show Int32.toNatClampNeg (nI (3376 + (6 * (A.1.1.length)))) = 3376 + (6 * (A.1.1.length)) from nI_clamp (by omega)]
    have hTw2 := mT_u (t := 1) (i := 3376 + (6 * (A.1.1.length))) (x := 1) (by decide) hT
    have hAw2 := md_u (t := 3376 + (6 * (A.1.1.length))) (x := 1) hAc1 (by omega) (by omega) (fun c hc => by omega) (fun i hi => by omega) (fun i hi => by omega)
    refine fe_s 1 (pc' := 45) (lc' := [(2, .int (nI (3376 + (6 * (A.1.1.length))))), (0, .ref 0), (1, .int 1)]) (stk' := [.int 1]) (mem' := fm gc1 tp bt (fm_u a 1 (3376 + (6 * (A.1.1.length))) 1) (fm_uL b 2 (72 + A.1.1.length) (Int64.ofNat (sp_c8 (sp_wd T n (sp_n T n p)))))) (by intro _ _ _; eq_refl) ?_
    refine fe_s 1 (pc' := cond (fx_cb .ne 1 0) 75 48) (lc' := [(2, .int (nI (3376 + (6 * (A.1.1.length))))), (0, .ref 0), (1, .int 1)]) (stk' := []) (mem' := fm gc1 tp bt (fm_u a 1 (3376 + (6 * (A.1.1.length))) 1) (fm_uL b 2 (72 + A.1.1.length) (Int64.ofNat (sp_c8 (sp_wd T n (sp_n T n p)))))) (by intro _ _ _; eq_refl) ?_
    rw [show (fx_cb .ne 1 0) = true from by decide]
    dsimp only [cond]
    refine fe_s 4 (pc' := 83) (lc' := [(2, .int (nI (3376 + (6 * (A.1.1.length))))), (0, .ref 0), (1, .int 1)]) (stk' := [.int 3368, .ref 1, .int 3368, .ref 1]) (mem' := fm gc1 tp bt (fm_u a 1 (3376 + (6 * (A.1.1.length))) 1) (fm_uL b 2 (72 + A.1.1.length) (Int64.ofNat (sp_c8 (sp_wd T n (sp_n T n p)))))) (by intro _ _ _; eq_refl) ?_
    refine fe_ldI (by rfl) (by rfl) (fx_inN (i := 3368) (by omega) (by omega)) ?_
    rw [show Int32.toNatClampNeg (3368) = 3368 from rfl]
    rw [show (fm_u a 1 (3376 + (6 * (A.1.1.length))) 1) 1 3368 = nI (A.1.1.length) from hAw2.1.1]
    refine fe_s 2 (pc' := 86) (lc' := [(2, .int (nI (3376 + (6 * (A.1.1.length))))), (0, .ref 0), (1, .int 1)]) (stk' := [.int ((nI (A.1.1.length)) + 1), .int 3368, .ref 1]) (mem' := fm gc1 tp bt (fm_u a 1 (3376 + (6 * (A.1.1.length))) 1) (fm_uL b 2 (72 + A.1.1.length) (Int64.ofNat (sp_c8 (sp_wd T n (sp_n T n p)))))) (by intro _ _ _; eq_refl) ?_
    rw [show ((nI (A.1.1.length)) + 1 : Int32) = nI ((A.1.1.length) + 1) from by simp only [show (1 : Int32) = nI 1 from rfl, nI_add, fm_mul]]
    refine fe_stI (mem' := fm gc1 tp bt (fm_u (fm_u a 1 (3376 + (6 * (A.1.1.length))) 1) 1 (3368 : Int32).toNatClampNeg (nI ((A.1.1.length) + 1))) (fm_uL b 2 (72 + A.1.1.length) (Int64.ofNat (sp_c8 (sp_wd T n (sp_n T n p)))))) (by rfl) (by rfl) (fx_inN (i := 3368) (by omega) (by omega)) fm_si1 ?_
    rw [show Int32.toNatClampNeg (3368) = 3368 from rfl]
    have hTw3 := mT_u (t := 1) (i := 3368) (x := nI ((A.1.1.length) + 1)) (by decide) hTw2
    refine fe_s 1 (pc' := 88) (lc' := [(2, .int (nI (3376 + (6 * (A.1.1.length))))), (0, .ref 0), (1, .int 1)]) (stk' := [.int 1]) (mem' := fm gc1 tp bt (fm_u (fm_u a 1 (3376 + (6 * (A.1.1.length))) 1) 1 3368 (nI ((A.1.1.length) + 1))) (fm_uL b 2 (72 + A.1.1.length) (Int64.ofNat (sp_c8 (sp_wd T n (sp_n T n p)))))) (by intro _ _ _; eq_refl) ?_
    refine fe_ret ⟨1, _, _, _, ⟨(fm_tx8_tr fm_tx8_rf txc1), (mfa_u (mfa_u mfa_rf (by omega)) (by omega)), (mfb_u mfb_rf (by omega)), Or.inl ⟨rfl, sp_addC A (sp_wd T n (sp_n T n p)) true, s, (sp_n T n (sp_n T n p)), ?_, hmc1, ?_, hst.1, (((fm_tx8_tr fm_tx8_rf txc1) 20 (by decide) (by decide) (by decide) (by decide) (by decide) (by decide)).trans hst.2)⟩⟩, rfl⟩ (by rfl) (by rfl) (by rfl)
    · unfold sp_pCell
      rw [if_neg (by omega), sp_new_t nmc1 htc1, if_pos rfl]
    · refine md_addC (sh := true) hAw2 (by omega) ?_ fm_vL2s (sp_nm_lt (sp_n_le h.1) nmc1)
      exact fm_v1s
  · rw [ebc1]
    refine fe_s 1 (pc' := cond (fx_cb .ne 0 0) 29 27) (lc' := [(2, .int (nI (3376 + (6 * (A.1.1.length))))), (0, .ref 0), (1, .int 1)]) (stk' := []) (mem' := fm gc1 tp bt a b) (by intro _ _ _; eq_refl) ?_
    rw [show (fx_cb .ne 0 0) = false from by decide]
    dsimp only [cond]
    refine fe_s 1 (pc' := 28) (lc' := [(2, .int (nI (3376 + (6 * (A.1.1.length))))), (0, .ref 0), (1, .int 1)]) (stk' := [.int 0]) (mem' := fm gc1 tp bt a b) (by intro _ _ _; eq_refl) ?_
    refine fe_ret ⟨0, _, _, _, ⟨(fm_tx8_tr fm_tx8_rf txc1), mfa_rf, mfb_rf, Or.inr ⟨rfl, (6, sp_s T n p), ?_, hmc1⟩⟩, rfl⟩ (by rfl) (by rfl) (by rfl)
    unfold sp_pCell
    rw [if_pos (by omega)]
    try rfl
  · rw [ebc1]
    refine fe_s 1 (pc' := cond (fx_cb .ne 0 0) 29 27) (lc' := [(2, .int (nI (3376 + (6 * (A.1.1.length))))), (0, .ref 0), (1, .int 1)]) (stk' := []) (mem' := fm gc1 tp bt a b) (by intro _ _ _; eq_refl) ?_
    rw [show (fx_cb .ne 0 0) = false from by decide]
    dsimp only [cond]
    refine fe_s 1 (pc' := 28) (lc' := [(2, .int (nI (3376 + (6 * (A.1.1.length))))), (0, .ref 0), (1, .int 1)]) (stk' := [.int 0]) (mem' := fm gc1 tp bt a b) (by intro _ _ _; eq_refl) ?_
    refine fe_ret ⟨0, _, _, _, ⟨(fm_tx8_tr fm_tx8_rf txc1), mfa_rf, mfb_rf, Or.inr ⟨rfl, (sp_m T n (sp_n T n p), sp_s T n (sp_n T n p)), ?_, hmc1⟩⟩, rfl⟩ (by rfl) (by rfl) (by rfl)
    unfold sp_pCell
    rw [if_neg (by omega), sp_new_f nmc1]
  · rw [ebc1]
    refine fe_s 1 (pc' := cond (fx_cb .ne 0 0) 29 27) (lc' := [(2, .int (nI (3376 + (6 * (A.1.1.length))))), (0, .ref 0), (1, .int 1)]) (stk' := []) (mem' := fm gc1 tp bt a b) (by intro _ _ _; eq_refl) ?_
    rw [show (fx_cb .ne 0 0) = false from by decide]
    dsimp only [cond]
    refine fe_s 1 (pc' := 28) (lc' := [(2, .int (nI (3376 + (6 * (A.1.1.length))))), (0, .ref 0), (1, .int 1)]) (stk' := [.int 0]) (mem' := fm gc1 tp bt a b) (by intro _ _ _; eq_refl) ?_
    refine fe_ret ⟨0, _, _, _, ⟨(fm_tx8_tr fm_tx8_rf txc1), mfa_rf, mfb_rf, Or.inr ⟨rfl, (3, sp_s T n (sp_n T n p)), ?_, hmc1⟩⟩, rfl⟩ (by rfl) (by rfl) (by rfl)
    unfold sp_pCell
    rw [if_neg (by omega), sp_new_3 nmc1 htc1]
theorem mr_aCouple2 (hT : mT a T n) (hA : md_L 3368 72 A a b) (h : mo g T n p) (hst : s < 8 ∧ g 20 = nI (32 * s)) (hk : sp_k T n p = 1) : ∃ (v : Int32) (g' : Nat → Int32) (a' : Nat → Nat → Int32) (b' : Nat → Nat → Int64), fr_T 8 242 [.ref 0, .int 2] (fm g tp bt a b) (some (.int v)) (fm g' tp bt a' b') ∧ fm_tx8 g g' ∧ mfa a a' ∧ mfb b b' ∧ mPart T n (sp_pPair T n A s p false) v g' a' b' := by
  suffices h : ∃ (v : Option Value) (mem' : fx_M), (fun R => ∃ (v : Int32) (g' : Nat → Int32) (a' : Nat → Nat → Int32) (b' : Nat → Nat → Int64), (fm_tx8 g g' ∧ mfa a a' ∧ mfb b b' ∧ mPart T n (sp_pPair T n A s p false) v g' a' b') ∧ R = (some (.int v), fm g' tp bt a' b')) (v, mem') ∧ fr_T 8 242 [.ref 0, .int 2] (fm g tp bt a b) v mem' by
    obtain ⟨v, mem', ⟨w, g', a', b', h1, hR⟩, h2⟩ := h
    cases hR
    exact ⟨w, g', a', b', h2, h1⟩
  refine fe_meth (f := 242) (as := [.ref 0, .int 2]) (F := fun R => ∃ (v : Int32) (g' : Nat → Int32) (a' : Nat → Nat → Int32) (b' : Nat → Nat → Int64), (fm_tx8 g g' ∧ mfa a a' ∧ mfb b b' ∧ mPart T n (sp_pPair T n A s p false) v g' a' b') ∧ R = (some (.int v), fm g' tp bt a' b')) (M := gk_m242) (by rfl) (by rfl) ?_
  have hq0 := hA.1.2.1
  have hq1 := hA.1.2.2.2
  refine fe_s 3 (pc' := 5) (lc' := [(2, .int 4206), (0, .ref 0), (1, .int 2)]) (stk' := [.ref 0]) (mem' := fm g tp bt a b) (by intro _ _ _; eq_refl) ?_
  obtain ⟨gc1, hrc1, txc1, hmc1⟩ := mr_aheado (tp := tp) (bt := bt) (b := b) hT h (by omega)
  refine fe_ivV hrc1 (by omega) (by rfl) (by rfl) (by rfl) (by rfl) (by rfl) (by rfl) ?_
  refine fe_s 1 (pc' := 9) (lc' := [(2, .int 4206), (0, .ref 0), (1, .int 2)]) (stk' := [.ref 0]) (mem' := fm gc1 tp bt a b) (by intro _ _ _; eq_refl) ?_
  obtain ⟨xc2, hrc2, hxc2⟩ := mr_cellHere (tp := tp) (bt := bt) hT hA hmc1
  refine fe_ivV hrc2 (by omega) (by rfl) (by rfl) (by rfl) (by rfl) (by rfl) (by rfl) ?_
  rcases hxc2 with ⟨nmc2, foc2, rfl⟩ | ⟨nmc2, foc2, rfl⟩ | ⟨nmc2, rfl⟩
  · have nkc2 := nmc2.1
    refine fe_s 3 (pc' := 15) (lc' := [(3, .int (nI (sp_iC A.1.1 (sp_wd T n (sp_n T n p))))), (2, .int 4206), (0, .ref 0), (1, .int 2)]) (stk' := [.int 3, .int 2]) (mem' := fm gc1 tp bt a b) (by intro _ _ _; eq_refl) ?_
    refine fe_s 1 (pc' := cond (fx_cb .ne 2 3) 37 18) (lc' := [(3, .int (nI (sp_iC A.1.1 (sp_wd T n (sp_n T n p))))), (2, .int 4206), (0, .ref 0), (1, .int 2)]) (stk' := []) (mem' := fm gc1 tp bt a b) (by intro _ _ _; eq_refl) ?_
    rw [show (fx_cb .ne 2 3) = true from by decide]
    dsimp only [cond]
    refine fe_s 5 (pc' := 47) (lc' := [(3, .int (nI (sp_iC A.1.1 (sp_wd T n (sp_n T n p))))), (2, .int 4206), (0, .ref 0), (1, .int 2)]) (stk' := [.int 3368, .ref 1, .int 72, .ref 0]) (mem' := fm gc1 tp bt a b) (by intro _ _ _; eq_refl) ?_
    refine fe_ldI (by rfl) (by rfl) (fx_inN (i := 3368) (by omega) (by omega)) ?_
    rw [show Int32.toNatClampNeg (3368) = 3368 from rfl]
    rw [show a 1 3368 = nI (A.1.1.length) from hA.1.1]
    refine fe_s 1 (pc' := 49) (lc' := [(3, .int (nI (sp_iC A.1.1 (sp_wd T n (sp_n T n p))))), (2, .int 4206), (0, .ref 0), (1, .int 2)]) (stk' := [.int 4206, .int (nI (A.1.1.length)), .int 72, .ref 0]) (mem' := fm gc1 tp bt a b) (by intro _ _ _; eq_refl) ?_
    obtain ⟨xc3, gc3, ac3, bc3, hrc3, txc3, ebc3, hxc3⟩ := mr_oldOne (t := 4206) (tp := tp) (bt := bt) hT hA hmc1 (by omega)
    rw [ebc3] at hrc3
    refine fe_ivV hrc3 (by omega) (by rfl) (by rfl) (by rfl) (by rfl) (by rfl) (by rfl) ?_
    rcases hxc3 with ⟨nnc3, ffc3, rfl, eac3, hmc3⟩ | ⟨nnc3, ffc3, rfl, eac3, hmc3⟩ | ⟨nnc3, rfl, eac3, hmc3⟩
    · rw [eac3]
      have hTw4 := mT_u (t := 1) (i := 4206) (x := nI (sp_iC A.1.1 (sp_wd T n (sp_n T n p)))) (by decide) hT
      have hAw4 := md_u (t := 4206) (x := nI (sp_iC A.1.1 (sp_wd T n (sp_n T n p)))) hA (by omega) (by omega) (fun c hc => by omega) (fun i hi => by omega) (fun i hi => by omega)
      refine fe_s 1 (pc' := cond (fx_cb .ne 1 0) 57 55) (lc' := [(3, .int (nI (sp_iC A.1.1 (sp_wd T n (sp_n T n p))))), (2, .int 4206), (0, .ref 0), (1, .int 2)]) (stk' := []) (mem' := fm gc3 tp bt (fm_u a 1 4206 (nI (sp_iC A.1.1 (sp_wd T n (sp_n T n p))))) b) (by intro _ _ _; eq_refl) ?_
      rw [show (fx_cb .ne 1 0) = true from by decide]
      dsimp only [cond]
      refine fe_s 1 (pc' := 58) (lc' := [(3, .int (nI (sp_iC A.1.1 (sp_wd T n (sp_n T n p))))), (2, .int 4206), (0, .ref 0), (1, .int 2)]) (stk' := [.ref 0]) (mem' := fm gc3 tp bt (fm_u a 1 4206 (nI (sp_iC A.1.1 (sp_wd T n (sp_n T n p))))) b) (by intro _ _ _; eq_refl) ?_
      obtain ⟨xc5, hrc5, hxc5⟩ := mr_cellHere (tp := tp) (bt := bt) hTw4 hAw4 hmc3
      refine fe_ivV hrc5 (by omega) (by rfl) (by rfl) (by rfl) (by rfl) (by rfl) (by rfl) ?_
      rcases hxc5 with ⟨nmc5, foc5, rfl⟩ | ⟨nmc5, foc5, rfl⟩ | ⟨nmc5, rfl⟩
      · have nkc5 := nmc5.1
        refine fe_s 3 (pc' := 66) (lc' := [(4, .int (nI (sp_iC A.1.1 (sp_wd T n (sp_n T n (sp_n T n p)))))), (3, .int (nI (sp_iC A.1.1 (sp_wd T n (sp_n T n p))))), (2, .int 4206), (0, .ref 0), (1, .int 2)]) (stk' := [.int (-1), .int (nI (sp_iC A.1.1 (sp_wd T n (sp_n T n (sp_n T n p)))))]) (mem' := fm gc3 tp bt (fm_u a 1 4206 (nI (sp_iC A.1.1 (sp_wd T n (sp_n T n p))))) b) (by intro _ _ _; eq_refl) ?_
        refine fe_s 1 (pc' := cond (fx_cb .eq (nI (sp_iC A.1.1 (sp_wd T n (sp_n T n (sp_n T n p))))) (-1)) 95 69) (lc' := [(4, .int (nI (sp_iC A.1.1 (sp_wd T n (sp_n T n (sp_n T n p)))))), (3, .int (nI (sp_iC A.1.1 (sp_wd T n (sp_n T n p))))), (2, .int 4206), (0, .ref 0), (1, .int 2)]) (stk' := []) (mem' := fm gc3 tp bt (fm_u a 1 4206 (nI (sp_iC A.1.1 (sp_wd T n (sp_n T n p))))) b) (by intro _ _ _; eq_refl) ?_
        rw [show (fx_cb .eq (nI (sp_iC A.1.1 (sp_wd T n (sp_n T n (sp_n T n p))))) (-1)) = false from cb_n_eq (by omega) (by decide)]
        dsimp only [cond]
        refine fe_s 2 (pc' := 72) (lc' := [(4, .int (nI (sp_iC A.1.1 (sp_wd T n (sp_n T n (sp_n T n p)))))), (3, .int (nI (sp_iC A.1.1 (sp_wd T n (sp_n T n p))))), (2, .int 4206), (0, .ref 0), (1, .int 2)]) (stk' := [.int (nI (sp_iC A.1.1 (sp_wd T n (sp_n T n p)))), .int (nI (sp_iC A.1.1 (sp_wd T n (sp_n T n (sp_n T n p)))))]) (mem' := fm gc3 tp bt (fm_u a 1 4206 (nI (sp_iC A.1.1 (sp_wd T n (sp_n T n p))))) b) (by intro _ _ _; eq_refl) ?_
        refine fe_s 1 (pc' := cond (fx_cb .eq (nI (sp_iC A.1.1 (sp_wd T n (sp_n T n (sp_n T n p))))) (nI (sp_iC A.1.1 (sp_wd T n (sp_n T n p))))) 89 75) (lc' := [(4, .int (nI (sp_iC A.1.1 (sp_wd T n (sp_n T n (sp_n T n p)))))), (3, .int (nI (sp_iC A.1.1 (sp_wd T n (sp_n T n p))))), (2, .int 4206), (0, .ref 0), (1, .int 2)]) (stk' := []) (mem' := fm gc3 tp bt (fm_u a 1 4206 (nI (sp_iC A.1.1 (sp_wd T n (sp_n T n p))))) b) (by intro _ _ _; eq_refl) ?_
        by_cases y6 : (sp_iC A.1.1 (sp_wd T n (sp_n T n (sp_n T n p)))) = (sp_iC A.1.1 (sp_wd T n (sp_n T n p)))
        · rw [show (fx_cb .eq (nI (sp_iC A.1.1 (sp_wd T n (sp_n T n (sp_n T n p))))) (nI (sp_iC A.1.1 (sp_wd T n (sp_n T n p))))) = true from cb_eqT (a := (sp_iC A.1.1 (sp_wd T n (sp_n T n (sp_n T n p))))) (b := (sp_iC A.1.1 (sp_wd T n (sp_n T n p)))) (by omega) (by omega) (by omega)]
          dsimp only [cond]
          refine fe_s 2 (pc' := 91) (lc' := [(4, .int (nI (sp_iC A.1.1 (sp_wd T n (sp_n T n (sp_n T n p)))))), (3, .int (nI (sp_iC A.1.1 (sp_wd T n (sp_n T n p))))), (2, .int 4206), (0, .ref 0), (1, .int 2)]) (stk' := [.int 5, .ref 0]) (mem' := fm gc3 tp bt (fm_u a 1 4206 (nI (sp_iC A.1.1 (sp_wd T n (sp_n T n p))))) b) (by intro _ _ _; eq_refl) ?_
          obtain ⟨gc7, hrc7, txc7, hmc7⟩ := mr_failsx (tp := tp) (bt := bt) (a := (fm_u a 1 4206 (nI (sp_iC A.1.1 (sp_wd T n (sp_n T n p)))))) (b := b) (x := 5) hmc3 (by decide) (by omega)
          refine fe_ivV hrc7 (by omega) (by rfl) (by rfl) (by rfl) (by rfl) (by rfl) (by rfl) ?_
          refine fe_ret ⟨0, _, _, _, ⟨(fm_tx8_tr (fm_tx8_tr (fm_tx8_tr fm_tx8_rf txc1) txc3) txc7), (mfa_u mfa_rf (by omega)), mfb_rf, Or.inr ⟨rfl, (5, sp_s T n (sp_n T n (sp_n T n p))), ?_, hmc7⟩⟩, rfl⟩ (by rfl) (by rfl) (by rfl)
          unfold sp_pPair
          rw [sp_cell_t nnc3 ffc3, if_neg (fun z => absurd z.1 (by decide)), sp_cell_t nmc5 foc5, if_pos (Or.inl (by omega))]
          try rfl
        · rw [show (fx_cb .eq (nI (sp_iC A.1.1 (sp_wd T n (sp_n T n (sp_n T n p))))) (nI (sp_iC A.1.1 (sp_wd T n (sp_n T n p))))) = false from cb_eqF (a := (sp_iC A.1.1 (sp_wd T n (sp_n T n (sp_n T n p))))) (b := (sp_iC A.1.1 (sp_wd T n (sp_n T n p)))) (by omega) (by omega) (by omega)]
          dsimp only [cond]
          refine fe_s 2 (pc' := 77) (lc' := [(4, .int (nI (sp_iC A.1.1 (sp_wd T n (sp_n T n (sp_n T n p)))))), (3, .int (nI (sp_iC A.1.1 (sp_wd T n (sp_n T n p))))), (2, .int 4206), (0, .ref 0), (1, .int 2)]) (stk' := [.int 3, .int 2]) (mem' := fm gc3 tp bt (fm_u a 1 4206 (nI (sp_iC A.1.1 (sp_wd T n (sp_n T n p))))) b) (by intro _ _ _; eq_refl) ?_
          refine fe_s 1 (pc' := cond (fx_cb .ne 2 3) 95 80) (lc' := [(4, .int (nI (sp_iC A.1.1 (sp_wd T n (sp_n T n (sp_n T n p)))))), (3, .int (nI (sp_iC A.1.1 (sp_wd T n (sp_n T n p))))), (2, .int 4206), (0, .ref 0), (1, .int 2)]) (stk' := []) (mem' := fm gc3 tp bt (fm_u a 1 4206 (nI (sp_iC A.1.1 (sp_wd T n (sp_n T n p))))) b) (by intro _ _ _; eq_refl) ?_
          rw [show (fx_cb .ne 2 3) = true from by decide]
          dsimp only [cond]
          refine fe_s 5 (pc' := 105) (lc' := [(4, .int (nI (sp_iC A.1.1 (sp_wd T n (sp_n T n (sp_n T n p)))))), (3, .int (nI (sp_iC A.1.1 (sp_wd T n (sp_n T n p))))), (2, .int 4206), (0, .ref 0), (1, .int 2)]) (stk' := [.int 3368, .ref 1, .int 72, .ref 0]) (mem' := fm gc3 tp bt (fm_u a 1 4206 (nI (sp_iC A.1.1 (sp_wd T n (sp_n T n p))))) b) (by intro _ _ _; eq_refl) ?_
          refine fe_ldI (by rfl) (by rfl) (fx_inN (i := 3368) (by omega) (by omega)) ?_
          rw [show Int32.toNatClampNeg (3368) = 3368 from rfl]
          rw [show (fm_u a 1 4206 (nI (sp_iC A.1.1 (sp_wd T n (sp_n T n p))))) 1 3368 = nI (A.1.1.length) from hAw4.1.1]
          refine fe_s 3 (pc' := 109) (lc' := [(4, .int (nI (sp_iC A.1.1 (sp_wd T n (sp_n T n (sp_n T n p)))))), (3, .int (nI (sp_iC A.1.1 (sp_wd T n (sp_n T n p))))), (2, .int 4206), (0, .ref 0), (1, .int 2)]) (stk' := [.int (4206 + 1), .int (nI (A.1.1.length)), .int 72, .ref 0]) (mem' := fm gc3 tp bt (fm_u a 1 4206 (nI (sp_iC A.1.1 (sp_wd T n (sp_n T n p))))) b) (by intro _ _ _; eq_refl) ?_
          rw [show (4206 + 1 : Int32) = 4207 from rfl]
          obtain ⟨xc8, gc8, ac8, bc8, hrc8, txc8, ebc8, hxc8⟩ := mr_oldOne (t := 4207) (tp := tp) (bt := bt) hTw4 hAw4 hmc3 (by omega)
          rw [ebc8] at hrc8
          refine fe_ivV hrc8 (by omega) (by rfl) (by rfl) (by rfl) (by rfl) (by rfl) (by rfl) ?_
          rcases hxc8 with ⟨nnc8, ffc8, rfl, eac8, hmc8⟩ | ⟨nnc8, ffc8, rfl, eac8, hmc8⟩ | ⟨nnc8, rfl, eac8, hmc8⟩
          · rw [eac8]
            have hTw9 := mT_u (t := 1) (i := 4207) (x := nI (sp_iC A.1.1 (sp_wd T n (sp_n T n (sp_n T n p))))) (by decide) hTw4
            have hAw9 := md_u (t := 4207) (x := nI (sp_iC A.1.1 (sp_wd T n (sp_n T n (sp_n T n p))))) hAw4 (by omega) (by omega) (fun c hc => by omega) (fun i hi => by omega) (fun i hi => by omega)
            refine fe_s 1 (pc' := cond (fx_cb .ne 1 0) 117 115) (lc' := [(4, .int (nI (sp_iC A.1.1 (sp_wd T n (sp_n T n (sp_n T n p)))))), (3, .int (nI (sp_iC A.1.1 (sp_wd T n (sp_n T n p))))), (2, .int 4206), (0, .ref 0), (1, .int 2)]) (stk' := []) (mem' := fm gc8 tp bt (fm_u (fm_u a 1 4206 (nI (sp_iC A.1.1 (sp_wd T n (sp_n T n p))))) 1 4207 (nI (sp_iC A.1.1 (sp_wd T n (sp_n T n (sp_n T n p)))))) b) (by intro _ _ _; eq_refl) ?_
            rw [show (fx_cb .ne 1 0) = true from by decide]
            dsimp only [cond]
            refine fe_s 10 (pc' := 132) (lc' := [(4, .int (nI (sp_iC A.1.1 (sp_wd T n (sp_n T n (sp_n T n p)))))), (3, .int (nI (sp_iC A.1.1 (sp_wd T n (sp_n T n p))))), (2, .int 4206), (0, .ref 0), (1, .int 2)]) (stk' := [.int ((3376 + (6 * (nI (sp_iC A.1.1 (sp_wd T n (sp_n T n p)))))) + 2), .ref 1, .int ((3376 + (6 * (nI (sp_iC A.1.1 (sp_wd T n (sp_n T n p)))))) + 2), .ref 1]) (mem' := fm gc8 tp bt (fm_u (fm_u a 1 4206 (nI (sp_iC A.1.1 (sp_wd T n (sp_n T n p))))) 1 4207 (nI (sp_iC A.1.1 (sp_wd T n (sp_n T n (sp_n T n p)))))) b) (by intro _ _ _; eq_refl) ?_
            rw [show ((3376 + (6 * (nI (sp_iC A.1.1 (sp_wd T n (sp_n T n p)))))) + 2 : Int32) = nI ((3376 + (6 * (sp_iC A.1.1 (sp_wd T n (sp_n T n p))))) + 2) from by simp only [show (3376 : Int32) = nI 3376 from rfl, show (6 : Int32) = nI 6 from rfl, show (2 : Int32) = nI 2 from rfl, nI_add, fm_mul]]
            refine fe_ldI (by rfl) (by rfl) (fx_inN (i := (3376 + (6 * (sp_iC A.1.1 (sp_wd T n (sp_n T n p))))) + 2) (by omega) (by omega)) ?_
            rw [show Int32.toNatClampNeg (nI ((3376 + (6 * (sp_iC A.1.1 (sp_wd T n (sp_n T n p))))) + 2)) = (3376 + (6 * (sp_iC A.1.1 (sp_wd T n (sp_n T n p))))) + 2 from nI_clamp (by omega)]
            refine fe_s 4 (pc' := 138) (lc' := [(4, .int (nI (sp_iC A.1.1 (sp_wd T n (sp_n T n (sp_n T n p)))))), (3, .int (nI (sp_iC A.1.1 (sp_wd T n (sp_n T n p))))), (2, .int 4206), (0, .ref 0), (1, .int 2)]) (stk' := [.int (((fm_u (fm_u a 1 4206 (nI (sp_iC A.1.1 (sp_wd T n (sp_n T n p))))) 1 4207 (nI (sp_iC A.1.1 (sp_wd T n (sp_n T n (sp_n T n p)))))) 1 ((3376 + (6 * (sp_iC A.1.1 (sp_wd T n (sp_n T n p))))) + 2)) ||| ((1 : Int32) <<< ((nI (sp_iC A.1.1 (sp_wd T n (sp_n T n (sp_n T n p))))) &&& 31))), .int (nI ((3376 + (6 * (sp_iC A.1.1 (sp_wd T n (sp_n T n p))))) + 2)), .ref 1]) (mem' := fm gc8 tp bt (fm_u (fm_u a 1 4206 (nI (sp_iC A.1.1 (sp_wd T n (sp_n T n p))))) 1 4207 (nI (sp_iC A.1.1 (sp_wd T n (sp_n T n (sp_n T n p)))))) b) (by intro _ _ _; eq_refl) ?_
            refine fe_stI (mem' := fm gc8 tp bt (fm_u (fm_u (fm_u a 1 4206 (nI (sp_iC A.1.1 (sp_wd T n (sp_n T n p))))) 1 4207 (nI (sp_iC A.1.1 (sp_wd T n (sp_n T n (sp_n T n p)))))) 1 (nI ((3376 + (6 * (sp_iC A.1.1 (sp_wd T n (sp_n T n p))))) + 2) : Int32).toNatClampNeg (((fm_u (fm_u a 1 4206 (nI (sp_iC A.1.1 (sp_wd T n (sp_n T n p))))) 1 4207 (nI (sp_iC A.1.1 (sp_wd T n (sp_n T n (sp_n T n p)))))) 1 ((3376 + (6 * (sp_iC A.1.1 (sp_wd T n (sp_n T n p))))) + 2)) ||| ((1 : Int32) <<< ((nI (sp_iC A.1.1 (sp_wd T n (sp_n T n (sp_n T n p))))) &&& 31)))) b) (by rfl) (by rfl) (fx_inN (i := (3376 + (6 * (sp_iC A.1.1 (sp_wd T n (sp_n T n p))))) + 2) (by omega) (by omega)) fm_si1 ?_
            rw [show Int32.toNatClampNeg (nI ((3376 + (6 * (sp_iC A.1.1 (sp_wd T n (sp_n T n p))))) + 2)) = (3376 + (6 * (sp_iC A.1.1 (sp_wd T n (sp_n T n p))))) + 2 from nI_clamp (by omega)]
            have hTw10 := mT_u (t := 1) (i := (3376 + (6 * (sp_iC A.1.1 (sp_wd T n (sp_n T n p))))) + 2) (x := ((fm_u (fm_u a 1 4206 (nI (sp_iC A.1.1 (sp_wd T n (sp_n T n p))))) 1 4207 (nI (sp_iC A.1.1 (sp_wd T n (sp_n T n (sp_n T n p)))))) 1 ((3376 + (6 * (sp_iC A.1.1 (sp_wd T n (sp_n T n p))))) + 2)) ||| ((1 : Int32) <<< ((nI (sp_iC A.1.1 (sp_wd T n (sp_n T n (sp_n T n p))))) &&& 31))) (by decide) hTw9
            refine fe_s 10 (pc' := 155) (lc' := [(4, .int (nI (sp_iC A.1.1 (sp_wd T n (sp_n T n (sp_n T n p)))))), (3, .int (nI (sp_iC A.1.1 (sp_wd T n (sp_n T n p))))), (2, .int 4206), (0, .ref 0), (1, .int 2)]) (stk' := [.int ((3376 + (6 * (nI (sp_iC A.1.1 (sp_wd T n (sp_n T n (sp_n T n p))))))) + 2), .ref 1, .int ((3376 + (6 * (nI (sp_iC A.1.1 (sp_wd T n (sp_n T n (sp_n T n p))))))) + 2), .ref 1]) (mem' := fm gc8 tp bt (fm_u (fm_u (fm_u a 1 4206 (nI (sp_iC A.1.1 (sp_wd T n (sp_n T n p))))) 1 4207 (nI (sp_iC A.1.1 (sp_wd T n (sp_n T n (sp_n T n p)))))) 1 ((3376 + (6 * (sp_iC A.1.1 (sp_wd T n (sp_n T n p))))) + 2) (((fm_u (fm_u a 1 4206 (nI (sp_iC A.1.1 (sp_wd T n (sp_n T n p))))) 1 4207 (nI (sp_iC A.1.1 (sp_wd T n (sp_n T n (sp_n T n p)))))) 1 ((3376 + (6 * (sp_iC A.1.1 (sp_wd T n (sp_n T n p))))) + 2)) ||| ((1 : Int32) <<< ((nI (sp_iC A.1.1 (sp_wd T n (sp_n T n (sp_n T n p))))) &&& 31)))) b) (by intro _ _ _; eq_refl) ?_
            rw [show ((3376 + (6 * (nI (sp_iC A.1.1 (sp_wd T n (sp_n T n (sp_n T n p))))))) + 2 : Int32) = nI ((3376 + (6 * (sp_iC A.1.1 (sp_wd T n (sp_n T n (sp_n T n p)))))) + 2) from by simp only [show (3376 : Int32) = nI 3376 from rfl, show (6 : Int32) = nI 6 from rfl, show (2 : Int32) = nI 2 from rfl, nI_add, fm_mul]]
            refine fe_ldI (by rfl) (by rfl) (fx_inN (i := (3376 + (6 * (sp_iC A.1.1 (sp_wd T n (sp_n T n (sp_n T n p)))))) + 2) (by omega) (by omega)) ?_
            rw [show Int32.toNatClampNeg (nI ((3376 + (6 * (sp_iC A.1.1 (sp_wd T n (sp_n T n (sp_n T n p)))))) + 2)) = (3376 + (6 * (sp_iC A.1.1 (sp_wd T n (sp_n T n (sp_n T n p)))))) + 2 from nI_clamp (by omega)]
            refine fe_s 4 (pc' := 160) (lc' := [(4, .int (nI (sp_iC A.1.1 (sp_wd T n (sp_n T n (sp_n T n p)))))), (3, .int (nI (sp_iC A.1.1 (sp_wd T n (sp_n T n p))))), (2, .int 4206), (0, .ref 0), (1, .int 2)]) (stk' := [.int (((fm_u (fm_u (fm_u a 1 4206 (nI (sp_iC A.1.1 (sp_wd T n (sp_n T n p))))) 1 4207 (nI (sp_iC A.1.1 (sp_wd T n (sp_n T n (sp_n T n p)))))) 1 ((3376 + (6 * (sp_iC A.1.1 (sp_wd T n (sp_n T n p))))) + 2) (((fm_u (fm_u a 1 4206 (nI (sp_iC A.1.1 (sp_wd T n (sp_n T n p))))) 1 4207 (nI (sp_iC A.1.1 (sp_wd T n (sp_n T n (sp_n T n p)))))) 1 ((3376 + (6 * (sp_iC A.1.1 (sp_wd T n (sp_n T n p))))) + 2)) ||| ((1 : Int32) <<< ((nI (sp_iC A.1.1 (sp_wd T n (sp_n T n (sp_n T n p))))) &&& 31)))) 1 ((3376 + (6 * (sp_iC A.1.1 (sp_wd T n (sp_n T n (sp_n T n p)))))) + 2)) ||| ((1 : Int32) <<< ((nI (sp_iC A.1.1 (sp_wd T n (sp_n T n p)))) &&& 31))), .int (nI ((3376 + (6 * (sp_iC A.1.1 (sp_wd T n (sp_n T n (sp_n T n p)))))) + 2)), .ref 1]) (mem' := fm gc8 tp bt (fm_u (fm_u (fm_u a 1 4206 (nI (sp_iC A.1.1 (sp_wd T n (sp_n T n p))))) 1 4207 (nI (sp_iC A.1.1 (sp_wd T n (sp_n T n (sp_n T n p)))))) 1 ((3376 + (6 * (sp_iC A.1.1 (sp_wd T n (sp_n T n p))))) + 2) (((fm_u (fm_u a 1 4206 (nI (sp_iC A.1.1 (sp_wd T n (sp_n T n p))))) 1 4207 (nI (sp_iC A.1.1 (sp_wd T n (sp_n T n (sp_n T n p)))))) 1 ((3376 + (6 * (sp_iC A.1.1 (sp_wd T n (sp_n T n p))))) + 2)) ||| ((1 : Int32) <<< ((nI (sp_iC A.1.1 (sp_wd T n (sp_n T n (sp_n T n p))))) &&& 31)))) b) (by intro _ _ _; eq_refl) ?_
            refine fe_stI (mem' := fm gc8 tp bt (fm_u (fm_u (fm_u (fm_u a 1 4206 (nI (sp_iC A.1.1 (sp_wd T n (sp_n T n p))))) 1 4207 (nI (sp_iC A.1.1 (sp_wd T n (sp_n T n (sp_n T n p)))))) 1 ((3376 + (6 * (sp_iC A.1.1 (sp_wd T n (sp_n T n p))))) + 2) (((fm_u (fm_u a 1 4206 (nI (sp_iC A.1.1 (sp_wd T n (sp_n T n p))))) 1 4207 (nI (sp_iC A.1.1 (sp_wd T n (sp_n T n (sp_n T n p)))))) 1 ((3376 + (6 * (sp_iC A.1.1 (sp_wd T n (sp_n T n p))))) + 2)) ||| ((1 : Int32) <<< ((nI (sp_iC A.1.1 (sp_wd T n (sp_n T n (sp_n T n p))))) &&& 31)))) 1 (nI ((3376 + (6 * (sp_iC A.1.1 (sp_wd T n (sp_n T n (sp_n T n p)))))) + 2) : Int32).toNatClampNeg (((fm_u (fm_u (fm_u a 1 4206 (nI (sp_iC A.1.1 (sp_wd T n (sp_n T n p))))) 1 4207 (nI (sp_iC A.1.1 (sp_wd T n (sp_n T n (sp_n T n p)))))) 1 ((3376 + (6 * (sp_iC A.1.1 (sp_wd T n (sp_n T n p))))) + 2) (((fm_u (fm_u a 1 4206 (nI (sp_iC A.1.1 (sp_wd T n (sp_n T n p))))) 1 4207 (nI (sp_iC A.1.1 (sp_wd T n (sp_n T n (sp_n T n p)))))) 1 ((3376 + (6 * (sp_iC A.1.1 (sp_wd T n (sp_n T n p))))) + 2)) ||| ((1 : Int32) <<< ((nI (sp_iC A.1.1 (sp_wd T n (sp_n T n (sp_n T n p))))) &&& 31)))) 1 ((3376 + (6 * (sp_iC A.1.1 (sp_wd T n (sp_n T n (sp_n T n p)))))) + 2)) ||| ((1 : Int32) <<< ((nI (sp_iC A.1.1 (sp_wd T n (sp_n T n p)))) &&& 31)))) b) (by rfl) (by rfl) (fx_inN (i := (3376 + (6 * (sp_iC A.1.1 (sp_wd T n (sp_n T n (sp_n T n p)))))) + 2) (by omega) (by omega)) fm_si1 ?_
            rw [show Int32.toNatClampNeg (nI ((3376 + (6 * (sp_iC A.1.1 (sp_wd T n (sp_n T n (sp_n T n p)))))) + 2)) = (3376 + (6 * (sp_iC A.1.1 (sp_wd T n (sp_n T n (sp_n T n p)))))) + 2 from nI_clamp (by omega)]
            have hTw11 := mT_u (t := 1) (i := (3376 + (6 * (sp_iC A.1.1 (sp_wd T n (sp_n T n (sp_n T n p)))))) + 2) (x := ((fm_u (fm_u (fm_u a 1 4206 (nI (sp_iC A.1.1 (sp_wd T n (sp_n T n p))))) 1 4207 (nI (sp_iC A.1.1 (sp_wd T n (sp_n T n (sp_n T n p)))))) 1 ((3376 + (6 * (sp_iC A.1.1 (sp_wd T n (sp_n T n p))))) + 2) (((fm_u (fm_u a 1 4206 (nI (sp_iC A.1.1 (sp_wd T n (sp_n T n p))))) 1 4207 (nI (sp_iC A.1.1 (sp_wd T n (sp_n T n (sp_n T n p)))))) 1 ((3376 + (6 * (sp_iC A.1.1 (sp_wd T n (sp_n T n p))))) + 2)) ||| ((1 : Int32) <<< ((nI (sp_iC A.1.1 (sp_wd T n (sp_n T n (sp_n T n p))))) &&& 31)))) 1 ((3376 + (6 * (sp_iC A.1.1 (sp_wd T n (sp_n T n (sp_n T n p)))))) + 2)) ||| ((1 : Int32) <<< ((nI (sp_iC A.1.1 (sp_wd T n (sp_n T n p)))) &&& 31))) (by decide) hTw10
            refine fe_s 1 (pc' := 162) (lc' := [(4, .int (nI (sp_iC A.1.1 (sp_wd T n (sp_n T n (sp_n T n p)))))), (3, .int (nI (sp_iC A.1.1 (sp_wd T n (sp_n T n p))))), (2, .int 4206), (0, .ref 0), (1, .int 2)]) (stk' := [.int 1]) (mem' := fm gc8 tp bt (fm_u (fm_u (fm_u (fm_u a 1 4206 (nI (sp_iC A.1.1 (sp_wd T n (sp_n T n p))))) 1 4207 (nI (sp_iC A.1.1 (sp_wd T n (sp_n T n (sp_n T n p)))))) 1 ((3376 + (6 * (sp_iC A.1.1 (sp_wd T n (sp_n T n p))))) + 2) (((fm_u (fm_u a 1 4206 (nI (sp_iC A.1.1 (sp_wd T n (sp_n T n p))))) 1 4207 (nI (sp_iC A.1.1 (sp_wd T n (sp_n T n (sp_n T n p)))))) 1 ((3376 + (6 * (sp_iC A.1.1 (sp_wd T n (sp_n T n p))))) + 2)) ||| ((1 : Int32) <<< ((nI (sp_iC A.1.1 (sp_wd T n (sp_n T n (sp_n T n p))))) &&& 31)))) 1 ((3376 + (6 * (sp_iC A.1.1 (sp_wd T n (sp_n T n (sp_n T n p)))))) + 2) (((fm_u (fm_u (fm_u a 1 4206 (nI (sp_iC A.1.1 (sp_wd T n (sp_n T n p))))) 1 4207 (nI (sp_iC A.1.1 (sp_wd T n (sp_n T n (sp_n T n p)))))) 1 ((3376 + (6 * (sp_iC A.1.1 (sp_wd T n (sp_n T n p))))) + 2) (((fm_u (fm_u a 1 4206 (nI (sp_iC A.1.1 (sp_wd T n (sp_n T n p))))) 1 4207 (nI (sp_iC A.1.1 (sp_wd T n (sp_n T n (sp_n T n p)))))) 1 ((3376 + (6 * (sp_iC A.1.1 (sp_wd T n (sp_n T n p))))) + 2)) ||| ((1 : Int32) <<< ((nI (sp_iC A.1.1 (sp_wd T n (sp_n T n (sp_n T n p))))) &&& 31)))) 1 ((3376 + (6 * (sp_iC A.1.1 (sp_wd T n (sp_n T n (sp_n T n p)))))) + 2)) ||| ((1 : Int32) <<< ((nI (sp_iC A.1.1 (sp_wd T n (sp_n T n p)))) &&& 31)))) b) (by intro _ _ _; eq_refl) ?_
            refine fe_ret ⟨1, _, _, _, ⟨(fm_tx8_tr (fm_tx8_tr (fm_tx8_tr fm_tx8_rf txc1) txc3) txc8), (mfa_u (mfa_u (mfa_u (mfa_u mfa_rf (by omega)) (by omega)) (by omega)) (by omega)), mfb_rf, Or.inl ⟨rfl, (A.1, sp_pr A.2.1 (sp_iC A.1.1 (sp_wd T n (sp_n T n p))) (sp_iC A.1.1 (sp_wd T n (sp_n T n (sp_n T n p)))), A.2.2), s, (sp_n T n (sp_n T n (sp_n T n p))), ?_, hmc8, ?_, hst.1, (((fm_tx8_tr (fm_tx8_tr (fm_tx8_tr fm_tx8_rf txc1) txc3) txc8) 20 (by decide) (by decide) (by decide) (by decide) (by decide) (by decide)).trans hst.2)⟩⟩, rfl⟩ (by rfl) (by rfl) (by rfl)
            · unfold sp_pPair
              rw [sp_cell_t nnc3 ffc3, if_neg (fun z => absurd z.1 (by decide)), sp_cell_t nnc8 ffc8, if_neg (fun z => by rcases z with z | z; exact absurd z (by omega); exact absurd z.1 (by decide)), if_neg (by decide)]
            · exact md_way (by omega) (by omega) hAw9
          · exact absurd foc5 ffc8
          · exact absurd nmc5 nnc8
      · have nkc5 := nmc5.1
        refine fe_s 3 (pc' := 66) (lc' := [(4, .int (-1)), (3, .int (nI (sp_iC A.1.1 (sp_wd T n (sp_n T n p))))), (2, .int 4206), (0, .ref 0), (1, .int 2)]) (stk' := [.int (-1), .int (-1)]) (mem' := fm gc3 tp bt (fm_u a 1 4206 (nI (sp_iC A.1.1 (sp_wd T n (sp_n T n p))))) b) (by intro _ _ _; eq_refl) ?_
        refine fe_s 1 (pc' := cond (fx_cb .eq (-1) (-1)) 95 69) (lc' := [(4, .int (-1)), (3, .int (nI (sp_iC A.1.1 (sp_wd T n (sp_n T n p))))), (2, .int 4206), (0, .ref 0), (1, .int 2)]) (stk' := []) (mem' := fm gc3 tp bt (fm_u a 1 4206 (nI (sp_iC A.1.1 (sp_wd T n (sp_n T n p))))) b) (by intro _ _ _; eq_refl) ?_
        rw [show (fx_cb .eq (-1) (-1)) = true from by decide]
        dsimp only [cond]
        refine fe_s 5 (pc' := 105) (lc' := [(4, .int (-1)), (3, .int (nI (sp_iC A.1.1 (sp_wd T n (sp_n T n p))))), (2, .int 4206), (0, .ref 0), (1, .int 2)]) (stk' := [.int 3368, .ref 1, .int 72, .ref 0]) (mem' := fm gc3 tp bt (fm_u a 1 4206 (nI (sp_iC A.1.1 (sp_wd T n (sp_n T n p))))) b) (by intro _ _ _; eq_refl) ?_
        refine fe_ldI (by rfl) (by rfl) (fx_inN (i := 3368) (by omega) (by omega)) ?_
        rw [show Int32.toNatClampNeg (3368) = 3368 from rfl]
        rw [show (fm_u a 1 4206 (nI (sp_iC A.1.1 (sp_wd T n (sp_n T n p))))) 1 3368 = nI (A.1.1.length) from hAw4.1.1]
        refine fe_s 3 (pc' := 109) (lc' := [(4, .int (-1)), (3, .int (nI (sp_iC A.1.1 (sp_wd T n (sp_n T n p))))), (2, .int 4206), (0, .ref 0), (1, .int 2)]) (stk' := [.int (4206 + 1), .int (nI (A.1.1.length)), .int 72, .ref 0]) (mem' := fm gc3 tp bt (fm_u a 1 4206 (nI (sp_iC A.1.1 (sp_wd T n (sp_n T n p))))) b) (by intro _ _ _; eq_refl) ?_
        rw [show (4206 + 1 : Int32) = 4207 from rfl]
        obtain ⟨xc12, gc12, ac12, bc12, hrc12, txc12, ebc12, hxc12⟩ := mr_oldOne (t := 4207) (tp := tp) (bt := bt) hTw4 hAw4 hmc3 (by omega)
        rw [ebc12] at hrc12
        refine fe_ivV hrc12 (by omega) (by rfl) (by rfl) (by rfl) (by rfl) (by rfl) (by rfl) ?_
        rcases hxc12 with ⟨nnc12, ffc12, rfl, eac12, hmc12⟩ | ⟨nnc12, ffc12, rfl, eac12, hmc12⟩ | ⟨nnc12, rfl, eac12, hmc12⟩
        · exact absurd ffc12 foc5
        · rw [eac12]
          have hTw13 := mT_u (t := 1) (i := 4207) (x := (-1)) (by decide) hTw4
          have hAw13 := md_u (t := 4207) (x := (-1)) hAw4 (by omega) (by omega) (fun c hc => by omega) (fun i hi => by omega) (fun i hi => by omega)
          refine fe_s 1 (pc' := cond (fx_cb .ne 0 0) 117 115) (lc' := [(4, .int (-1)), (3, .int (nI (sp_iC A.1.1 (sp_wd T n (sp_n T n p))))), (2, .int 4206), (0, .ref 0), (1, .int 2)]) (stk' := []) (mem' := fm gc12 tp bt (fm_u (fm_u a 1 4206 (nI (sp_iC A.1.1 (sp_wd T n (sp_n T n p))))) 1 4207 (-1)) b) (by intro _ _ _; eq_refl) ?_
          rw [show (fx_cb .ne 0 0) = false from by decide]
          dsimp only [cond]
          refine fe_s 1 (pc' := 116) (lc' := [(4, .int (-1)), (3, .int (nI (sp_iC A.1.1 (sp_wd T n (sp_n T n p))))), (2, .int 4206), (0, .ref 0), (1, .int 2)]) (stk' := [.int 0]) (mem' := fm gc12 tp bt (fm_u (fm_u a 1 4206 (nI (sp_iC A.1.1 (sp_wd T n (sp_n T n p))))) 1 4207 (-1)) b) (by intro _ _ _; eq_refl) ?_
          refine fe_ret ⟨0, _, _, _, ⟨(fm_tx8_tr (fm_tx8_tr (fm_tx8_tr fm_tx8_rf txc1) txc3) txc12), (mfa_u (mfa_u mfa_rf (by omega)) (by omega)), mfb_rf, Or.inr ⟨rfl, (3, sp_s T n (sp_n T n (sp_n T n p))), ?_, hmc12⟩⟩, rfl⟩ (by rfl) (by rfl) (by rfl)
          unfold sp_pPair
          rw [sp_cell_t nnc3 ffc3, if_neg (fun z => absurd z.1 (by decide)), sp_cell_3 nnc12 ffc12]
        · exact absurd nmc5 nnc12
      · refine fe_s 3 (pc' := 66) (lc' := [(4, .int (-1)), (3, .int (nI (sp_iC A.1.1 (sp_wd T n (sp_n T n p))))), (2, .int 4206), (0, .ref 0), (1, .int 2)]) (stk' := [.int (-1), .int (-1)]) (mem' := fm gc3 tp bt (fm_u a 1 4206 (nI (sp_iC A.1.1 (sp_wd T n (sp_n T n p))))) b) (by intro _ _ _; eq_refl) ?_
        refine fe_s 1 (pc' := cond (fx_cb .eq (-1) (-1)) 95 69) (lc' := [(4, .int (-1)), (3, .int (nI (sp_iC A.1.1 (sp_wd T n (sp_n T n p))))), (2, .int 4206), (0, .ref 0), (1, .int 2)]) (stk' := []) (mem' := fm gc3 tp bt (fm_u a 1 4206 (nI (sp_iC A.1.1 (sp_wd T n (sp_n T n p))))) b) (by intro _ _ _; eq_refl) ?_
        rw [show (fx_cb .eq (-1) (-1)) = true from by decide]
        dsimp only [cond]
        refine fe_s 5 (pc' := 105) (lc' := [(4, .int (-1)), (3, .int (nI (sp_iC A.1.1 (sp_wd T n (sp_n T n p))))), (2, .int 4206), (0, .ref 0), (1, .int 2)]) (stk' := [.int 3368, .ref 1, .int 72, .ref 0]) (mem' := fm gc3 tp bt (fm_u a 1 4206 (nI (sp_iC A.1.1 (sp_wd T n (sp_n T n p))))) b) (by intro _ _ _; eq_refl) ?_
        refine fe_ldI (by rfl) (by rfl) (fx_inN (i := 3368) (by omega) (by omega)) ?_
        rw [show Int32.toNatClampNeg (3368) = 3368 from rfl]
        rw [show (fm_u a 1 4206 (nI (sp_iC A.1.1 (sp_wd T n (sp_n T n p))))) 1 3368 = nI (A.1.1.length) from hAw4.1.1]
        refine fe_s 3 (pc' := 109) (lc' := [(4, .int (-1)), (3, .int (nI (sp_iC A.1.1 (sp_wd T n (sp_n T n p))))), (2, .int 4206), (0, .ref 0), (1, .int 2)]) (stk' := [.int (4206 + 1), .int (nI (A.1.1.length)), .int 72, .ref 0]) (mem' := fm gc3 tp bt (fm_u a 1 4206 (nI (sp_iC A.1.1 (sp_wd T n (sp_n T n p))))) b) (by intro _ _ _; eq_refl) ?_
        rw [show (4206 + 1 : Int32) = 4207 from rfl]
        obtain ⟨xc14, gc14, ac14, bc14, hrc14, txc14, ebc14, hxc14⟩ := mr_oldOne (t := 4207) (tp := tp) (bt := bt) hTw4 hAw4 hmc3 (by omega)
        rw [ebc14] at hrc14
        refine fe_ivV hrc14 (by omega) (by rfl) (by rfl) (by rfl) (by rfl) (by rfl) (by rfl) ?_
        rcases hxc14 with ⟨nnc14, ffc14, rfl, eac14, hmc14⟩ | ⟨nnc14, ffc14, rfl, eac14, hmc14⟩ | ⟨nnc14, rfl, eac14, hmc14⟩
        · exact absurd nnc14 nmc5
        · exact absurd nnc14 nmc5
        · rw [eac14]
          refine fe_s 1 (pc' := cond (fx_cb .ne 0 0) 117 115) (lc' := [(4, .int (-1)), (3, .int (nI (sp_iC A.1.1 (sp_wd T n (sp_n T n p))))), (2, .int 4206), (0, .ref 0), (1, .int 2)]) (stk' := []) (mem' := fm gc14 tp bt (fm_u a 1 4206 (nI (sp_iC A.1.1 (sp_wd T n (sp_n T n p))))) b) (by intro _ _ _; eq_refl) ?_
          rw [show (fx_cb .ne 0 0) = false from by decide]
          dsimp only [cond]
          refine fe_s 1 (pc' := 116) (lc' := [(4, .int (-1)), (3, .int (nI (sp_iC A.1.1 (sp_wd T n (sp_n T n p))))), (2, .int 4206), (0, .ref 0), (1, .int 2)]) (stk' := [.int 0]) (mem' := fm gc14 tp bt (fm_u a 1 4206 (nI (sp_iC A.1.1 (sp_wd T n (sp_n T n p))))) b) (by intro _ _ _; eq_refl) ?_
          refine fe_ret ⟨0, _, _, _, ⟨(fm_tx8_tr (fm_tx8_tr (fm_tx8_tr fm_tx8_rf txc1) txc3) txc14), (mfa_u mfa_rf (by omega)), mfb_rf, Or.inr ⟨rfl, (sp_m T n (sp_n T n (sp_n T n p)), sp_s T n (sp_n T n (sp_n T n p))), ?_, hmc14⟩⟩, rfl⟩ (by rfl) (by rfl) (by rfl)
          unfold sp_pPair
          rw [sp_cell_t nnc3 ffc3, if_neg (fun z => absurd z.1 (by decide)), sp_cell_f nnc14]
    · exact absurd foc2 ffc3
    · exact absurd nmc2 nnc3
  · have nkc2 := nmc2.1
    refine fe_s 3 (pc' := 15) (lc' := [(3, .int (-1)), (2, .int 4206), (0, .ref 0), (1, .int 2)]) (stk' := [.int 3, .int 2]) (mem' := fm gc1 tp bt a b) (by intro _ _ _; eq_refl) ?_
    refine fe_s 1 (pc' := cond (fx_cb .ne 2 3) 37 18) (lc' := [(3, .int (-1)), (2, .int 4206), (0, .ref 0), (1, .int 2)]) (stk' := []) (mem' := fm gc1 tp bt a b) (by intro _ _ _; eq_refl) ?_
    rw [show (fx_cb .ne 2 3) = true from by decide]
    dsimp only [cond]
    refine fe_s 5 (pc' := 47) (lc' := [(3, .int (-1)), (2, .int 4206), (0, .ref 0), (1, .int 2)]) (stk' := [.int 3368, .ref 1, .int 72, .ref 0]) (mem' := fm gc1 tp bt a b) (by intro _ _ _; eq_refl) ?_
    refine fe_ldI (by rfl) (by rfl) (fx_inN (i := 3368) (by omega) (by omega)) ?_
    rw [show Int32.toNatClampNeg (3368) = 3368 from rfl]
    rw [show a 1 3368 = nI (A.1.1.length) from hA.1.1]
    refine fe_s 1 (pc' := 49) (lc' := [(3, .int (-1)), (2, .int 4206), (0, .ref 0), (1, .int 2)]) (stk' := [.int 4206, .int (nI (A.1.1.length)), .int 72, .ref 0]) (mem' := fm gc1 tp bt a b) (by intro _ _ _; eq_refl) ?_
    obtain ⟨xc15, gc15, ac15, bc15, hrc15, txc15, ebc15, hxc15⟩ := mr_oldOne (t := 4206) (tp := tp) (bt := bt) hT hA hmc1 (by omega)
    rw [ebc15] at hrc15
    refine fe_ivV hrc15 (by omega) (by rfl) (by rfl) (by rfl) (by rfl) (by rfl) (by rfl) ?_
    rcases hxc15 with ⟨nnc15, ffc15, rfl, eac15, hmc15⟩ | ⟨nnc15, ffc15, rfl, eac15, hmc15⟩ | ⟨nnc15, rfl, eac15, hmc15⟩
    · exact absurd ffc15 foc2
    · rw [eac15]
      have hTw16 := mT_u (t := 1) (i := 4206) (x := (-1)) (by decide) hT
      have hAw16 := md_u (t := 4206) (x := (-1)) hA (by omega) (by omega) (fun c hc => by omega) (fun i hi => by omega) (fun i hi => by omega)
      refine fe_s 1 (pc' := cond (fx_cb .ne 0 0) 57 55) (lc' := [(3, .int (-1)), (2, .int 4206), (0, .ref 0), (1, .int 2)]) (stk' := []) (mem' := fm gc15 tp bt (fm_u a 1 4206 (-1)) b) (by intro _ _ _; eq_refl) ?_
      rw [show (fx_cb .ne 0 0) = false from by decide]
      dsimp only [cond]
      refine fe_s 1 (pc' := 56) (lc' := [(3, .int (-1)), (2, .int 4206), (0, .ref 0), (1, .int 2)]) (stk' := [.int 0]) (mem' := fm gc15 tp bt (fm_u a 1 4206 (-1)) b) (by intro _ _ _; eq_refl) ?_
      refine fe_ret ⟨0, _, _, _, ⟨(fm_tx8_tr (fm_tx8_tr fm_tx8_rf txc1) txc15), (mfa_u mfa_rf (by omega)), mfb_rf, Or.inr ⟨rfl, (3, sp_s T n (sp_n T n p)), ?_, hmc15⟩⟩, rfl⟩ (by rfl) (by rfl) (by rfl)
      unfold sp_pPair
      rw [sp_cell_3 nnc15 ffc15]
    · exact absurd nmc2 nnc15
  · refine fe_s 3 (pc' := 15) (lc' := [(3, .int (-1)), (2, .int 4206), (0, .ref 0), (1, .int 2)]) (stk' := [.int 3, .int 2]) (mem' := fm gc1 tp bt a b) (by intro _ _ _; eq_refl) ?_
    refine fe_s 1 (pc' := cond (fx_cb .ne 2 3) 37 18) (lc' := [(3, .int (-1)), (2, .int 4206), (0, .ref 0), (1, .int 2)]) (stk' := []) (mem' := fm gc1 tp bt a b) (by intro _ _ _; eq_refl) ?_
    rw [show (fx_cb .ne 2 3) = true from by decide]
    dsimp only [cond]
    refine fe_s 5 (pc' := 47) (lc' := [(3, .int (-1)), (2, .int 4206), (0, .ref 0), (1, .int 2)]) (stk' := [.int 3368, .ref 1, .int 72, .ref 0]) (mem' := fm gc1 tp bt a b) (by intro _ _ _; eq_refl) ?_
    refine fe_ldI (by rfl) (by rfl) (fx_inN (i := 3368) (by omega) (by omega)) ?_
    rw [show Int32.toNatClampNeg (3368) = 3368 from rfl]
    rw [show a 1 3368 = nI (A.1.1.length) from hA.1.1]
    refine fe_s 1 (pc' := 49) (lc' := [(3, .int (-1)), (2, .int 4206), (0, .ref 0), (1, .int 2)]) (stk' := [.int 4206, .int (nI (A.1.1.length)), .int 72, .ref 0]) (mem' := fm gc1 tp bt a b) (by intro _ _ _; eq_refl) ?_
    obtain ⟨xc17, gc17, ac17, bc17, hrc17, txc17, ebc17, hxc17⟩ := mr_oldOne (t := 4206) (tp := tp) (bt := bt) hT hA hmc1 (by omega)
    rw [ebc17] at hrc17
    refine fe_ivV hrc17 (by omega) (by rfl) (by rfl) (by rfl) (by rfl) (by rfl) (by rfl) ?_
    rcases hxc17 with ⟨nnc17, ffc17, rfl, eac17, hmc17⟩ | ⟨nnc17, ffc17, rfl, eac17, hmc17⟩ | ⟨nnc17, rfl, eac17, hmc17⟩
    · exact absurd nnc17 nmc2
    · exact absurd nnc17 nmc2
    · rw [eac17]
      refine fe_s 1 (pc' := cond (fx_cb .ne 0 0) 57 55) (lc' := [(3, .int (-1)), (2, .int 4206), (0, .ref 0), (1, .int 2)]) (stk' := []) (mem' := fm gc17 tp bt a b) (by intro _ _ _; eq_refl) ?_
      rw [show (fx_cb .ne 0 0) = false from by decide]
      dsimp only [cond]
      refine fe_s 1 (pc' := 56) (lc' := [(3, .int (-1)), (2, .int 4206), (0, .ref 0), (1, .int 2)]) (stk' := [.int 0]) (mem' := fm gc17 tp bt a b) (by intro _ _ _; eq_refl) ?_
      refine fe_ret ⟨0, _, _, _, ⟨(fm_tx8_tr (fm_tx8_tr fm_tx8_rf txc1) txc17), mfa_rf, mfb_rf, Or.inr ⟨rfl, (sp_m T n (sp_n T n p), sp_s T n (sp_n T n p)), ?_, hmc17⟩⟩, rfl⟩ (by rfl) (by rfl) (by rfl)
      unfold sp_pPair
      rw [sp_cell_f nnc17]
theorem mr_aCouple3 (hT : mT a T n) (hA : md_L 3368 72 A a b) (h : mo g T n p) (hst : s < 8 ∧ g 20 = nI (32 * s)) (hk : sp_k T n p = 1) : ∃ (v : Int32) (g' : Nat → Int32) (a' : Nat → Nat → Int32) (b' : Nat → Nat → Int64), fr_T 8 242 [.ref 0, .int 3] (fm g tp bt a b) (some (.int v)) (fm g' tp bt a' b') ∧ fm_tx8 g g' ∧ mfa a a' ∧ mfb b b' ∧ mPart T n (sp_pPair T n A s p true) v g' a' b' := by
  suffices h : ∃ (v : Option Value) (mem' : fx_M), (fun R => ∃ (v : Int32) (g' : Nat → Int32) (a' : Nat → Nat → Int32) (b' : Nat → Nat → Int64), (fm_tx8 g g' ∧ mfa a a' ∧ mfb b b' ∧ mPart T n (sp_pPair T n A s p true) v g' a' b') ∧ R = (some (.int v), fm g' tp bt a' b')) (v, mem') ∧ fr_T 8 242 [.ref 0, .int 3] (fm g tp bt a b) v mem' by
    obtain ⟨v, mem', ⟨w, g', a', b', h1, hR⟩, h2⟩ := h
    cases hR
    exact ⟨w, g', a', b', h2, h1⟩
  refine fe_meth (f := 242) (as := [.ref 0, .int 3]) (F := fun R => ∃ (v : Int32) (g' : Nat → Int32) (a' : Nat → Nat → Int32) (b' : Nat → Nat → Int64), (fm_tx8 g g' ∧ mfa a a' ∧ mfb b b' ∧ mPart T n (sp_pPair T n A s p true) v g' a' b') ∧ R = (some (.int v), fm g' tp bt a' b')) (M := gk_m242) (by rfl) (by rfl) ?_
  have hq0 := hA.1.2.1
  have hq1 := hA.1.2.2.2
  refine fe_s 3 (pc' := 5) (lc' := [(2, .int 4206), (0, .ref 0), (1, .int 3)]) (stk' := [.ref 0]) (mem' := fm g tp bt a b) (by intro _ _ _; eq_refl) ?_
  obtain ⟨gc1, hrc1, txc1, hmc1⟩ := mr_aheado (tp := tp) (bt := bt) (b := b) hT h (by omega)
  refine fe_ivV hrc1 (by omega) (by rfl) (by rfl) (by rfl) (by rfl) (by rfl) (by rfl) ?_
  refine fe_s 1 (pc' := 9) (lc' := [(2, .int 4206), (0, .ref 0), (1, .int 3)]) (stk' := [.ref 0]) (mem' := fm gc1 tp bt a b) (by intro _ _ _; eq_refl) ?_
  obtain ⟨xc2, hrc2, hxc2⟩ := mr_cellHere (tp := tp) (bt := bt) hT hA hmc1
  refine fe_ivV hrc2 (by omega) (by rfl) (by rfl) (by rfl) (by rfl) (by rfl) (by rfl) ?_
  rcases hxc2 with ⟨nmc2, foc2, rfl⟩ | ⟨nmc2, foc2, rfl⟩ | ⟨nmc2, rfl⟩
  · have nkc2 := nmc2.1
    refine fe_s 3 (pc' := 15) (lc' := [(3, .int (nI (sp_iC A.1.1 (sp_wd T n (sp_n T n p))))), (2, .int 4206), (0, .ref 0), (1, .int 3)]) (stk' := [.int 3, .int 3]) (mem' := fm gc1 tp bt a b) (by intro _ _ _; eq_refl) ?_
    refine fe_s 1 (pc' := cond (fx_cb .ne 3 3) 37 18) (lc' := [(3, .int (nI (sp_iC A.1.1 (sp_wd T n (sp_n T n p))))), (2, .int 4206), (0, .ref 0), (1, .int 3)]) (stk' := []) (mem' := fm gc1 tp bt a b) (by intro _ _ _; eq_refl) ?_
    rw [show (fx_cb .ne 3 3) = false from by decide]
    dsimp only [cond]
    refine fe_s 2 (pc' := 20) (lc' := [(3, .int (nI (sp_iC A.1.1 (sp_wd T n (sp_n T n p))))), (2, .int 4206), (0, .ref 0), (1, .int 3)]) (stk' := [.int (-1), .int (nI (sp_iC A.1.1 (sp_wd T n (sp_n T n p))))]) (mem' := fm gc1 tp bt a b) (by intro _ _ _; eq_refl) ?_
    refine fe_s 1 (pc' := cond (fx_cb .eq (nI (sp_iC A.1.1 (sp_wd T n (sp_n T n p)))) (-1)) 37 23) (lc' := [(3, .int (nI (sp_iC A.1.1 (sp_wd T n (sp_n T n p))))), (2, .int 4206), (0, .ref 0), (1, .int 3)]) (stk' := []) (mem' := fm gc1 tp bt a b) (by intro _ _ _; eq_refl) ?_
    rw [show (fx_cb .eq (nI (sp_iC A.1.1 (sp_wd T n (sp_n T n p)))) (-1)) = false from cb_n_eq (by omega) (by decide)]
    dsimp only [cond]
    refine fe_s 2 (pc' := 25) (lc' := [(3, .int (nI (sp_iC A.1.1 (sp_wd T n (sp_n T n p))))), (2, .int 4206), (0, .ref 0), (1, .int 3)]) (stk' := [.int (nI (sp_iC A.1.1 (sp_wd T n (sp_n T n p)))), .ref 0]) (mem' := fm gc1 tp bt a b) (by intro _ _ _; eq_refl) ?_
    have hrc3 := mr_isNewShore (g := gc1) (tp := tp) (bt := bt) hA foc2
    cases hsc3 : sp_sh A (sp_iC A.1.1 (sp_wd T n (sp_n T n p)))
    · rw [hsc3, if_neg (by decide)] at hrc3
      refine fe_ivV hrc3 (by omega) (by rfl) (by rfl) (by rfl) (by rfl) (by rfl) (by rfl) ?_
      refine fe_s 1 (pc' := cond (fx_cb .eq 0 0) 37 31) (lc' := [(3, .int (nI (sp_iC A.1.1 (sp_wd T n (sp_n T n p))))), (2, .int 4206), (0, .ref 0), (1, .int 3)]) (stk' := []) (mem' := fm gc1 tp bt a b) (by intro _ _ _; eq_refl) ?_
      rw [show (fx_cb .eq 0 0) = true from by decide]
      dsimp only [cond]
      refine fe_s 5 (pc' := 47) (lc' := [(3, .int (nI (sp_iC A.1.1 (sp_wd T n (sp_n T n p))))), (2, .int 4206), (0, .ref 0), (1, .int 3)]) (stk' := [.int 3368, .ref 1, .int 72, .ref 0]) (mem' := fm gc1 tp bt a b) (by intro _ _ _; eq_refl) ?_
      refine fe_ldI (by rfl) (by rfl) (fx_inN (i := 3368) (by omega) (by omega)) ?_
      rw [show Int32.toNatClampNeg (3368) = 3368 from rfl]
      rw [show a 1 3368 = nI (A.1.1.length) from hA.1.1]
      refine fe_s 1 (pc' := 49) (lc' := [(3, .int (nI (sp_iC A.1.1 (sp_wd T n (sp_n T n p))))), (2, .int 4206), (0, .ref 0), (1, .int 3)]) (stk' := [.int 4206, .int (nI (A.1.1.length)), .int 72, .ref 0]) (mem' := fm gc1 tp bt a b) (by intro _ _ _; eq_refl) ?_
      obtain ⟨xc4, gc4, ac4, bc4, hrc4, txc4, ebc4, hxc4⟩ := mr_oldOne (t := 4206) (tp := tp) (bt := bt) hT hA hmc1 (by omega)
      rw [ebc4] at hrc4
      refine fe_ivV hrc4 (by omega) (by rfl) (by rfl) (by rfl) (by rfl) (by rfl) (by rfl) ?_
      rcases hxc4 with ⟨nnc4, ffc4, rfl, eac4, hmc4⟩ | ⟨nnc4, ffc4, rfl, eac4, hmc4⟩ | ⟨nnc4, rfl, eac4, hmc4⟩
      · rw [eac4]
        have hTw5 := mT_u (t := 1) (i := 4206) (x := nI (sp_iC A.1.1 (sp_wd T n (sp_n T n p)))) (by decide) hT
        have hAw5 := md_u (t := 4206) (x := nI (sp_iC A.1.1 (sp_wd T n (sp_n T n p)))) hA (by omega) (by omega) (fun c hc => by omega) (fun i hi => by omega) (fun i hi => by omega)
        refine fe_s 1 (pc' := cond (fx_cb .ne 1 0) 57 55) (lc' := [(3, .int (nI (sp_iC A.1.1 (sp_wd T n (sp_n T n p))))), (2, .int 4206), (0, .ref 0), (1, .int 3)]) (stk' := []) (mem' := fm gc4 tp bt (fm_u a 1 4206 (nI (sp_iC A.1.1 (sp_wd T n (sp_n T n p))))) b) (by intro _ _ _; eq_refl) ?_
        rw [show (fx_cb .ne 1 0) = true from by decide]
        dsimp only [cond]
        refine fe_s 1 (pc' := 58) (lc' := [(3, .int (nI (sp_iC A.1.1 (sp_wd T n (sp_n T n p))))), (2, .int 4206), (0, .ref 0), (1, .int 3)]) (stk' := [.ref 0]) (mem' := fm gc4 tp bt (fm_u a 1 4206 (nI (sp_iC A.1.1 (sp_wd T n (sp_n T n p))))) b) (by intro _ _ _; eq_refl) ?_
        obtain ⟨xc6, hrc6, hxc6⟩ := mr_cellHere (tp := tp) (bt := bt) hTw5 hAw5 hmc4
        refine fe_ivV hrc6 (by omega) (by rfl) (by rfl) (by rfl) (by rfl) (by rfl) (by rfl) ?_
        rcases hxc6 with ⟨nmc6, foc6, rfl⟩ | ⟨nmc6, foc6, rfl⟩ | ⟨nmc6, rfl⟩
        · have nkc6 := nmc6.1
          refine fe_s 3 (pc' := 66) (lc' := [(4, .int (nI (sp_iC A.1.1 (sp_wd T n (sp_n T n (sp_n T n p)))))), (3, .int (nI (sp_iC A.1.1 (sp_wd T n (sp_n T n p))))), (2, .int 4206), (0, .ref 0), (1, .int 3)]) (stk' := [.int (-1), .int (nI (sp_iC A.1.1 (sp_wd T n (sp_n T n (sp_n T n p)))))]) (mem' := fm gc4 tp bt (fm_u a 1 4206 (nI (sp_iC A.1.1 (sp_wd T n (sp_n T n p))))) b) (by intro _ _ _; eq_refl) ?_
          refine fe_s 1 (pc' := cond (fx_cb .eq (nI (sp_iC A.1.1 (sp_wd T n (sp_n T n (sp_n T n p))))) (-1)) 95 69) (lc' := [(4, .int (nI (sp_iC A.1.1 (sp_wd T n (sp_n T n (sp_n T n p)))))), (3, .int (nI (sp_iC A.1.1 (sp_wd T n (sp_n T n p))))), (2, .int 4206), (0, .ref 0), (1, .int 3)]) (stk' := []) (mem' := fm gc4 tp bt (fm_u a 1 4206 (nI (sp_iC A.1.1 (sp_wd T n (sp_n T n p))))) b) (by intro _ _ _; eq_refl) ?_
          rw [show (fx_cb .eq (nI (sp_iC A.1.1 (sp_wd T n (sp_n T n (sp_n T n p))))) (-1)) = false from cb_n_eq (by omega) (by decide)]
          dsimp only [cond]
          refine fe_s 2 (pc' := 72) (lc' := [(4, .int (nI (sp_iC A.1.1 (sp_wd T n (sp_n T n (sp_n T n p)))))), (3, .int (nI (sp_iC A.1.1 (sp_wd T n (sp_n T n p))))), (2, .int 4206), (0, .ref 0), (1, .int 3)]) (stk' := [.int (nI (sp_iC A.1.1 (sp_wd T n (sp_n T n p)))), .int (nI (sp_iC A.1.1 (sp_wd T n (sp_n T n (sp_n T n p)))))]) (mem' := fm gc4 tp bt (fm_u a 1 4206 (nI (sp_iC A.1.1 (sp_wd T n (sp_n T n p))))) b) (by intro _ _ _; eq_refl) ?_
          refine fe_s 1 (pc' := cond (fx_cb .eq (nI (sp_iC A.1.1 (sp_wd T n (sp_n T n (sp_n T n p))))) (nI (sp_iC A.1.1 (sp_wd T n (sp_n T n p))))) 89 75) (lc' := [(4, .int (nI (sp_iC A.1.1 (sp_wd T n (sp_n T n (sp_n T n p)))))), (3, .int (nI (sp_iC A.1.1 (sp_wd T n (sp_n T n p))))), (2, .int 4206), (0, .ref 0), (1, .int 3)]) (stk' := []) (mem' := fm gc4 tp bt (fm_u a 1 4206 (nI (sp_iC A.1.1 (sp_wd T n (sp_n T n p))))) b) (by intro _ _ _; eq_refl) ?_
          by_cases y7 : (sp_iC A.1.1 (sp_wd T n (sp_n T n (sp_n T n p)))) = (sp_iC A.1.1 (sp_wd T n (sp_n T n p)))
          · rw [show (fx_cb .eq (nI (sp_iC A.1.1 (sp_wd T n (sp_n T n (sp_n T n p))))) (nI (sp_iC A.1.1 (sp_wd T n (sp_n T n p))))) = true from cb_eqT (a := (sp_iC A.1.1 (sp_wd T n (sp_n T n (sp_n T n p))))) (b := (sp_iC A.1.1 (sp_wd T n (sp_n T n p)))) (by omega) (by omega) (by omega)]
            dsimp only [cond]
            refine fe_s 2 (pc' := 91) (lc' := [(4, .int (nI (sp_iC A.1.1 (sp_wd T n (sp_n T n (sp_n T n p)))))), (3, .int (nI (sp_iC A.1.1 (sp_wd T n (sp_n T n p))))), (2, .int 4206), (0, .ref 0), (1, .int 3)]) (stk' := [.int 5, .ref 0]) (mem' := fm gc4 tp bt (fm_u a 1 4206 (nI (sp_iC A.1.1 (sp_wd T n (sp_n T n p))))) b) (by intro _ _ _; eq_refl) ?_
            obtain ⟨gc8, hrc8, txc8, hmc8⟩ := mr_failsx (tp := tp) (bt := bt) (a := (fm_u a 1 4206 (nI (sp_iC A.1.1 (sp_wd T n (sp_n T n p)))))) (b := b) (x := 5) hmc4 (by decide) (by omega)
            refine fe_ivV hrc8 (by omega) (by rfl) (by rfl) (by rfl) (by rfl) (by rfl) (by rfl) ?_
            refine fe_ret ⟨0, _, _, _, ⟨(fm_tx8_tr (fm_tx8_tr (fm_tx8_tr fm_tx8_rf txc1) txc4) txc8), (mfa_u mfa_rf (by omega)), mfb_rf, Or.inr ⟨rfl, (5, sp_s T n (sp_n T n (sp_n T n p))), ?_, hmc8⟩⟩, rfl⟩ (by rfl) (by rfl) (by rfl)
            unfold sp_pPair
            rw [sp_cell_t nnc4 ffc4, if_neg (fun z => by rw [hsc3] at z; exact absurd z.2 (by decide)), sp_cell_t nmc6 foc6, if_pos (Or.inl (by omega))]
            try rfl
          · rw [show (fx_cb .eq (nI (sp_iC A.1.1 (sp_wd T n (sp_n T n (sp_n T n p))))) (nI (sp_iC A.1.1 (sp_wd T n (sp_n T n p))))) = false from cb_eqF (a := (sp_iC A.1.1 (sp_wd T n (sp_n T n (sp_n T n p))))) (b := (sp_iC A.1.1 (sp_wd T n (sp_n T n p)))) (by omega) (by omega) (by omega)]
            dsimp only [cond]
            refine fe_s 2 (pc' := 77) (lc' := [(4, .int (nI (sp_iC A.1.1 (sp_wd T n (sp_n T n (sp_n T n p)))))), (3, .int (nI (sp_iC A.1.1 (sp_wd T n (sp_n T n p))))), (2, .int 4206), (0, .ref 0), (1, .int 3)]) (stk' := [.int 3, .int 3]) (mem' := fm gc4 tp bt (fm_u a 1 4206 (nI (sp_iC A.1.1 (sp_wd T n (sp_n T n p))))) b) (by intro _ _ _; eq_refl) ?_
            refine fe_s 1 (pc' := cond (fx_cb .ne 3 3) 95 80) (lc' := [(4, .int (nI (sp_iC A.1.1 (sp_wd T n (sp_n T n (sp_n T n p)))))), (3, .int (nI (sp_iC A.1.1 (sp_wd T n (sp_n T n p))))), (2, .int 4206), (0, .ref 0), (1, .int 3)]) (stk' := []) (mem' := fm gc4 tp bt (fm_u a 1 4206 (nI (sp_iC A.1.1 (sp_wd T n (sp_n T n p))))) b) (by intro _ _ _; eq_refl) ?_
            rw [show (fx_cb .ne 3 3) = false from by decide]
            dsimp only [cond]
            refine fe_s 2 (pc' := 83) (lc' := [(4, .int (nI (sp_iC A.1.1 (sp_wd T n (sp_n T n (sp_n T n p)))))), (3, .int (nI (sp_iC A.1.1 (sp_wd T n (sp_n T n p))))), (2, .int 4206), (0, .ref 0), (1, .int 3)]) (stk' := [.int (nI (sp_iC A.1.1 (sp_wd T n (sp_n T n (sp_n T n p))))), .ref 0]) (mem' := fm gc4 tp bt (fm_u a 1 4206 (nI (sp_iC A.1.1 (sp_wd T n (sp_n T n p))))) b) (by intro _ _ _; eq_refl) ?_
            have hrc9 := mr_isNewShore (g := gc4) (tp := tp) (bt := bt) hAw5 foc6
            cases hsc9 : sp_sh A (sp_iC A.1.1 (sp_wd T n (sp_n T n (sp_n T n p))))
            · rw [hsc9, if_neg (by decide)] at hrc9
              refine fe_ivV hrc9 (by omega) (by rfl) (by rfl) (by rfl) (by rfl) (by rfl) (by rfl) ?_
              refine fe_s 1 (pc' := cond (fx_cb .eq 0 0) 95 89) (lc' := [(4, .int (nI (sp_iC A.1.1 (sp_wd T n (sp_n T n (sp_n T n p)))))), (3, .int (nI (sp_iC A.1.1 (sp_wd T n (sp_n T n p))))), (2, .int 4206), (0, .ref 0), (1, .int 3)]) (stk' := []) (mem' := fm gc4 tp bt (fm_u a 1 4206 (nI (sp_iC A.1.1 (sp_wd T n (sp_n T n p))))) b) (by intro _ _ _; eq_refl) ?_
              rw [show (fx_cb .eq 0 0) = true from by decide]
              dsimp only [cond]
              refine fe_s 5 (pc' := 105) (lc' := [(4, .int (nI (sp_iC A.1.1 (sp_wd T n (sp_n T n (sp_n T n p)))))), (3, .int (nI (sp_iC A.1.1 (sp_wd T n (sp_n T n p))))), (2, .int 4206), (0, .ref 0), (1, .int 3)]) (stk' := [.int 3368, .ref 1, .int 72, .ref 0]) (mem' := fm gc4 tp bt (fm_u a 1 4206 (nI (sp_iC A.1.1 (sp_wd T n (sp_n T n p))))) b) (by intro _ _ _; eq_refl) ?_
              refine fe_ldI (by rfl) (by rfl) (fx_inN (i := 3368) (by omega) (by omega)) ?_
              rw [show Int32.toNatClampNeg (3368) = 3368 from rfl]
              rw [show (fm_u a 1 4206 (nI (sp_iC A.1.1 (sp_wd T n (sp_n T n p))))) 1 3368 = nI (A.1.1.length) from hAw5.1.1]
              refine fe_s 3 (pc' := 109) (lc' := [(4, .int (nI (sp_iC A.1.1 (sp_wd T n (sp_n T n (sp_n T n p)))))), (3, .int (nI (sp_iC A.1.1 (sp_wd T n (sp_n T n p))))), (2, .int 4206), (0, .ref 0), (1, .int 3)]) (stk' := [.int (4206 + 1), .int (nI (A.1.1.length)), .int 72, .ref 0]) (mem' := fm gc4 tp bt (fm_u a 1 4206 (nI (sp_iC A.1.1 (sp_wd T n (sp_n T n p))))) b) (by intro _ _ _; eq_refl) ?_
              rw [show (4206 + 1 : Int32) = 4207 from rfl]
              obtain ⟨xc10, gc10, ac10, bc10, hrc10, txc10, ebc10, hxc10⟩ := mr_oldOne (t := 4207) (tp := tp) (bt := bt) hTw5 hAw5 hmc4 (by omega)
              rw [ebc10] at hrc10
              refine fe_ivV hrc10 (by omega) (by rfl) (by rfl) (by rfl) (by rfl) (by rfl) (by rfl) ?_
              rcases hxc10 with ⟨nnc10, ffc10, rfl, eac10, hmc10⟩ | ⟨nnc10, ffc10, rfl, eac10, hmc10⟩ | ⟨nnc10, rfl, eac10, hmc10⟩
              · rw [eac10]
                have hTw11 := mT_u (t := 1) (i := 4207) (x := nI (sp_iC A.1.1 (sp_wd T n (sp_n T n (sp_n T n p))))) (by decide) hTw5
                have hAw11 := md_u (t := 4207) (x := nI (sp_iC A.1.1 (sp_wd T n (sp_n T n (sp_n T n p))))) hAw5 (by omega) (by omega) (fun c hc => by omega) (fun i hi => by omega) (fun i hi => by omega)
                refine fe_s 1 (pc' := cond (fx_cb .ne 1 0) 117 115) (lc' := [(4, .int (nI (sp_iC A.1.1 (sp_wd T n (sp_n T n (sp_n T n p)))))), (3, .int (nI (sp_iC A.1.1 (sp_wd T n (sp_n T n p))))), (2, .int 4206), (0, .ref 0), (1, .int 3)]) (stk' := []) (mem' := fm gc10 tp bt (fm_u (fm_u a 1 4206 (nI (sp_iC A.1.1 (sp_wd T n (sp_n T n p))))) 1 4207 (nI (sp_iC A.1.1 (sp_wd T n (sp_n T n (sp_n T n p)))))) b) (by intro _ _ _; eq_refl) ?_
                rw [show (fx_cb .ne 1 0) = true from by decide]
                dsimp only [cond]
                refine fe_s 10 (pc' := 132) (lc' := [(4, .int (nI (sp_iC A.1.1 (sp_wd T n (sp_n T n (sp_n T n p)))))), (3, .int (nI (sp_iC A.1.1 (sp_wd T n (sp_n T n p))))), (2, .int 4206), (0, .ref 0), (1, .int 3)]) (stk' := [.int ((3376 + (6 * (nI (sp_iC A.1.1 (sp_wd T n (sp_n T n p)))))) + 3), .ref 1, .int ((3376 + (6 * (nI (sp_iC A.1.1 (sp_wd T n (sp_n T n p)))))) + 3), .ref 1]) (mem' := fm gc10 tp bt (fm_u (fm_u a 1 4206 (nI (sp_iC A.1.1 (sp_wd T n (sp_n T n p))))) 1 4207 (nI (sp_iC A.1.1 (sp_wd T n (sp_n T n (sp_n T n p)))))) b) (by intro _ _ _; eq_refl) ?_
                rw [show ((3376 + (6 * (nI (sp_iC A.1.1 (sp_wd T n (sp_n T n p)))))) + 3 : Int32) = nI ((3376 + (6 * (sp_iC A.1.1 (sp_wd T n (sp_n T n p))))) + 3) from by simp only [show (3376 : Int32) = nI 3376 from rfl, show (6 : Int32) = nI 6 from rfl, show (3 : Int32) = nI 3 from rfl, nI_add, fm_mul]]
                refine fe_ldI (by rfl) (by rfl) (fx_inN (i := (3376 + (6 * (sp_iC A.1.1 (sp_wd T n (sp_n T n p))))) + 3) (by omega) (by omega)) ?_
                rw [show Int32.toNatClampNeg (nI ((3376 + (6 * (sp_iC A.1.1 (sp_wd T n (sp_n T n p))))) + 3)) = (3376 + (6 * (sp_iC A.1.1 (sp_wd T n (sp_n T n p))))) + 3 from nI_clamp (by omega)]
                refine fe_s 4 (pc' := 138) (lc' := [(4, .int (nI (sp_iC A.1.1 (sp_wd T n (sp_n T n (sp_n T n p)))))), (3, .int (nI (sp_iC A.1.1 (sp_wd T n (sp_n T n p))))), (2, .int 4206), (0, .ref 0), (1, .int 3)]) (stk' := [.int (((fm_u (fm_u a 1 4206 (nI (sp_iC A.1.1 (sp_wd T n (sp_n T n p))))) 1 4207 (nI (sp_iC A.1.1 (sp_wd T n (sp_n T n (sp_n T n p)))))) 1 ((3376 + (6 * (sp_iC A.1.1 (sp_wd T n (sp_n T n p))))) + 3)) ||| ((1 : Int32) <<< ((nI (sp_iC A.1.1 (sp_wd T n (sp_n T n (sp_n T n p))))) &&& 31))), .int (nI ((3376 + (6 * (sp_iC A.1.1 (sp_wd T n (sp_n T n p))))) + 3)), .ref 1]) (mem' := fm gc10 tp bt (fm_u (fm_u a 1 4206 (nI (sp_iC A.1.1 (sp_wd T n (sp_n T n p))))) 1 4207 (nI (sp_iC A.1.1 (sp_wd T n (sp_n T n (sp_n T n p)))))) b) (by intro _ _ _; eq_refl) ?_
                refine fe_stI (mem' := fm gc10 tp bt (fm_u (fm_u (fm_u a 1 4206 (nI (sp_iC A.1.1 (sp_wd T n (sp_n T n p))))) 1 4207 (nI (sp_iC A.1.1 (sp_wd T n (sp_n T n (sp_n T n p)))))) 1 (nI ((3376 + (6 * (sp_iC A.1.1 (sp_wd T n (sp_n T n p))))) + 3) : Int32).toNatClampNeg (((fm_u (fm_u a 1 4206 (nI (sp_iC A.1.1 (sp_wd T n (sp_n T n p))))) 1 4207 (nI (sp_iC A.1.1 (sp_wd T n (sp_n T n (sp_n T n p)))))) 1 ((3376 + (6 * (sp_iC A.1.1 (sp_wd T n (sp_n T n p))))) + 3)) ||| ((1 : Int32) <<< ((nI (sp_iC A.1.1 (sp_wd T n (sp_n T n (sp_n T n p))))) &&& 31)))) b) (by rfl) (by rfl) (fx_inN (i := (3376 + (6 * (sp_iC A.1.1 (sp_wd T n (sp_n T n p))))) + 3) (by omega) (by omega)) fm_si1 ?_
                rw [show Int32.toNatClampNeg (nI ((3376 + (6 * (sp_iC A.1.1 (sp_wd T n (sp_n T n p))))) + 3)) = (3376 + (6 * (sp_iC A.1.1 (sp_wd T n (sp_n T n p))))) + 3 from nI_clamp (by omega)]
                have hTw12 := mT_u (t := 1) (i := (3376 + (6 * (sp_iC A.1.1 (sp_wd T n (sp_n T n p))))) + 3) (x := ((fm_u (fm_u a 1 4206 (nI (sp_iC A.1.1 (sp_wd T n (sp_n T n p))))) 1 4207 (nI (sp_iC A.1.1 (sp_wd T n (sp_n T n (sp_n T n p)))))) 1 ((3376 + (6 * (sp_iC A.1.1 (sp_wd T n (sp_n T n p))))) + 3)) ||| ((1 : Int32) <<< ((nI (sp_iC A.1.1 (sp_wd T n (sp_n T n (sp_n T n p))))) &&& 31))) (by decide) hTw11
                refine fe_s 10 (pc' := 155) (lc' := [(4, .int (nI (sp_iC A.1.1 (sp_wd T n (sp_n T n (sp_n T n p)))))), (3, .int (nI (sp_iC A.1.1 (sp_wd T n (sp_n T n p))))), (2, .int 4206), (0, .ref 0), (1, .int 3)]) (stk' := [.int ((3376 + (6 * (nI (sp_iC A.1.1 (sp_wd T n (sp_n T n (sp_n T n p))))))) + 3), .ref 1, .int ((3376 + (6 * (nI (sp_iC A.1.1 (sp_wd T n (sp_n T n (sp_n T n p))))))) + 3), .ref 1]) (mem' := fm gc10 tp bt (fm_u (fm_u (fm_u a 1 4206 (nI (sp_iC A.1.1 (sp_wd T n (sp_n T n p))))) 1 4207 (nI (sp_iC A.1.1 (sp_wd T n (sp_n T n (sp_n T n p)))))) 1 ((3376 + (6 * (sp_iC A.1.1 (sp_wd T n (sp_n T n p))))) + 3) (((fm_u (fm_u a 1 4206 (nI (sp_iC A.1.1 (sp_wd T n (sp_n T n p))))) 1 4207 (nI (sp_iC A.1.1 (sp_wd T n (sp_n T n (sp_n T n p)))))) 1 ((3376 + (6 * (sp_iC A.1.1 (sp_wd T n (sp_n T n p))))) + 3)) ||| ((1 : Int32) <<< ((nI (sp_iC A.1.1 (sp_wd T n (sp_n T n (sp_n T n p))))) &&& 31)))) b) (by intro _ _ _; eq_refl) ?_
                rw [show ((3376 + (6 * (nI (sp_iC A.1.1 (sp_wd T n (sp_n T n (sp_n T n p))))))) + 3 : Int32) = nI ((3376 + (6 * (sp_iC A.1.1 (sp_wd T n (sp_n T n (sp_n T n p)))))) + 3) from by simp only [show (3376 : Int32) = nI 3376 from rfl, show (6 : Int32) = nI 6 from rfl, show (3 : Int32) = nI 3 from rfl, nI_add, fm_mul]]
                refine fe_ldI (by rfl) (by rfl) (fx_inN (i := (3376 + (6 * (sp_iC A.1.1 (sp_wd T n (sp_n T n (sp_n T n p)))))) + 3) (by omega) (by omega)) ?_
                rw [show Int32.toNatClampNeg (nI ((3376 + (6 * (sp_iC A.1.1 (sp_wd T n (sp_n T n (sp_n T n p)))))) + 3)) = (3376 + (6 * (sp_iC A.1.1 (sp_wd T n (sp_n T n (sp_n T n p)))))) + 3 from nI_clamp (by omega)]
                refine fe_s 4 (pc' := 160) (lc' := [(4, .int (nI (sp_iC A.1.1 (sp_wd T n (sp_n T n (sp_n T n p)))))), (3, .int (nI (sp_iC A.1.1 (sp_wd T n (sp_n T n p))))), (2, .int 4206), (0, .ref 0), (1, .int 3)]) (stk' := [.int (((fm_u (fm_u (fm_u a 1 4206 (nI (sp_iC A.1.1 (sp_wd T n (sp_n T n p))))) 1 4207 (nI (sp_iC A.1.1 (sp_wd T n (sp_n T n (sp_n T n p)))))) 1 ((3376 + (6 * (sp_iC A.1.1 (sp_wd T n (sp_n T n p))))) + 3) (((fm_u (fm_u a 1 4206 (nI (sp_iC A.1.1 (sp_wd T n (sp_n T n p))))) 1 4207 (nI (sp_iC A.1.1 (sp_wd T n (sp_n T n (sp_n T n p)))))) 1 ((3376 + (6 * (sp_iC A.1.1 (sp_wd T n (sp_n T n p))))) + 3)) ||| ((1 : Int32) <<< ((nI (sp_iC A.1.1 (sp_wd T n (sp_n T n (sp_n T n p))))) &&& 31)))) 1 ((3376 + (6 * (sp_iC A.1.1 (sp_wd T n (sp_n T n (sp_n T n p)))))) + 3)) ||| ((1 : Int32) <<< ((nI (sp_iC A.1.1 (sp_wd T n (sp_n T n p)))) &&& 31))), .int (nI ((3376 + (6 * (sp_iC A.1.1 (sp_wd T n (sp_n T n (sp_n T n p)))))) + 3)), .ref 1]) (mem' := fm gc10 tp bt (fm_u (fm_u (fm_u a 1 4206 (nI (sp_iC A.1.1 (sp_wd T n (sp_n T n p))))) 1 4207 (nI (sp_iC A.1.1 (sp_wd T n (sp_n T n (sp_n T n p)))))) 1 ((3376 + (6 * (sp_iC A.1.1 (sp_wd T n (sp_n T n p))))) + 3) (((fm_u (fm_u a 1 4206 (nI (sp_iC A.1.1 (sp_wd T n (sp_n T n p))))) 1 4207 (nI (sp_iC A.1.1 (sp_wd T n (sp_n T n (sp_n T n p)))))) 1 ((3376 + (6 * (sp_iC A.1.1 (sp_wd T n (sp_n T n p))))) + 3)) ||| ((1 : Int32) <<< ((nI (sp_iC A.1.1 (sp_wd T n (sp_n T n (sp_n T n p))))) &&& 31)))) b) (by intro _ _ _; eq_refl) ?_
                refine fe_stI (mem' := fm gc10 tp bt (fm_u (fm_u (fm_u (fm_u a 1 4206 (nI (sp_iC A.1.1 (sp_wd T n (sp_n T n p))))) 1 4207 (nI (sp_iC A.1.1 (sp_wd T n (sp_n T n (sp_n T n p)))))) 1 ((3376 + (6 * (sp_iC A.1.1 (sp_wd T n (sp_n T n p))))) + 3) (((fm_u (fm_u a 1 4206 (nI (sp_iC A.1.1 (sp_wd T n (sp_n T n p))))) 1 4207 (nI (sp_iC A.1.1 (sp_wd T n (sp_n T n (sp_n T n p)))))) 1 ((3376 + (6 * (sp_iC A.1.1 (sp_wd T n (sp_n T n p))))) + 3)) ||| ((1 : Int32) <<< ((nI (sp_iC A.1.1 (sp_wd T n (sp_n T n (sp_n T n p))))) &&& 31)))) 1 (nI ((3376 + (6 * (sp_iC A.1.1 (sp_wd T n (sp_n T n (sp_n T n p)))))) + 3) : Int32).toNatClampNeg (((fm_u (fm_u (fm_u a 1 4206 (nI (sp_iC A.1.1 (sp_wd T n (sp_n T n p))))) 1 4207 (nI (sp_iC A.1.1 (sp_wd T n (sp_n T n (sp_n T n p)))))) 1 ((3376 + (6 * (sp_iC A.1.1 (sp_wd T n (sp_n T n p))))) + 3) (((fm_u (fm_u a 1 4206 (nI (sp_iC A.1.1 (sp_wd T n (sp_n T n p))))) 1 4207 (nI (sp_iC A.1.1 (sp_wd T n (sp_n T n (sp_n T n p)))))) 1 ((3376 + (6 * (sp_iC A.1.1 (sp_wd T n (sp_n T n p))))) + 3)) ||| ((1 : Int32) <<< ((nI (sp_iC A.1.1 (sp_wd T n (sp_n T n (sp_n T n p))))) &&& 31)))) 1 ((3376 + (6 * (sp_iC A.1.1 (sp_wd T n (sp_n T n (sp_n T n p)))))) + 3)) ||| ((1 : Int32) <<< ((nI (sp_iC A.1.1 (sp_wd T n (sp_n T n p)))) &&& 31)))) b) (by rfl) (by rfl) (fx_inN (i := (3376 + (6 * (sp_iC A.1.1 (sp_wd T n (sp_n T n (sp_n T n p)))))) + 3) (by omega) (by omega)) fm_si1 ?_
                rw [show Int32.toNatClampNeg (nI ((3376 + (6 * (sp_iC A.1.1 (sp_wd T n (sp_n T n (sp_n T n p)))))) + 3)) = (3376 + (6 * (sp_iC A.1.1 (sp_wd T n (sp_n T n (sp_n T n p)))))) + 3 from nI_clamp (by omega)]
                have hTw13 := mT_u (t := 1) (i := (3376 + (6 * (sp_iC A.1.1 (sp_wd T n (sp_n T n (sp_n T n p)))))) + 3) (x := ((fm_u (fm_u (fm_u a 1 4206 (nI (sp_iC A.1.1 (sp_wd T n (sp_n T n p))))) 1 4207 (nI (sp_iC A.1.1 (sp_wd T n (sp_n T n (sp_n T n p)))))) 1 ((3376 + (6 * (sp_iC A.1.1 (sp_wd T n (sp_n T n p))))) + 3) (((fm_u (fm_u a 1 4206 (nI (sp_iC A.1.1 (sp_wd T n (sp_n T n p))))) 1 4207 (nI (sp_iC A.1.1 (sp_wd T n (sp_n T n (sp_n T n p)))))) 1 ((3376 + (6 * (sp_iC A.1.1 (sp_wd T n (sp_n T n p))))) + 3)) ||| ((1 : Int32) <<< ((nI (sp_iC A.1.1 (sp_wd T n (sp_n T n (sp_n T n p))))) &&& 31)))) 1 ((3376 + (6 * (sp_iC A.1.1 (sp_wd T n (sp_n T n (sp_n T n p)))))) + 3)) ||| ((1 : Int32) <<< ((nI (sp_iC A.1.1 (sp_wd T n (sp_n T n p)))) &&& 31))) (by decide) hTw12
                refine fe_s 1 (pc' := 162) (lc' := [(4, .int (nI (sp_iC A.1.1 (sp_wd T n (sp_n T n (sp_n T n p)))))), (3, .int (nI (sp_iC A.1.1 (sp_wd T n (sp_n T n p))))), (2, .int 4206), (0, .ref 0), (1, .int 3)]) (stk' := [.int 1]) (mem' := fm gc10 tp bt (fm_u (fm_u (fm_u (fm_u a 1 4206 (nI (sp_iC A.1.1 (sp_wd T n (sp_n T n p))))) 1 4207 (nI (sp_iC A.1.1 (sp_wd T n (sp_n T n (sp_n T n p)))))) 1 ((3376 + (6 * (sp_iC A.1.1 (sp_wd T n (sp_n T n p))))) + 3) (((fm_u (fm_u a 1 4206 (nI (sp_iC A.1.1 (sp_wd T n (sp_n T n p))))) 1 4207 (nI (sp_iC A.1.1 (sp_wd T n (sp_n T n (sp_n T n p)))))) 1 ((3376 + (6 * (sp_iC A.1.1 (sp_wd T n (sp_n T n p))))) + 3)) ||| ((1 : Int32) <<< ((nI (sp_iC A.1.1 (sp_wd T n (sp_n T n (sp_n T n p))))) &&& 31)))) 1 ((3376 + (6 * (sp_iC A.1.1 (sp_wd T n (sp_n T n (sp_n T n p)))))) + 3) (((fm_u (fm_u (fm_u a 1 4206 (nI (sp_iC A.1.1 (sp_wd T n (sp_n T n p))))) 1 4207 (nI (sp_iC A.1.1 (sp_wd T n (sp_n T n (sp_n T n p)))))) 1 ((3376 + (6 * (sp_iC A.1.1 (sp_wd T n (sp_n T n p))))) + 3) (((fm_u (fm_u a 1 4206 (nI (sp_iC A.1.1 (sp_wd T n (sp_n T n p))))) 1 4207 (nI (sp_iC A.1.1 (sp_wd T n (sp_n T n (sp_n T n p)))))) 1 ((3376 + (6 * (sp_iC A.1.1 (sp_wd T n (sp_n T n p))))) + 3)) ||| ((1 : Int32) <<< ((nI (sp_iC A.1.1 (sp_wd T n (sp_n T n (sp_n T n p))))) &&& 31)))) 1 ((3376 + (6 * (sp_iC A.1.1 (sp_wd T n (sp_n T n (sp_n T n p)))))) + 3)) ||| ((1 : Int32) <<< ((nI (sp_iC A.1.1 (sp_wd T n (sp_n T n p)))) &&& 31)))) b) (by intro _ _ _; eq_refl) ?_
                refine fe_ret ⟨1, _, _, _, ⟨(fm_tx8_tr (fm_tx8_tr (fm_tx8_tr fm_tx8_rf txc1) txc4) txc10), (mfa_u (mfa_u (mfa_u (mfa_u mfa_rf (by omega)) (by omega)) (by omega)) (by omega)), mfb_rf, Or.inl ⟨rfl, (A.1, A.2.1, sp_pr A.2.2 (sp_iC A.1.1 (sp_wd T n (sp_n T n p))) (sp_iC A.1.1 (sp_wd T n (sp_n T n (sp_n T n p))))), s, (sp_n T n (sp_n T n (sp_n T n p))), ?_, hmc10, ?_, hst.1, (((fm_tx8_tr (fm_tx8_tr (fm_tx8_tr fm_tx8_rf txc1) txc4) txc10) 20 (by decide) (by decide) (by decide) (by decide) (by decide) (by decide)).trans hst.2)⟩⟩, rfl⟩ (by rfl) (by rfl) (by rfl)
                · unfold sp_pPair
                  rw [sp_cell_t nnc4 ffc4, if_neg (fun z => by rw [hsc3] at z; exact absurd z.2 (by decide)), sp_cell_t nnc10 ffc10, if_neg (fun z => by rcases z with z | z; exact absurd z (by omega); rw [hsc9] at z; exact absurd z.2 (by decide)), if_pos rfl]
                · exact md_bes (by omega) (by omega) hAw11
              · exact absurd foc6 ffc10
              · exact absurd nmc6 nnc10
            · rw [hsc9, if_pos rfl] at hrc9
              refine fe_ivV hrc9 (by omega) (by rfl) (by rfl) (by rfl) (by rfl) (by rfl) (by rfl) ?_
              refine fe_s 1 (pc' := cond (fx_cb .eq 1 0) 95 89) (lc' := [(4, .int (nI (sp_iC A.1.1 (sp_wd T n (sp_n T n (sp_n T n p)))))), (3, .int (nI (sp_iC A.1.1 (sp_wd T n (sp_n T n p))))), (2, .int 4206), (0, .ref 0), (1, .int 3)]) (stk' := []) (mem' := fm gc4 tp bt (fm_u a 1 4206 (nI (sp_iC A.1.1 (sp_wd T n (sp_n T n p))))) b) (by intro _ _ _; eq_refl) ?_
              rw [show (fx_cb .eq 1 0) = false from by decide]
              dsimp only [cond]
              refine fe_s 2 (pc' := 91) (lc' := [(4, .int (nI (sp_iC A.1.1 (sp_wd T n (sp_n T n (sp_n T n p)))))), (3, .int (nI (sp_iC A.1.1 (sp_wd T n (sp_n T n p))))), (2, .int 4206), (0, .ref 0), (1, .int 3)]) (stk' := [.int 5, .ref 0]) (mem' := fm gc4 tp bt (fm_u a 1 4206 (nI (sp_iC A.1.1 (sp_wd T n (sp_n T n p))))) b) (by intro _ _ _; eq_refl) ?_
              obtain ⟨gc14, hrc14, txc14, hmc14⟩ := mr_failsx (tp := tp) (bt := bt) (a := (fm_u a 1 4206 (nI (sp_iC A.1.1 (sp_wd T n (sp_n T n p)))))) (b := b) (x := 5) hmc4 (by decide) (by omega)
              refine fe_ivV hrc14 (by omega) (by rfl) (by rfl) (by rfl) (by rfl) (by rfl) (by rfl) ?_
              refine fe_ret ⟨0, _, _, _, ⟨(fm_tx8_tr (fm_tx8_tr (fm_tx8_tr fm_tx8_rf txc1) txc4) txc14), (mfa_u mfa_rf (by omega)), mfb_rf, Or.inr ⟨rfl, (5, sp_s T n (sp_n T n (sp_n T n p))), ?_, hmc14⟩⟩, rfl⟩ (by rfl) (by rfl) (by rfl)
              unfold sp_pPair
              rw [sp_cell_t nnc4 ffc4, if_neg (fun z => by rw [hsc3] at z; exact absurd z.2 (by decide)), sp_cell_t nmc6 foc6, if_pos (Or.inr ⟨rfl, hsc9⟩)]
              try rfl
        · have nkc6 := nmc6.1
          refine fe_s 3 (pc' := 66) (lc' := [(4, .int (-1)), (3, .int (nI (sp_iC A.1.1 (sp_wd T n (sp_n T n p))))), (2, .int 4206), (0, .ref 0), (1, .int 3)]) (stk' := [.int (-1), .int (-1)]) (mem' := fm gc4 tp bt (fm_u a 1 4206 (nI (sp_iC A.1.1 (sp_wd T n (sp_n T n p))))) b) (by intro _ _ _; eq_refl) ?_
          refine fe_s 1 (pc' := cond (fx_cb .eq (-1) (-1)) 95 69) (lc' := [(4, .int (-1)), (3, .int (nI (sp_iC A.1.1 (sp_wd T n (sp_n T n p))))), (2, .int 4206), (0, .ref 0), (1, .int 3)]) (stk' := []) (mem' := fm gc4 tp bt (fm_u a 1 4206 (nI (sp_iC A.1.1 (sp_wd T n (sp_n T n p))))) b) (by intro _ _ _; eq_refl) ?_
          rw [show (fx_cb .eq (-1) (-1)) = true from by decide]
          dsimp only [cond]
          refine fe_s 5 (pc' := 105) (lc' := [(4, .int (-1)), (3, .int (nI (sp_iC A.1.1 (sp_wd T n (sp_n T n p))))), (2, .int 4206), (0, .ref 0), (1, .int 3)]) (stk' := [.int 3368, .ref 1, .int 72, .ref 0]) (mem' := fm gc4 tp bt (fm_u a 1 4206 (nI (sp_iC A.1.1 (sp_wd T n (sp_n T n p))))) b) (by intro _ _ _; eq_refl) ?_
          refine fe_ldI (by rfl) (by rfl) (fx_inN (i := 3368) (by omega) (by omega)) ?_
          rw [show Int32.toNatClampNeg (3368) = 3368 from rfl]
          rw [show (fm_u a 1 4206 (nI (sp_iC A.1.1 (sp_wd T n (sp_n T n p))))) 1 3368 = nI (A.1.1.length) from hAw5.1.1]
          refine fe_s 3 (pc' := 109) (lc' := [(4, .int (-1)), (3, .int (nI (sp_iC A.1.1 (sp_wd T n (sp_n T n p))))), (2, .int 4206), (0, .ref 0), (1, .int 3)]) (stk' := [.int (4206 + 1), .int (nI (A.1.1.length)), .int 72, .ref 0]) (mem' := fm gc4 tp bt (fm_u a 1 4206 (nI (sp_iC A.1.1 (sp_wd T n (sp_n T n p))))) b) (by intro _ _ _; eq_refl) ?_
          rw [show (4206 + 1 : Int32) = 4207 from rfl]
          obtain ⟨xc15, gc15, ac15, bc15, hrc15, txc15, ebc15, hxc15⟩ := mr_oldOne (t := 4207) (tp := tp) (bt := bt) hTw5 hAw5 hmc4 (by omega)
          rw [ebc15] at hrc15
          refine fe_ivV hrc15 (by omega) (by rfl) (by rfl) (by rfl) (by rfl) (by rfl) (by rfl) ?_
          rcases hxc15 with ⟨nnc15, ffc15, rfl, eac15, hmc15⟩ | ⟨nnc15, ffc15, rfl, eac15, hmc15⟩ | ⟨nnc15, rfl, eac15, hmc15⟩
          · exact absurd ffc15 foc6
          · rw [eac15]
            have hTw16 := mT_u (t := 1) (i := 4207) (x := (-1)) (by decide) hTw5
            have hAw16 := md_u (t := 4207) (x := (-1)) hAw5 (by omega) (by omega) (fun c hc => by omega) (fun i hi => by omega) (fun i hi => by omega)
            refine fe_s 1 (pc' := cond (fx_cb .ne 0 0) 117 115) (lc' := [(4, .int (-1)), (3, .int (nI (sp_iC A.1.1 (sp_wd T n (sp_n T n p))))), (2, .int 4206), (0, .ref 0), (1, .int 3)]) (stk' := []) (mem' := fm gc15 tp bt (fm_u (fm_u a 1 4206 (nI (sp_iC A.1.1 (sp_wd T n (sp_n T n p))))) 1 4207 (-1)) b) (by intro _ _ _; eq_refl) ?_
            rw [show (fx_cb .ne 0 0) = false from by decide]
            dsimp only [cond]
            refine fe_s 1 (pc' := 116) (lc' := [(4, .int (-1)), (3, .int (nI (sp_iC A.1.1 (sp_wd T n (sp_n T n p))))), (2, .int 4206), (0, .ref 0), (1, .int 3)]) (stk' := [.int 0]) (mem' := fm gc15 tp bt (fm_u (fm_u a 1 4206 (nI (sp_iC A.1.1 (sp_wd T n (sp_n T n p))))) 1 4207 (-1)) b) (by intro _ _ _; eq_refl) ?_
            refine fe_ret ⟨0, _, _, _, ⟨(fm_tx8_tr (fm_tx8_tr (fm_tx8_tr fm_tx8_rf txc1) txc4) txc15), (mfa_u (mfa_u mfa_rf (by omega)) (by omega)), mfb_rf, Or.inr ⟨rfl, (3, sp_s T n (sp_n T n (sp_n T n p))), ?_, hmc15⟩⟩, rfl⟩ (by rfl) (by rfl) (by rfl)
            unfold sp_pPair
            rw [sp_cell_t nnc4 ffc4, if_neg (fun z => by rw [hsc3] at z; exact absurd z.2 (by decide)), sp_cell_3 nnc15 ffc15]
          · exact absurd nmc6 nnc15
        · refine fe_s 3 (pc' := 66) (lc' := [(4, .int (-1)), (3, .int (nI (sp_iC A.1.1 (sp_wd T n (sp_n T n p))))), (2, .int 4206), (0, .ref 0), (1, .int 3)]) (stk' := [.int (-1), .int (-1)]) (mem' := fm gc4 tp bt (fm_u a 1 4206 (nI (sp_iC A.1.1 (sp_wd T n (sp_n T n p))))) b) (by intro _ _ _; eq_refl) ?_
          refine fe_s 1 (pc' := cond (fx_cb .eq (-1) (-1)) 95 69) (lc' := [(4, .int (-1)), (3, .int (nI (sp_iC A.1.1 (sp_wd T n (sp_n T n p))))), (2, .int 4206), (0, .ref 0), (1, .int 3)]) (stk' := []) (mem' := fm gc4 tp bt (fm_u a 1 4206 (nI (sp_iC A.1.1 (sp_wd T n (sp_n T n p))))) b) (by intro _ _ _; eq_refl) ?_
          rw [show (fx_cb .eq (-1) (-1)) = true from by decide]
          dsimp only [cond]
          refine fe_s 5 (pc' := 105) (lc' := [(4, .int (-1)), (3, .int (nI (sp_iC A.1.1 (sp_wd T n (sp_n T n p))))), (2, .int 4206), (0, .ref 0), (1, .int 3)]) (stk' := [.int 3368, .ref 1, .int 72, .ref 0]) (mem' := fm gc4 tp bt (fm_u a 1 4206 (nI (sp_iC A.1.1 (sp_wd T n (sp_n T n p))))) b) (by intro _ _ _; eq_refl) ?_
          refine fe_ldI (by rfl) (by rfl) (fx_inN (i := 3368) (by omega) (by omega)) ?_
          rw [show Int32.toNatClampNeg (3368) = 3368 from rfl]
          rw [show (fm_u a 1 4206 (nI (sp_iC A.1.1 (sp_wd T n (sp_n T n p))))) 1 3368 = nI (A.1.1.length) from hAw5.1.1]
          refine fe_s 3 (pc' := 109) (lc' := [(4, .int (-1)), (3, .int (nI (sp_iC A.1.1 (sp_wd T n (sp_n T n p))))), (2, .int 4206), (0, .ref 0), (1, .int 3)]) (stk' := [.int (4206 + 1), .int (nI (A.1.1.length)), .int 72, .ref 0]) (mem' := fm gc4 tp bt (fm_u a 1 4206 (nI (sp_iC A.1.1 (sp_wd T n (sp_n T n p))))) b) (by intro _ _ _; eq_refl) ?_
          rw [show (4206 + 1 : Int32) = 4207 from rfl]
          obtain ⟨xc17, gc17, ac17, bc17, hrc17, txc17, ebc17, hxc17⟩ := mr_oldOne (t := 4207) (tp := tp) (bt := bt) hTw5 hAw5 hmc4 (by omega)
          rw [ebc17] at hrc17
          refine fe_ivV hrc17 (by omega) (by rfl) (by rfl) (by rfl) (by rfl) (by rfl) (by rfl) ?_
          rcases hxc17 with ⟨nnc17, ffc17, rfl, eac17, hmc17⟩ | ⟨nnc17, ffc17, rfl, eac17, hmc17⟩ | ⟨nnc17, rfl, eac17, hmc17⟩
          · exact absurd nnc17 nmc6
          · exact absurd nnc17 nmc6
          · rw [eac17]
            refine fe_s 1 (pc' := cond (fx_cb .ne 0 0) 117 115) (lc' := [(4, .int (-1)), (3, .int (nI (sp_iC A.1.1 (sp_wd T n (sp_n T n p))))), (2, .int 4206), (0, .ref 0), (1, .int 3)]) (stk' := []) (mem' := fm gc17 tp bt (fm_u a 1 4206 (nI (sp_iC A.1.1 (sp_wd T n (sp_n T n p))))) b) (by intro _ _ _; eq_refl) ?_
            rw [show (fx_cb .ne 0 0) = false from by decide]
            dsimp only [cond]
            refine fe_s 1 (pc' := 116) (lc' := [(4, .int (-1)), (3, .int (nI (sp_iC A.1.1 (sp_wd T n (sp_n T n p))))), (2, .int 4206), (0, .ref 0), (1, .int 3)]) (stk' := [.int 0]) (mem' := fm gc17 tp bt (fm_u a 1 4206 (nI (sp_iC A.1.1 (sp_wd T n (sp_n T n p))))) b) (by intro _ _ _; eq_refl) ?_
            refine fe_ret ⟨0, _, _, _, ⟨(fm_tx8_tr (fm_tx8_tr (fm_tx8_tr fm_tx8_rf txc1) txc4) txc17), (mfa_u mfa_rf (by omega)), mfb_rf, Or.inr ⟨rfl, (sp_m T n (sp_n T n (sp_n T n p)), sp_s T n (sp_n T n (sp_n T n p))), ?_, hmc17⟩⟩, rfl⟩ (by rfl) (by rfl) (by rfl)
            unfold sp_pPair
            rw [sp_cell_t nnc4 ffc4, if_neg (fun z => by rw [hsc3] at z; exact absurd z.2 (by decide)), sp_cell_f nnc17]
      · exact absurd foc2 ffc4
      · exact absurd nmc2 nnc4
    · rw [hsc3, if_pos rfl] at hrc3
      refine fe_ivV hrc3 (by omega) (by rfl) (by rfl) (by rfl) (by rfl) (by rfl) (by rfl) ?_
      refine fe_s 1 (pc' := cond (fx_cb .eq 1 0) 37 31) (lc' := [(3, .int (nI (sp_iC A.1.1 (sp_wd T n (sp_n T n p))))), (2, .int 4206), (0, .ref 0), (1, .int 3)]) (stk' := []) (mem' := fm gc1 tp bt a b) (by intro _ _ _; eq_refl) ?_
      rw [show (fx_cb .eq 1 0) = false from by decide]
      dsimp only [cond]
      refine fe_s 2 (pc' := 33) (lc' := [(3, .int (nI (sp_iC A.1.1 (sp_wd T n (sp_n T n p))))), (2, .int 4206), (0, .ref 0), (1, .int 3)]) (stk' := [.int 5, .ref 0]) (mem' := fm gc1 tp bt a b) (by intro _ _ _; eq_refl) ?_
      obtain ⟨gc18, hrc18, txc18, hmc18⟩ := mr_failsx (tp := tp) (bt := bt) (a := a) (b := b) (x := 5) hmc1 (by decide) (by omega)
      refine fe_ivV hrc18 (by omega) (by rfl) (by rfl) (by rfl) (by rfl) (by rfl) (by rfl) ?_
      refine fe_ret ⟨0, _, _, _, ⟨(fm_tx8_tr (fm_tx8_tr fm_tx8_rf txc1) txc18), mfa_rf, mfb_rf, Or.inr ⟨rfl, (5, sp_s T n (sp_n T n p)), ?_, hmc18⟩⟩, rfl⟩ (by rfl) (by rfl) (by rfl)
      unfold sp_pPair
      rw [sp_cell_t nmc2 foc2, if_pos ⟨rfl, hsc3⟩]
      try rfl
  · have nkc2 := nmc2.1
    refine fe_s 3 (pc' := 15) (lc' := [(3, .int (-1)), (2, .int 4206), (0, .ref 0), (1, .int 3)]) (stk' := [.int 3, .int 3]) (mem' := fm gc1 tp bt a b) (by intro _ _ _; eq_refl) ?_
    refine fe_s 1 (pc' := cond (fx_cb .ne 3 3) 37 18) (lc' := [(3, .int (-1)), (2, .int 4206), (0, .ref 0), (1, .int 3)]) (stk' := []) (mem' := fm gc1 tp bt a b) (by intro _ _ _; eq_refl) ?_
    rw [show (fx_cb .ne 3 3) = false from by decide]
    dsimp only [cond]
    refine fe_s 2 (pc' := 20) (lc' := [(3, .int (-1)), (2, .int 4206), (0, .ref 0), (1, .int 3)]) (stk' := [.int (-1), .int (-1)]) (mem' := fm gc1 tp bt a b) (by intro _ _ _; eq_refl) ?_
    refine fe_s 1 (pc' := cond (fx_cb .eq (-1) (-1)) 37 23) (lc' := [(3, .int (-1)), (2, .int 4206), (0, .ref 0), (1, .int 3)]) (stk' := []) (mem' := fm gc1 tp bt a b) (by intro _ _ _; eq_refl) ?_
    rw [show (fx_cb .eq (-1) (-1)) = true from by decide]
    dsimp only [cond]
    refine fe_s 5 (pc' := 47) (lc' := [(3, .int (-1)), (2, .int 4206), (0, .ref 0), (1, .int 3)]) (stk' := [.int 3368, .ref 1, .int 72, .ref 0]) (mem' := fm gc1 tp bt a b) (by intro _ _ _; eq_refl) ?_
    refine fe_ldI (by rfl) (by rfl) (fx_inN (i := 3368) (by omega) (by omega)) ?_
    rw [show Int32.toNatClampNeg (3368) = 3368 from rfl]
    rw [show a 1 3368 = nI (A.1.1.length) from hA.1.1]
    refine fe_s 1 (pc' := 49) (lc' := [(3, .int (-1)), (2, .int 4206), (0, .ref 0), (1, .int 3)]) (stk' := [.int 4206, .int (nI (A.1.1.length)), .int 72, .ref 0]) (mem' := fm gc1 tp bt a b) (by intro _ _ _; eq_refl) ?_
    obtain ⟨xc19, gc19, ac19, bc19, hrc19, txc19, ebc19, hxc19⟩ := mr_oldOne (t := 4206) (tp := tp) (bt := bt) hT hA hmc1 (by omega)
    rw [ebc19] at hrc19
    refine fe_ivV hrc19 (by omega) (by rfl) (by rfl) (by rfl) (by rfl) (by rfl) (by rfl) ?_
    rcases hxc19 with ⟨nnc19, ffc19, rfl, eac19, hmc19⟩ | ⟨nnc19, ffc19, rfl, eac19, hmc19⟩ | ⟨nnc19, rfl, eac19, hmc19⟩
    · exact absurd ffc19 foc2
    · rw [eac19]
      have hTw20 := mT_u (t := 1) (i := 4206) (x := (-1)) (by decide) hT
      have hAw20 := md_u (t := 4206) (x := (-1)) hA (by omega) (by omega) (fun c hc => by omega) (fun i hi => by omega) (fun i hi => by omega)
      refine fe_s 1 (pc' := cond (fx_cb .ne 0 0) 57 55) (lc' := [(3, .int (-1)), (2, .int 4206), (0, .ref 0), (1, .int 3)]) (stk' := []) (mem' := fm gc19 tp bt (fm_u a 1 4206 (-1)) b) (by intro _ _ _; eq_refl) ?_
      rw [show (fx_cb .ne 0 0) = false from by decide]
      dsimp only [cond]
      refine fe_s 1 (pc' := 56) (lc' := [(3, .int (-1)), (2, .int 4206), (0, .ref 0), (1, .int 3)]) (stk' := [.int 0]) (mem' := fm gc19 tp bt (fm_u a 1 4206 (-1)) b) (by intro _ _ _; eq_refl) ?_
      refine fe_ret ⟨0, _, _, _, ⟨(fm_tx8_tr (fm_tx8_tr fm_tx8_rf txc1) txc19), (mfa_u mfa_rf (by omega)), mfb_rf, Or.inr ⟨rfl, (3, sp_s T n (sp_n T n p)), ?_, hmc19⟩⟩, rfl⟩ (by rfl) (by rfl) (by rfl)
      unfold sp_pPair
      rw [sp_cell_3 nnc19 ffc19]
    · exact absurd nmc2 nnc19
  · refine fe_s 3 (pc' := 15) (lc' := [(3, .int (-1)), (2, .int 4206), (0, .ref 0), (1, .int 3)]) (stk' := [.int 3, .int 3]) (mem' := fm gc1 tp bt a b) (by intro _ _ _; eq_refl) ?_
    refine fe_s 1 (pc' := cond (fx_cb .ne 3 3) 37 18) (lc' := [(3, .int (-1)), (2, .int 4206), (0, .ref 0), (1, .int 3)]) (stk' := []) (mem' := fm gc1 tp bt a b) (by intro _ _ _; eq_refl) ?_
    rw [show (fx_cb .ne 3 3) = false from by decide]
    dsimp only [cond]
    refine fe_s 2 (pc' := 20) (lc' := [(3, .int (-1)), (2, .int 4206), (0, .ref 0), (1, .int 3)]) (stk' := [.int (-1), .int (-1)]) (mem' := fm gc1 tp bt a b) (by intro _ _ _; eq_refl) ?_
    refine fe_s 1 (pc' := cond (fx_cb .eq (-1) (-1)) 37 23) (lc' := [(3, .int (-1)), (2, .int 4206), (0, .ref 0), (1, .int 3)]) (stk' := []) (mem' := fm gc1 tp bt a b) (by intro _ _ _; eq_refl) ?_
    rw [show (fx_cb .eq (-1) (-1)) = true from by decide]
    dsimp only [cond]
    refine fe_s 5 (pc' := 47) (lc' := [(3, .int (-1)), (2, .int 4206), (0, .ref 0), (1, .int 3)]) (stk' := [.int 3368, .ref 1, .int 72, .ref 0]) (mem' := fm gc1 tp bt a b) (by intro _ _ _; eq_refl) ?_
    refine fe_ldI (by rfl) (by rfl) (fx_inN (i := 3368) (by omega) (by omega)) ?_
    rw [show Int32.toNatClampNeg (3368) = 3368 from rfl]
    rw [show a 1 3368 = nI (A.1.1.length) from hA.1.1]
    refine fe_s 1 (pc' := 49) (lc' := [(3, .int (-1)), (2, .int 4206), (0, .ref 0), (1, .int 3)]) (stk' := [.int 4206, .int (nI (A.1.1.length)), .int 72, .ref 0]) (mem' := fm gc1 tp bt a b) (by intro _ _ _; eq_refl) ?_
    obtain ⟨xc21, gc21, ac21, bc21, hrc21, txc21, ebc21, hxc21⟩ := mr_oldOne (t := 4206) (tp := tp) (bt := bt) hT hA hmc1 (by omega)
    rw [ebc21] at hrc21
    refine fe_ivV hrc21 (by omega) (by rfl) (by rfl) (by rfl) (by rfl) (by rfl) (by rfl) ?_
    rcases hxc21 with ⟨nnc21, ffc21, rfl, eac21, hmc21⟩ | ⟨nnc21, ffc21, rfl, eac21, hmc21⟩ | ⟨nnc21, rfl, eac21, hmc21⟩
    · exact absurd nnc21 nmc2
    · exact absurd nnc21 nmc2
    · rw [eac21]
      refine fe_s 1 (pc' := cond (fx_cb .ne 0 0) 57 55) (lc' := [(3, .int (-1)), (2, .int 4206), (0, .ref 0), (1, .int 3)]) (stk' := []) (mem' := fm gc21 tp bt a b) (by intro _ _ _; eq_refl) ?_
      rw [show (fx_cb .ne 0 0) = false from by decide]
      dsimp only [cond]
      refine fe_s 1 (pc' := 56) (lc' := [(3, .int (-1)), (2, .int 4206), (0, .ref 0), (1, .int 3)]) (stk' := [.int 0]) (mem' := fm gc21 tp bt a b) (by intro _ _ _; eq_refl) ?_
      refine fe_ret ⟨0, _, _, _, ⟨(fm_tx8_tr (fm_tx8_tr fm_tx8_rf txc1) txc21), mfa_rf, mfb_rf, Or.inr ⟨rfl, (sp_m T n (sp_n T n p), sp_s T n (sp_n T n p)), ?_, hmc21⟩⟩, rfl⟩ (by rfl) (by rfl) (by rfl)
      unfold sp_pPair
      rw [sp_cell_f nnc21]
theorem mr_aWalker (hT : mT a T n) (hA : md_L 3368 72 A a b) (h : mo g T n p) (hst : s < 8 ∧ g 20 = nI (32 * s)) (hk : sp_k T n p = 1) : ∃ (v : Int32) (g' : Nat → Int32) (a' : Nat → Nat → Int32) (b' : Nat → Nat → Int64), fr_T 8 243 [.ref 0] (fm g tp bt a b) (some (.int v)) (fm g' tp bt a' b') ∧ fm_tx8 g g' ∧ mfa a a' ∧ mfb b b' ∧ mPart T n (sp_pWalk T n A s p) v g' a' b' := by
  suffices h : ∃ (v : Option Value) (mem' : fx_M), (fun R => ∃ (v : Int32) (g' : Nat → Int32) (a' : Nat → Nat → Int32) (b' : Nat → Nat → Int64), (fm_tx8 g g' ∧ mfa a a' ∧ mfb b b' ∧ mPart T n (sp_pWalk T n A s p) v g' a' b') ∧ R = (some (.int v), fm g' tp bt a' b')) (v, mem') ∧ fr_T 8 243 [.ref 0] (fm g tp bt a b) v mem' by
    obtain ⟨v, mem', ⟨w, g', a', b', h1, hR⟩, h2⟩ := h
    cases hR
    exact ⟨w, g', a', b', h2, h1⟩
  refine fe_meth (f := 243) (as := [.ref 0]) (F := fun R => ∃ (v : Int32) (g' : Nat → Int32) (a' : Nat → Nat → Int32) (b' : Nat → Nat → Int64), (fm_tx8 g g' ∧ mfa a a' ∧ mfb b b' ∧ mPart T n (sp_pWalk T n A s p) v g' a' b') ∧ R = (some (.int v), fm g' tp bt a' b')) (M := gk_m243) (by rfl) (by rfl) ?_
  have hq0 := hA.1.2.1
  have hq1 := hA.1.2.2.2
  refine fe_s 5 (pc' := 11) (lc' := [(0, .ref 0)]) (stk' := [.int 3369, .ref 1, .int 5, .int 3646]) (mem' := fm g tp bt a b) (by intro _ _ _; eq_refl) ?_
  refine fe_ldI (by rfl) (by rfl) (fx_inN (i := 3369) (by omega) (by omega)) ?_
  rw [show Int32.toNatClampNeg (3369) = 3369 from rfl]
  rw [show a 1 3369 = nI (A.1.2.length) from hA.1.2.2.1]
  refine fe_s 7 (pc' := 21) (lc' := [(1, .int (3646 + (5 * (nI (A.1.2.length))))), (0, .ref 0)]) (stk' := [.int 10, .int 8, .int 1, .ref 0]) (mem' := fm g tp bt a b) (by intro _ _ _; eq_refl) ?_
  rw [show (3646 + (5 * (nI (A.1.2.length))) : Int32) = nI (3646 + (5 * (A.1.2.length))) from by simp only [show (3646 : Int32) = nI 3646 from rfl, show (5 : Int32) = nI 5 from rfl, nI_add, fm_mul]]
  obtain ⟨xc1, gc1, ac1, bc1, hrc1, txc1, eac1, hxc1⟩ := mr_newW (tp := tp) (bt := bt) hT hA h hk
  rw [eac1] at hrc1
  refine fe_ivV hrc1 (by omega) (by rfl) (by rfl) (by rfl) (by rfl) (by rfl) (by rfl) ?_
  rcases hxc1 with ⟨hfc1, nmc1, htc1, rfl, ebc1, hmc1⟩ | ⟨ebc1, rfl, ⟨hfc1, hmc1⟩ | ⟨hfc1, nmc1, hmc1⟩ | ⟨hfc1, nmc1, htc1, hmc1⟩⟩
  · rw [ebc1]
    have hAc1 := md_nm (t := 82 + A.1.2.length) (x := Int64.ofNat (sp_c8 (sp_wd T n (sp_n T n p)))) hA (fun i hi => by omega) (fun i hi => by omega)
    refine fe_s 1 (pc' := cond (fx_cb .eq 1 0) 60 27) (lc' := [(1, .int (nI (3646 + (5 * (A.1.2.length))))), (0, .ref 0)]) (stk' := []) (mem' := fm gc1 tp bt a (fm_uL b 2 (82 + A.1.2.length) (Int64.ofNat (sp_c8 (sp_wd T n (sp_n T n p)))))) (by intro _ _ _; eq_refl) ?_
    rw [show (fx_cb .eq 1 0) = false from by decide]
    dsimp only [cond]
    refine fe_s 3 (pc' := 32) (lc' := [(1, .int (nI (3646 + (5 * (A.1.2.length))))), (0, .ref 0)]) (stk' := [.int 9, .ref 22, .ref 0]) (mem' := fm gc1 tp bt a (fm_uL b 2 (82 + A.1.2.length) (Int64.ofNat (sp_c8 (sp_wd T n (sp_n T n p)))))) (by intro _ _ _; eq_refl) ?_
    obtain ⟨xc2, gc2, hrc2, txc2, hxc2⟩ := mr_wantWord (m := 9) (c := 6) (tp := tp) (bt := bt) (b := (fm_uL b 2 (82 + A.1.2.length) (Int64.ofNat (sp_c8 (sp_wd T n (sp_n T n p)))))) hT (by decide) (by decide) (by decide) hmc1
    refine fe_ivV hrc2 (by omega) (by rfl) (by rfl) (by rfl) (by rfl) (by rfl) (by rfl) ?_
    rcases hxc2 with ⟨hwc2, rfl, hmc2⟩ | ⟨hwc2, rfl, hmc2⟩
    · refine fe_s 1 (pc' := cond (fx_cb .eq 1 0) 60 38) (lc' := [(1, .int (nI (3646 + (5 * (A.1.2.length))))), (0, .ref 0)]) (stk' := []) (mem' := fm gc2 tp bt a (fm_uL b 2 (82 + A.1.2.length) (Int64.ofNat (sp_c8 (sp_wd T n (sp_n T n p)))))) (by intro _ _ _; eq_refl) ?_
      rw [show (fx_cb .eq 1 0) = false from by decide]
      dsimp only [cond]
      refine fe_s 4 (pc' := 43) (lc' := [(1, .int (nI (3646 + (5 * (A.1.2.length))))), (0, .ref 0)]) (stk' := [.int 99, .int 1, .int (nI (3646 + (5 * (A.1.2.length)))), .ref 0]) (mem' := fm gc2 tp bt a (fm_uL b 2 (82 + A.1.2.length) (Int64.ofNat (sp_c8 (sp_wd T n (sp_n T n p)))))) (by intro _ _ _; eq_refl) ?_
      obtain ⟨xc3, gc3, ac3, hrc3, txc3, hxc3⟩ := mr_number (t := 3646 + (5 * (A.1.2.length))) (lo := 1) (hi := 99) (tp := tp) (bt := bt) (b := (fm_uL b 2 (82 + A.1.2.length) (Int64.ofNat (sp_c8 (sp_wd T n (sp_n T n p)))))) hT (by omega) (by decide) (by decide) hmc2
      refine fe_ivV hrc3 (by omega) (by rfl) (by rfl) (by rfl) (by rfl) (by rfl) (by rfl) ?_
      rcases hxc3 with ⟨hwc3, hvc3, rfl, eac3, hmc3⟩ | ⟨hwc3, hvc3, rfl, eac3, hmc3⟩ | ⟨hwc3, rfl, eac3, hmc3⟩
      · rw [eac3]
        have hTw4 := mT_u (t := 1) (i := 3646 + (5 * (A.1.2.length))) (x := nI (sp_v T n (sp_n T n (sp_n T n (sp_n T n p))))) (by decide) hT
        have hAw4 := md_u (t := 3646 + (5 * (A.1.2.length))) (x := nI (sp_v T n (sp_n T n (sp_n T n (sp_n T n p))))) hAc1 (by omega) (by omega) (fun c hc => by omega) (fun i hi => by omega) (fun i hi => by omega)
        refine fe_s 1 (pc' := cond (fx_cb .eq 1 0) 60 49) (lc' := [(1, .int (nI (3646 + (5 * (A.1.2.length))))), (0, .ref 0)]) (stk' := []) (mem' := fm gc3 tp bt (fm_u a 1 (3646 + (5 * (A.1.2.length))) (nI (sp_v T n (sp_n T n (sp_n T n (sp_n T n p)))))) (fm_uL b 2 (82 + A.1.2.length) (Int64.ofNat (sp_c8 (sp_wd T n (sp_n T n p)))))) (by intro _ _ _; eq_refl) ?_
        rw [show (fx_cb .eq 1 0) = false from by decide]
        dsimp only [cond]
        refine fe_s 3 (pc' := 54) (lc' := [(1, .int (nI (3646 + (5 * (A.1.2.length))))), (0, .ref 0)]) (stk' := [.int 10, .ref 22, .ref 0]) (mem' := fm gc3 tp bt (fm_u a 1 (3646 + (5 * (A.1.2.length))) (nI (sp_v T n (sp_n T n (sp_n T n (sp_n T n p)))))) (fm_uL b 2 (82 + A.1.2.length) (Int64.ofNat (sp_c8 (sp_wd T n (sp_n T n p)))))) (by intro _ _ _; eq_refl) ?_
        obtain ⟨xc5, gc5, hrc5, txc5, hxc5⟩ := mr_wantWord (m := 10) (c := 7) (tp := tp) (bt := bt) (b := (fm_uL b 2 (82 + A.1.2.length) (Int64.ofNat (sp_c8 (sp_wd T n (sp_n T n p)))))) hTw4 (by decide) (by decide) (by decide) hmc3
        refine fe_ivV hrc5 (by omega) (by rfl) (by rfl) (by rfl) (by rfl) (by rfl) (by rfl) ?_
        rcases hxc5 with ⟨hwc5, rfl, hmc5⟩ | ⟨hwc5, rfl, hmc5⟩
        · refine fe_s 1 (pc' := cond (fx_cb .ne 1 0) 62 60) (lc' := [(1, .int (nI (3646 + (5 * (A.1.2.length))))), (0, .ref 0)]) (stk' := []) (mem' := fm gc5 tp bt (fm_u a 1 (3646 + (5 * (A.1.2.length))) (nI (sp_v T n (sp_n T n (sp_n T n (sp_n T n p)))))) (fm_uL b 2 (82 + A.1.2.length) (Int64.ofNat (sp_c8 (sp_wd T n (sp_n T n p)))))) (by intro _ _ _; eq_refl) ?_
          rw [show (fx_cb .ne 1 0) = true from by decide]
          dsimp only [cond]
          refine fe_s 1 (pc' := 63) (lc' := [(1, .int (nI (3646 + (5 * (A.1.2.length))))), (0, .ref 0)]) (stk' := [.ref 0]) (mem' := fm gc5 tp bt (fm_u a 1 (3646 + (5 * (A.1.2.length))) (nI (sp_v T n (sp_n T n (sp_n T n (sp_n T n p)))))) (fm_uL b 2 (82 + A.1.2.length) (Int64.ofNat (sp_c8 (sp_wd T n (sp_n T n p)))))) (by intro _ _ _; eq_refl) ?_
          obtain ⟨xc6, hrc6, hxc6⟩ := mr_cellHere (tp := tp) (bt := bt) hTw4 hAw4 hmc5
          refine fe_ivV hrc6 (by omega) (by rfl) (by rfl) (by rfl) (by rfl) (by rfl) (by rfl) ?_
          rcases hxc6 with ⟨nmc6, foc6, rfl⟩ | ⟨nmc6, foc6, rfl⟩ | ⟨nmc6, rfl⟩
          · have nkc6 := nmc6.1
            refine fe_s 3 (pc' := 69) (lc' := [(2, .int (nI (sp_iC A.1.1 (sp_wd T n (sp_n T n (sp_n T n (sp_n T n (sp_n T n (sp_n T n p))))))))), (1, .int (nI (3646 + (5 * (A.1.2.length))))), (0, .ref 0)]) (stk' := [.int (-1), .int (nI (sp_iC A.1.1 (sp_wd T n (sp_n T n (sp_n T n (sp_n T n (sp_n T n (sp_n T n p))))))))]) (mem' := fm gc5 tp bt (fm_u a 1 (3646 + (5 * (A.1.2.length))) (nI (sp_v T n (sp_n T n (sp_n T n (sp_n T n p)))))) (fm_uL b 2 (82 + A.1.2.length) (Int64.ofNat (sp_c8 (sp_wd T n (sp_n T n p)))))) (by intro _ _ _; eq_refl) ?_
            refine fe_s 1 (pc' := cond (fx_cb .eq (nI (sp_iC A.1.1 (sp_wd T n (sp_n T n (sp_n T n (sp_n T n (sp_n T n (sp_n T n p)))))))) (-1)) 86 72) (lc' := [(2, .int (nI (sp_iC A.1.1 (sp_wd T n (sp_n T n (sp_n T n (sp_n T n (sp_n T n (sp_n T n p))))))))), (1, .int (nI (3646 + (5 * (A.1.2.length))))), (0, .ref 0)]) (stk' := []) (mem' := fm gc5 tp bt (fm_u a 1 (3646 + (5 * (A.1.2.length))) (nI (sp_v T n (sp_n T n (sp_n T n (sp_n T n p)))))) (fm_uL b 2 (82 + A.1.2.length) (Int64.ofNat (sp_c8 (sp_wd T n (sp_n T n p)))))) (by intro _ _ _; eq_refl) ?_
            rw [show (fx_cb .eq (nI (sp_iC A.1.1 (sp_wd T n (sp_n T n (sp_n T n (sp_n T n (sp_n T n (sp_n T n p)))))))) (-1)) = false from cb_n_eq (by omega) (by decide)]
            dsimp only [cond]
            refine fe_s 2 (pc' := 74) (lc' := [(2, .int (nI (sp_iC A.1.1 (sp_wd T n (sp_n T n (sp_n T n (sp_n T n (sp_n T n (sp_n T n p))))))))), (1, .int (nI (3646 + (5 * (A.1.2.length))))), (0, .ref 0)]) (stk' := [.int (nI (sp_iC A.1.1 (sp_wd T n (sp_n T n (sp_n T n (sp_n T n (sp_n T n (sp_n T n p)))))))), .ref 0]) (mem' := fm gc5 tp bt (fm_u a 1 (3646 + (5 * (A.1.2.length))) (nI (sp_v T n (sp_n T n (sp_n T n (sp_n T n p)))))) (fm_uL b 2 (82 + A.1.2.length) (Int64.ofNat (sp_c8 (sp_wd T n (sp_n T n p)))))) (by intro _ _ _; eq_refl) ?_
            have hrc7 := mr_isNewShore (g := gc5) (tp := tp) (bt := bt) hAw4 foc6
            cases hsc7 : sp_sh A (sp_iC A.1.1 (sp_wd T n (sp_n T n (sp_n T n (sp_n T n (sp_n T n (sp_n T n p)))))))
            · rw [hsc7, if_neg (by decide)] at hrc7
              refine fe_ivV hrc7 (by omega) (by rfl) (by rfl) (by rfl) (by rfl) (by rfl) (by rfl) ?_
              refine fe_s 1 (pc' := cond (fx_cb .ne 0 0) 86 80) (lc' := [(2, .int (nI (sp_iC A.1.1 (sp_wd T n (sp_n T n (sp_n T n (sp_n T n (sp_n T n (sp_n T n p))))))))), (1, .int (nI (3646 + (5 * (A.1.2.length))))), (0, .ref 0)]) (stk' := []) (mem' := fm gc5 tp bt (fm_u a 1 (3646 + (5 * (A.1.2.length))) (nI (sp_v T n (sp_n T n (sp_n T n (sp_n T n p)))))) (fm_uL b 2 (82 + A.1.2.length) (Int64.ofNat (sp_c8 (sp_wd T n (sp_n T n p)))))) (by intro _ _ _; eq_refl) ?_
              rw [show (fx_cb .ne 0 0) = false from by decide]
              dsimp only [cond]
              refine fe_s 2 (pc' := 82) (lc' := [(2, .int (nI (sp_iC A.1.1 (sp_wd T n (sp_n T n (sp_n T n (sp_n T n (sp_n T n (sp_n T n p))))))))), (1, .int (nI (3646 + (5 * (A.1.2.length))))), (0, .ref 0)]) (stk' := [.int 5, .ref 0]) (mem' := fm gc5 tp bt (fm_u a 1 (3646 + (5 * (A.1.2.length))) (nI (sp_v T n (sp_n T n (sp_n T n (sp_n T n p)))))) (fm_uL b 2 (82 + A.1.2.length) (Int64.ofNat (sp_c8 (sp_wd T n (sp_n T n p)))))) (by intro _ _ _; eq_refl) ?_
              obtain ⟨gc8, hrc8, txc8, hmc8⟩ := mr_failsx (tp := tp) (bt := bt) (a := (fm_u a 1 (3646 + (5 * (A.1.2.length))) (nI (sp_v T n (sp_n T n (sp_n T n (sp_n T n p))))))) (b := (fm_uL b 2 (82 + A.1.2.length) (Int64.ofNat (sp_c8 (sp_wd T n (sp_n T n p)))))) (x := 5) hmc5 (by decide) (by omega)
              refine fe_ivV hrc8 (by omega) (by rfl) (by rfl) (by rfl) (by rfl) (by rfl) (by rfl) ?_
              refine fe_ret ⟨0, _, _, _, ⟨(fm_tx8_tr (fm_tx8_tr (fm_tx8_tr (fm_tx8_tr (fm_tx8_tr fm_tx8_rf txc1) txc2) txc3) txc5) txc8), (mfa_u mfa_rf (by omega)), (mfb_u mfb_rf (by omega)), Or.inr ⟨rfl, (5, sp_s T n (sp_n T n (sp_n T n (sp_n T n (sp_n T n (sp_n T n p)))))), ?_, hmc8⟩⟩, rfl⟩ (by rfl) (by rfl) (by rfl)
              unfold sp_pWalk
              rw [if_neg (by omega), sp_new_t nmc1 htc1, sp_word_t hwc2, sp_num_t hwc3 hvc3, sp_word_t hwc5, sp_cell_t nmc6 foc6, if_neg (by rw [hsc7]; decide)]
            · rw [hsc7, if_pos rfl] at hrc7
              refine fe_ivV hrc7 (by omega) (by rfl) (by rfl) (by rfl) (by rfl) (by rfl) (by rfl) ?_
              refine fe_s 1 (pc' := cond (fx_cb .ne 1 0) 86 80) (lc' := [(2, .int (nI (sp_iC A.1.1 (sp_wd T n (sp_n T n (sp_n T n (sp_n T n (sp_n T n (sp_n T n p))))))))), (1, .int (nI (3646 + (5 * (A.1.2.length))))), (0, .ref 0)]) (stk' := []) (mem' := fm gc5 tp bt (fm_u a 1 (3646 + (5 * (A.1.2.length))) (nI (sp_v T n (sp_n T n (sp_n T n (sp_n T n p)))))) (fm_uL b 2 (82 + A.1.2.length) (Int64.ofNat (sp_c8 (sp_wd T n (sp_n T n p)))))) (by intro _ _ _; eq_refl) ?_
              rw [show (fx_cb .ne 1 0) = true from by decide]
              dsimp only [cond]
              refine fe_s 5 (pc' := 96) (lc' := [(2, .int (nI (sp_iC A.1.1 (sp_wd T n (sp_n T n (sp_n T n (sp_n T n (sp_n T n (sp_n T n p))))))))), (1, .int (nI (3646 + (5 * (A.1.2.length))))), (0, .ref 0)]) (stk' := [.int 3368, .ref 1, .int 72, .ref 0]) (mem' := fm gc5 tp bt (fm_u a 1 (3646 + (5 * (A.1.2.length))) (nI (sp_v T n (sp_n T n (sp_n T n (sp_n T n p)))))) (fm_uL b 2 (82 + A.1.2.length) (Int64.ofNat (sp_c8 (sp_wd T n (sp_n T n p)))))) (by intro _ _ _; eq_refl) ?_
              refine fe_ldI (by rfl) (by rfl) (fx_inN (i := 3368) (by omega) (by omega)) ?_
              rw [show Int32.toNatClampNeg (3368) = 3368 from rfl]
              rw [show (fm_u a 1 (3646 + (5 * (A.1.2.length))) (nI (sp_v T n (sp_n T n (sp_n T n (sp_n T n p)))))) 1 3368 = nI (A.1.1.length) from hAw4.1.1]
              refine fe_s 3 (pc' := 100) (lc' := [(2, .int (nI (sp_iC A.1.1 (sp_wd T n (sp_n T n (sp_n T n (sp_n T n (sp_n T n (sp_n T n p))))))))), (1, .int (nI (3646 + (5 * (A.1.2.length))))), (0, .ref 0)]) (stk' := [.int ((nI (3646 + (5 * (A.1.2.length)))) + 1), .int (nI (A.1.1.length)), .int 72, .ref 0]) (mem' := fm gc5 tp bt (fm_u a 1 (3646 + (5 * (A.1.2.length))) (nI (sp_v T n (sp_n T n (sp_n T n (sp_n T n p)))))) (fm_uL b 2 (82 + A.1.2.length) (Int64.ofNat (sp_c8 (sp_wd T n (sp_n T n p)))))) (by intro _ _ _; eq_refl) ?_
              rw [show ((nI (3646 + (5 * (A.1.2.length)))) + 1 : Int32) = nI ((3646 + (5 * (A.1.2.length))) + 1) from by simp only [show (1 : Int32) = nI 1 from rfl, nI_add, fm_mul]]
              obtain ⟨xc9, gc9, ac9, bc9, hrc9, txc9, ebc9, hxc9⟩ := mr_oldOne (t := (3646 + (5 * (A.1.2.length))) + 1) (tp := tp) (bt := bt) hTw4 hAw4 hmc5 (by omega)
              rw [ebc9] at hrc9
              refine fe_ivV hrc9 (by omega) (by rfl) (by rfl) (by rfl) (by rfl) (by rfl) (by rfl) ?_
              rcases hxc9 with ⟨nnc9, ffc9, rfl, eac9, hmc9⟩ | ⟨nnc9, ffc9, rfl, eac9, hmc9⟩ | ⟨nnc9, rfl, eac9, hmc9⟩
              · rw [eac9]
                have hTw10 := mT_u (t := 1) (i := (3646 + (5 * (A.1.2.length))) + 1) (x := nI (sp_iC A.1.1 (sp_wd T n (sp_n T n (sp_n T n (sp_n T n (sp_n T n (sp_n T n p)))))))) (by decide) hTw4
                have hAw10 := md_u (t := (3646 + (5 * (A.1.2.length))) + 1) (x := nI (sp_iC A.1.1 (sp_wd T n (sp_n T n (sp_n T n (sp_n T n (sp_n T n (sp_n T n p)))))))) hAw4 (by omega) (by omega) (fun c hc => by omega) (fun i hi => by omega) (fun i hi => by omega)
                refine fe_s 1 (pc' := cond (fx_cb .ne 1 0) 108 106) (lc' := [(2, .int (nI (sp_iC A.1.1 (sp_wd T n (sp_n T n (sp_n T n (sp_n T n (sp_n T n (sp_n T n p))))))))), (1, .int (nI (3646 + (5 * (A.1.2.length))))), (0, .ref 0)]) (stk' := []) (mem' := fm gc9 tp bt (fm_u (fm_u a 1 (3646 + (5 * (A.1.2.length))) (nI (sp_v T n (sp_n T n (sp_n T n (sp_n T n p)))))) 1 ((3646 + (5 * (A.1.2.length))) + 1) (nI (sp_iC A.1.1 (sp_wd T n (sp_n T n (sp_n T n (sp_n T n (sp_n T n (sp_n T n p))))))))) (fm_uL b 2 (82 + A.1.2.length) (Int64.ofNat (sp_c8 (sp_wd T n (sp_n T n p)))))) (by intro _ _ _; eq_refl) ?_
                rw [show (fx_cb .ne 1 0) = true from by decide]
                dsimp only [cond]
                refine fe_s 4 (pc' := 116) (lc' := [(2, .int (nI (sp_iC A.1.1 (sp_wd T n (sp_n T n (sp_n T n (sp_n T n (sp_n T n (sp_n T n p))))))))), (1, .int (nI (3646 + (5 * (A.1.2.length))))), (0, .ref 0)]) (stk' := [.int 3369, .ref 1, .int 3369, .ref 1]) (mem' := fm gc9 tp bt (fm_u (fm_u a 1 (3646 + (5 * (A.1.2.length))) (nI (sp_v T n (sp_n T n (sp_n T n (sp_n T n p)))))) 1 ((3646 + (5 * (A.1.2.length))) + 1) (nI (sp_iC A.1.1 (sp_wd T n (sp_n T n (sp_n T n (sp_n T n (sp_n T n (sp_n T n p))))))))) (fm_uL b 2 (82 + A.1.2.length) (Int64.ofNat (sp_c8 (sp_wd T n (sp_n T n p)))))) (by intro _ _ _; eq_refl) ?_
                refine fe_ldI (by rfl) (by rfl) (fx_inN (i := 3369) (by omega) (by omega)) ?_
                rw [show Int32.toNatClampNeg (3369) = 3369 from rfl]
                rw [show (fm_u (fm_u a 1 (3646 + (5 * (A.1.2.length))) (nI (sp_v T n (sp_n T n (sp_n T n (sp_n T n p)))))) 1 ((3646 + (5 * (A.1.2.length))) + 1) (nI (sp_iC A.1.1 (sp_wd T n (sp_n T n (sp_n T n (sp_n T n (sp_n T n (sp_n T n p))))))))) 1 3369 = nI (A.1.2.length) from hAw10.1.2.2.1]
                refine fe_s 2 (pc' := 119) (lc' := [(2, .int (nI (sp_iC A.1.1 (sp_wd T n (sp_n T n (sp_n T n (sp_n T n (sp_n T n (sp_n T n p))))))))), (1, .int (nI (3646 + (5 * (A.1.2.length))))), (0, .ref 0)]) (stk' := [.int ((nI (A.1.2.length)) + 1), .int 3369, .ref 1]) (mem' := fm gc9 tp bt (fm_u (fm_u a 1 (3646 + (5 * (A.1.2.length))) (nI (sp_v T n (sp_n T n (sp_n T n (sp_n T n p)))))) 1 ((3646 + (5 * (A.1.2.length))) + 1) (nI (sp_iC A.1.1 (sp_wd T n (sp_n T n (sp_n T n (sp_n T n (sp_n T n (sp_n T n p))))))))) (fm_uL b 2 (82 + A.1.2.length) (Int64.ofNat (sp_c8 (sp_wd T n (sp_n T n p)))))) (by intro _ _ _; eq_refl) ?_
                rw [show ((nI (A.1.2.length)) + 1 : Int32) = nI ((A.1.2.length) + 1) from by simp only [show (1 : Int32) = nI 1 from rfl, nI_add, fm_mul]]
                refine fe_stI (mem' := fm gc9 tp bt (fm_u (fm_u (fm_u a 1 (3646 + (5 * (A.1.2.length))) (nI (sp_v T n (sp_n T n (sp_n T n (sp_n T n p)))))) 1 ((3646 + (5 * (A.1.2.length))) + 1) (nI (sp_iC A.1.1 (sp_wd T n (sp_n T n (sp_n T n (sp_n T n (sp_n T n (sp_n T n p))))))))) 1 (3369 : Int32).toNatClampNeg (nI ((A.1.2.length) + 1))) (fm_uL b 2 (82 + A.1.2.length) (Int64.ofNat (sp_c8 (sp_wd T n (sp_n T n p)))))) (by rfl) (by rfl) (fx_inN (i := 3369) (by omega) (by omega)) fm_si1 ?_
                rw [show Int32.toNatClampNeg (3369) = 3369 from rfl]
                have hTw11 := mT_u (t := 1) (i := 3369) (x := nI ((A.1.2.length) + 1)) (by decide) hTw10
                refine fe_s 1 (pc' := 121) (lc' := [(2, .int (nI (sp_iC A.1.1 (sp_wd T n (sp_n T n (sp_n T n (sp_n T n (sp_n T n (sp_n T n p))))))))), (1, .int (nI (3646 + (5 * (A.1.2.length))))), (0, .ref 0)]) (stk' := [.int 1]) (mem' := fm gc9 tp bt (fm_u (fm_u (fm_u a 1 (3646 + (5 * (A.1.2.length))) (nI (sp_v T n (sp_n T n (sp_n T n (sp_n T n p)))))) 1 ((3646 + (5 * (A.1.2.length))) + 1) (nI (sp_iC A.1.1 (sp_wd T n (sp_n T n (sp_n T n (sp_n T n (sp_n T n (sp_n T n p))))))))) 1 3369 (nI ((A.1.2.length) + 1))) (fm_uL b 2 (82 + A.1.2.length) (Int64.ofNat (sp_c8 (sp_wd T n (sp_n T n p)))))) (by intro _ _ _; eq_refl) ?_
                refine fe_ret ⟨1, _, _, _, ⟨(fm_tx8_tr (fm_tx8_tr (fm_tx8_tr (fm_tx8_tr (fm_tx8_tr fm_tx8_rf txc1) txc2) txc3) txc5) txc9), (mfa_u (mfa_u (mfa_u mfa_rf (by omega)) (by omega)) (by omega)), (mfb_u mfb_rf (by omega)), Or.inl ⟨rfl, sp_addW A (sp_wd T n (sp_n T n p)) (sp_v T n (sp_n T n (sp_n T n (sp_n T n p)))), s, (sp_n T n (sp_n T n (sp_n T n (sp_n T n (sp_n T n (sp_n T n p)))))), ?_, hmc9, ?_, hst.1, (((fm_tx8_tr (fm_tx8_tr (fm_tx8_tr (fm_tx8_tr (fm_tx8_tr fm_tx8_rf txc1) txc2) txc3) txc5) txc9) 20 (by decide) (by decide) (by decide) (by decide) (by decide) (by decide)).trans hst.2)⟩⟩, rfl⟩ (by rfl) (by rfl) (by rfl)
                · unfold sp_pWalk
                  rw [if_neg (by omega), sp_new_t nmc1 htc1, sp_word_t hwc2, sp_num_t hwc3 hvc3, sp_word_t hwc5, sp_cell_t nnc9 ffc9, if_pos hsc7]
                · refine md_addW (w := (sp_v T n (sp_n T n (sp_n T n (sp_n T n p))))) hAw10 (by omega) ?_ hvc3 fm_vL2s (sp_nm_lt (sp_n_le h.1) nmc1)
                  rw [fm_v1 (by omega)]; exact fm_v1s
              · exact absurd foc6 ffc9
              · exact absurd nmc6 nnc9
          · have nkc6 := nmc6.1
            refine fe_s 3 (pc' := 69) (lc' := [(2, .int (-1)), (1, .int (nI (3646 + (5 * (A.1.2.length))))), (0, .ref 0)]) (stk' := [.int (-1), .int (-1)]) (mem' := fm gc5 tp bt (fm_u a 1 (3646 + (5 * (A.1.2.length))) (nI (sp_v T n (sp_n T n (sp_n T n (sp_n T n p)))))) (fm_uL b 2 (82 + A.1.2.length) (Int64.ofNat (sp_c8 (sp_wd T n (sp_n T n p)))))) (by intro _ _ _; eq_refl) ?_
            refine fe_s 1 (pc' := cond (fx_cb .eq (-1) (-1)) 86 72) (lc' := [(2, .int (-1)), (1, .int (nI (3646 + (5 * (A.1.2.length))))), (0, .ref 0)]) (stk' := []) (mem' := fm gc5 tp bt (fm_u a 1 (3646 + (5 * (A.1.2.length))) (nI (sp_v T n (sp_n T n (sp_n T n (sp_n T n p)))))) (fm_uL b 2 (82 + A.1.2.length) (Int64.ofNat (sp_c8 (sp_wd T n (sp_n T n p)))))) (by intro _ _ _; eq_refl) ?_
            rw [show (fx_cb .eq (-1) (-1)) = true from by decide]
            dsimp only [cond]
            refine fe_s 5 (pc' := 96) (lc' := [(2, .int (-1)), (1, .int (nI (3646 + (5 * (A.1.2.length))))), (0, .ref 0)]) (stk' := [.int 3368, .ref 1, .int 72, .ref 0]) (mem' := fm gc5 tp bt (fm_u a 1 (3646 + (5 * (A.1.2.length))) (nI (sp_v T n (sp_n T n (sp_n T n (sp_n T n p)))))) (fm_uL b 2 (82 + A.1.2.length) (Int64.ofNat (sp_c8 (sp_wd T n (sp_n T n p)))))) (by intro _ _ _; eq_refl) ?_
            refine fe_ldI (by rfl) (by rfl) (fx_inN (i := 3368) (by omega) (by omega)) ?_
            rw [show Int32.toNatClampNeg (3368) = 3368 from rfl]
            rw [show (fm_u a 1 (3646 + (5 * (A.1.2.length))) (nI (sp_v T n (sp_n T n (sp_n T n (sp_n T n p)))))) 1 3368 = nI (A.1.1.length) from hAw4.1.1]
            refine fe_s 3 (pc' := 100) (lc' := [(2, .int (-1)), (1, .int (nI (3646 + (5 * (A.1.2.length))))), (0, .ref 0)]) (stk' := [.int ((nI (3646 + (5 * (A.1.2.length)))) + 1), .int (nI (A.1.1.length)), .int 72, .ref 0]) (mem' := fm gc5 tp bt (fm_u a 1 (3646 + (5 * (A.1.2.length))) (nI (sp_v T n (sp_n T n (sp_n T n (sp_n T n p)))))) (fm_uL b 2 (82 + A.1.2.length) (Int64.ofNat (sp_c8 (sp_wd T n (sp_n T n p)))))) (by intro _ _ _; eq_refl) ?_
            rw [show ((nI (3646 + (5 * (A.1.2.length)))) + 1 : Int32) = nI ((3646 + (5 * (A.1.2.length))) + 1) from by simp only [show (1 : Int32) = nI 1 from rfl, nI_add, fm_mul]]
            obtain ⟨xc12, gc12, ac12, bc12, hrc12, txc12, ebc12, hxc12⟩ := mr_oldOne (t := (3646 + (5 * (A.1.2.length))) + 1) (tp := tp) (bt := bt) hTw4 hAw4 hmc5 (by omega)
            rw [ebc12] at hrc12
            refine fe_ivV hrc12 (by omega) (by rfl) (by rfl) (by rfl) (by rfl) (by rfl) (by rfl) ?_
            rcases hxc12 with ⟨nnc12, ffc12, rfl, eac12, hmc12⟩ | ⟨nnc12, ffc12, rfl, eac12, hmc12⟩ | ⟨nnc12, rfl, eac12, hmc12⟩
            · exact absurd ffc12 foc6
            · rw [eac12]
              have hTw13 := mT_u (t := 1) (i := (3646 + (5 * (A.1.2.length))) + 1) (x := (-1)) (by decide) hTw4
              have hAw13 := md_u (t := (3646 + (5 * (A.1.2.length))) + 1) (x := (-1)) hAw4 (by omega) (by omega) (fun c hc => by omega) (fun i hi => by omega) (fun i hi => by omega)
              refine fe_s 1 (pc' := cond (fx_cb .ne 0 0) 108 106) (lc' := [(2, .int (-1)), (1, .int (nI (3646 + (5 * (A.1.2.length))))), (0, .ref 0)]) (stk' := []) (mem' := fm gc12 tp bt (fm_u (fm_u a 1 (3646 + (5 * (A.1.2.length))) (nI (sp_v T n (sp_n T n (sp_n T n (sp_n T n p)))))) 1 ((3646 + (5 * (A.1.2.length))) + 1) (-1)) (fm_uL b 2 (82 + A.1.2.length) (Int64.ofNat (sp_c8 (sp_wd T n (sp_n T n p)))))) (by intro _ _ _; eq_refl) ?_
              rw [show (fx_cb .ne 0 0) = false from by decide]
              dsimp only [cond]
              refine fe_s 1 (pc' := 107) (lc' := [(2, .int (-1)), (1, .int (nI (3646 + (5 * (A.1.2.length))))), (0, .ref 0)]) (stk' := [.int 0]) (mem' := fm gc12 tp bt (fm_u (fm_u a 1 (3646 + (5 * (A.1.2.length))) (nI (sp_v T n (sp_n T n (sp_n T n (sp_n T n p)))))) 1 ((3646 + (5 * (A.1.2.length))) + 1) (-1)) (fm_uL b 2 (82 + A.1.2.length) (Int64.ofNat (sp_c8 (sp_wd T n (sp_n T n p)))))) (by intro _ _ _; eq_refl) ?_
              refine fe_ret ⟨0, _, _, _, ⟨(fm_tx8_tr (fm_tx8_tr (fm_tx8_tr (fm_tx8_tr (fm_tx8_tr fm_tx8_rf txc1) txc2) txc3) txc5) txc12), (mfa_u (mfa_u mfa_rf (by omega)) (by omega)), (mfb_u mfb_rf (by omega)), Or.inr ⟨rfl, (3, sp_s T n (sp_n T n (sp_n T n (sp_n T n (sp_n T n (sp_n T n p)))))), ?_, hmc12⟩⟩, rfl⟩ (by rfl) (by rfl) (by rfl)
              unfold sp_pWalk
              rw [if_neg (by omega), sp_new_t nmc1 htc1, sp_word_t hwc2, sp_num_t hwc3 hvc3, sp_word_t hwc5, sp_cell_3 nnc12 ffc12]
            · exact absurd nmc6 nnc12
          · refine fe_s 3 (pc' := 69) (lc' := [(2, .int (-1)), (1, .int (nI (3646 + (5 * (A.1.2.length))))), (0, .ref 0)]) (stk' := [.int (-1), .int (-1)]) (mem' := fm gc5 tp bt (fm_u a 1 (3646 + (5 * (A.1.2.length))) (nI (sp_v T n (sp_n T n (sp_n T n (sp_n T n p)))))) (fm_uL b 2 (82 + A.1.2.length) (Int64.ofNat (sp_c8 (sp_wd T n (sp_n T n p)))))) (by intro _ _ _; eq_refl) ?_
            refine fe_s 1 (pc' := cond (fx_cb .eq (-1) (-1)) 86 72) (lc' := [(2, .int (-1)), (1, .int (nI (3646 + (5 * (A.1.2.length))))), (0, .ref 0)]) (stk' := []) (mem' := fm gc5 tp bt (fm_u a 1 (3646 + (5 * (A.1.2.length))) (nI (sp_v T n (sp_n T n (sp_n T n (sp_n T n p)))))) (fm_uL b 2 (82 + A.1.2.length) (Int64.ofNat (sp_c8 (sp_wd T n (sp_n T n p)))))) (by intro _ _ _; eq_refl) ?_
            rw [show (fx_cb .eq (-1) (-1)) = true from by decide]
            dsimp only [cond]
            refine fe_s 5 (pc' := 96) (lc' := [(2, .int (-1)), (1, .int (nI (3646 + (5 * (A.1.2.length))))), (0, .ref 0)]) (stk' := [.int 3368, .ref 1, .int 72, .ref 0]) (mem' := fm gc5 tp bt (fm_u a 1 (3646 + (5 * (A.1.2.length))) (nI (sp_v T n (sp_n T n (sp_n T n (sp_n T n p)))))) (fm_uL b 2 (82 + A.1.2.length) (Int64.ofNat (sp_c8 (sp_wd T n (sp_n T n p)))))) (by intro _ _ _; eq_refl) ?_
            refine fe_ldI (by rfl) (by rfl) (fx_inN (i := 3368) (by omega) (by omega)) ?_
            rw [show Int32.toNatClampNeg (3368) = 3368 from rfl]
            rw [show (fm_u a 1 (3646 + (5 * (A.1.2.length))) (nI (sp_v T n (sp_n T n (sp_n T n (sp_n T n p)))))) 1 3368 = nI (A.1.1.length) from hAw4.1.1]
            refine fe_s 3 (pc' := 100) (lc' := [(2, .int (-1)), (1, .int (nI (3646 + (5 * (A.1.2.length))))), (0, .ref 0)]) (stk' := [.int ((nI (3646 + (5 * (A.1.2.length)))) + 1), .int (nI (A.1.1.length)), .int 72, .ref 0]) (mem' := fm gc5 tp bt (fm_u a 1 (3646 + (5 * (A.1.2.length))) (nI (sp_v T n (sp_n T n (sp_n T n (sp_n T n p)))))) (fm_uL b 2 (82 + A.1.2.length) (Int64.ofNat (sp_c8 (sp_wd T n (sp_n T n p)))))) (by intro _ _ _; eq_refl) ?_
            rw [show ((nI (3646 + (5 * (A.1.2.length)))) + 1 : Int32) = nI ((3646 + (5 * (A.1.2.length))) + 1) from by simp only [show (1 : Int32) = nI 1 from rfl, nI_add, fm_mul]]
            obtain ⟨xc14, gc14, ac14, bc14, hrc14, txc14, ebc14, hxc14⟩ := mr_oldOne (t := (3646 + (5 * (A.1.2.length))) + 1) (tp := tp) (bt := bt) hTw4 hAw4 hmc5 (by omega)
            rw [ebc14] at hrc14
            refine fe_ivV hrc14 (by omega) (by rfl) (by rfl) (by rfl) (by rfl) (by rfl) (by rfl) ?_
            rcases hxc14 with ⟨nnc14, ffc14, rfl, eac14, hmc14⟩ | ⟨nnc14, ffc14, rfl, eac14, hmc14⟩ | ⟨nnc14, rfl, eac14, hmc14⟩
            · exact absurd nnc14 nmc6
            · exact absurd nnc14 nmc6
            · rw [eac14]
              refine fe_s 1 (pc' := cond (fx_cb .ne 0 0) 108 106) (lc' := [(2, .int (-1)), (1, .int (nI (3646 + (5 * (A.1.2.length))))), (0, .ref 0)]) (stk' := []) (mem' := fm gc14 tp bt (fm_u a 1 (3646 + (5 * (A.1.2.length))) (nI (sp_v T n (sp_n T n (sp_n T n (sp_n T n p)))))) (fm_uL b 2 (82 + A.1.2.length) (Int64.ofNat (sp_c8 (sp_wd T n (sp_n T n p)))))) (by intro _ _ _; eq_refl) ?_
              rw [show (fx_cb .ne 0 0) = false from by decide]
              dsimp only [cond]
              refine fe_s 1 (pc' := 107) (lc' := [(2, .int (-1)), (1, .int (nI (3646 + (5 * (A.1.2.length))))), (0, .ref 0)]) (stk' := [.int 0]) (mem' := fm gc14 tp bt (fm_u a 1 (3646 + (5 * (A.1.2.length))) (nI (sp_v T n (sp_n T n (sp_n T n (sp_n T n p)))))) (fm_uL b 2 (82 + A.1.2.length) (Int64.ofNat (sp_c8 (sp_wd T n (sp_n T n p)))))) (by intro _ _ _; eq_refl) ?_
              refine fe_ret ⟨0, _, _, _, ⟨(fm_tx8_tr (fm_tx8_tr (fm_tx8_tr (fm_tx8_tr (fm_tx8_tr fm_tx8_rf txc1) txc2) txc3) txc5) txc14), (mfa_u mfa_rf (by omega)), (mfb_u mfb_rf (by omega)), Or.inr ⟨rfl, (sp_m T n (sp_n T n (sp_n T n (sp_n T n (sp_n T n (sp_n T n p))))), sp_s T n (sp_n T n (sp_n T n (sp_n T n (sp_n T n (sp_n T n p)))))), ?_, hmc14⟩⟩, rfl⟩ (by rfl) (by rfl) (by rfl)
              unfold sp_pWalk
              rw [if_neg (by omega), sp_new_t nmc1 htc1, sp_word_t hwc2, sp_num_t hwc3 hvc3, sp_word_t hwc5, sp_cell_f nnc14]
        · refine fe_s 1 (pc' := cond (fx_cb .ne 0 0) 62 60) (lc' := [(1, .int (nI (3646 + (5 * (A.1.2.length))))), (0, .ref 0)]) (stk' := []) (mem' := fm gc5 tp bt (fm_u a 1 (3646 + (5 * (A.1.2.length))) (nI (sp_v T n (sp_n T n (sp_n T n (sp_n T n p)))))) (fm_uL b 2 (82 + A.1.2.length) (Int64.ofNat (sp_c8 (sp_wd T n (sp_n T n p)))))) (by intro _ _ _; eq_refl) ?_
          rw [show (fx_cb .ne 0 0) = false from by decide]
          dsimp only [cond]
          refine fe_s 1 (pc' := 61) (lc' := [(1, .int (nI (3646 + (5 * (A.1.2.length))))), (0, .ref 0)]) (stk' := [.int 0]) (mem' := fm gc5 tp bt (fm_u a 1 (3646 + (5 * (A.1.2.length))) (nI (sp_v T n (sp_n T n (sp_n T n (sp_n T n p)))))) (fm_uL b 2 (82 + A.1.2.length) (Int64.ofNat (sp_c8 (sp_wd T n (sp_n T n p)))))) (by intro _ _ _; eq_refl) ?_
          refine fe_ret ⟨0, _, _, _, ⟨(fm_tx8_tr (fm_tx8_tr (fm_tx8_tr (fm_tx8_tr fm_tx8_rf txc1) txc2) txc3) txc5), (mfa_u mfa_rf (by omega)), (mfb_u mfb_rf (by omega)), Or.inr ⟨rfl, (sp_m T n (sp_n T n (sp_n T n (sp_n T n (sp_n T n p)))), sp_s T n (sp_n T n (sp_n T n (sp_n T n (sp_n T n p))))), ?_, hmc5⟩⟩, rfl⟩ (by rfl) (by rfl) (by rfl)
          unfold sp_pWalk
          rw [if_neg (by omega), sp_new_t nmc1 htc1, sp_word_t hwc2, sp_num_t hwc3 hvc3, sp_word_f hwc5]
      · rw [eac3]
        refine fe_s 1 (pc' := cond (fx_cb .eq 0 0) 60 49) (lc' := [(1, .int (nI (3646 + (5 * (A.1.2.length))))), (0, .ref 0)]) (stk' := []) (mem' := fm gc3 tp bt a (fm_uL b 2 (82 + A.1.2.length) (Int64.ofNat (sp_c8 (sp_wd T n (sp_n T n p)))))) (by intro _ _ _; eq_refl) ?_
        rw [show (fx_cb .eq 0 0) = true from by decide]
        dsimp only [cond]
        refine fe_s 1 (pc' := 61) (lc' := [(1, .int (nI (3646 + (5 * (A.1.2.length))))), (0, .ref 0)]) (stk' := [.int 0]) (mem' := fm gc3 tp bt a (fm_uL b 2 (82 + A.1.2.length) (Int64.ofNat (sp_c8 (sp_wd T n (sp_n T n p)))))) (by intro _ _ _; eq_refl) ?_
        refine fe_ret ⟨0, _, _, _, ⟨(fm_tx8_tr (fm_tx8_tr (fm_tx8_tr fm_tx8_rf txc1) txc2) txc3), mfa_rf, (mfb_u mfb_rf (by omega)), Or.inr ⟨rfl, (4, sp_s T n (sp_n T n (sp_n T n (sp_n T n p)))), ?_, hmc3⟩⟩, rfl⟩ (by rfl) (by rfl) (by rfl)
        unfold sp_pWalk
        rw [if_neg (by omega), sp_new_t nmc1 htc1, sp_word_t hwc2, sp_num_4 hwc3 hvc3]
      · rw [eac3]
        refine fe_s 1 (pc' := cond (fx_cb .eq 0 0) 60 49) (lc' := [(1, .int (nI (3646 + (5 * (A.1.2.length))))), (0, .ref 0)]) (stk' := []) (mem' := fm gc3 tp bt a (fm_uL b 2 (82 + A.1.2.length) (Int64.ofNat (sp_c8 (sp_wd T n (sp_n T n p)))))) (by intro _ _ _; eq_refl) ?_
        rw [show (fx_cb .eq 0 0) = true from by decide]
        dsimp only [cond]
        refine fe_s 1 (pc' := 61) (lc' := [(1, .int (nI (3646 + (5 * (A.1.2.length))))), (0, .ref 0)]) (stk' := [.int 0]) (mem' := fm gc3 tp bt a (fm_uL b 2 (82 + A.1.2.length) (Int64.ofNat (sp_c8 (sp_wd T n (sp_n T n p)))))) (by intro _ _ _; eq_refl) ?_
        refine fe_ret ⟨0, _, _, _, ⟨(fm_tx8_tr (fm_tx8_tr (fm_tx8_tr fm_tx8_rf txc1) txc2) txc3), mfa_rf, (mfb_u mfb_rf (by omega)), Or.inr ⟨rfl, (sp_m T n (sp_n T n (sp_n T n (sp_n T n p))), sp_s T n (sp_n T n (sp_n T n (sp_n T n p)))), ?_, hmc3⟩⟩, rfl⟩ (by rfl) (by rfl) (by rfl)
        unfold sp_pWalk
        rw [if_neg (by omega), sp_new_t nmc1 htc1, sp_word_t hwc2, sp_num_f hwc3]
    · refine fe_s 1 (pc' := cond (fx_cb .eq 0 0) 60 38) (lc' := [(1, .int (nI (3646 + (5 * (A.1.2.length))))), (0, .ref 0)]) (stk' := []) (mem' := fm gc2 tp bt a (fm_uL b 2 (82 + A.1.2.length) (Int64.ofNat (sp_c8 (sp_wd T n (sp_n T n p)))))) (by intro _ _ _; eq_refl) ?_
      rw [show (fx_cb .eq 0 0) = true from by decide]
      dsimp only [cond]
      refine fe_s 1 (pc' := 61) (lc' := [(1, .int (nI (3646 + (5 * (A.1.2.length))))), (0, .ref 0)]) (stk' := [.int 0]) (mem' := fm gc2 tp bt a (fm_uL b 2 (82 + A.1.2.length) (Int64.ofNat (sp_c8 (sp_wd T n (sp_n T n p)))))) (by intro _ _ _; eq_refl) ?_
      refine fe_ret ⟨0, _, _, _, ⟨(fm_tx8_tr (fm_tx8_tr fm_tx8_rf txc1) txc2), mfa_rf, (mfb_u mfb_rf (by omega)), Or.inr ⟨rfl, (sp_m T n (sp_n T n (sp_n T n p)), sp_s T n (sp_n T n (sp_n T n p))), ?_, hmc2⟩⟩, rfl⟩ (by rfl) (by rfl) (by rfl)
      unfold sp_pWalk
      rw [if_neg (by omega), sp_new_t nmc1 htc1, sp_word_f hwc2]
  · rw [ebc1]
    refine fe_s 1 (pc' := cond (fx_cb .eq 0 0) 60 27) (lc' := [(1, .int (nI (3646 + (5 * (A.1.2.length))))), (0, .ref 0)]) (stk' := []) (mem' := fm gc1 tp bt a b) (by intro _ _ _; eq_refl) ?_
    rw [show (fx_cb .eq 0 0) = true from by decide]
    dsimp only [cond]
    refine fe_s 1 (pc' := 61) (lc' := [(1, .int (nI (3646 + (5 * (A.1.2.length))))), (0, .ref 0)]) (stk' := [.int 0]) (mem' := fm gc1 tp bt a b) (by intro _ _ _; eq_refl) ?_
    refine fe_ret ⟨0, _, _, _, ⟨(fm_tx8_tr fm_tx8_rf txc1), mfa_rf, mfb_rf, Or.inr ⟨rfl, (6, sp_s T n p), ?_, hmc1⟩⟩, rfl⟩ (by rfl) (by rfl) (by rfl)
    unfold sp_pWalk
    rw [if_pos (by omega)]
    try rfl
  · rw [ebc1]
    refine fe_s 1 (pc' := cond (fx_cb .eq 0 0) 60 27) (lc' := [(1, .int (nI (3646 + (5 * (A.1.2.length))))), (0, .ref 0)]) (stk' := []) (mem' := fm gc1 tp bt a b) (by intro _ _ _; eq_refl) ?_
    rw [show (fx_cb .eq 0 0) = true from by decide]
    dsimp only [cond]
    refine fe_s 1 (pc' := 61) (lc' := [(1, .int (nI (3646 + (5 * (A.1.2.length))))), (0, .ref 0)]) (stk' := [.int 0]) (mem' := fm gc1 tp bt a b) (by intro _ _ _; eq_refl) ?_
    refine fe_ret ⟨0, _, _, _, ⟨(fm_tx8_tr fm_tx8_rf txc1), mfa_rf, mfb_rf, Or.inr ⟨rfl, (sp_m T n (sp_n T n p), sp_s T n (sp_n T n p)), ?_, hmc1⟩⟩, rfl⟩ (by rfl) (by rfl) (by rfl)
    unfold sp_pWalk
    rw [if_neg (by omega), sp_new_f nmc1]
  · rw [ebc1]
    refine fe_s 1 (pc' := cond (fx_cb .eq 0 0) 60 27) (lc' := [(1, .int (nI (3646 + (5 * (A.1.2.length))))), (0, .ref 0)]) (stk' := []) (mem' := fm gc1 tp bt a b) (by intro _ _ _; eq_refl) ?_
    rw [show (fx_cb .eq 0 0) = true from by decide]
    dsimp only [cond]
    refine fe_s 1 (pc' := 61) (lc' := [(1, .int (nI (3646 + (5 * (A.1.2.length))))), (0, .ref 0)]) (stk' := [.int 0]) (mem' := fm gc1 tp bt a b) (by intro _ _ _; eq_refl) ?_
    refine fe_ret ⟨0, _, _, _, ⟨(fm_tx8_tr fm_tx8_rf txc1), mfa_rf, mfb_rf, Or.inr ⟨rfl, (3, sp_s T n (sp_n T n p)), ?_, hmc1⟩⟩, rfl⟩ (by rfl) (by rfl) (by rfl)
    unfold sp_pWalk
    rw [if_neg (by omega), sp_new_3 nmc1 htc1]
theorem mo_u20 {x : Int32} (h : mo g T n p) : mo (upd g 20 x) T n p := by
  obtain ⟨h0, ⟨h11, h13, ⟨e, h14, q⟩, h12, h15, h16, h17, h18⟩, k1, k2⟩ := h
  have e15 : (upd g 20 x) 15 = g 15 := pk_un (by decide)
  exact ⟨h0, ⟨(pk_un (by decide)).trans h11, (pk_un (by decide)).trans h13, ⟨e, (pk_un (by decide)).trans h14, q⟩, (pk_un (by decide)).trans h12, fun z => e15.trans (h15 z), fun z => e15.trans (h16 z), by rw [e15]; exact h17, by rw [e15]; exact h18⟩, (pk_un (by decide)).trans k1, (pk_un (by decide)).trans k2⟩
/-- told0 may change, too -/
def fm_tx9 (g g' : Nat → Int32) : Prop := ∀ j, j ≠ 12 → j ≠ 13 → j ≠ 14 → j ≠ 15 → j ≠ 17 → j ≠ 18 → j ≠ 20 → g' j = g j
theorem mr_once0 (hT : mT a T n) (hA : md_L 3368 72 A a b) (h : mo g T n p) (hst : s < 8 ∧ g 20 = nI (32 * s)) (hk : sp_k T n p = 1) : ∃ (v : Int32) (g' : Nat → Int32) (a' : Nat → Nat → Int32) (b' : Nat → Nat → Int64), fr_T 8 244 [.ref 0, .int 5] (fm g tp bt a b) (some (.int v)) (fm g' tp bt a' b') ∧ (fm_tx9 g g') ∧ mfa a a' ∧ mfb b b' ∧ mPart T n (sp_pSet T n A s p 0 0) v g' a' b' := by
  suffices h : ∃ (v : Option Value) (mem' : fx_M), (fun R => ∃ (v : Int32) (g' : Nat → Int32) (a' : Nat → Nat → Int32) (b' : Nat → Nat → Int64), ((fm_tx9 g g') ∧ mfa a a' ∧ mfb b b' ∧ mPart T n (sp_pSet T n A s p 0 0) v g' a' b') ∧ R = (some (.int v), fm g' tp bt a' b')) (v, mem') ∧ fr_T 8 244 [.ref 0, .int 5] (fm g tp bt a b) v mem' by
    obtain ⟨v, mem', ⟨w, g', a', b', h1, hR⟩, h2⟩ := h
    cases hR
    exact ⟨w, g', a', b', h2, h1⟩
  refine fe_meth (f := 244) (as := [.ref 0, .int 5]) (F := fun R => ∃ (v : Int32) (g' : Nat → Int32) (a' : Nat → Nat → Int32) (b' : Nat → Nat → Int64), ((fm_tx9 g g') ∧ mfa a a' ∧ mfb b b' ∧ mPart T n (sp_pSet T n A s p 0 0) v g' a' b') ∧ R = (some (.int v), fm g' tp bt a' b')) (M := gk_m244) (by rfl) (by rfl) ?_
  have hq0 := hA.1.2.1
  have hq1 := hA.1.2.2.2
  have hs8 := hst.1
  by_cases hb : s / 2 ^ 0 % 2 = 1
  · have b1 : (nI (32 * s) >>> ((5 : Int32) &&& 31)) &&& 1 = 1 := mst_b0 s hs8 0 (by decide) hb
    refine fe_s 7 (pc' := 9) (lc' := [(0, .ref 0), (1, .int 5)]) (stk' := [.int 1, .int (((g 20) >>> (5 &&& 31)) &&& 1)]) (mem' := fm g tp bt a b) (by intro _ _ _; eq_refl) ?_
    try rw [hst.2]
    refine fe_s 1 (pc' := cond (fx_cb .ne (((nI (32 * s)) >>> (5 &&& 31)) &&& 1) 1) 18 12) (lc' := [(0, .ref 0), (1, .int 5)]) (stk' := []) (mem' := fm g tp bt a b) (by intro _ _ _; eq_refl) ?_
    rw [show (fx_cb .ne (((nI (32 * s)) >>> (5 &&& 31)) &&& 1) 1) = false from (by rw [b1]; decide)]
    dsimp only [cond]
    refine fe_s 2 (pc' := 14) (lc' := [(0, .ref 0), (1, .int 5)]) (stk' := [.int 5, .ref 0]) (mem' := fm g tp bt a b) (by intro _ _ _; eq_refl) ?_
    obtain ⟨gc1, hrc1, txc1, hmc1⟩ := mr_failsx (tp := tp) (bt := bt) (a := a) (b := b) (x := 5) h (by decide) (by omega)
    refine fe_ivV hrc1 (by omega) (by rfl) (by rfl) (by rfl) (by rfl) (by rfl) (by rfl) ?_
    refine fe_ret ⟨0, _, _, _, ⟨(fun j q1 q2 q3 q4 q5 q6 q7 => ((fm_tx8_tr fm_tx8_rf txc1) j q1 q2 q3 q4 q5 q6)), mfa_rf, mfb_rf, Or.inr ⟨rfl, (5, sp_s T n p), ?_, hmc1⟩⟩, rfl⟩ (by rfl) (by rfl) (by rfl)
    unfold sp_pSet
    rw [if_pos hb]
  · obtain ⟨b0, b2, b3⟩ := mst_b1 s hs8 0 (by decide) hb
    have b1 : ¬ (nI (32 * s) >>> ((5 : Int32) &&& 31)) &&& 1 = 1 := b0
    refine fe_s 7 (pc' := 9) (lc' := [(0, .ref 0), (1, .int 5)]) (stk' := [.int 1, .int (((g 20) >>> (5 &&& 31)) &&& 1)]) (mem' := fm g tp bt a b) (by intro _ _ _; eq_refl) ?_
    try rw [hst.2]
    refine fe_s 1 (pc' := cond (fx_cb .ne (((nI (32 * s)) >>> (5 &&& 31)) &&& 1) 1) 18 12) (lc' := [(0, .ref 0), (1, .int 5)]) (stk' := []) (mem' := fm g tp bt a b) (by intro _ _ _; eq_refl) ?_
    rw [show (fx_cb .ne (((nI (32 * s)) >>> (5 &&& 31)) &&& 1) 1) = true from (by show (!decide (_ = (1 : Int32))) = true; rw [decide_eq_false b1]; rfl)]
    dsimp only [cond]
    refine fe_s 9 (pc' := 31) (lc' := [(0, .ref 0), (1, .int 5)]) (stk' := [.ref 0]) (mem' := fm (upd g 20 ((g 20) ||| ((1 : Int32) <<< (5 &&& 31)))) tp bt a b) (by intro _ _ _; eq_refl) ?_
    try rw [hst.2]
    have hmc1 := mo_u20 (x := (nI (32 * s)) ||| ((1 : Int32) <<< (5 &&& 31))) h
    generalize hgc1 : upd g 20 ((nI (32 * s)) ||| ((1 : Int32) <<< (5 &&& 31))) = gc1 at hmc1 ⊢
    have h20c1 : gc1 20 = nI (32 * (s + 2 ^ 0)) := by rw [← hgc1, pk_us]; exact b2
    have huc1 : ∀ j, j ≠ 20 → gc1 j = g j := fun j hj => by rw [← hgc1, pk_un hj]
    obtain ⟨gc2, hrc2, txc2, hmc2⟩ := mr_aheado (tp := tp) (bt := bt) (b := b) hT hmc1 (by omega)
    refine fe_ivV hrc2 (by omega) (by rfl) (by rfl) (by rfl) (by rfl) (by rfl) (by rfl) ?_
    refine fe_s 8 (pc' := 45) (lc' := [(0, .ref 0), (1, .int 5)]) (stk' := [.int 6, .int 5, .int ((3370 + 5) - 5), .ref 0]) (mem' := fm gc2 tp bt a b) (by intro _ _ _; eq_refl) ?_
    rw [show ((3370 + 5) - 5 : Int32) = 3370 from rfl]
    refine fe_s 1 (pc' := cond (fx_cb .ne 5 6) 52 48) (lc' := [(0, .ref 0), (1, .int 5)]) (stk' := [.int 3370, .ref 0]) (mem' := fm gc2 tp bt a b) (by intro _ _ _; eq_refl) ?_
    rw [show (fx_cb .ne 5 6) = true from by decide]
    dsimp only [cond]
    refine fe_s 2 (pc' := 55) (lc' := [(0, .ref 0), (1, .int 5)]) (stk' := [.int 20, .int 0, .int 3370, .ref 0]) (mem' := fm gc2 tp bt a b) (by intro _ _ _; eq_refl) ?_
    obtain ⟨xc3, gc3, ac3, hrc3, txc3, hxc3⟩ := mr_number (t := 3370) (lo := 0) (hi := 20) (tp := tp) (bt := bt) (b := b) hT (by omega) (by decide) (by decide) hmc2
    refine fe_ivV hrc3 (by omega) (by rfl) (by rfl) (by rfl) (by rfl) (by rfl) (by rfl) ?_
    rcases hxc3 with ⟨hwc3, hvc3, rfl, eac3, hmc3⟩ | ⟨hwc3, hvc3, rfl, eac3, hmc3⟩ | ⟨hwc3, rfl, eac3, hmc3⟩
    · rw [eac3]
      have hTw4 := mT_u (t := 1) (i := 3370) (x := nI (sp_v T n (sp_n T n p))) (by decide) hT
      have hAw4 := md_u (t := 3370) (x := nI (sp_v T n (sp_n T n p))) hA (by omega) (by omega) (fun c hc => by omega) (fun i hi => by omega) (fun i hi => by omega)
      refine fe_ret ⟨1, _, _, _, ⟨(fun j q1 q2 q3 q4 q5 q6 q7 => ((fm_tx8_tr (fm_tx8_tr fm_tx8_rf txc2) txc3) j q1 q2 q3 q4 q5 q6).trans (huc1 j q7)), (mfa_u mfa_rf (by omega)), mfb_rf, Or.inl ⟨rfl, A, s + 2 ^ 0, (sp_n T n (sp_n T n p)), ?_, hmc3, hAw4, b3, ((fm_tx8_tr (fm_tx8_tr fm_tx8_rf txc2) txc3) 20 (by decide) (by decide) (by decide) (by decide) (by decide) (by decide)).trans h20c1⟩⟩, rfl⟩ (by rfl) (by rfl) (by rfl)
      unfold sp_pSet
      rw [if_neg hb, sp_num_t hwc3 hvc3]
    · rw [eac3]
      refine fe_ret ⟨0, _, _, _, ⟨(fun j q1 q2 q3 q4 q5 q6 q7 => ((fm_tx8_tr (fm_tx8_tr fm_tx8_rf txc2) txc3) j q1 q2 q3 q4 q5 q6).trans (huc1 j q7)), mfa_rf, mfb_rf, Or.inr ⟨rfl, (4, sp_s T n (sp_n T n p)), ?_, hmc3⟩⟩, rfl⟩ (by rfl) (by rfl) (by rfl)
      unfold sp_pSet
      rw [if_neg hb, sp_num_4 hwc3 hvc3]
    · rw [eac3]
      refine fe_ret ⟨0, _, _, _, ⟨(fun j q1 q2 q3 q4 q5 q6 q7 => ((fm_tx8_tr (fm_tx8_tr fm_tx8_rf txc2) txc3) j q1 q2 q3 q4 q5 q6).trans (huc1 j q7)), mfa_rf, mfb_rf, Or.inr ⟨rfl, (sp_m T n (sp_n T n p), sp_s T n (sp_n T n p)), ?_, hmc3⟩⟩, rfl⟩ (by rfl) (by rfl) (by rfl)
      unfold sp_pSet
      rw [if_neg hb, sp_num_f hwc3]
theorem mr_once1 (hT : mT a T n) (hA : md_L 3368 72 A a b) (h : mo g T n p) (hst : s < 8 ∧ g 20 = nI (32 * s)) (hk : sp_k T n p = 1) : ∃ (v : Int32) (g' : Nat → Int32) (a' : Nat → Nat → Int32) (b' : Nat → Nat → Int64), fr_T 8 244 [.ref 0, .int 6] (fm g tp bt a b) (some (.int v)) (fm g' tp bt a' b') ∧ (fm_tx9 g g') ∧ mfa a a' ∧ mfb b b' ∧ mPart T n (sp_pSet T n A s p 1 1) v g' a' b' := by
  suffices h : ∃ (v : Option Value) (mem' : fx_M), (fun R => ∃ (v : Int32) (g' : Nat → Int32) (a' : Nat → Nat → Int32) (b' : Nat → Nat → Int64), ((fm_tx9 g g') ∧ mfa a a' ∧ mfb b b' ∧ mPart T n (sp_pSet T n A s p 1 1) v g' a' b') ∧ R = (some (.int v), fm g' tp bt a' b')) (v, mem') ∧ fr_T 8 244 [.ref 0, .int 6] (fm g tp bt a b) v mem' by
    obtain ⟨v, mem', ⟨w, g', a', b', h1, hR⟩, h2⟩ := h
    cases hR
    exact ⟨w, g', a', b', h2, h1⟩
  refine fe_meth (f := 244) (as := [.ref 0, .int 6]) (F := fun R => ∃ (v : Int32) (g' : Nat → Int32) (a' : Nat → Nat → Int32) (b' : Nat → Nat → Int64), ((fm_tx9 g g') ∧ mfa a a' ∧ mfb b b' ∧ mPart T n (sp_pSet T n A s p 1 1) v g' a' b') ∧ R = (some (.int v), fm g' tp bt a' b')) (M := gk_m244) (by rfl) (by rfl) ?_
  have hq0 := hA.1.2.1
  have hq1 := hA.1.2.2.2
  have hs8 := hst.1
  by_cases hb : s / 2 ^ 1 % 2 = 1
  · have b1 : (nI (32 * s) >>> ((6 : Int32) &&& 31)) &&& 1 = 1 := mst_b0 s hs8 1 (by decide) hb
    refine fe_s 7 (pc' := 9) (lc' := [(0, .ref 0), (1, .int 6)]) (stk' := [.int 1, .int (((g 20) >>> (6 &&& 31)) &&& 1)]) (mem' := fm g tp bt a b) (by intro _ _ _; eq_refl) ?_
    try rw [hst.2]
    refine fe_s 1 (pc' := cond (fx_cb .ne (((nI (32 * s)) >>> (6 &&& 31)) &&& 1) 1) 18 12) (lc' := [(0, .ref 0), (1, .int 6)]) (stk' := []) (mem' := fm g tp bt a b) (by intro _ _ _; eq_refl) ?_
    rw [show (fx_cb .ne (((nI (32 * s)) >>> (6 &&& 31)) &&& 1) 1) = false from (by rw [b1]; decide)]
    dsimp only [cond]
    refine fe_s 2 (pc' := 14) (lc' := [(0, .ref 0), (1, .int 6)]) (stk' := [.int 5, .ref 0]) (mem' := fm g tp bt a b) (by intro _ _ _; eq_refl) ?_
    obtain ⟨gc1, hrc1, txc1, hmc1⟩ := mr_failsx (tp := tp) (bt := bt) (a := a) (b := b) (x := 5) h (by decide) (by omega)
    refine fe_ivV hrc1 (by omega) (by rfl) (by rfl) (by rfl) (by rfl) (by rfl) (by rfl) ?_
    refine fe_ret ⟨0, _, _, _, ⟨(fun j q1 q2 q3 q4 q5 q6 q7 => ((fm_tx8_tr fm_tx8_rf txc1) j q1 q2 q3 q4 q5 q6)), mfa_rf, mfb_rf, Or.inr ⟨rfl, (5, sp_s T n p), ?_, hmc1⟩⟩, rfl⟩ (by rfl) (by rfl) (by rfl)
    unfold sp_pSet
    rw [if_pos hb]
  · obtain ⟨b0, b2, b3⟩ := mst_b1 s hs8 1 (by decide) hb
    have b1 : ¬ (nI (32 * s) >>> ((6 : Int32) &&& 31)) &&& 1 = 1 := b0
    refine fe_s 7 (pc' := 9) (lc' := [(0, .ref 0), (1, .int 6)]) (stk' := [.int 1, .int (((g 20) >>> (6 &&& 31)) &&& 1)]) (mem' := fm g tp bt a b) (by intro _ _ _; eq_refl) ?_
    try rw [hst.2]
    refine fe_s 1 (pc' := cond (fx_cb .ne (((nI (32 * s)) >>> (6 &&& 31)) &&& 1) 1) 18 12) (lc' := [(0, .ref 0), (1, .int 6)]) (stk' := []) (mem' := fm g tp bt a b) (by intro _ _ _; eq_refl) ?_
    rw [show (fx_cb .ne (((nI (32 * s)) >>> (6 &&& 31)) &&& 1) 1) = true from (by show (!decide (_ = (1 : Int32))) = true; rw [decide_eq_false b1]; rfl)]
    dsimp only [cond]
    refine fe_s 9 (pc' := 31) (lc' := [(0, .ref 0), (1, .int 6)]) (stk' := [.ref 0]) (mem' := fm (upd g 20 ((g 20) ||| ((1 : Int32) <<< (6 &&& 31)))) tp bt a b) (by intro _ _ _; eq_refl) ?_
    try rw [hst.2]
    have hmc1 := mo_u20 (x := (nI (32 * s)) ||| ((1 : Int32) <<< (6 &&& 31))) h
    generalize hgc1 : upd g 20 ((nI (32 * s)) ||| ((1 : Int32) <<< (6 &&& 31))) = gc1 at hmc1 ⊢
    have h20c1 : gc1 20 = nI (32 * (s + 2 ^ 1)) := by rw [← hgc1, pk_us]; exact b2
    have huc1 : ∀ j, j ≠ 20 → gc1 j = g j := fun j hj => by rw [← hgc1, pk_un hj]
    obtain ⟨gc2, hrc2, txc2, hmc2⟩ := mr_aheado (tp := tp) (bt := bt) (b := b) hT hmc1 (by omega)
    refine fe_ivV hrc2 (by omega) (by rfl) (by rfl) (by rfl) (by rfl) (by rfl) (by rfl) ?_
    refine fe_s 8 (pc' := 45) (lc' := [(0, .ref 0), (1, .int 6)]) (stk' := [.int 6, .int 6, .int ((3370 + 6) - 5), .ref 0]) (mem' := fm gc2 tp bt a b) (by intro _ _ _; eq_refl) ?_
    rw [show ((3370 + 6) - 5 : Int32) = 3371 from rfl]
    refine fe_s 1 (pc' := cond (fx_cb .ne 6 6) 52 48) (lc' := [(0, .ref 0), (1, .int 6)]) (stk' := [.int 3371, .ref 0]) (mem' := fm gc2 tp bt a b) (by intro _ _ _; eq_refl) ?_
    rw [show (fx_cb .ne 6 6) = false from by decide]
    dsimp only [cond]
    refine fe_s 3 (pc' := 55) (lc' := [(0, .ref 0), (1, .int 6)]) (stk' := [.int 20, .int 1, .int 3371, .ref 0]) (mem' := fm gc2 tp bt a b) (by intro _ _ _; eq_refl) ?_
    obtain ⟨xc3, gc3, ac3, hrc3, txc3, hxc3⟩ := mr_number (t := 3371) (lo := 1) (hi := 20) (tp := tp) (bt := bt) (b := b) hT (by omega) (by decide) (by decide) hmc2
    refine fe_ivV hrc3 (by omega) (by rfl) (by rfl) (by rfl) (by rfl) (by rfl) (by rfl) ?_
    rcases hxc3 with ⟨hwc3, hvc3, rfl, eac3, hmc3⟩ | ⟨hwc3, hvc3, rfl, eac3, hmc3⟩ | ⟨hwc3, rfl, eac3, hmc3⟩
    · rw [eac3]
      have hTw4 := mT_u (t := 1) (i := 3371) (x := nI (sp_v T n (sp_n T n p))) (by decide) hT
      have hAw4 := md_u (t := 3371) (x := nI (sp_v T n (sp_n T n p))) hA (by omega) (by omega) (fun c hc => by omega) (fun i hi => by omega) (fun i hi => by omega)
      refine fe_ret ⟨1, _, _, _, ⟨(fun j q1 q2 q3 q4 q5 q6 q7 => ((fm_tx8_tr (fm_tx8_tr fm_tx8_rf txc2) txc3) j q1 q2 q3 q4 q5 q6).trans (huc1 j q7)), (mfa_u mfa_rf (by omega)), mfb_rf, Or.inl ⟨rfl, A, s + 2 ^ 1, (sp_n T n (sp_n T n p)), ?_, hmc3, hAw4, b3, ((fm_tx8_tr (fm_tx8_tr fm_tx8_rf txc2) txc3) 20 (by decide) (by decide) (by decide) (by decide) (by decide) (by decide)).trans h20c1⟩⟩, rfl⟩ (by rfl) (by rfl) (by rfl)
      unfold sp_pSet
      rw [if_neg hb, sp_num_t hwc3 hvc3]
    · rw [eac3]
      refine fe_ret ⟨0, _, _, _, ⟨(fun j q1 q2 q3 q4 q5 q6 q7 => ((fm_tx8_tr (fm_tx8_tr fm_tx8_rf txc2) txc3) j q1 q2 q3 q4 q5 q6).trans (huc1 j q7)), mfa_rf, mfb_rf, Or.inr ⟨rfl, (4, sp_s T n (sp_n T n p)), ?_, hmc3⟩⟩, rfl⟩ (by rfl) (by rfl) (by rfl)
      unfold sp_pSet
      rw [if_neg hb, sp_num_4 hwc3 hvc3]
    · rw [eac3]
      refine fe_ret ⟨0, _, _, _, ⟨(fun j q1 q2 q3 q4 q5 q6 q7 => ((fm_tx8_tr (fm_tx8_tr fm_tx8_rf txc2) txc3) j q1 q2 q3 q4 q5 q6).trans (huc1 j q7)), mfa_rf, mfb_rf, Or.inr ⟨rfl, (sp_m T n (sp_n T n p), sp_s T n (sp_n T n p)), ?_, hmc3⟩⟩, rfl⟩ (by rfl) (by rfl) (by rfl)
      unfold sp_pSet
      rw [if_neg hb, sp_num_f hwc3]
theorem mr_once2 (hT : mT a T n) (hA : md_L 3368 72 A a b) (h : mo g T n p) (hst : s < 8 ∧ g 20 = nI (32 * s)) (hk : sp_k T n p = 1) : ∃ (v : Int32) (g' : Nat → Int32) (a' : Nat → Nat → Int32) (b' : Nat → Nat → Int64), fr_T 8 244 [.ref 0, .int 7] (fm g tp bt a b) (some (.int v)) (fm g' tp bt a' b') ∧ (fm_tx9 g g') ∧ mfa a a' ∧ mfb b b' ∧ mPart T n (sp_pSet T n A s p 2 0) v g' a' b' := by
  suffices h : ∃ (v : Option Value) (mem' : fx_M), (fun R => ∃ (v : Int32) (g' : Nat → Int32) (a' : Nat → Nat → Int32) (b' : Nat → Nat → Int64), ((fm_tx9 g g') ∧ mfa a a' ∧ mfb b b' ∧ mPart T n (sp_pSet T n A s p 2 0) v g' a' b') ∧ R = (some (.int v), fm g' tp bt a' b')) (v, mem') ∧ fr_T 8 244 [.ref 0, .int 7] (fm g tp bt a b) v mem' by
    obtain ⟨v, mem', ⟨w, g', a', b', h1, hR⟩, h2⟩ := h
    cases hR
    exact ⟨w, g', a', b', h2, h1⟩
  refine fe_meth (f := 244) (as := [.ref 0, .int 7]) (F := fun R => ∃ (v : Int32) (g' : Nat → Int32) (a' : Nat → Nat → Int32) (b' : Nat → Nat → Int64), ((fm_tx9 g g') ∧ mfa a a' ∧ mfb b b' ∧ mPart T n (sp_pSet T n A s p 2 0) v g' a' b') ∧ R = (some (.int v), fm g' tp bt a' b')) (M := gk_m244) (by rfl) (by rfl) ?_
  have hq0 := hA.1.2.1
  have hq1 := hA.1.2.2.2
  have hs8 := hst.1
  by_cases hb : s / 2 ^ 2 % 2 = 1
  · have b1 : (nI (32 * s) >>> ((7 : Int32) &&& 31)) &&& 1 = 1 := mst_b0 s hs8 2 (by decide) hb
    refine fe_s 7 (pc' := 9) (lc' := [(0, .ref 0), (1, .int 7)]) (stk' := [.int 1, .int (((g 20) >>> (7 &&& 31)) &&& 1)]) (mem' := fm g tp bt a b) (by intro _ _ _; eq_refl) ?_
    try rw [hst.2]
    refine fe_s 1 (pc' := cond (fx_cb .ne (((nI (32 * s)) >>> (7 &&& 31)) &&& 1) 1) 18 12) (lc' := [(0, .ref 0), (1, .int 7)]) (stk' := []) (mem' := fm g tp bt a b) (by intro _ _ _; eq_refl) ?_
    rw [show (fx_cb .ne (((nI (32 * s)) >>> (7 &&& 31)) &&& 1) 1) = false from (by rw [b1]; decide)]
    dsimp only [cond]
    refine fe_s 2 (pc' := 14) (lc' := [(0, .ref 0), (1, .int 7)]) (stk' := [.int 5, .ref 0]) (mem' := fm g tp bt a b) (by intro _ _ _; eq_refl) ?_
    obtain ⟨gc1, hrc1, txc1, hmc1⟩ := mr_failsx (tp := tp) (bt := bt) (a := a) (b := b) (x := 5) h (by decide) (by omega)
    refine fe_ivV hrc1 (by omega) (by rfl) (by rfl) (by rfl) (by rfl) (by rfl) (by rfl) ?_
    refine fe_ret ⟨0, _, _, _, ⟨(fun j q1 q2 q3 q4 q5 q6 q7 => ((fm_tx8_tr fm_tx8_rf txc1) j q1 q2 q3 q4 q5 q6)), mfa_rf, mfb_rf, Or.inr ⟨rfl, (5, sp_s T n p), ?_, hmc1⟩⟩, rfl⟩ (by rfl) (by rfl) (by rfl)
    unfold sp_pSet
    rw [if_pos hb]
  · obtain ⟨b0, b2, b3⟩ := mst_b1 s hs8 2 (by decide) hb
    have b1 : ¬ (nI (32 * s) >>> ((7 : Int32) &&& 31)) &&& 1 = 1 := b0
    refine fe_s 7 (pc' := 9) (lc' := [(0, .ref 0), (1, .int 7)]) (stk' := [.int 1, .int (((g 20) >>> (7 &&& 31)) &&& 1)]) (mem' := fm g tp bt a b) (by intro _ _ _; eq_refl) ?_
    try rw [hst.2]
    refine fe_s 1 (pc' := cond (fx_cb .ne (((nI (32 * s)) >>> (7 &&& 31)) &&& 1) 1) 18 12) (lc' := [(0, .ref 0), (1, .int 7)]) (stk' := []) (mem' := fm g tp bt a b) (by intro _ _ _; eq_refl) ?_
    rw [show (fx_cb .ne (((nI (32 * s)) >>> (7 &&& 31)) &&& 1) 1) = true from (by show (!decide (_ = (1 : Int32))) = true; rw [decide_eq_false b1]; rfl)]
    dsimp only [cond]
    refine fe_s 9 (pc' := 31) (lc' := [(0, .ref 0), (1, .int 7)]) (stk' := [.ref 0]) (mem' := fm (upd g 20 ((g 20) ||| ((1 : Int32) <<< (7 &&& 31)))) tp bt a b) (by intro _ _ _; eq_refl) ?_
    try rw [hst.2]
    have hmc1 := mo_u20 (x := (nI (32 * s)) ||| ((1 : Int32) <<< (7 &&& 31))) h
    generalize hgc1 : upd g 20 ((nI (32 * s)) ||| ((1 : Int32) <<< (7 &&& 31))) = gc1 at hmc1 ⊢
    have h20c1 : gc1 20 = nI (32 * (s + 2 ^ 2)) := by rw [← hgc1, pk_us]; exact b2
    have huc1 : ∀ j, j ≠ 20 → gc1 j = g j := fun j hj => by rw [← hgc1, pk_un hj]
    obtain ⟨gc2, hrc2, txc2, hmc2⟩ := mr_aheado (tp := tp) (bt := bt) (b := b) hT hmc1 (by omega)
    refine fe_ivV hrc2 (by omega) (by rfl) (by rfl) (by rfl) (by rfl) (by rfl) (by rfl) ?_
    refine fe_s 8 (pc' := 45) (lc' := [(0, .ref 0), (1, .int 7)]) (stk' := [.int 6, .int 7, .int ((3370 + 7) - 5), .ref 0]) (mem' := fm gc2 tp bt a b) (by intro _ _ _; eq_refl) ?_
    rw [show ((3370 + 7) - 5 : Int32) = 3372 from rfl]
    refine fe_s 1 (pc' := cond (fx_cb .ne 7 6) 52 48) (lc' := [(0, .ref 0), (1, .int 7)]) (stk' := [.int 3372, .ref 0]) (mem' := fm gc2 tp bt a b) (by intro _ _ _; eq_refl) ?_
    rw [show (fx_cb .ne 7 6) = true from by decide]
    dsimp only [cond]
    refine fe_s 2 (pc' := 55) (lc' := [(0, .ref 0), (1, .int 7)]) (stk' := [.int 20, .int 0, .int 3372, .ref 0]) (mem' := fm gc2 tp bt a b) (by intro _ _ _; eq_refl) ?_
    obtain ⟨xc3, gc3, ac3, hrc3, txc3, hxc3⟩ := mr_number (t := 3372) (lo := 0) (hi := 20) (tp := tp) (bt := bt) (b := b) hT (by omega) (by decide) (by decide) hmc2
    refine fe_ivV hrc3 (by omega) (by rfl) (by rfl) (by rfl) (by rfl) (by rfl) (by rfl) ?_
    rcases hxc3 with ⟨hwc3, hvc3, rfl, eac3, hmc3⟩ | ⟨hwc3, hvc3, rfl, eac3, hmc3⟩ | ⟨hwc3, rfl, eac3, hmc3⟩
    · rw [eac3]
      have hTw4 := mT_u (t := 1) (i := 3372) (x := nI (sp_v T n (sp_n T n p))) (by decide) hT
      have hAw4 := md_u (t := 3372) (x := nI (sp_v T n (sp_n T n p))) hA (by omega) (by omega) (fun c hc => by omega) (fun i hi => by omega) (fun i hi => by omega)
      refine fe_ret ⟨1, _, _, _, ⟨(fun j q1 q2 q3 q4 q5 q6 q7 => ((fm_tx8_tr (fm_tx8_tr fm_tx8_rf txc2) txc3) j q1 q2 q3 q4 q5 q6).trans (huc1 j q7)), (mfa_u mfa_rf (by omega)), mfb_rf, Or.inl ⟨rfl, A, s + 2 ^ 2, (sp_n T n (sp_n T n p)), ?_, hmc3, hAw4, b3, ((fm_tx8_tr (fm_tx8_tr fm_tx8_rf txc2) txc3) 20 (by decide) (by decide) (by decide) (by decide) (by decide) (by decide)).trans h20c1⟩⟩, rfl⟩ (by rfl) (by rfl) (by rfl)
      unfold sp_pSet
      rw [if_neg hb, sp_num_t hwc3 hvc3]
    · rw [eac3]
      refine fe_ret ⟨0, _, _, _, ⟨(fun j q1 q2 q3 q4 q5 q6 q7 => ((fm_tx8_tr (fm_tx8_tr fm_tx8_rf txc2) txc3) j q1 q2 q3 q4 q5 q6).trans (huc1 j q7)), mfa_rf, mfb_rf, Or.inr ⟨rfl, (4, sp_s T n (sp_n T n p)), ?_, hmc3⟩⟩, rfl⟩ (by rfl) (by rfl) (by rfl)
      unfold sp_pSet
      rw [if_neg hb, sp_num_4 hwc3 hvc3]
    · rw [eac3]
      refine fe_ret ⟨0, _, _, _, ⟨(fun j q1 q2 q3 q4 q5 q6 q7 => ((fm_tx8_tr (fm_tx8_tr fm_tx8_rf txc2) txc3) j q1 q2 q3 q4 q5 q6).trans (huc1 j q7)), mfa_rf, mfb_rf, Or.inr ⟨rfl, (sp_m T n (sp_n T n p), sp_s T n (sp_n T n p)), ?_, hmc3⟩⟩, rfl⟩ (by rfl) (by rfl) (by rfl)
      unfold sp_pSet
      rw [if_neg hb, sp_num_f hwc3]
end MPT
