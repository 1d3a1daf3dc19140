/-! ===== names, tapes, faults of both worlds bound ===== -/
theorem sp_nC_un {f f' : Nat → Int64} {l : List (List Nat)} (h : sp_nC f l) (hf : ∀ i, i < l.length → f' i = f i) : sp_nC f' l := ⟨fun i L hi => (hf i (List.getElem?_eq_some_iff.mp hi).1).trans (h.1 i L hi), h.2⟩
/-- one code, one name -/
theorem sp_nC_uniq {f : Nat → Int64} {l l2 : List (List Nat)} (h : sp_nC f l) (h2 : sp_nC f l2) (hl : l.length = l2.length) : l = l2 := by
  apply List.ext_getElem hl
  intro i i1 i2
  have e1 : l[i]? = some l[i] := List.getElem?_eq_getElem i1
  have e2 : l2[i]? = some l2[i] := List.getElem?_eq_getElem i2
  obtain ⟨k1, k2⟩ := h.2 _ (List.mem_of_getElem? e1)
  obtain ⟨m1, m2⟩ := h2.2 _ (List.mem_of_getElem? e2)
  exact sp_cdI k1 k2 m1 m2 ((h.1 i _ e1).symm.trans (h2.1 i _ e2))
/-- one lake's names, class and model; its TALES are there or not -/
def lkN (o s : Nat) (g : Nat → Nat → Int32) (b : Nat → Nat → Int64) (am : Nat → Int32) (bm : Nat → Int64) : Prop := (∃ nC nW : List (List Nat), (nC.length ≤ 10 ∧ nW.length ≤ 8) ∧ (g o 8 = nI nC.length ∧ g (o + 11) 7 = nI nW.length ∧ sp_nC (b (o + 1)) nC ∧ sp_nC (b (o + 12)) nW) ∧ am (842 * s) = nI nC.length ∧ am (842 * s + 1) = nI nW.length ∧ sp_nM (fun i => bm (18 * s + i)) nC ∧ sp_nM (fun i => bm (18 * s + 10 + i)) nW) ∧ (g (o + 19) 7 = 1 ↔ 0 ≤ (am (842 * s + 6)).toInt)
def wrE (g a : Nat → Nat → Int32) (b : Nat → Nat → Int64) (gm : Nat → Int32) (am : Nat → Nat → Int32) (bm : Nat → Nat → Int64) : Prop := (g 9 2 = gm 10 ∧ ∀ i : Nat, i < 900 → (i : Int) < (g 9 2).toInt → a 10 i = am 6 i) ∧ (g 9 10 = gm 16 ∧ g 9 11 = gm 17) ∧ g 0 13 = gm 42 ∧ lkN 15 0 g b (am 1) (bm 2) ∧ ∀ m : Nat, m < 3 → (m : Int) < (g 0 13).toInt → lkN (192 + 26 * m) (m + 1) g b (am 1) (bm 2)
def WR (c m : va_W) : Prop := ∃ g a b gm am bm, cw_V c g a b ∧ mw_V m gm am bm ∧ wrE g a b gm am bm
def cw_ag (g a : Nat → Nat → Int32) (b : Nat → Nat → Int64) (g2 a2 : Nat → Nat → Int32) (b2 : Nat → Nat → Int64) : Prop := (∀ z ∈ cw_LO, g z.1 z.2 = g2 z.1 z.2) ∧ (∀ z ∈ cw_LA, ∀ i, i < z.2 → a z.1 i = a2 z.1 i) ∧ ∀ z ∈ cw_LB, ∀ i, i < z.2 → b z.1 i = b2 z.1 i
def mw_ag (gm : Nat → Int32) (am : Nat → Nat → Int32) (bm : Nat → Nat → Int64) (gm2 : Nat → Int32) (am2 : Nat → Nat → Int32) (bm2 : Nat → Nat → Int64) : Prop := (∀ k ∈ mw_G, gm k = gm2 k) ∧ (∀ i, i < 900 → am 6 i = am2 6 i) ∧ (∀ i ∈ mw_I, am 1 i = am2 1 i) ∧ ∀ i, i < 72 → bm 2 i = bm2 2 i
theorem sv_inj {x y : Int32} {o : Option Value} (h1 : o = some (.int x)) (h2 : o = some (.int y)) : x = y := Value.int.inj (Option.some.inj (h1.symm.trans h2))
theorem sl_inj {x y : Int64} {o : Option Value} (h1 : o = some (.long x)) (h2 : o = some (.long y)) : x = y := Value.long.inj (Option.some.inj (h1.symm.trans h2))
theorem cw_un {ws : va_W} {g a g2 a2 : Nat → Nat → Int32} {b b2 : Nat → Nat → Int64} (h : cw_V ws g a b) (h2 : cw_V ws g2 a2 b2) : cw_ag g a b g2 a2 b2 := ⟨fun z hz => sv_inj (h.1 z hz) (h2.1 z hz), fun z hz i hi => sv_inj (h.2.1 z hz i hi) (h2.2.1 z hz i hi), fun z hz i hi => sl_inj (h.2.2 z hz i hi) (h2.2.2 z hz i hi)⟩
theorem mw_un {ws : va_W} {gm gm2 : Nat → Int32} {am am2 : Nat → Nat → Int32} {bm bm2 : Nat → Nat → Int64} (h : mw_V ws gm am bm) (h2 : mw_V ws gm2 am2 bm2) : mw_ag gm am bm gm2 am2 bm2 := ⟨fun k hk => sv_inj (h.1 k hk) (h2.1 k hk), fun i hi => sv_inj (h.2.1 i hi) (h2.2.1 i hi), fun i hi => sv_inj (h.2.2.1 i hi) (h2.2.2.1 i hi), fun i hi => sl_inj (h.2.2.2 i hi) (h2.2.2.2 i hi)⟩
/-- the places of one lake -/
def cw_lk (o : Nat) : Prop := ((o, 8) ∈ cw_LO ∧ (o + 11, 7) ∈ cw_LO ∧ (o + 19, 7) ∈ cw_LO) ∧ (o + 1, 10) ∈ cw_LB ∧ (o + 12, 8) ∈ cw_LB
def mw_lk (s : Nat) : Prop := 842 * s ∈ mw_I ∧ 842 * s + 1 ∈ mw_I ∧ 842 * s + 6 ∈ mw_I
theorem cw_lk15 : cw_lk 15 := ⟨⟨by decide, by decide, by decide⟩, by decide, by decide⟩
theorem cw_lkm : ∀ m : Nat, m < 3 → cw_lk (192 + 26 * m) := fun m hm => by
  rcases (by omega : m = 0 ∨ m = 1 ∨ m = 2) with rfl | rfl | rfl
  · exact ⟨⟨by decide, by decide, by decide⟩, by decide, by decide⟩
  · exact ⟨⟨by decide, by decide, by decide⟩, by decide, by decide⟩
  · exact ⟨⟨by decide, by decide, by decide⟩, by decide, by decide⟩
theorem mw_lks : ∀ s : Nat, s < 4 → mw_lk s := fun s hs => by
  have h1 : ∀ s, s < 4 → 842 * s ∈ mw_I ∧ 842 * s + 1 ∈ mw_I ∧ 842 * s + 6 ∈ mw_I := by decide +kernel
  exact h1 s hs
theorem lkN_ext {o s : Nat} {g g2 : Nat → Nat → Int32} {b b2 : Nat → Nat → Int64} {am am2 : Nat → Int32} {bm bm2 : Nat → Int64} (h : lkN o s g b am bm) (hc : g2 o 8 = g o 8 ∧ g2 (o + 11) 7 = g (o + 11) 7 ∧ g2 (o + 19) 7 = g (o + 19) 7 ∧ (∀ i, i < 10 → b2 (o + 1) i = b (o + 1) i) ∧ ∀ i, i < 8 → b2 (o + 12) i = b (o + 12) i) (hm : am2 (842 * s) = am (842 * s) ∧ am2 (842 * s + 1) = am (842 * s + 1) ∧ am2 (842 * s + 6) = am (842 * s + 6) ∧ ∀ i, i < 18 → bm2 (18 * s + i) = bm (18 * s + i)) : lkN o s g2 b2 am2 bm2 := by
  obtain ⟨⟨nC, nW, ⟨l1, l2⟩, ⟨k1, k2, k3, k4⟩, k5, k6, k7, k8⟩, k9⟩ := h
  obtain ⟨c1, c2, c3, c4, c5⟩ := hc
  obtain ⟨m1, m2, m3, m4⟩ := hm
  refine ⟨⟨nC, nW, ⟨l1, l2⟩, ⟨c1.trans k1, c2.trans k2, sp_nC_un k3 (fun i hi => c4 i (by omega)), sp_nC_un k4 (fun i hi => c5 i (by omega))⟩, m1.trans k5, m2.trans k6, sp_nM_un k7 (fun i hi => m4 i (by omega)), sp_nM_un k8 (fun i hi => ?_)⟩, by rw [c3, m3]; exact k9⟩
  show bm2 (18 * s + 10 + i) = bm (18 * s + 10 + i)
  rw [Nat.add_assoc]
  exact m4 (10 + i) (by omega)
theorem cw_agl {o : Nat} {g a g2 a2 : Nat → Nat → Int32} {b b2 : Nat → Nat → Int64} (ho : cw_lk o) (h : cw_ag g a b g2 a2 b2) : g2 o 8 = g o 8 ∧ g2 (o + 11) 7 = g (o + 11) 7 ∧ g2 (o + 19) 7 = g (o + 19) 7 ∧ (∀ i, i < 10 → b2 (o + 1) i = b (o + 1) i) ∧ ∀ i, i < 8 → b2 (o + 12) i = b (o + 12) i := ⟨(h.1 _ ho.1.1).symm, (h.1 _ ho.1.2.1).symm, (h.1 _ ho.1.2.2).symm, fun i hi => (h.2.2 _ ho.2.1 i hi).symm, fun i hi => (h.2.2 _ ho.2.2 i hi).symm⟩
theorem mw_agl {s : Nat} {gm gm2 : Nat → Int32} {am am2 : Nat → Nat → Int32} {bm bm2 : Nat → Nat → Int64} (hs : s < 4) (h : mw_ag gm am bm gm2 am2 bm2) : am2 1 (842 * s) = am 1 (842 * s) ∧ am2 1 (842 * s + 1) = am 1 (842 * s + 1) ∧ am2 1 (842 * s + 6) = am 1 (842 * s + 6) ∧ ∀ i, i < 18 → bm2 2 (18 * s + i) = bm 2 (18 * s + i) := ⟨(h.2.2.1 _ (mw_lks s hs).1).symm, (h.2.2.1 _ (mw_lks s hs).2.1).symm, (h.2.2.1 _ (mw_lks s hs).2.2).symm, fun i hi => (h.2.2.2 _ (by omega)).symm⟩
theorem wrE_ext {g a g2 a2 : Nat → Nat → Int32} {b b2 : Nat → Nat → Int64} {gm gm2 : Nat → Int32} {am am2 : Nat → Nat → Int32} {bm bm2 : Nat → Nat → Int64} (h : wrE g a b gm am bm) (hc : cw_ag g a b g2 a2 b2) (hm : mw_ag gm am bm gm2 am2 bm2) : wrE g2 a2 b2 gm2 am2 bm2 := by
  obtain ⟨⟨h1, h2⟩, ⟨h6, h7⟩, h3, h4, h5⟩ := h
  have e92 : g 9 2 = g2 9 2 := hc.1 (9, 2) (by decide)
  have e910 : g 9 10 = g2 9 10 := hc.1 (9, 10) (by decide)
  have e911 : g 9 11 = g2 9 11 := hc.1 (9, 11) (by decide)
  have e13 : g 0 13 = g2 0 13 := hc.1 (0, 13) (by decide)
  refine ⟨⟨by rw [← e92, ← hm.1 10 (by decide), h1], fun i hi hw => ?_⟩, ⟨by rw [← e910, ← hm.1 16 (by decide), h6], by rw [← e911, ← hm.1 17 (by decide), h7]⟩, by rw [← e13, ← hm.1 42 (by decide), h3], lkN_ext h4 (cw_agl cw_lk15 hc) (mw_agl (by decide) hm), fun m hm3 hw => ?_⟩
  · rw [← e92] at hw
    have e10 : a 10 i = a2 10 i := hc.2.1 (10, 900) (by decide) i hi
    rw [← e10, ← hm.2.1 i hi, h2 i hi hw]
  · rw [← e13] at hw
    exact lkN_ext (h5 m hm3 hw) (cw_agl (cw_lkm m hm3) hc) (mw_agl (by omega) hm)
theorem WR_get {c m : va_W} {g a : Nat → Nat → Int32} {b : Nat → Nat → Int64} {gm : Nat → Int32} {am : Nat → Nat → Int32} {bm : Nat → Nat → Int64} (h : WR c m) (h1 : cw_V c g a b) (h2 : mw_V m gm am bm) : wrE g a b gm am bm := by
  obtain ⟨g0, a0, b0, gm0, am0, bm0, k1, k2, k3⟩ := h
  exact wrE_ext k3 (cw_un k1 h1) (mw_un k2 h2)
theorem WR_un {c0 c1 m0 m1 : va_W} (h : WR c0 m0) (hC : ∀ z ∈ cw_W, lw_at c1 z = lw_at c0 z) (hM : ∀ z ∈ mw_W, lw_at m1 z = lw_at m0 z) : WR c1 m1 := by
  obtain ⟨g, a, b, gm, am, bm, k1, k2, k3⟩ := h
  exact ⟨g, a, b, gm, am, bm, cw_keep k1 hC, mw_keep k2 hM, k3⟩
/-! ===== the calls ===== -/
abbrev SC : Type := List Value → (Nat → Nat → Int32) → (Nat → Nat → Int32) → (Nat → Nat → Int64) → (Nat → Nat → Int32) → (Nat → Nat → Int32) → (Nat → Nat → Int64) → Value → Prop
abbrev SM : Type := List Value → (Nat → Int32) → (Nat → Nat → Int32) → (Nat → Nat → Int64) → (Nat → Int32) → (Nat → Nat → Int32) → (Nat → Nat → Int64) → Value → Prop
def QC (W : List (Nat × Nat)) (S : SC) : List Value → va_W → va_W → Value → Prop := fun av ws ws' v => lw_unQ 0 W av ws ws' v ∧ ∃ g a b g' a' b', cw_V ws g a b ∧ cw_V ws' g' a' b' ∧ S av g a b g' a' b' v
def QM (S : SM) : List Value → va_W → va_W → Value → Prop := fun av ws ws' v => lr_ty 0 v ∧ ∃ g a b g' a' b', mw_V ws g a b ∧ mw_V ws' g' a' b' ∧ fm_I g a ∧ S av g a b g' a' b' v
theorem QC_int {W : List (Nat × Nat)} {S : SC} {av : List Value} {c0 c1 : va_W} {v : Value} (h : QC W S av c0 c1 v) : lr_ty 0 v := h.1.1
theorem QM_int {S : SM} {av : List Value} {c0 c1 : va_W} {v : Value} (h : QM S av c0 c1 v) : lr_ty 0 v := h.1
theorem both_rel {W : List (Nat × Nat)} {S1 : SC} {S2 : SM} {av av2 : List Value} {c0 m0 c1 m1 : va_W} {u w : Value} {P : Prop} (hR : WR c0 m0) (h1 : QC W S1 av c0 c1 u) (h2 : QM S2 av2 m0 m1 w) (hS : ∀ g a b g' a' b' gm am bm gm' am' bm', wrE g a b gm am bm → fm_I gm am → (∀ z ∈ W, z ∈ cw_LO → g' z.1 z.2 = g z.1 z.2) → S1 av g a b g' a' b' u → S2 av2 gm am bm gm' am' bm' w → P ∧ wrE g' a' b' gm' am' bm') : P ∧ WR c1 m1 := by
  obtain ⟨h0, g, a, b, g', a', b', k1, k2, k3⟩ := h1
  obtain ⟨-, gm, am, bm, gm', am', bm', q1, q2, q0, q3⟩ := h2
  obtain ⟨e, h⟩ := hS g a b g' a' b' gm am bm gm' am' bm' (WR_get hR k1 q1) q0 (fun z hz hz2 => sv_inj (k2.1 z hz2) ((h0.2 z hz).trans (k1.1 z hz2))) k3 q3
  exact ⟨e, g', a', b', gm', am', bm', k2, q2, h⟩
/-- what a call leaves -/
def curN (g g' : Nat → Nat → Int32) (b b' : Nat → Nat → Int64) : Prop := ∀ j, 15 ≤ j → j ≤ 33 → g' j = g j ∧ b' j = b j
def kepN (g g' : Nat → Nat → Int32) (b b' : Nat → Nat → Int64) : Prop := ∀ j, 192 ≤ j → g' j = g j ∧ b' j = b j
theorem lkN_g {o s : Nat} {g g' : Nat → Nat → Int32} {b b' : Nat → Nat → Int64} {am : Nat → Int32} {bm : Nat → Int64} (h : lkN o s g b am bm) (hs : ∀ j, j = o ∨ j = o + 11 ∨ j = o + 19 ∨ j = o + 1 ∨ j = o + 12 → g' j = g j ∧ b' j = b j) : lkN o s g' b' am bm :=
  lkN_ext h ⟨congrFun (hs _ (by omega)).1 8, congrFun (hs _ (by omega)).1 7, congrFun (hs _ (by omega)).1 7, fun i _ => congrFun (hs _ (by omega)).2 i, fun i _ => congrFun (hs _ (by omega)).2 i⟩ ⟨rfl, rfl, rfl, fun _ _ => rfl⟩
theorem lkN_m {o s : Nat} {g : Nat → Nat → Int32} {b : Nat → Nat → Int64} {am am' : Nat → Int32} {bm bm' : Nat → Int64} (h : lkN o s g b am bm) (hm : ∀ i, 842 * s ≤ i → i < 842 * s + 842 → am' i = am i) (hb : ∀ i, 18 * s ≤ i → i < 18 * s + 18 → bm' i = bm i) : lkN o s g b am' bm' := lkN_ext h ⟨rfl, rfl, rfl, fun _ _ => rfl, fun _ _ => rfl⟩ ⟨hm _ (by omega) (by omega), hm _ (by omega) (by omega), hm _ (by omega) (by omega), fun i hi => hb _ (by omega) (by omega)⟩
