/-! ===== what binds lakes and tapes of both worlds ===== -/
def lkE (o s : Nat) (g a : Nat → Nat → Int32) (am : Nat → Int32) : Prop := g o 8 = am (842 * s) ∧ g (o + 11) 7 = am (842 * s + 1) ∧ (∀ i, i < 10 → a (o + 3) i = am (842 * s + 8 + 6 * i + 3)) ∧ (∀ i : Nat, i < 8 → (i : Int) < (g (o + 11) 7).toInt → a (o + 13) i = am (842 * s + 278 + 5 * i) ∧ 1 ≤ (am (842 * s + 278 + 5 * i)).toInt ∧ (am (842 * s + 278 + 5 * i)).toInt ≤ 99) ∧ ∀ i : Nat, i < 10 → (i : Int) < (g o 8).toInt → (g o 9 >>> (nI i &&& 31)) &&& 1 = am (842 * s + 8 + 6 * i)
def wrE (g a : Nat → Nat → Int32) (gm : Nat → Int32) (am : Nat → Nat → Int32) : Prop := (g 9 2 = gm 10 ∧ ∀ i : Nat, i < 900 → (i : Int) < (g 9 2).toInt → a 10 i = am 6 i) ∧ g 0 13 = gm 42 ∧ lkE 15 0 g a (am 1) ∧ ∀ m : Nat, m < 3 → (m : Int) < (g 0 13).toInt → lkE (192 + 26 * m) (m + 1) g a (am 1)
def WR (c m : va_W) : Prop := ∃ g a gm am, cw_V c g a ∧ mw_V m gm am ∧ wrE g a gm am
def cw_ag (g a g2 a2 : Nat → Nat → Int32) : Prop := (∀ z ∈ cw_LO, g z.1 z.2 = g2 z.1 z.2) ∧ ∀ z ∈ cw_LA, ∀ i, i < z.2 → a z.1 i = a2 z.1 i
def mw_ag (gm : Nat → Int32) (am : Nat → Nat → Int32) (gm2 : Nat → Int32) (am2 : Nat → Nat → Int32) : Prop := gm 10 = gm2 10 ∧ gm 42 = gm2 42 ∧ (∀ i, i < 900 → am 6 i = am2 6 i) ∧ ∀ i ∈ mw_I, am 1 i = am2 1 i
theorem sv_inj {x y : Int32} {o : Option Value} (h1 : o = some (.int x)) (h2 : o = some (.int y)) : x = y := Value.int.inj (Option.some.inj (h1.symm.trans h2))
theorem cw_un {ws : va_W} {g a g2 a2 : Nat → Nat → Int32} (h : cw_V ws g a) (h2 : cw_V ws g2 a2) : cw_ag g a g2 a2 := ⟨fun z hz => sv_inj (h.1 z hz) (h2.1 z hz), fun z hz i hi => sv_inj (h.2 z hz i hi) (h2.2 z hz i hi)⟩
theorem mw_un {ws : va_W} {gm gm2 : Nat → Int32} {am am2 : Nat → Nat → Int32} (h : mw_V ws gm am) (h2 : mw_V ws gm2 am2) : mw_ag gm am gm2 am2 := ⟨sv_inj h.1 h2.1, sv_inj h.2.1 h2.2.1, fun i hi => sv_inj (h.2.2.1 i hi) (h2.2.2.1 i hi), fun i hi => sv_inj (h.2.2.2 i hi) (h2.2.2.2 i hi)⟩
/-- the places of one lake, class and model -/
def cw_lk (o : Nat) : Prop := ((o, 8) ∈ cw_LO ∧ (o + 11, 7) ∈ cw_LO ∧ (o, 9) ∈ cw_LO) ∧ (o + 3, 10) ∈ cw_LA ∧ (o + 13, 8) ∈ cw_LA
def mw_lk (s : Nat) : Prop := (842 * s ∈ mw_I ∧ 842 * s + 1 ∈ mw_I) ∧ (∀ i, i < 10 → 842 * s + 8 + 6 * i + 3 ∈ mw_I) ∧ (∀ i, i < 8 → 842 * s + 278 + 5 * i ∈ mw_I) ∧ ∀ i, i < 10 → 842 * s + 8 + 6 * i ∈ mw_I
theorem cw_lk15 : cw_lk 15 := ⟨⟨by decide, by decide, by decide⟩, by decide, by decide⟩
theorem cw_lkm : ∀ m : Nat, m < 3 → cw_lk (192 + 26 * m) := fun m hm => by
  rcases (by omega : m = 0 ∨ m = 1 ∨ m = 2) with rfl | rfl | rfl
  · exact ⟨⟨by decide, by decide, by decide⟩, by decide, by decide⟩
  · exact ⟨⟨by decide, by decide, by decide⟩, by decide, by decide⟩
  · exact ⟨⟨by decide, by decide, by decide⟩, by decide, by decide⟩
theorem mw_lks : ∀ s : Nat, s < 4 → mw_lk s := fun s hs => by
  have h1 : ∀ s, s < 4 → 842 * s ∈ mw_I ∧ 842 * s + 1 ∈ mw_I := by decide +kernel
  have h3 : ∀ s, s < 4 → ∀ i, i < 10 → 842 * s + 8 + 6 * i + 3 ∈ mw_I := by decide +kernel
  have h4 : ∀ s, s < 4 → ∀ i, i < 8 → 842 * s + 278 + 5 * i ∈ mw_I := by decide +kernel
  have h5 : ∀ s, s < 4 → ∀ i, i < 10 → 842 * s + 8 + 6 * i ∈ mw_I := by decide +kernel
  exact ⟨h1 s hs, h3 s hs, h4 s hs, h5 s hs⟩
theorem lkE_ext {o s : Nat} {g a g2 a2 : Nat → Nat → Int32} {am am2 : Nat → Int32} (h : lkE o s g a am) (hc : g o 8 = g2 o 8 ∧ g (o + 11) 7 = g2 (o + 11) 7 ∧ (∀ i, i < 10 → a (o + 3) i = a2 (o + 3) i) ∧ (∀ i, i < 8 → a (o + 13) i = a2 (o + 13) i) ∧ g o 9 = g2 o 9) (hm : am (842 * s) = am2 (842 * s) ∧ am (842 * s + 1) = am2 (842 * s + 1) ∧ (∀ i, i < 10 → am (842 * s + 8 + 6 * i + 3) = am2 (842 * s + 8 + 6 * i + 3)) ∧ (∀ i, i < 8 → am (842 * s + 278 + 5 * i) = am2 (842 * s + 278 + 5 * i)) ∧ ∀ i, i < 10 → am (842 * s + 8 + 6 * i) = am2 (842 * s + 8 + 6 * i)) : lkE o s g2 a2 am2 := by
  obtain ⟨h1, h2, h4, h5, h6⟩ := h
  obtain ⟨c1, c2, c4, c5, c6⟩ := hc
  obtain ⟨m1, m2, m4, m5, m6⟩ := hm
  refine ⟨by rw [← c1, ← m1, h1], by rw [← c2, ← m2, h2], fun i hi => by rw [← c4 i hi, ← m4 i hi, h4 i hi], fun i hi hw => ?_, fun i hi hw => ?_⟩
  · rw [← c2] at hw
    rw [← c5 i hi, ← m5 i hi]
    exact h5 i hi hw
  · rw [← c1] at hw
    rw [← c6, ← m6 i hi]
    exact h6 i hi hw
theorem cw_agl {o : Nat} {g a g2 a2 : Nat → Nat → Int32} (ho : cw_lk o) (h : cw_ag g a g2 a2) : g o 8 = g2 o 8 ∧ g (o + 11) 7 = g2 (o + 11) 7 ∧ (∀ i, i < 10 → a (o + 3) i = a2 (o + 3) i) ∧ (∀ i, i < 8 → a (o + 13) i = a2 (o + 13) i) ∧ g o 9 = g2 o 9 := ⟨h.1 _ ho.1.1, h.1 _ ho.1.2.1, h.2 _ ho.2.1, h.2 _ ho.2.2, h.1 _ ho.1.2.2⟩
theorem mw_agl {s : Nat} {gm gm2 : Nat → Int32} {am am2 : Nat → Nat → Int32} (hs : mw_lk s) (h : mw_ag gm am gm2 am2) : am 1 (842 * s) = am2 1 (842 * s) ∧ am 1 (842 * s + 1) = am2 1 (842 * s + 1) ∧ (∀ i, i < 10 → am 1 (842 * s + 8 + 6 * i + 3) = am2 1 (842 * s + 8 + 6 * i + 3)) ∧ (∀ i, i < 8 → am 1 (842 * s + 278 + 5 * i) = am2 1 (842 * s + 278 + 5 * i)) ∧ ∀ i, i < 10 → am 1 (842 * s + 8 + 6 * i) = am2 1 (842 * s + 8 + 6 * i) := ⟨h.2.2.2 _ hs.1.1, h.2.2.2 _ hs.1.2, fun i hi => h.2.2.2 _ (hs.2.1 i hi), fun i hi => h.2.2.2 _ (hs.2.2.1 i hi), fun i hi => h.2.2.2 _ (hs.2.2.2 i hi)⟩
theorem wrE_ext {g a g2 a2 : Nat → Nat → Int32} {gm gm2 : Nat → Int32} {am am2 : Nat → Nat → Int32} (h : wrE g a gm am) (hc : cw_ag g a g2 a2) (hm : mw_ag gm am gm2 am2) : wrE g2 a2 gm2 am2 := by
  obtain ⟨⟨h1, h2⟩, h3, h4, h5⟩ := h
  have e92 : g 9 2 = g2 9 2 := hc.1 (9, 2) (by decide)
  have e13 : g 0 13 = g2 0 13 := hc.1 (0, 13) (by decide)
  refine ⟨⟨by rw [← e92, ← hm.1, h1], fun i hi hw => ?_⟩, by rw [← e13, ← hm.2.1, h3], lkE_ext h4 (cw_agl cw_lk15 hc) (mw_agl (mw_lks 0 (by decide)) hm), fun m hm3 hw => ?_⟩
  · rw [← e92] at hw
    have e10 : a 10 i = a2 10 i := hc.2 (10, 900) (by decide) i hi
    rw [← e10, ← hm.2.2.1 i hi, h2 i hi hw]
  · rw [← e13] at hw
    exact lkE_ext (h5 m hm3 hw) (cw_agl (cw_lkm m hm3) hc) (mw_agl (mw_lks (m + 1) (by omega)) hm)
theorem WR_get {c m : va_W} {g a : Nat → Nat → Int32} {gm : Nat → Int32} {am : Nat → Nat → Int32} (h : WR c m) (h1 : cw_V c g a) (h2 : mw_V m gm am) : wrE g a gm am := by
  obtain ⟨g0, a0, gm0, am0, k1, k2, k3⟩ := h
  exact wrE_ext k3 (cw_un k1 h1) (mw_un k2 h2)
theorem WR_un {c0 c1 m0 m1 : va_W} (h : WR c0 m0) (hC : ∀ z ∈ cw_W, lw_at c1 z = lw_at c0 z) (hM : ∀ z ∈ mw_W, lw_at m1 z = lw_at m0 z) : WR c1 m1 := by
  obtain ⟨g, a, gm, am, k1, k2, k3⟩ := h
  exact ⟨g, a, gm, am, cw_keep k1 hC, mw_keep k2 hM, k3⟩
/-! ===== the calls ===== -/
/-- the LAKE's numbers, as a text gave them -/
def cdn (o : Nat) (A : sp_A) (g a : Nat → Nat → Int32) : Prop := g o 8 = nI A.1.1.length ∧ (g (o + 11) 7 = nI A.1.2.length ∧ A.1.2.length ≤ 8) ∧ (∀ i, i < 10 → a (o + 3) i = A.2.2 i) ∧ (∀ i L w, A.1.2[i]? = some (L, w) → a (o + 13) i = nI w ∧ 1 ≤ w ∧ w ≤ 99) ∧ A.1.1.length ≤ 10 ∧ ∀ c, c < 10 → (g o 9 >>> (nI c &&& 31)) &&& 1 = if sp_sh A c = true then 1 else 0
def mdn (s : Nat) (A : sp_A) (am : Nat → Int32) : Prop := am (842 * s) = nI A.1.1.length ∧ am (842 * s + 1) = nI A.1.2.length ∧ (∀ i, i < 10 → am (842 * s + 8 + 6 * i + 3) = A.2.2 i) ∧ (∀ i L w, A.1.2[i]? = some (L, w) → am (842 * s + 278 + 5 * i) = nI w) ∧ ∀ c, c < A.1.1.length → am (842 * s + 8 + 6 * c) = if sp_sh A c = true then 1 else 0
theorem lkE_of {o s : Nat} {A : sp_A} {g a : Nat → Nat → Int32} {am : Nat → Int32} (h : cdn o A g a) (h2 : mdn s A am) : lkE o s g a am := by
  obtain ⟨c1, ⟨c2, c0⟩, c4, c5, c8, c9⟩ := h
  obtain ⟨m1, m2, m4, m5, m9⟩ := h2
  refine ⟨c1.trans m1.symm, c2.trans m2.symm, fun i hi => (c4 i hi).trans (m4 i hi).symm, fun i hi hw => ?_, fun i hi hw => ?_⟩
  · rw [c2, nI_i32 (by omega)] at hw
    have hl : i < A.1.2.length := by omega
    have e : A.1.2[i]? = some (A.1.2[i].1, A.1.2[i].2) := List.getElem?_eq_getElem hl
    obtain ⟨w1, w2, w3⟩ := c5 i _ _ e
    rw [w1, m5 i _ _ e, nI_i32 (by omega)]
    exact ⟨rfl, by omega, by omega⟩
  · rw [c1, nI_i32 (by omega)] at hw
    exact (c9 i hi).trans (m9 i (by omega)).symm
def curS (g a g' a' : Nat → Nat → Int32) : Prop := ∀ j, 15 ≤ j → j ≤ 40 → g' j = g j ∧ a' j = a j
def kepS (g a g' a' : Nat → Nat → Int32) : Prop := ∀ j, 192 ≤ j → g' j = g j ∧ a' j = a j
theorem lkE_cur {s : Nat} {g a g' a' : Nat → Nat → Int32} {am : Nat → Int32} (h : lkE 15 s g a am) (hs : curS g a g' a') : lkE 15 s g' a' am := by
  have e := fun j h1 h2 => hs j h1 h2
  exact lkE_ext h ⟨(congrFun (e 15 (by decide) (by decide)).1 8).symm, (congrFun (e 26 (by decide) (by decide)).1 7).symm, fun i _ => (congrFun (e 18 (by decide) (by decide)).2 i).symm, fun i _ => (congrFun (e 28 (by decide) (by decide)).2 i).symm, (congrFun (e 15 (by decide) (by decide)).1 9).symm⟩ ⟨rfl, rfl, fun _ _ => rfl, fun _ _ => rfl, fun _ _ => rfl⟩
theorem lkE_kep {m s : Nat} {g a g' a' : Nat → Nat → Int32} {am : Nat → Int32} (h : lkE (192 + 26 * m) s g a am) (hs : ∀ j, j = 192 + 26 * m ∨ j = 192 + 26 * m + 11 ∨ j = 192 + 26 * m + 2 ∨ j = 192 + 26 * m + 3 ∨ j = 192 + 26 * m + 13 → g' j = g j ∧ a' j = a j) : lkE (192 + 26 * m) s g' a' am :=
  lkE_ext h ⟨(congrFun (hs _ (by omega)).1 8).symm, (congrFun (hs _ (by omega)).1 7).symm, fun i _ => (congrFun (hs _ (by omega)).2 i).symm, fun i _ => (congrFun (hs _ (by omega)).2 i).symm, (congrFun (hs _ (by omega)).1 9).symm⟩ ⟨rfl, rfl, fun _ _ => rfl, fun _ _ => rfl, fun _ _ => rfl⟩
abbrev SC : Type := List Value → (Nat → Nat → Int32) → (Nat → Nat → Int32) → (Nat → Nat → Int32) → (Nat → Nat → Int32) → Value → Prop
abbrev SM : Type := List Value → (Nat → Int32) → (Nat → Nat → Int32) → (Nat → Int32) → (Nat → Nat → Int32) → Value → Prop
def QC (W : List (Nat × Nat)) (S : SC) : List Value → va_W → va_W → Value → Prop := fun av ws ws' v => lw_unQ 0 W av ws ws' v ∧ ∃ g a g' a', cw_V ws g a ∧ cw_V ws' g' a' ∧ S av g a g' a' v
def QM (S : SM) : List Value → va_W → va_W → Value → Prop := fun av ws ws' v => lr_ty 0 v ∧ ∃ g a g' a', mw_V ws g a ∧ mw_V ws' g' a' ∧ fm_I g a ∧ S av g a g' a' v
theorem QC_int {W : List (Nat × Nat)} {S : SC} {av : List Value} {c0 c1 : va_W} {v : Value} (h : QC W S av c0 c1 v) : lr_ty 0 v := h.1.1
theorem QM_int {S : SM} {av : List Value} {c0 c1 : va_W} {v : Value} (h : QM S av c0 c1 v) : lr_ty 0 v := h.1
theorem both_rel {W : List (Nat × Nat)} {S1 : SC} {S2 : SM} {av av2 : List Value} {c0 m0 c1 m1 : va_W} {u w : Value} {P : Prop} (hR : WR c0 m0) (h1 : QC W S1 av c0 c1 u) (h2 : QM S2 av2 m0 m1 w) (hS : ∀ g a g' a' gm am gm' am', wrE g a gm am → fm_I gm am → (∀ z ∈ W, z ∈ cw_LO → g' z.1 z.2 = g z.1 z.2) → S1 av g a g' a' u → S2 av2 gm am gm' am' w → P ∧ wrE g' a' gm' am') : P ∧ WR c1 m1 := by
  obtain ⟨h0, g, a, g', a', k1, k2, k3⟩ := h1
  obtain ⟨-, gm, am, gm', am', q1, q2, q0, q3⟩ := h2
  obtain ⟨e, h⟩ := hS g a g' a' gm am gm' am' (WR_get hR k1 q1) q0 (fun z hz hz2 => sv_inj (k2.1 z hz2) ((h0.2 z hz).trans (k1.1 z hz2))) k3 q3
  exact ⟨e, g', a', gm', am', k2, q2, h⟩
/-- feed -/
def feC : SC := fun av g a g' a' _ => ∃ (s : Nat) (v0 v1 v2 v3 v4 : Int32), s ≤ 900 ∧ g 9 2 = nI s ∧ av = [.int v0, .int v1, .int v2, .int v3, .int v4] ∧ ((s ≤ 880 ∧ g' 9 2 = nI (s + 20) ∧ a' 10 = t20 (a 10) s v0 v1 v2 v3 v4) ∨ (880 < s ∧ g' 9 2 = nI s ∧ a' 10 = a 10)) ∧ (∀ j, j ≠ 9 → g' j = g j) ∧ ∀ j, j ≠ 10 → a' j = a j
def feM : SM := fun av g a g' a' _ => ∃ (s : Nat) (v0 v1 v2 v3 v4 : Int32), s ≤ 900 ∧ g 10 = nI s ∧ av = [.int v0, .int v1, .int v2, .int v3, .int v4] ∧ ((s ≤ 880 ∧ g' 10 = nI (s + 20) ∧ a' 6 = t20 (a 6) s v0 v1 v2 v3 v4) ∨ (880 < s ∧ g' 10 = nI s ∧ a' 6 = a 6)) ∧ g' 42 = g 42 ∧ a' 1 = a 1
theorem nI9 {k j : Nat} (hk : k ≤ 900) (hj : j ≤ 900) (h : nI k = nI j) : k = j := by
  have h2 : (nI k).toInt = (nI j).toInt := by rw [h]
  rw [nI_i32 (by omega), nI_i32 (by omega)] at h2
  omega
theorem fe_wr {av : List Value} {u w : Value} {g a g' a' : Nat → Nat → Int32} {gm gm' : Nat → Int32} {am am' : Nat → Nat → Int32} (h : wrE g a gm am) (h1 : feC av g a g' a' u) (h2 : feM av gm am gm' am' w) : wrE g' a' gm' am' := by
  obtain ⟨s, v0, v1, v2, v3, v4, p1, p2, rfl, p3, p4, p5⟩ := h1
  obtain ⟨t, x0, x1, x2, x3, x4, q1, q2, e, q3, q4, q5⟩ := h2
  cases e
  obtain ⟨⟨h1, h2⟩, h3, h4, h5⟩ := h
  have est : s = t := nI9 p1 q1 (by rw [← p2, ← q2, h1])
  subst est
  have f : ∀ i, i < s → a 10 i = am 6 i := fun i hi => h2 i (by omega) (by rw [p2, nI_i32 (by omega)]; omega)
  have c15 : curS g a g' a' := fun j j1 j2 => ⟨p4 j (by omega), p5 j (by omega)⟩
  have e13 : g' 0 13 = g 0 13 := congrFun (p4 0 (by decide)) 13
  refine ⟨?_, by rw [e13, q4, h3], by rw [q5]; exact lkE_cur h4 c15, fun m hm hw => ?_⟩
  · rcases p3 with ⟨z1, z2, z3⟩ | ⟨z1, z2, z3⟩ <;> rcases q3 with ⟨y1, y2, y3⟩ | ⟨y1, y2, y3⟩
    · refine ⟨by rw [z2, y2], fun i hi hw => ?_⟩
      rw [z2, nI_i32 (by omega)] at hw
      rw [z3, y3]
      exact t20_eq f i (by omega)
    · omega
    · omega
    · refine ⟨by rw [z2, y2], fun i hi hw => ?_⟩
      rw [z2, nI_i32 (by omega)] at hw
      rw [z3, y3]
      exact f i (by omega)
  · rw [e13] at hw
    rw [q5]
    exact lkE_kep (h5 m hm hw) (fun j hj => ⟨p4 j (by omega), p5 j (by omega)⟩)
/-- lake -/
def laC : SC := fun av g a g' a' v => ∃ x : Int32, av = [.int x] ∧ a' 10 = a 10 ∧ kepS g a g' a' ∧ ((¬ (0 ≤ x.toInt ∧ x.toInt ≤ (g 9 2).toInt) ∧ v = .int (-1) ∧ g' 9 2 = g 9 2 ∧ curS g a g' a') ∨ ∃ N, x = nI N ∧ (N : Int) ≤ (g 9 2).toInt ∧ g' 9 2 = 0 ∧ v = .int (sp_ans (sp_lake (sp_T (a 10) N) N)) ∧ (match sp_lake (sp_T (a 10) N) N with
  | .inl _ => curS g a g' a'
  | .inr z => cdn 15 z.1 g' a'))
def laM : SM := fun av g a g' a' v => ∃ x : Int32, av = [.int x] ∧ a' 6 = a 6 ∧ g' 42 = g 42 ∧ (∀ i, 842 ≤ i → i < 3368 → a' 1 i = a 1 i) ∧ ((¬ (0 ≤ x.toInt ∧ x.toInt ≤ (g 10).toInt) ∧ v = .int (-1) ∧ g' 10 = g 10 ∧ a' 1 = a 1) ∨ ∃ N, x = nI N ∧ (N : Int) ≤ (g 10).toInt ∧ g' 10 = 0 ∧ v = .int (sp_ans (sp_lake (sp_T (a 6) N) N)) ∧ (match sp_lake (sp_T (a 6) N) N with
  | .inl _ => ∀ i, i < 842 → a' 1 i = a 1 i
  | .inr z => mdn 0 z.1 (a' 1)))
theorem lkE_m {o s : Nat} {g a : Nat → Nat → Int32} {am am' : Nat → Int32} (h : lkE o s g a am) (hm : ∀ i, 842 * s ≤ i → i < 842 * s + 842 → am' i = am i) : lkE o s g a am' := lkE_ext h ⟨rfl, rfl, fun _ _ => rfl, fun _ _ => rfl, rfl⟩ ⟨(hm _ (by omega) (by omega)).symm, (hm _ (by omega) (by omega)).symm, fun i hi => (hm _ (by omega) (by omega)).symm, fun i hi => (hm _ (by omega) (by omega)).symm, fun i hi => (hm _ (by omega) (by omega)).symm⟩
theorem la_wr {av : List Value} {u w : Value} {g a g' a' : Nat → Nat → Int32} {gm gm' : Nat → Int32} {am am' : Nat → Nat → Int32} (h : wrE g a gm am) (hI : (gm 10).toInt ≤ 900) (h13 : g' 0 13 = g 0 13) (h1 : laC av g a g' a' u) (h2 : laM av gm am gm' am' w) : u = w ∧ wrE g' a' gm' am' := by
  obtain ⟨x, rfl, p1, p2, p3⟩ := h1
  obtain ⟨y, e, q1, q0, q2, q3⟩ := h2
  cases e
  obtain ⟨⟨h1, h2⟩, h3, h4, h5⟩ := h
  have kept : ∀ m : Nat, m < 3 → (m : Int) < (g' 0 13).toInt → lkE (192 + 26 * m) (m + 1) g' a' (am' 1) := fun m hm hw => by
    rw [h13] at hw
    exact lkE_m (lkE_kep (h5 m hm hw) (fun j hj => p2 j (by omega))) (fun i i1 i2 => q2 i (by omega) (by omega))
  have e42 : g' 0 13 = gm' 42 := by rw [h13, q0, h3]
  rcases p3 with ⟨z1, rfl, z2, z3⟩ | ⟨N, rfl, z1, z2, rfl, z3⟩ <;> rcases q3 with ⟨y1, rfl, y2, y3⟩ | ⟨N2, e, y1, y2, rfl, y3⟩
  · refine ⟨rfl, ⟨by rw [z2, y2, h1], fun i hi hw => ?_⟩, e42, ?_, kept⟩
    · rw [z2] at hw
      rw [p1, q1]
      exact h2 i hi hw
    · rw [y3]
      exact lkE_cur h4 z3
  · subst e
    rw [h1] at z1
    exact absurd ⟨by rw [nI_i32 (by omega)]; omega, by rw [nI_i32 (by omega)]; exact y1⟩ z1
  · rw [← h1] at y1
    have := h1
    exact absurd ⟨by rw [nI_i32 (by rw [h1] at z1; omega)]; omega, by rw [nI_i32 (by rw [h1] at z1; omega)]; exact z1⟩ y1
  · rw [h1] at z1
    have e2 : N = N2 := nI9 (by omega) (by omega) e
    subst e2
    have eT : sp_T (a 10) N = sp_T (am 6) N := sp_T_eq (fun k hk => h2 k (by omega) (by rw [h1]; omega))
    rw [eT] at z3 ⊢
    refine ⟨rfl, ⟨by rw [z2, y2], fun i hi hw => ?_⟩, e42, ?_, kept⟩
    · rw [z2] at hw
      exact absurd hw (by rw [show (0 : Int32).toInt = 0 from rfl]; omega)
    · cases hz : sp_lake (sp_T (am 6) N) N with
      | inl z =>
        rw [hz] at z3 y3
        exact lkE_m (lkE_cur h4 z3) (fun i i1 i2 => y3 i (by omega))
      | inr z =>
        rw [hz] at z3 y3
        exact lkE_of z3 y3
/-- tales -/
def taC : SC := fun av g a g' a' _ => ∃ n : Int32, av = [.int n] ∧ ((¬ (0 ≤ n.toInt ∧ n.toInt ≤ (g 9 2).toInt ∧ n.toInt ≤ 300) ∧ g' 9 2 = g 9 2) ∨ ((0 ≤ n.toInt ∧ n.toInt ≤ (g 9 2).toInt ∧ n.toInt ≤ 300) ∧ g' 9 2 = 0)) ∧ cw_ag (fun j i => if j = 9 then g' j i else g j i) a g' a'
def taM : SM := fun av g a g' a' _ => ∃ n : Int32, av = [.int n] ∧ ((¬ (0 ≤ n.toInt ∧ n.toInt ≤ (g 10).toInt ∧ n.toInt ≤ 300) ∧ g' 10 = g 10) ∨ ((0 ≤ n.toInt ∧ n.toInt ≤ (g 10).toInt ∧ n.toInt ≤ 300) ∧ g' 10 = 0)) ∧ g' 42 = g 42 ∧ a' 6 = a 6 ∧ ∀ i ∈ mw_I, a' 1 i = a 1 i
theorem ta_wr {av : List Value} {u w : Value} {g a g' a' : Nat → Nat → Int32} {gm gm' : Nat → Int32} {am am' : Nat → Nat → Int32} (h : wrE g a gm am) (h1 : taC av g a g' a' u) (h2 : taM av gm am gm' am' w) : wrE g' a' gm' am' := by
  obtain ⟨n, rfl, p1, p2⟩ := h1
  obtain ⟨n2, e, q1, q2, q3, q4⟩ := h2
  cases e
  obtain ⟨⟨h1, h2⟩, h3, h4, h5⟩ := h
  have h0 : wrE (fun j i => if j = 9 then g' j i else g j i) a (fun k => if k = 10 then gm' k else gm k) am := by
    refine ⟨?_, h3, h4, fun m hm hw => ?_⟩
    · show g' 9 2 = gm' 10 ∧ ∀ i : Nat, i < 900 → (i : Int) < (g' 9 2).toInt → a 10 i = am 6 i
      rcases p1 with ⟨z1, z2⟩ | ⟨z1, z2⟩ <;> rcases q1 with ⟨y1, y2⟩ | ⟨y1, y2⟩
      · rw [z2, y2]
        exact ⟨h1, h2⟩
      · rw [h1] at z1
        exact absurd y1 z1
      · rw [h1] at z1
        exact absurd z1 y1
      · rw [z2, y2]
        exact ⟨rfl, fun i hi hw => absurd hw (by rw [show (0 : Int32).toInt = 0 from rfl]; omega)⟩
    · exact lkE_ext (h5 m hm hw) ⟨(if_neg (by omega)).symm, (if_neg (by omega)).symm, fun _ _ => rfl, fun _ _ => rfl, (if_neg (by omega)).symm⟩ ⟨rfl, rfl, fun _ _ => rfl, fun _ _ => rfl, fun _ _ => rfl⟩
  exact wrE_ext h0 p2 ⟨rfl, q2.symm, fun i _ => by rw [q3], fun i hi => (q4 i hi).symm⟩
/-- mark, undo -/
def cpn (D S : Nat) (g a g' a' : Nat → Nat → Int32) : Prop := g' D 8 = g S 8 ∧ g' (D + 11) 7 = g (S + 11) 7 ∧ (∀ i, i < 10 → a' (D + 3) i = a (S + 3) i) ∧ (∀ i, i < 8 → a' (D + 13) i = a (S + 13) i) ∧ g' D 9 = g S 9
theorem lkE_cp {D S s s' : Nat} {g a g' a' : Nat → Nat → Int32} {am am' : Nat → Int32} (h : lkE S s g a am) (hc : cpn D S g a g' a') (hm : ∀ i, i < 842 → am' (842 * s' + i) = am (842 * s + i)) : lkE D s' g' a' am' := by
  obtain ⟨h1, h2, h4, h5, h6⟩ := h
  obtain ⟨c1, c2, c4, c5, c6⟩ := hc
  have m0 : am' (842 * s') = am (842 * s) := hm 0 (by decide)
  refine ⟨by rw [c1, m0, h1], by rw [c2, hm 1 (by decide), h2], fun i hi => ?_, fun i hi hw => ?_, fun i hi hw => ?_⟩
  · rw [c4 i hi, h4 i hi, show 842 * s' + 8 + 6 * i + 3 = 842 * s' + (11 + 6 * i) from by omega, hm _ (by omega), show 842 * s + 8 + 6 * i + 3 = 842 * s + (11 + 6 * i) from by omega]
  · rw [c2] at hw
    have e := hm (278 + 5 * i) (by omega)
    rw [c5 i hi, show 842 * s' + 278 + 5 * i = 842 * s' + (278 + 5 * i) from by omega, e, show 842 * s + (278 + 5 * i) = 842 * s + 278 + 5 * i from by omega]
    exact h5 i hi hw
  · rw [c1] at hw
    rw [c6, show 842 * s' + 8 + 6 * i = 842 * s' + (8 + 6 * i) from by omega, hm (8 + 6 * i) (by omega), show 842 * s + (8 + 6 * i) = 842 * s + 8 + 6 * i from by omega]
    exact h6 i hi hw
def mkC : SC := fun _ g a g' a' v => ∃ k : Nat, k ≤ 3 ∧ g 0 13 = nI k ∧ g' 9 2 = g 9 2 ∧ a' 10 = a 10 ∧ ((k < 3 ∧ v = .int (nI (k + 1)) ∧ g' 0 13 = nI (k + 1) ∧ cpn (192 + 26 * k) 15 g a g' a' ∧ ∀ j, 15 ≤ j → ¬ (192 + 26 * k ≤ j ∧ j ≤ 192 + 26 * k + 25) → g' j = g j ∧ a' j = a j) ∨ (k = 3 ∧ v = .int (-1) ∧ g' 0 13 = g 0 13 ∧ ∀ j, 15 ≤ j → g' j = g j ∧ a' j = a j))
def mkM : SM := fun _ g a g' a' v => ∃ k : Nat, k ≤ 3 ∧ g 42 = nI k ∧ g' 10 = g 10 ∧ a' 6 = a 6 ∧ ((k < 3 ∧ v = .int (nI (k + 1)) ∧ g' 42 = nI (k + 1) ∧ (∀ i, i < 842 → a' 1 (842 * (k + 1) + i) = a 1 (842 * 0 + i)) ∧ ∀ i, ¬ (842 * (k + 1) ≤ i ∧ i < 842 * (k + 1) + 842) → a' 1 i = a 1 i) ∨ (k = 3 ∧ v = .int (-1) ∧ g' 42 = g 42 ∧ a' 1 = a 1))
def udC : SC := fun _ g a g' a' v => ∃ k : Nat, k ≤ 3 ∧ g 0 13 = nI k ∧ g' 9 2 = g 9 2 ∧ a' 10 = a 10 ∧ ((∃ m, k = m + 1 ∧ v = .int (nI m) ∧ g' 0 13 = nI m ∧ cpn 15 (192 + 26 * m) g a g' a' ∧ ∀ j, 41 ≤ j → g' j = g j ∧ a' j = a j) ∨ (k = 0 ∧ v = .int (-1) ∧ g' 0 13 = g 0 13 ∧ ∀ j, 15 ≤ j → g' j = g j ∧ a' j = a j))
def udM : SM := fun _ g a g' a' v => ∃ k : Nat, k ≤ 3 ∧ g 42 = nI k ∧ g' 10 = g 10 ∧ a' 6 = a 6 ∧ ((∃ m, k = m + 1 ∧ v = .int (nI m) ∧ g' 42 = nI m ∧ (∀ i, i < 842 → a' 1 (842 * 0 + i) = a 1 (842 * (m + 1) + i)) ∧ ∀ i, ¬ (i < 842) → a' 1 i = a 1 i) ∨ (k = 0 ∧ v = .int (-1) ∧ g' 42 = g 42 ∧ a' 1 = a 1))
theorem mk_wr {av av2 : List Value} {u w : Value} {g a g' a' : Nat → Nat → Int32} {gm gm' : Nat → Int32} {am am' : Nat → Nat → Int32} (h : wrE g a gm am) (h1 : mkC av g a g' a' u) (h2 : mkM av2 gm am gm' am' w) : u = w ∧ wrE g' a' gm' am' := by
  obtain ⟨k, p1, p2, p3, p4, p5⟩ := h1
  obtain ⟨t, q1, q2, q3, q4, q5⟩ := h2
  obtain ⟨⟨h1, h2⟩, h3, h4, h5⟩ := h
  have ekt : k = t := nI9 (by omega) (by omega) (by rw [← p2, ← q2, h3])
  subst ekt
  have ht : g' 9 2 = gm' 10 ∧ ∀ i : Nat, i < 900 → (i : Int) < (g' 9 2).toInt → a' 10 i = am' 6 i := by
    rw [p3, q3, p4, q4]
    exact ⟨h1, h2⟩
  rcases p5 with ⟨z1, rfl, z2, z3, z4⟩ | ⟨z1, rfl, z2, z3⟩ <;> rcases q5 with ⟨y1, rfl, y2, y3, y4⟩ | ⟨y1, rfl, y2, y3⟩
  · refine ⟨rfl, ht, by rw [z2, y2], lkE_m (lkE_cur h4 (fun j j1 j2 => z4 j j1 (by omega))) (fun i i1 i2 => y4 i (by omega)), fun m hm hw => ?_⟩
    rw [z2, nI_i32 (by omega)] at hw
    by_cases e : m = k
    · subst e
      exact lkE_cp h4 z3 y3
    · exact lkE_m (lkE_kep (h5 m hm (by rw [p2, nI_i32 (by omega)]; omega)) (fun j hj => z4 j (by omega) (by omega))) (fun i i1 i2 => y4 i (by omega))
  · omega
  · omega
  · refine ⟨rfl, ht, by rw [z2, y2, h3], by rw [y3]; exact lkE_cur h4 (fun j j1 j2 => z3 j j1), fun m hm hw => ?_⟩
    rw [z2] at hw
    rw [y3]
    exact lkE_kep (h5 m hm hw) (fun j hj => z3 j (by omega))
theorem ud_wr {av av2 : List Value} {u w : Value} {g a g' a' : Nat → Nat → Int32} {gm gm' : Nat → Int32} {am am' : Nat → Nat → Int32} (h : wrE g a gm am) (h1 : udC av g a g' a' u) (h2 : udM av2 gm am gm' am' w) : u = w ∧ wrE g' a' gm' am' := by
  obtain ⟨k, p1, p2, p3, p4, p5⟩ := h1
  obtain ⟨t, q1, q2, q3, q4, q5⟩ := h2
  obtain ⟨⟨h1, h2⟩, h3, h4, h5⟩ := h
  have ekt : k = t := nI9 (by omega) (by omega) (by rw [← p2, ← q2, h3])
  subst ekt
  have ht : g' 9 2 = gm' 10 ∧ ∀ i : Nat, i < 900 → (i : Int) < (g' 9 2).toInt → a' 10 i = am' 6 i := by
    rw [p3, q3, p4, q4]
    exact ⟨h1, h2⟩
  rcases p5 with ⟨m, rfl, rfl, z2, z3, z4⟩ | ⟨z1, rfl, z2, z3⟩ <;> rcases q5 with ⟨m2, e, rfl, y2, y3, y4⟩ | ⟨y1, rfl, y2, y3⟩
  · have e : m = m2 := by omega
    subst e
    have hcur := h5 m (by omega) (by rw [p2, nI_i32 (by omega)]; omega)
    refine ⟨rfl, ht, by rw [z2, y2], lkE_cp hcur z3 y3, fun j hj hw => ?_⟩
    rw [z2, nI_i32 (by omega)] at hw
    exact lkE_m (lkE_kep (h5 j hj (by rw [p2, nI_i32 (by omega)]; omega)) (fun i hi => z4 i (by omega))) (fun i i1 i2 => y4 i (by omega))
  · omega
  · omega
  · refine ⟨rfl, ht, by rw [z2, y2, h3], by rw [y3]; exact lkE_cur h4 (fun j j1 j2 => z3 j j1), fun m hm hw => ?_⟩
    rw [z2] at hw
    rw [y3]
    exact lkE_kep (h5 m hm hw) (fun j hj => z3 j (by omega))
theorem nI10 {k j : Nat} (hk : k < 10) (hj : j < 10) (h : nI k = nI j) : k = j := nI9 (by omega) (by omega) h
/-- weigh -/
def wgC : SC := fun av g a g' a' v => ∃ x y : Int32, av = [.int x, .int y] ∧ (g' 0 13 = g 0 13 ∧ ∀ j, j ≠ 0 → g' j = g j) ∧ (∀ j, j ≠ 28 → a' j = a j) ∧ ((¬ wgN (g 26 7) x y ∧ v = .int 0 ∧ a' 28 = a 28) ∨ ∃ X, X < 8 ∧ x = nI X ∧ wgN (g 26 7) x y ∧ v = .int 1 ∧ a' 28 = upd (a 28) X y)
def wgM : SM := fun av g a g' a' v => ∃ x y : Int32, av = [.int x, .int y] ∧ (g' 10 = g 10 ∧ g' 42 = g 42) ∧ a' 6 = a 6 ∧ ((¬ wgN (a 1 1) x y ∧ v = .int 0 ∧ a' 1 = a 1) ∨ ∃ X, X < 8 ∧ x = nI X ∧ wgN (a 1 1) x y ∧ v = .int 1 ∧ a' 1 = upd (a 1) (278 + 5 * X) y)
theorem wg_wr {av : List Value} {u w : Value} {g a g' a' : Nat → Nat → Int32} {gm gm' : Nat → Int32} {am am' : Nat → Nat → Int32} (h : wrE g a gm am) (h1 : wgC av g a g' a' u) (h2 : wgM av gm am gm' am' w) : u = w ∧ wrE g' a' gm' am' := by
  obtain ⟨x, y, rfl, ⟨p0, p1⟩, p2, p3⟩ := h1
  obtain ⟨x2, y2, e, ⟨q0, q1⟩, q2, q3⟩ := h2
  cases e
  obtain ⟨⟨h1, h2⟩, h3, h4, h5⟩ := h
  have e8 : g 26 7 = am 1 1 := h4.2.1
  have ht : g' 9 2 = gm' 10 ∧ ∀ i : Nat, i < 900 → (i : Int) < (g' 9 2).toInt → a' 10 i = am' 6 i := by
    rw [show g' 9 2 = g 9 2 from congrFun (p1 9 (by decide)) 2, q0, p2 10 (by decide), q2]
    exact ⟨h1, h2⟩
  have e13 : g' 0 13 = gm' 42 := by rw [p0, q1, h3]
  rcases p3 with ⟨z1, rfl, z3⟩ | ⟨X, hX, rfl, z1, rfl, z3⟩ <;> rcases q3 with ⟨y1, rfl, y3⟩ | ⟨X2, hX2, e1, y1, rfl, y3⟩
  · have ka : a' = a := funext (fun j => by
      by_cases e : j = 28
      · rw [e, z3]
      · exact p2 j e)
    refine ⟨rfl, ht, e13, ?_, fun m hm hw => ?_⟩
    · rw [y3, ka]
      exact lkE_cur h4 (fun j j1 j2 => ⟨p1 j (by omega), rfl⟩)
    · rw [p0] at hw
      rw [y3, ka]
      exact lkE_kep (h5 m hm hw) (fun j hj => ⟨p1 j (by omega), rfl⟩)
  · rw [e8] at z1
    exact absurd y1 z1
  · rw [e8] at z1
    exact absurd z1 y1
  · have eX := nI10 (by omega) (by omega) e1
    subst eX
    have em : ∀ i, i ≠ 278 + 5 * X → am' 1 i = am 1 i := fun i i1 => by rw [y3, pk_un i1]
    refine ⟨rfl, ht, e13, ?_, fun m hm hw => ?_⟩
    · obtain ⟨k1, k2, k4, k5, k6⟩ := h4
      refine ⟨?_, ?_, fun i hi => ?_, fun i hi hw => ?_, fun i hi hw => ?_⟩
      · rw [show g' 15 8 = g 15 8 from congrFun (p1 15 (by decide)) 8, em _ (by omega), k1]
      · rw [show g' (15 + 11) 7 = g (15 + 11) 7 from congrFun (p1 26 (by decide)) 7, em _ (by omega), k2]
      · rw [p2 (15 + 3) (by decide), em _ (by omega), k4 i hi]
      · rw [show g' (15 + 11) 7 = g (15 + 11) 7 from congrFun (p1 26 (by decide)) 7] at hw
        rw [show 842 * 0 + 278 + 5 * i = 278 + 5 * i from by omega]
        show a' 28 i = am' 1 (278 + 5 * i) ∧ _
        rw [z3, y3]
        by_cases e : i = X
        · rw [e, pk_us, pk_us]
          exact ⟨rfl, z1.2.1, z1.2.2⟩
        · rw [pk_un e, pk_un (show 278 + 5 * i ≠ 278 + 5 * X by omega)]
          have := k5 i hi hw
          rw [show 842 * 0 + 278 + 5 * i = 278 + 5 * i from by omega] at this
          exact this
      · rw [show g' 15 8 = g 15 8 from congrFun (p1 15 (by decide)) 8] at hw
        rw [show g' 15 9 = g 15 9 from congrFun (p1 15 (by decide)) 9, em _ (by omega)]
        exact k6 i hi hw
    · rw [p0] at hw
      exact lkE_m (lkE_kep (h5 m hm hw) (fun j hj => ⟨p1 j (by omega), p2 j (by omega)⟩)) (fun i i1 i2 => em i (by omega))
/-- way, beside: answers alone -/
def wyC (ar : Nat) : SC := fun av g a _ _ v => ∃ x y : Int32, av = [.int x, .int y] ∧ ((¬ twoN (g 15 8) x y ∧ v = .int (-1)) ∨ ∃ X, X < 10 ∧ x = nI X ∧ twoN (g 15 8) x y ∧ v = .int (fm_b (a ar X) y))
def wyM (d : Nat) : SM := fun av _ a _ _ v => ∃ x y : Int32, av = [.int x, .int y] ∧ ((¬ twoN (a 1 0) x y ∧ v = .int (-1)) ∨ ∃ X, X < 10 ∧ x = nI X ∧ twoN (a 1 0) x y ∧ v = .int (fm_b (a 1 (d + 6 * X)) y))
theorem wy_wr {ar d : Nat} (hd : ar = 18 ∧ d = 11) {av : List Value} {u w : Value} {g a g' a' : Nat → Nat → Int32} {gm gm' : Nat → Int32} {am am' : Nat → Nat → Int32} (h : wrE g a gm am) (h1 : wyC ar av g a g' a' u) (h2 : wyM d av gm am gm' am' w) : u = w := by
  obtain ⟨x, y, rfl, p3⟩ := h1
  obtain ⟨x2, y2, e, q3⟩ := h2
  cases e
  have e8 : g 15 8 = am 1 0 := h.2.2.1.1
  rcases p3 with ⟨z1, rfl⟩ | ⟨X, hX, rfl, z1, rfl⟩ <;> rcases q3 with ⟨y1, rfl⟩ | ⟨X2, hX2, e1, y1, rfl⟩
  · rfl
  · rw [e8] at z1
    exact absurd y1 z1
  · rw [e8] at z1
    exact absurd z1 y1
  · have eX := nI10 hX hX2 e1
    subst eX
    obtain ⟨rfl, rfl⟩ := hd
    have := h.2.2.1.2.2.1 X hX
    rw [show 842 * 0 + 8 + 6 * X + 3 = 11 + 6 * X from by omega] at this
    rw [show a 18 X = am 1 (11 + 6 * X) from this]
