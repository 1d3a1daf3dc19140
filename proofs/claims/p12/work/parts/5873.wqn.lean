/-! ===== names, tapes, faults: the calls, and what binds them ===== -/
theorem nI9 {k j : Nat} (hk : k ≤ 900) (hj : j ≤ 900) (h : nI k = nI j) : k = j := by
  have h2 : (nI k).toInt = (nI j).toInt := by rw [h]
  rw [nI_i32 (by omega), nI_i32 (by omega)] at h2
  omega
/-- feed -/
def feC : SC := fun av g a b g' a' b' _ => ∃ (s : Nat) (v0 v1 v2 v3 v4 : Int32), s ≤ 900 ∧ g 9 2 = nI s ∧ av = [.int v0, .int v1, .int v2, .int v3, .int v4] ∧ ((s ≤ 880 ∧ g' 9 2 = nI (s + 20) ∧ a' 10 = t20 (a 10) s v0 v1 v2 v3 v4) ∨ (880 < s ∧ g' 9 2 = nI s ∧ a' 10 = a 10)) ∧ (∀ j, j ≠ 9 → g' j = g j) ∧ b' = b
def feM : SM := fun av g a b g' a' b' _ => ∃ (s : Nat) (v0 v1 v2 v3 v4 : Int32), s ≤ 900 ∧ g 10 = nI s ∧ av = [.int v0, .int v1, .int v2, .int v3, .int v4] ∧ ((s ≤ 880 ∧ g' 10 = nI (s + 20) ∧ a' 6 = t20 (a 6) s v0 v1 v2 v3 v4) ∨ (880 < s ∧ g' 10 = nI s ∧ a' 6 = a 6)) ∧ (∀ k, k ≠ 10 → g' k = g k) ∧ a' 1 = a 1 ∧ b' = b
theorem fe_wr {av : List Value} {u w : Value} {g a g' a' : Nat → Nat → Int32} {b b' : Nat → Nat → Int64} {gm gm' : Nat → Int32} {am am' : Nat → Nat → Int32} {bm bm' : Nat → Nat → Int64} (h : wrE g a b gm am bm) (f1 : g' 9 10 = g 9 10) (f2 : g' 9 11 = g 9 11) (h1 : feC av g a b g' a' b' u) (h2 : feM av gm am bm gm' am' bm' w) : wrE g' a' b' gm' am' bm' := by
  obtain ⟨s, v0, v1, v2, v3, v4, p1, p2, rfl, p3, p4, rfl⟩ := h1
  obtain ⟨t, x0, x1, x2, x3, x4, q1, q2, e, q3, q4, q5, rfl⟩ := h2
  cases e
  obtain ⟨⟨h1, h2⟩, ⟨h6, h7⟩, h3, h4, h5⟩ := h
  have est : s = t := nI9 p1 q1 (by rw [← p2, ← q2, h1])
  subst est
  have f : ∀ i, i < s → a 10 i = am 6 i := fun i hi => h2 i (by omega) (by rw [p2, nI_i32 (by omega)]; omega)
  have e13 : g' 0 13 = g 0 13 := congrFun (p4 0 (by decide)) 13
  refine ⟨?_, ⟨by rw [f1, q4 16 (by decide), h6], by rw [f2, q4 17 (by decide), h7]⟩, by rw [e13, q4 42 (by decide), h3], by rw [q5]; exact lkN_g h4 (fun j hj => ⟨p4 j (by omega), rfl⟩), fun m hm hw => ?_⟩
  · rcases p3 with ⟨z1, z2, z3⟩ | ⟨z1, z2, z3⟩ <;> rcases q3 with ⟨y1, y2, y3⟩ | ⟨y1, y2, y3⟩
    · refine ⟨by rw [z2, y2], fun i hi hw => ?_⟩
      rw [z2, nI_i32 (by omega)] at hw
      rw [z3, y3]
      exact t20_eq f i (by omega)
    · omega
    · omega
    · refine ⟨by rw [z2, y2], fun i hi hw => ?_⟩
      rw [z2, nI_i32 (by omega)] at hw
      rw [z3, y3]
      exact f i (by omega)
  · rw [e13] at hw
    rw [q5]
    exact lkN_g (h5 m hm hw) (fun j hj => ⟨p4 j (by omega), rfl⟩)
/-- lake -/
def laC : SC := fun av g a b g' a' b' v => ∃ x : Int32, av = [.int x] ∧ a' 10 = a 10 ∧ kepN g g' b b' ∧ ((¬ (0 ≤ x.toInt ∧ x.toInt ≤ (g 9 2).toInt) ∧ v = .int (-1) ∧ g' 9 = g 9 ∧ g' 34 = g 34 ∧ curN g g' b b') ∨ ∃ N, x = nI N ∧ (N : Int) ≤ (g 9 2).toInt ∧ g' 9 2 = 0 ∧ v = .int (sp_ans (sp_lake (sp_T (a 10) N) N)) ∧ (match sp_lake (sp_T (a 10) N) N with
  | .inl z => g' 34 = g 34 ∧ curN g g' b b' ∧ g' 9 10 = z.1 ∧ g' 9 11 = nI z.2
  | .inr z => cn_L 15 z.1 g' b' ∧ g' 34 7 = 0 ∧ g' 9 10 = 0 ∧ g' 9 11 = -1))
def laM : SM := fun av g a b g' a' b' v => ∃ x : Int32, av = [.int x] ∧ a' 6 = a 6 ∧ g' 42 = g 42 ∧ (∀ i, 842 ≤ i → i < 3368 → a' 1 i = a 1 i) ∧ (∀ i, 18 ≤ i → i < 72 → b' 2 i = b 2 i) ∧ ((¬ (0 ≤ x.toInt ∧ x.toInt ≤ (g 10).toInt) ∧ v = .int (-1) ∧ (g' 10 = g 10 ∧ g' 16 = g 16 ∧ g' 17 = g 17) ∧ a' 1 = a 1 ∧ b' 2 = b 2) ∨ ∃ N, x = nI N ∧ (N : Int) ≤ (g 10).toInt ∧ g' 10 = 0 ∧ v = .int (sp_ans (sp_lake (sp_T (a 6) N) N)) ∧ (match sp_lake (sp_T (a 6) N) N with
  | .inl z => (∀ i, i < 842 → a' 1 i = a 1 i) ∧ (∀ i, i < 18 → b' 2 i = b 2 i) ∧ g' 16 = z.1 ∧ g' 17 = nI z.2
  | .inr z => (a' 1 0 = nI z.1.1.1.length ∧ z.1.1.1.length ≤ 10 ∧ a' 1 1 = nI z.1.1.2.length ∧ z.1.1.2.length ≤ 8) ∧ (sp_nM (fun i => b' 2 (0 + i)) (z.1.1.1.map Prod.fst) ∧ sp_nM (fun i => b' 2 (0 + 10 + i)) (z.1.1.2.map Prod.fst)) ∧ a' 1 6 = -1 ∧ g' 16 = 0 ∧ g' 17 = -1))
theorem la_wr {av : List Value} {u w : Value} {g a g' a' : Nat → Nat → Int32} {b b' : Nat → Nat → Int64} {gm gm' : Nat → Int32} {am am' : Nat → Nat → Int32} {bm bm' : Nat → Nat → Int64} (h : wrE g a b gm am bm) (hI : (gm 10).toInt ≤ 900) (h13 : g' 0 13 = g 0 13) (h1 : laC av g a b g' a' b' u) (h2 : laM av gm am bm gm' am' bm' w) : u = w ∧ wrE g' a' b' gm' am' bm' := by
  obtain ⟨x, rfl, p1, p2, p3⟩ := h1
  obtain ⟨y, e, q1, q0, q2, q4, q3⟩ := h2
  cases e
  obtain ⟨⟨h1, h2⟩, ⟨h6, h7⟩, h3, h4, h5⟩ := h
  have kept : ∀ m : Nat, m < 3 → (m : Int) < (g' 0 13).toInt → lkN (192 + 26 * m) (m + 1) g' b' (am' 1) (bm' 2) := fun m hm hw => by
    rw [h13] at hw
    exact lkN_m (lkN_g (h5 m hm hw) (fun j hj => p2 j (by omega))) (fun i i1 i2 => q2 i (by omega) (by omega)) (fun i i1 i2 => q4 i (by omega) (by omega))
  have e42 : g' 0 13 = gm' 42 := by rw [h13, q0, h3]
  rcases p3 with ⟨z1, rfl, z2, z4, z3⟩ | ⟨N, rfl, z1, z2, rfl, z3⟩ <;> rcases q3 with ⟨y1, rfl, ⟨y2, y6, y7⟩, y3, y4⟩ | ⟨N2, e, y1, y2, rfl, y3⟩
  · refine ⟨rfl, ⟨by rw [z2, y2, h1], fun i hi hw => ?_⟩, ⟨by rw [z2, y6, h6], by rw [z2, y7, h7]⟩, e42, ?_, kept⟩
    · rw [z2] at hw
      rw [p1, q1]
      exact h2 i hi hw
    · rw [y3, y4]
      exact lkN_ext h4 ⟨congrFun (z3 15 (by decide) (by decide)).1 8, congrFun (z3 26 (by decide) (by decide)).1 7, congrFun z4 7, fun i _ => congrFun (z3 16 (by decide) (by decide)).2 i, fun i _ => congrFun (z3 27 (by decide) (by decide)).2 i⟩ ⟨rfl, rfl, rfl, fun _ _ => rfl⟩
  · subst e
    rw [h1] at z1
    exact absurd ⟨by rw [nI_i32 (by omega)]; omega, by rw [nI_i32 (by omega)]; exact y1⟩ z1
  · rw [← h1] at y1
    have := h1
    exact absurd ⟨by rw [nI_i32 (by rw [h1] at z1; omega)]; omega, by rw [nI_i32 (by rw [h1] at z1; omega)]; exact z1⟩ y1
  · rw [h1] at z1
    have e2 : N = N2 := nI9 (by omega) (by omega) e
    subst e2
    have eT : sp_T (a 10) N = sp_T (am 6) N := sp_T_eq (fun k hk => h2 k (by omega) (by rw [h1]; omega))
    rw [eT] at z3 ⊢
    have tp : g' 9 2 = gm' 10 ∧ ∀ i : Nat, i < 900 → (i : Int) < (g' 9 2).toInt → a' 10 i = am' 6 i := ⟨by rw [z2, y2], fun i hi hw => by
      rw [z2] at hw
      exact absurd hw (by rw [show (0 : Int32).toInt = 0 from rfl]; omega)⟩
    cases hz : sp_lake (sp_T (am 6) N) N with
    | inl z =>
      rw [hz] at z3 y3
      obtain ⟨c1, c2, c3, c4⟩ := z3
      obtain ⟨d1, d2, d3, d4⟩ := y3
      refine ⟨rfl, tp, ⟨by rw [c3, d3], by rw [c4, d4]⟩, e42, lkN_m (lkN_ext h4 ⟨congrFun (c2 15 (by decide) (by decide)).1 8, congrFun (c2 26 (by decide) (by decide)).1 7, congrFun c1 7, fun i _ => congrFun (c2 16 (by decide) (by decide)).2 i, fun i _ => congrFun (c2 27 (by decide) (by decide)).2 i⟩ ⟨rfl, rfl, rfl, fun _ _ => rfl⟩) (fun i i1 i2 => d1 i (by omega)) (fun i i1 i2 => d2 i (by omega)), kept⟩
    | inr z =>
      rw [hz] at z3 y3
      obtain ⟨⟨k1, k2, k3, k4, k5, k6⟩, c1, c3, c4⟩ := z3
      obtain ⟨⟨d1, -, d2, -⟩, ⟨d5, d6⟩, d7, d8, d9⟩ := y3
      have l1 : (z.1.1.1.map Prod.fst).length = z.1.1.1.length := List.length_map _
      have l2 : (z.1.1.2.map Prod.fst).length = z.1.1.2.length := List.length_map _
      refine ⟨rfl, tp, ⟨by rw [c3, d8], by rw [c4, d9]⟩, e42, ⟨⟨z.1.1.1.map Prod.fst, z.1.1.2.map Prod.fst, ⟨by omega, by omega⟩, ⟨by rw [l1]; exact k1, by rw [l2]; exact k3, k5, k6⟩, by rw [l1]; exact d1, by rw [l2]; exact d2, d5, d6⟩, ⟨fun e => ?_, fun e => ?_⟩⟩, kept⟩
      · have e : g' 34 7 = 1 := e
        rw [c1] at e
        cases e
      · have e : 0 ≤ (am' 1 6).toInt := e
        rw [d7] at e
        exact absurd e (by decide)
/-- tales -/
def tl_ans : sp_R → Int32
  | .inl _ => -1
  | .inr z => nI (z.2.1 / 4)
def taC : SC := fun av g a b g' a' b' v => ∃ (x : Int32) (A : sp_A), av = [.int x] ∧ cn_L 15 A g b ∧ a' 10 = a 10 ∧ kepN g g' b b' ∧ curN g g' b b' ∧ ((¬ (0 ≤ x.toInt ∧ x.toInt ≤ (g 9 2).toInt ∧ x.toInt ≤ 300) ∧ v = .int (-1) ∧ g' 9 = g 9 ∧ g' 34 = g 34) ∨ ∃ N, x = nI N ∧ (N : Int) ≤ (g 9 2).toInt ∧ N ≤ 300 ∧ g' 9 2 = 0 ∧ v = .int (tl_ans (tl_tales (sp_T (a 10) N) N A)) ∧ (match tl_tales (sp_T (a 10) N) N A with
  | .inl z => g' 34 = g 34 ∧ g' 9 10 = z.1 ∧ g' 9 11 = nI z.2
  | .inr _ => g' 34 7 = 1 ∧ g' 9 10 = 0 ∧ g' 9 11 = -1))
def taM : SM := fun av g a b g' a' b' v => ∃ x : Int32, av = [.int x] ∧ a' 6 = a 6 ∧ g' 42 = g 42 ∧ b' 2 = b 2 ∧ (∀ i ∈ mw_I, i ≠ 6 → a' 1 i = a 1 i) ∧ ∀ A : sp_A, mn_L A a b → ((¬ (0 ≤ x.toInt ∧ x.toInt ≤ (g 10).toInt ∧ x.toInt ≤ 300) ∧ v = .int (-1) ∧ (g' 10 = g 10 ∧ g' 16 = g 16 ∧ g' 17 = g 17) ∧ a' 1 6 = a 1 6) ∨ ∃ N, x = nI N ∧ (N : Int) ≤ (g 10).toInt ∧ N ≤ 300 ∧ g' 10 = 0 ∧ v = .int (tl_ans (tl_tales (sp_T (a 6) N) N A)) ∧ (match tl_tales (sp_T (a 6) N) N A with
  | .inl z => a' 1 6 = a 1 6 ∧ g' 16 = z.1 ∧ g' 17 = nI z.2
  | .inr _ => 0 ≤ (a' 1 6).toInt ∧ g' 16 = 0 ∧ g' 17 = -1))
theorem ta_wr {av : List Value} {u w : Value} {g a g' a' : Nat → Nat → Int32} {b b' : Nat → Nat → Int64} {gm gm' : Nat → Int32} {am am' : Nat → Nat → Int32} {bm bm' : Nat → Nat → Int64} (h : wrE g a b gm am bm) (hI : (gm 10).toInt ≤ 900) (h13 : g' 0 13 = g 0 13) (h1 : taC av g a b g' a' b' u) (h2 : taM av gm am bm gm' am' bm' w) : u = w ∧ wrE g' a' b' gm' am' bm' := by
  obtain ⟨x, A, rfl, pA, p1, p2, p4, p3⟩ := h1
  obtain ⟨y, e, q1, q0, q4, q2, q3⟩ := h2
  cases e
  obtain ⟨⟨h1, h2⟩, ⟨h6, h7⟩, h3, h4, h5⟩ := h
  -- the model's names are those of A
  have hA : mn_L A am bm := by
    obtain ⟨⟨nC, nW, ⟨l1, l2⟩, ⟨k1, k2, k3, k4⟩, k5, k6, k7, k8⟩, -⟩ := h4
    obtain ⟨a1, a2, a3, a4, a5, a6⟩ := pA
    have m1 : (A.1.1.map Prod.fst).length = A.1.1.length := List.length_map _
    have m2 : (A.1.2.map Prod.fst).length = A.1.2.length := List.length_map _
    have e1 : nC.length = A.1.1.length := nI9 (by omega) (by omega) (k1.symm.trans a1)
    have e2 : nW.length = A.1.2.length := nI9 (by omega) (by omega) (k2.symm.trans a3)
    have eC : nC = A.1.1.map Prod.fst := sp_nC_uniq k3 a5 (by rw [m1]; exact e1)
    have eW : nW = A.1.2.map Prod.fst := sp_nC_uniq k4 a6 (by rw [m2]; exact e2)
    refine ⟨⟨by rw [← e1]; exact k5, a2, by rw [← e2]; exact k6, a4⟩, ⟨by rw [← eC]; exact k7, by rw [← eW]; exact k8⟩, True.intro⟩
  have q3 := q3 A hA
  have q2s : ∀ s : Nat, s < 4 → 1 ≤ s → am' 1 (842 * s) = am 1 (842 * s) ∧ am' 1 (842 * s + 1) = am 1 (842 * s + 1) ∧ am' 1 (842 * s + 6) = am 1 (842 * s + 6) := fun s hs h1s => ⟨q2 _ (mw_lks s hs).1 (by omega), q2 _ (mw_lks s hs).2.1 (by omega), q2 _ (mw_lks s hs).2.2 (by omega)⟩
  have kept : ∀ m : Nat, m < 3 → (m : Int) < (g' 0 13).toInt → lkN (192 + 26 * m) (m + 1) g' b' (am' 1) (bm' 2) := fun m hm hw => by
    rw [h13] at hw
    obtain ⟨s1, s2, s3⟩ := q2s (m + 1) (by omega) (by omega)
    exact lkN_ext (lkN_g (h5 m hm hw) (fun j hj => p2 j (by omega))) ⟨rfl, rfl, rfl, fun _ _ => rfl, fun _ _ => rfl⟩ ⟨s1, s2, s3, fun i hi => by rw [q4]⟩
  have e42 : g' 0 13 = gm' 42 := by rw [h13, q0, h3]
  -- the LAKE itself: names as they were
  have cur : (g' 34 7 = 1 ↔ 0 ≤ (am' 1 6).toInt) → lkN 15 0 g' b' (am' 1) (bm' 2) := fun ht => by
    obtain ⟨⟨nC, nW, l, ⟨k1, k2, k3, k4⟩, k5, k6, k7, k8⟩, -⟩ := h4
    refine ⟨⟨nC, nW, l, ⟨(congrFun (p4 15 (by decide) (by decide)).1 8).trans k1, (congrFun (p4 26 (by decide) (by decide)).1 7).trans k2, ?_, ?_⟩, (q2 (842 * 0) (mw_lks 0 (by decide)).1 (by decide)).trans k5, (q2 (842 * 0 + 1) (mw_lks 0 (by decide)).2.1 (by decide)).trans k6, by rw [q4]; exact k7, by rw [q4]; exact k8⟩, ht⟩
    · rw [(p4 (15 + 1) (by decide) (by decide)).2]; exact k3
    · rw [(p4 (15 + 12) (by decide) (by decide)).2]; exact k4
  have ht0 : g 34 7 = 1 ↔ 0 ≤ (am 1 6).toInt := h4.2
  rcases p3 with ⟨z1, rfl, z2, z4⟩ | ⟨N, rfl, z1, z0, z2, rfl, z3⟩ <;> rcases q3 with ⟨y1, rfl, ⟨y2, y6, y7⟩, y3⟩ | ⟨N2, e, y1, y0, y2, rfl, y3⟩
  · refine ⟨rfl, ⟨by rw [z2, y2, h1], fun i hi hw => ?_⟩, ⟨by rw [z2, y6, h6], by rw [z2, y7, h7]⟩, e42, cur (by rw [z4, y3]; exact ht0), kept⟩
    rw [z2] at hw
    rw [p1, q1]
    exact h2 i hi hw
  · subst e
    rw [h1] at z1
    exact absurd ⟨by rw [nI_i32 (by omega)]; omega, by rw [nI_i32 (by omega)]; exact y1, by rw [nI_i32 (by omega)]; omega⟩ z1
  · rw [← h1] at y1
    exact absurd ⟨by rw [nI_i32 (by omega)]; omega, by rw [nI_i32 (by omega)]; exact z1, by rw [nI_i32 (by omega)]; omega⟩ y1
  · rw [h1] at z1
    have e2 : N = N2 := nI9 (by omega) (by omega) e
    subst e2
    have eT : sp_T (a 10) N = sp_T (am 6) N := sp_T_eq (fun k hk => h2 k (by omega) (by rw [h1]; omega))
    rw [eT] at z3 ⊢
    have tp : g' 9 2 = gm' 10 ∧ ∀ i : Nat, i < 900 → (i : Int) < (g' 9 2).toInt → a' 10 i = am' 6 i := ⟨by rw [z2, y2], fun i hi hw => by
      rw [z2] at hw
      exact absurd hw (by rw [show (0 : Int32).toInt = 0 from rfl]; omega)⟩
    cases hz : tl_tales (sp_T (am 6) N) N A with
    | inl z =>
      rw [hz] at z3 y3
      obtain ⟨c1, c3, c4⟩ := z3
      obtain ⟨d1, d3, d4⟩ := y3
      exact ⟨rfl, tp, ⟨by rw [c3, d3], by rw [c4, d4]⟩, e42, cur (by rw [c1, d1]; exact ht0), kept⟩
    | inr z =>
      rw [hz] at z3 y3
      obtain ⟨c1, c3, c4⟩ := z3
      obtain ⟨d1, d3, d4⟩ := y3
      exact ⟨rfl, tp, ⟨by rw [c3, d3], by rw [c4, d4]⟩, e42, cur ⟨fun _ => d1, fun _ => c1⟩, kept⟩
/-- mark, undo -/
def cpN (D S : Nat) (g g' : Nat → Nat → Int32) (b b' : Nat → Nat → Int64) : Prop := g' D 8 = g S 8 ∧ g' (D + 11) 7 = g (S + 11) 7 ∧ g' (D + 19) 7 = g (S + 19) 7 ∧ (∀ i, i < 10 → b' (D + 1) i = b (S + 1) i) ∧ ∀ i, i < 8 → b' (D + 12) i = b (S + 12) i
theorem lkN_cp {D S s s' : Nat} {g g' : Nat → Nat → Int32} {b b' : Nat → Nat → Int64} {am am' : Nat → Int32} {bm bm' : Nat → Int64} (h : lkN S s g b am bm) (hc : cpN D S g g' b b') (hm : ∀ i, i < 842 → am' (842 * s' + i) = am (842 * s + i)) (hb : ∀ i, i < 18 → bm' (18 * s' + i) = bm (18 * s + i)) : lkN D s' g' b' am' bm' := by
  obtain ⟨⟨nC, nW, ⟨l1, l2⟩, ⟨k1, k2, k3, k4⟩, k5, k6, k7, k8⟩, k9⟩ := h
  obtain ⟨c1, c2, c3, c4, c5⟩ := hc
  have m0 : am' (842 * s') = am (842 * s) := hm 0 (by decide)
  refine ⟨⟨nC, nW, ⟨l1, l2⟩, ⟨c1.trans k1, c2.trans k2, sp_nC_un k3 (fun i hi => c4 i (by omega)), sp_nC_un k4 (fun i hi => c5 i (by omega))⟩, m0.trans k5, (hm 1 (by decide)).trans k6, sp_nM_un k7 (fun i hi => hb i (by omega)), sp_nM_un k8 (fun i hi => ?_)⟩, by rw [c3, hm 6 (by decide)]; exact k9⟩
  show bm' (18 * s' + 10 + i) = bm (18 * s + 10 + i)
  rw [Nat.add_assoc, Nat.add_assoc]
  exact hb (10 + i) (by omega)
def mkC : SC := fun _ g a b g' a' b' v => ∃ k : Nat, k ≤ 3 ∧ g 0 13 = nI k ∧ g' 9 = g 9 ∧ a' 10 = a 10 ∧ ((k < 3 ∧ v = .int (nI (k + 1)) ∧ g' 0 13 = nI (k + 1) ∧ cpN (192 + 26 * k) 15 g g' b b' ∧ ∀ j, 15 ≤ j → ¬ (192 + 26 * k ≤ j ∧ j ≤ 192 + 26 * k + 25) → g' j = g j ∧ b' j = b j) ∨ (k = 3 ∧ v = .int (-1) ∧ g' 0 13 = g 0 13 ∧ ∀ j, 15 ≤ j → g' j = g j ∧ b' j = b j))
def mkM : SM := fun _ g a b g' a' b' v => ∃ k : Nat, k ≤ 3 ∧ g 42 = nI k ∧ (g' 10 = g 10 ∧ g' 16 = g 16 ∧ g' 17 = g 17) ∧ a' 6 = a 6 ∧ ((k < 3 ∧ v = .int (nI (k + 1)) ∧ g' 42 = nI (k + 1) ∧ ((∀ i, i < 842 → a' 1 (842 * (k + 1) + i) = a 1 (842 * 0 + i)) ∧ ∀ i, ¬ (842 * (k + 1) ≤ i ∧ i < 842 * (k + 1) + 842) → a' 1 i = a 1 i) ∧ (∀ i, i < 18 → b' 2 (18 * (k + 1) + i) = b 2 (18 * 0 + i)) ∧ ∀ i, ¬ (18 * (k + 1) ≤ i ∧ i < 18 * (k + 1) + 18) → b' 2 i = b 2 i) ∨ (k = 3 ∧ v = .int (-1) ∧ g' 42 = g 42 ∧ a' 1 = a 1 ∧ b' 2 = b 2))
def udC : SC := fun _ g a b g' a' b' v => ∃ k : Nat, k ≤ 3 ∧ g 0 13 = nI k ∧ g' 9 = g 9 ∧ a' 10 = a 10 ∧ ((∃ m, k = m + 1 ∧ v = .int (nI m) ∧ g' 0 13 = nI m ∧ cpN 15 (192 + 26 * m) g g' b b' ∧ ∀ j, 41 ≤ j → g' j = g j ∧ b' j = b j) ∨ (k = 0 ∧ v = .int (-1) ∧ g' 0 13 = g 0 13 ∧ ∀ j, 15 ≤ j → g' j = g j ∧ b' j = b j))
def udM : SM := fun _ g a b g' a' b' v => ∃ k : Nat, k ≤ 3 ∧ g 42 = nI k ∧ (g' 10 = g 10 ∧ g' 16 = g 16 ∧ g' 17 = g 17) ∧ a' 6 = a 6 ∧ ((∃ m, k = m + 1 ∧ v = .int (nI m) ∧ g' 42 = nI m ∧ ((∀ i, i < 842 → a' 1 (842 * 0 + i) = a 1 (842 * (m + 1) + i)) ∧ ∀ i, ¬ (i < 842) → a' 1 i = a 1 i) ∧ (∀ i, i < 18 → b' 2 (18 * 0 + i) = b 2 (18 * (m + 1) + i)) ∧ ∀ i, ¬ (i < 18) → b' 2 i = b 2 i) ∨ (k = 0 ∧ v = .int (-1) ∧ g' 42 = g 42 ∧ a' 1 = a 1 ∧ b' 2 = b 2))
theorem mk_wr {av av2 : List Value} {u w : Value} {g a g' a' : Nat → Nat → Int32} {b b' : Nat → Nat → Int64} {gm gm' : Nat → Int32} {am am' : Nat → Nat → Int32} {bm bm' : Nat → Nat → Int64} (h : wrE g a b gm am bm) (h1 : mkC av g a b g' a' b' u) (h2 : mkM av2 gm am bm gm' am' bm' w) : u = w ∧ wrE g' a' b' gm' am' bm' := by
  obtain ⟨k, p1, p2, p3, p4, p5⟩ := h1
  obtain ⟨t, q1, q2, ⟨q3, q6, q7⟩, q4, q5⟩ := h2
  obtain ⟨⟨h1, h2⟩, ⟨h6, h7⟩, h3, h4, h5⟩ := h
  have ekt : k = t := nI9 (by omega) (by omega) (by rw [← p2, ← q2, h3])
  subst ekt
  have ht : g' 9 2 = gm' 10 ∧ ∀ i : Nat, i < 900 → (i : Int) < (g' 9 2).toInt → a' 10 i = am' 6 i := by
    rw [p3, q3, p4, q4]
    exact ⟨h1, h2⟩
  have hf : g' 9 10 = gm' 16 ∧ g' 9 11 = gm' 17 := ⟨by rw [p3, q6, h6], by rw [p3, q7, h7]⟩
  rcases p5 with ⟨z1, rfl, z2, z3, z4⟩ | ⟨z1, rfl, z2, z3⟩ <;> rcases q5 with ⟨y1, rfl, y2, ⟨y3, y4⟩, y5, y6⟩ | ⟨y1, rfl, y2, y3, y5⟩
  · refine ⟨rfl, ht, hf, by rw [z2, y2], lkN_m (lkN_g h4 (fun j hj => z4 j (by omega) (by omega))) (fun i i1 i2 => y4 i (by omega)) (fun i i1 i2 => y6 i (by omega)), fun m hm hw => ?_⟩
    rw [z2, nI_i32 (by omega)] at hw
    by_cases e : m = k
    · subst e
      exact lkN_cp h4 z3 y3 y5
    · exact lkN_m (lkN_g (h5 m hm (by rw [p2, nI_i32 (by omega)]; omega)) (fun j hj => z4 j (by omega) (by omega))) (fun i i1 i2 => y4 i (by omega)) (fun i i1 i2 => y6 i (by omega))
  · omega
  · omega
  · refine ⟨rfl, ht, hf, by rw [z2, y2, h3], by rw [y3, y5]; exact lkN_g h4 (fun j hj => z3 j (by omega)), fun m hm hw => ?_⟩
    rw [z2] at hw
    rw [y3, y5]
    exact lkN_g (h5 m hm hw) (fun j hj => z3 j (by omega))
theorem ud_wr {av av2 : List Value} {u w : Value} {g a g' a' : Nat → Nat → Int32} {b b' : Nat → Nat → Int64} {gm gm' : Nat → Int32} {am am' : Nat → Nat → Int32} {bm bm' : Nat → Nat → Int64} (h : wrE g a b gm am bm) (h1 : udC av g a b g' a' b' u) (h2 : udM av2 gm am bm gm' am' bm' w) : u = w ∧ wrE g' a' b' gm' am' bm' := by
  obtain ⟨k, p1, p2, p3, p4, p5⟩ := h1
  obtain ⟨t, q1, q2, ⟨q3, q6, q7⟩, q4, q5⟩ := h2
  obtain ⟨⟨h1, h2⟩, ⟨h6, h7⟩, h3, h4, h5⟩ := h
  have ekt : k = t := nI9 (by omega) (by omega) (by rw [← p2, ← q2, h3])
  subst ekt
  have ht : g' 9 2 = gm' 10 ∧ ∀ i : Nat, i < 900 → (i : Int) < (g' 9 2).toInt → a' 10 i = am' 6 i := by
    rw [p3, q3, p4, q4]
    exact ⟨h1, h2⟩
  have hf : g' 9 10 = gm' 16 ∧ g' 9 11 = gm' 17 := ⟨by rw [p3, q6, h6], by rw [p3, q7, h7]⟩
  rcases p5 with ⟨m, rfl, rfl, z2, z3, z4⟩ | ⟨z1, rfl, z2, z3⟩ <;> rcases q5 with ⟨m2, e, rfl, y2, ⟨y3, y4⟩, y5, y6⟩ | ⟨y1, rfl, y2, y3, y5⟩
  · have e : m = m2 := by omega
    subst e
    have hcur := h5 m (by omega) (by rw [p2, nI_i32 (by omega)]; omega)
    refine ⟨rfl, ht, hf, by rw [z2, y2], lkN_cp hcur z3 y3 y5, fun j hj hw => ?_⟩
    rw [z2, nI_i32 (by omega)] at hw
    exact lkN_m (lkN_g (h5 j hj (by rw [p2, nI_i32 (by omega)]; omega)) (fun i hi => z4 i (by omega))) (fun i i1 i2 => y4 i (by omega)) (fun i i1 i2 => y6 i (by omega))
  · omega
  · omega
  · refine ⟨rfl, ht, hf, by rw [z2, y2, h3], by rw [y3, y5]; exact lkN_g h4 (fun j hj => z3 j (by omega)), fun m hm hw => ?_⟩
    rw [z2] at hw
    rw [y3, y5]
    exact lkN_g (h5 m hm hw) (fun j hj => z3 j (by omega))
