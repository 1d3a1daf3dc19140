section MH18_0
/-! ===== the class's trays, exactly ===== -/
def fm_ul (l : Nat → Nat → Int64) (t i : Nat) (v : Int64) : Nat → Nat → Int64 := fun t2 => if t2 = t then vp_updL (l t) i v else l t2
def fm_uf (b : Nat → Nat → Int64) (j : Nat) (f : Nat → Int64) : Nat → Nat → Int64 := fun j2 => if j2 = j then f else b j2
theorem fm_uf_uf (b : Nat → Nat → Int64) (j : Nat) (f f2 : Nat → Int64) : fm_uf (fm_uf b j f) j f2 = fm_uf b j f2 := by
  funext k
  unfold fm_uf
  by_cases h : k = j
  · rw [if_pos h, if_pos h]
  · rw [if_neg h, if_neg h, if_neg h]
theorem fm_uf_s {b : Nat → Nat → Int64} {j : Nat} {f : Nat → Int64} : fm_uf b j f j = f := if_pos rfl
def ty_ok (t s m : Int32) : Prop := (0 ≤ t.toInt ∧ t.toInt ≤ 3) ∧ (0 ≤ s.toInt ∧ s.toInt ≤ 3) ∧ 0 ≤ m.toInt ∧ m.toInt ≤ 60
theorem nI_lt4 {k k' : Nat} (h : k < 4) (h' : k' < 4) (e : nI k = nI k') : k = k' := by
  have h2 : (nI k).toInt = (nI k').toInt := by rw [e]
  rw [nI_i32 (by omega), nI_i32 (by omega)] at h2
  omega
/-- a place of a tray; z the trays' sizes -/
def tp_ok (z : Nat → Int32) (x p : Int32) : Prop := ∃ t, t < 4 ∧ x = nI t ∧ 0 ≤ p.toInt ∧ p.toInt < (z t).toInt
theorem tp_no1 {z : Nat → Int32} {x p : Int32} (h : ¬ (0 ≤ x.toInt ∧ x.toInt < 4)) : ¬ tp_ok z x p := by
  rintro ⟨t, ht, rfl, -⟩
  exact h ⟨by rw [nI_i32 (by omega)]; omega, by rw [nI_i32 (by omega)]; omega⟩
theorem tp_no {z : Nat → Int32} {p : Int32} {t : Nat} (ht : t < 4) (h : ¬ (0 ≤ p.toInt ∧ p.toInt < (z t).toInt)) : ¬ tp_ok z (nI t) p := by
  rintro ⟨t', ht', e, h1, h2⟩
  have := nI_lt4 ht ht' e
  subst this
  exact h ⟨h1, h2⟩
/-- what may be poured; z the sizes, s the sorts -/
def pr_ok (z s : Nat → Int32) (x p y q n : Int32) : Prop := ∃ t u, t < 4 ∧ u < 4 ∧ x = nI t ∧ y = nI u ∧ 0 ≤ p.toInt ∧ 0 ≤ q.toInt ∧ 0 ≤ n.toInt ∧ 0 ≤ (z t).toInt ∧ 0 ≤ (z u).toInt ∧ s t = s u ∧ p.toInt + n.toInt ≤ (z t).toInt ∧ q.toInt + n.toInt ≤ (z u).toInt
theorem pr_no1 {z s : Nat → Int32} {x p y q n : Int32} (h : ¬ (0 ≤ x.toInt ∧ x.toInt < 4)) : ¬ pr_ok z s x p y q n := by
  rintro ⟨t, u, ht, hu, rfl, -⟩
  exact h ⟨by rw [nI_i32 (by omega)]; omega, by rw [nI_i32 (by omega)]; omega⟩
theorem pr_no2 {z s : Nat → Int32} {x p y q n : Int32} (h : ¬ (0 ≤ y.toInt ∧ y.toInt < 4)) : ¬ pr_ok z s x p y q n := by
  rintro ⟨t, u, ht, hu, -, rfl, -⟩
  exact h ⟨by rw [nI_i32 (by omega)]; omega, by rw [nI_i32 (by omega)]; omega⟩
theorem pr_no {z s : Nat → Int32} {p q n : Int32} {t u : Nat} (ht : t < 4) (hu : u < 4) (h : ¬ (0 ≤ p.toInt ∧ 0 ≤ q.toInt ∧ 0 ≤ n.toInt ∧ 0 ≤ (z t).toInt ∧ 0 ≤ (z u).toInt ∧ s t = s u ∧ p.toInt + n.toInt ≤ (z t).toInt ∧ q.toInt + n.toInt ≤ (z u).toInt)) : ¬ pr_ok z s (nI t) p (nI u) q n := by
  rintro ⟨t', u', ht', hu', e, e2, h1⟩
  have := nI_lt4 ht ht' e
  have := nI_lt4 hu hu' e2
  subst t' u'
  exact h h1
theorem tc_sub {x y : Int32} (h : 0 ≤ y.toInt) (h2 : y.toInt ≤ x.toInt) : (x - y).toInt = x.toInt - y.toInt := by
  rw [Int32.toInt_sub]
  have a := Int32.le_toInt x
  have b := Int32.toInt_lt x
  exact Int.bmod_eq_of_le (by omega) (by omega)
/-- the first k of a row are v -/
def tc_f (f : Nat → Int64) (k : Nat) (v : Int64) : Nat → Int64 := fun i => if i < k then v else f i
theorem tc_f0 (f : Nat → Int64) (v : Int64) : tc_f f 0 v = f := funext (fun _ => if_neg (Nat.not_lt_zero _))
theorem tc_fs (f : Nat → Int64) (k : Nat) (v : Int64) : vp_updL (tc_f f k v) k v = tc_f f (k + 1) v := by
  funext i
  unfold vp_updL tc_f
  by_cases h : i = k
  · rw [if_pos h, if_pos (by omega)]
  · rw [if_neg h]
    by_cases h2 : i < k
    · rw [if_pos h2, if_pos (by omega)]
    · rw [if_neg h2, if_neg (by omega)]
section CT
variable {g : Nat → Nat → Int32} {l : Nat → Nat → Int64} {a : Nat → Nat → Int32} {b : Nat → Nat → Int64} {R : fx_M}
theorem cm_row {t : Nat} (ht : t < 4) : (cm g l a b R)[2 + t]? = some (.inr (.long, 60, .inr (.inl (b (2 + t))))) := by
  rcases (by omega : t = 0 ∨ t = 1 ∨ t = 2 ∨ t = 3) with rfl | rfl | rfl | rfl <;> rfl
theorem cm_rows {t : Nat} (ht : t < 4) (f : Nat → Int64) : (cm g l a b R).set (2 + t) (.inr (.long, 60, .inr (.inl f))) = cm g l a (fm_uf b (2 + t) f) R := by
  rcases (by omega : t = 0 ∨ t = 1 ∨ t = 2 ∨ t = 3) with rfl | rfl | rfl | rfl <;> rfl
theorem cr1_at {t : Nat} (ht : t < 4) : va_rf (cr1 (nI t).toNatClampNeg) = .ref (2 + t) := by
  rw [nI_clamp (by omega)]
  unfold cr1
  rw [if_pos ht]
  rfl
theorem ha_deny {x : Int32} : hr_T 1 189 [.ref 0, .int x] (cm g l a b R) (some (.int 0)) (cm (fm_u g 0 0 x) l a b R) := by
  refine hr_meth (by rfl) (by rfl) ?_
  refine hr_s 4 (pc' := 6) (lc' := [(0, .ref 0), (1, .int x)]) (stk' := [.int 0]) (mem' := cm (fm_u g 0 0 x) l a b R) (by intro _ _ _; eq_refl) ?_
  exact hr_ret (by rfl) (by rfl) (by rfl)
theorem ha_agree : hr_T 1 188 [.ref 0] (cm g l a b R) (some (.int 1)) (cm (fm_u g 0 0 0) l a b R) := by
  refine hr_meth (by rfl) (by rfl) ?_
  refine hr_s 4 (pc' := 6) (lc' := [(0, .ref 0)]) (stk' := [.int 1]) (mem' := cm (fm_u g 0 0 0) l a b R) (by intro _ _ _; eq_refl) ?_
  exact hr_ret (by rfl) (by rfl) (by rfl)
theorem ha_refuse {x : Int32} : hr_T 1 187 [.ref 0, .int x] (cm g l a b R) (some (.int (-1))) (cm (fm_u g 0 0 x) l a b R) := by
  refine hr_meth (by rfl) (by rfl) ?_
  refine hr_s 4 (pc' := 6) (lc' := [(0, .ref 0), (1, .int x)]) (stk' := [.int (-1)]) (mem' := cm (fm_u g 0 0 x) l a b R) (by intro _ _ _; eq_refl) ?_
  exact hr_ret (by rfl) (by rfl) (by rfl)
theorem tc_lt {x y : Int32} (h : fx_cb .lt x y = true) : x.toInt < y.toInt := Int32.lt_iff_toInt_lt.mp (of_decide_eq_true h)
theorem tc_ltF {x y : Int32} (h : fx_cb .lt x y = false) : y.toInt ≤ x.toInt := by
  have := of_decide_eq_false h
  rw [Int32.lt_iff_toInt_lt] at this
  omega
theorem tc_ge {x y : Int32} (h : fx_cb .ge x y = true) : y.toInt ≤ x.toInt := Int32.le_iff_toInt_le.mp (of_decide_eq_true h)
theorem tc_geF {x y : Int32} (h : fx_cb .ge x y = false) : x.toInt < y.toInt := by
  have := of_decide_eq_false h
  rw [Int32.le_iff_toInt_le] at this
  omega
theorem tc_gt {x y : Int32} (h : fx_cb .gt x y = true) : y.toInt < x.toInt := Int32.lt_iff_toInt_lt.mp (of_decide_eq_true h)
theorem tc_gtF {x y : Int32} (h : fx_cb .gt x y = false) : x.toInt ≤ y.toInt := by
  have := of_decide_eq_false h
  rw [Int32.lt_iff_toInt_lt] at this
  omega
theorem tc_le {x y : Int32} (h : fx_cb .le x y = true) : x.toInt ≤ y.toInt := Int32.le_iff_toInt_le.mp (of_decide_eq_true h)
theorem tc_leF {x y : Int32} (h : fx_cb .le x y = false) : y.toInt < x.toInt := by
  have := of_decide_eq_false h
  rw [Int32.le_iff_toInt_le] at this
  omega
theorem tc_z (n : Nat) : ((OfNat.ofNat n : Int32)).toInt = (OfNat.ofNat n : Int32).toInt := rfl
theorem ha_isTray {x : Int32} : ∃ (v : Option Value) (mem' : fx_M), (fun R1 => ∃ z : Int32, (z = 0 ∧ ¬ (0 ≤ x.toInt ∧ x.toInt < 4) ∨ z = 1 ∧ ∃ t, t < 4 ∧ x = nI t) ∧ R1 = (some (.int z), cm g l a b R)) (v, mem') ∧ hr_T 1 191 [.int x] (cm g l a b R) v mem' := by
  refine he_meth (F := fun R1 => ∃ z : Int32, (z = 0 ∧ ¬ (0 ≤ x.toInt ∧ x.toInt < 4) ∨ z = 1 ∧ ∃ t, t < 4 ∧ x = nI t) ∧ R1 = (some (.int z), cm g l a b R)) (M := gk_m191) (by rfl) (by rfl) ?_
  refine he_s 1 (pc' := 1) (lc' := [(0, .int x)]) (stk' := [.int x]) (mem' := cm g l a b R) (by intro _ _ _; eq_refl) ?_
  refine he_s 1 (pc' := cond (fx_cb .lt x 0) 13 4) (lc' := [(0, .int x)]) (stk' := []) (mem' := cm g l a b R) (by intro _ _ _; eq_refl) ?_
  cases h1 : fx_cb .lt x 0
  · refine he_s 2 (pc' := 6) (lc' := [(0, .int x)]) (stk' := [.int 4, .int x]) (mem' := cm g l a b R) (by intro _ _ _; eq_refl) ?_
    refine he_s 1 (pc' := cond (fx_cb .ge x 4) 13 9) (lc' := [(0, .int x)]) (stk' := []) (mem' := cm g l a b R) (by intro _ _ _; eq_refl) ?_
    cases h2 : fx_cb .ge x 4
    · refine he_s 2 (pc' := 14) (lc' := [(0, .int x)]) (stk' := [.int 1]) (mem' := cm g l a b R) (by intro _ _ _; eq_refl) ?_
      refine he_ret ⟨1, Or.inr ⟨rfl, ?_⟩, rfl⟩ (by rfl) (by rfl) (by rfl)
      have q1 := tc_ltF h1
      have q2 := tc_geF h2
      have q1 : (0 : Int) ≤ x.toInt := q1
      have q2 : x.toInt < 4 := q2
      obtain ⟨t, ht, e⟩ := nI_bd (x := x) (n := 3) q1 (by omega)
      exact ⟨t, by omega, e⟩
    · refine he_s 1 (pc' := 14) (lc' := [(0, .int x)]) (stk' := [.int 0]) (mem' := cm g l a b R) (by intro _ _ _; eq_refl) ?_
      refine he_ret ⟨0, Or.inl ⟨rfl, fun z => ?_⟩, rfl⟩ (by rfl) (by rfl) (by rfl)
      have q1 : (4 : Int) ≤ x.toInt := tc_ge h2
      omega
  · refine he_s 1 (pc' := 14) (lc' := [(0, .int x)]) (stk' := [.int 0]) (mem' := cm g l a b R) (by intro _ _ _; eq_refl) ?_
    refine he_ret ⟨0, Or.inl ⟨rfl, fun z => ?_⟩, rfl⟩ (by rfl) (by rfl) (by rfl)
    have q1 : x.toInt < 0 := tc_lt h1
    omega
/-- a number cut to its sort -/
def tc_cut (s : Int32) (v : Int64) : Int64 := if s = 0 then v.toInt32.toInt8.toInt32.toInt64 else if s = 1 then v.toInt32.toInt16.toInt32.toInt64 else if s = 2 then v.toInt32.toInt64 else v
theorem ha_fill {t : Nat} {v : Int64} (ht : t < 4) : hr_T 1 387 [.ref (2 + t), .long v] (cm g l a b R) none (cm g l a (fm_uf b (2 + t) (tc_f (b (2 + t)) 60 v)) R) := by
  have loop : ∀ (r k : Nat), k + r = 60 → hr_R 0 gk_m387 6 [(4, .int 60), (3, .int (nI k)), (0, .ref (2 + t)), (1, .long v)] [] (cm g l a (fm_uf b (2 + t) (tc_f (b (2 + t)) k v)) R) (none, cm g l a (fm_uf b (2 + t) (tc_f (b (2 + t)) 60 v)) R) := by
    intro r
    induction r with
    | zero =>
      intro k hk
      obtain rfl : k = 60 := by omega
      refine hr_s 3 (pc' := cond (fx_cb .ge (nI 60) 60) 22 12) (lc' := [(4, .int 60), (3, .int (nI 60)), (0, .ref (2 + t)), (1, .long v)]) (stk' := []) (mem' := cm g l a (fm_uf b (2 + t) (tc_f (b (2 + t)) 60 v)) R) (by intro _ _ _; eq_refl) ?_
      rw [show (fx_cb .ge (nI 60) 60) = true from by decide]
      exact hr_ret (by rfl) (by rfl) (by rfl)
    | succ r ih =>
      intro k hk
      refine hr_s 3 (pc' := cond (fx_cb .ge (nI k) 60) 22 12) (lc' := [(4, .int 60), (3, .int (nI k)), (0, .ref (2 + t)), (1, .long v)]) (stk' := []) (mem' := cm g l a (fm_uf b (2 + t) (tc_f (b (2 + t)) k v)) R) (by intro _ _ _; eq_refl) ?_
      rw [show (fx_cb .ge (nI k) 60) = false from cb_geF (a := k) (b := 60) (by omega) (by omega) (by omega)]
      dsimp only [cond]
      refine hr_s 3 (pc' := 15) (lc' := [(4, .int 60), (3, .int (nI k)), (0, .ref (2 + t)), (1, .long v)]) (stk' := [.long v, .int (nI k), .ref (2 + t)]) (mem' := cm g l a (fm_uf b (2 + t) (tc_f (b (2 + t)) k v)) R) (by intro _ _ _; eq_refl) ?_
      refine hr_stL (by rfl) (cm_row ht) (fx_inN (i := k) (by omega) (by omega)) (cm_rows ht _) ?_
      rw [nI_clamp (by omega), fm_uf_s, tc_fs, fm_uf_uf]
      refine hr_s 2 (pc' := 6) (lc' := [(3, .int (nI k + 1)), (4, .int 60), (0, .ref (2 + t)), (1, .long v)]) (stk' := []) (mem' := cm g l a (fm_uf b (2 + t) (tc_f (b (2 + t)) (k + 1) v)) R) (by intro _ _ _; eq_refl) ?_
      rw [show nI k + 1 = nI (k + 1) from nI_add k 1]
      exact hr_w (lc' := [(4, .int 60), (3, .int (nI (k + 1))), (0, .ref (2 + t)), (1, .long v)]) ⟨rfl, rfl, rfl, rfl, trivial⟩ (by show List.Nodup [4, 3, 0, 1]; decide) (by show List.Nodup [3, 4, 0, 1]; decide) (ih (k + 1) (by omega))
  refine hr_meth (by rfl) (by rfl) ?_
  refine hr_s 3 (pc' := 3) (lc' := [(3, .int 0), (0, .ref (2 + t)), (1, .long v)]) (stk' := [.ref (2 + t)]) (mem' := cm g l a b R) (by intro _ _ _; eq_refl) ?_
  refine hr_len (by rfl) (cm_row ht) ?_
  refine hr_s 1 (pc' := 6) (lc' := [(4, .int 60), (3, .int 0), (0, .ref (2 + t)), (1, .long v)]) (stk' := []) (mem' := cm g l a b R) (by intro _ _ _; eq_refl) ?_
  have h0 := loop 60 0 (by omega)
  rw [tc_f0] at h0
  have e : fm_uf b (2 + t) (b (2 + t)) = b := by
    funext k
    unfold fm_uf
    by_cases h : k = 2 + t
    · rw [if_pos h, h]
    · rw [if_neg h]
  rw [e] at h0
  exact h0
theorem ha_tray {x s m : Int32} : ∃ (v : Option Value) (mem' : fx_M), (fun R1 => ∃ (z st : Int32) (a' : Nat → Nat → Int32) (b' : Nat → Nat → Int64), (0 ≤ st.toInt ∧ st.toInt ≤ 9) ∧ ((∃ t, t < 4 ∧ x = nI t ∧ ty_ok x s m ∧ z = 1 ∧ a' = fm_u (fm_u a 6 t s) 7 t m ∧ b' = fm_uf b (2 + t) (tc_f (b (2 + t)) 60 0)) ∨ ¬ ty_ok x s m ∧ z = 0 ∧ a' = a ∧ b' = b) ∧ R1 = (some (.int z), cm (fm_u g 0 0 st) l a' b' R)) (v, mem') ∧ hr_T 2 130 [.ref 0, .int x, .int s, .int m] (cm g l a b R) v mem' := by
  refine he_meth (F := fun R1 => ∃ (z st : Int32) (a' : Nat → Nat → Int32) (b' : Nat → Nat → Int64), (0 ≤ st.toInt ∧ st.toInt ≤ 9) ∧ ((∃ t, t < 4 ∧ x = nI t ∧ ty_ok x s m ∧ z = 1 ∧ a' = fm_u (fm_u a 6 t s) 7 t m ∧ b' = fm_uf b (2 + t) (tc_f (b (2 + t)) 60 0)) ∨ ¬ ty_ok x s m ∧ z = 0 ∧ a' = a ∧ b' = b) ∧ R1 = (some (.int z), cm (fm_u g 0 0 st) l a' b' R)) (M := gk_m130) (by rfl) (by rfl) ?_
  refine he_s 1 (pc' := 1) (lc' := [(0, .ref 0), (1, .int x), (2, .int s), (3, .int m)]) (stk' := [.int x]) (mem' := cm g l a b R) (by intro _ _ _; eq_refl) ?_
  obtain ⟨vz1, memz1, ⟨xz1, hxz1, hRz1⟩, hfrz1⟩ := ha_isTray (x := x) (g := g) (l := l) (a := a) (b := b) (R := R)
  cases hRz1
  refine he_ivS hfrz1 (by omega) (by rfl) (by rfl) (by rfl) (by rfl) (by rfl) ?_
  rcases hxz1 with ⟨rfl, not⟩ | ⟨rfl, t, ht, rfl⟩
  · refine he_s 1 (pc' := cond (fx_cb .eq 0 0) 26 7) (lc' := [(0, .ref 0), (1, .int x), (2, .int s), (3, .int m)]) (stk' := []) (mem' := cm g l a b R) (by intro _ _ _; eq_refl) ?_
    rw [show (fx_cb .eq 0 0) = true from by decide]
    dsimp only [cond]
    refine he_s 2 (pc' := 28) (lc' := [(0, .ref 0), (1, .int x), (2, .int s), (3, .int m)]) (stk' := [.int 1, .ref 0]) (mem' := cm g l a b R) (by intro _ _ _; eq_refl) ?_
    refine he_ivV (ha_deny (x := 1)) (by omega) (by rfl) (by rfl) (by rfl) (by rfl) (by rfl) (by rfl) ?_
    refine he_ret ⟨0, 1, _, _, by decide, Or.inr ⟨fun z => ?_, rfl, rfl, rfl⟩, rfl⟩ (by rfl) (by rfl) (by rfl)
    obtain ⟨⟨z1, z2⟩, ⟨z3, z4⟩, z5, z6⟩ := z
    first | omega | exact noz1 ⟨z1, by omega⟩
  · refine he_s 1 (pc' := cond (fx_cb .eq 1 0) 26 7) (lc' := [(0, .ref 0), (1, .int (nI t)), (2, .int s), (3, .int m)]) (stk' := []) (mem' := cm g l a b R) (by intro _ _ _; eq_refl) ?_
    rw [show (fx_cb .eq 1 0) = false from by decide]
    dsimp only [cond]
    refine he_s 1 (pc' := 8) (lc' := [(0, .ref 0), (1, .int (nI t)), (2, .int s), (3, .int m)]) (stk' := [.int s]) (mem' := cm g l a b R) (by intro _ _ _; eq_refl) ?_
    refine he_s 1 (pc' := cond (fx_cb .lt s 0) 26 11) (lc' := [(0, .ref 0), (1, .int (nI t)), (2, .int s), (3, .int m)]) (stk' := []) (mem' := cm g l a b R) (by intro _ _ _; eq_refl) ?_
    cases h2 : fx_cb .lt s 0
    · refine he_s 2 (pc' := 13) (lc' := [(0, .ref 0), (1, .int (nI t)), (2, .int s), (3, .int m)]) (stk' := [.int 3, .int s]) (mem' := cm g l a b R) (by intro _ _ _; eq_refl) ?_
      refine he_s 1 (pc' := cond (fx_cb .gt s 3) 26 16) (lc' := [(0, .ref 0), (1, .int (nI t)), (2, .int s), (3, .int m)]) (stk' := []) (mem' := cm g l a b R) (by intro _ _ _; eq_refl) ?_
      cases h3 : fx_cb .gt s 3
      · refine he_s 1 (pc' := 17) (lc' := [(0, .ref 0), (1, .int (nI t)), (2, .int s), (3, .int m)]) (stk' := [.int m]) (mem' := cm g l a b R) (by intro _ _ _; eq_refl) ?_
        refine he_s 1 (pc' := cond (fx_cb .lt m 0) 26 20) (lc' := [(0, .ref 0), (1, .int (nI t)), (2, .int s), (3, .int m)]) (stk' := []) (mem' := cm g l a b R) (by intro _ _ _; eq_refl) ?_
        cases h4 : fx_cb .lt m 0
        · refine he_s 2 (pc' := 23) (lc' := [(0, .ref 0), (1, .int (nI t)), (2, .int s), (3, .int m)]) (stk' := [.int 60, .int m]) (mem' := cm g l a b R) (by intro _ _ _; eq_refl) ?_
          refine he_s 1 (pc' := cond (fx_cb .le m 60) 32 26) (lc' := [(0, .ref 0), (1, .int (nI t)), (2, .int s), (3, .int m)]) (stk' := []) (mem' := cm g l a b R) (by intro _ _ _; eq_refl) ?_
          cases h5 : fx_cb .le m 60
          · refine he_s 2 (pc' := 28) (lc' := [(0, .ref 0), (1, .int (nI t)), (2, .int s), (3, .int m)]) (stk' := [.int 1, .ref 0]) (mem' := cm g l a b R) (by intro _ _ _; eq_refl) ?_
            refine he_ivV (ha_deny (x := 1)) (by omega) (by rfl) (by rfl) (by rfl) (by rfl) (by rfl) (by rfl) ?_
            have q0 : (0 : Int) ≤ (s).toInt := tc_ltF h2
            have q1 : (s).toInt ≤ 3 := tc_gtF h3
            have q2 : (0 : Int) ≤ (m).toInt := tc_ltF h4
            have q3 : (60 : Int) < (m).toInt := tc_leF h5
            refine he_ret ⟨0, 1, _, _, by decide, Or.inr ⟨fun z => ?_, rfl, rfl, rfl⟩, rfl⟩ (by rfl) (by rfl) (by rfl)
            obtain ⟨⟨z1, z2⟩, ⟨z3, z4⟩, z5, z6⟩ := z
            first | omega | exact noz1 ⟨z1, by omega⟩
          · refine he_s 3 (pc' := 37) (lc' := [(0, .ref 0), (1, .int (nI t)), (2, .int s), (3, .int m)]) (stk' := [.int (nI t), .ref 1]) (mem' := cm g l a b R) (by intro _ _ _; eq_refl) ?_
            refine he_ldA (by rfl) (by rfl) (fx_inN (i := t) (by omega) (by omega)) (by rfl) ?_
            rw [cr1_at (t := t) (by omega)]
            refine he_s 1 (pc' := 39) (lc' := [(0, .ref 0), (1, .int (nI t)), (2, .int s), (3, .int m)]) (stk' := [.long 0, .ref (2 + t)]) (mem' := cm g l a b R) (by intro _ _ _; eq_refl) ?_
            refine he_ivS (ha_fill (t := t) (v := 0) (by omega)) (by omega) (by rfl) (by rfl) (by rfl) (by rfl) (by rfl) ?_
            refine he_s 4 (pc' := 48) (lc' := [(0, .ref 0), (1, .int (nI t)), (2, .int s), (3, .int m)]) (stk' := [.int s, .int (nI t), .ref 6]) (mem' := cm g l a (fm_uf b (2 + t) (tc_f (b (2 + t)) 60 0)) R) (by intro _ _ _; eq_refl) ?_
            refine he_stI (mem' := cm g l (fm_u a 6 (nI t : Int32).toNatClampNeg s) (fm_uf b (2 + t) (tc_f (b (2 + t)) 60 0)) R) (by rfl) (by rfl) (fx_inN (i := t) (by omega) (by omega)) cm_si6 ?_
            rw [show Int32.toNatClampNeg (nI t) = t from nI_clamp (by omega)]
            refine he_s 4 (pc' := 55) (lc' := [(0, .ref 0), (1, .int (nI t)), (2, .int s), (3, .int m)]) (stk' := [.int m, .int (nI t), .ref 7]) (mem' := cm g l (fm_u a 6 t s) (fm_uf b (2 + t) (tc_f (b (2 + t)) 60 0)) R) (by intro _ _ _; eq_refl) ?_
            refine he_stI (mem' := cm g l (fm_u (fm_u a 6 t s) 7 (nI t : Int32).toNatClampNeg m) (fm_uf b (2 + t) (tc_f (b (2 + t)) 60 0)) R) (by rfl) (by rfl) (fx_inN (i := t) (by omega) (by omega)) cm_si7 ?_
            rw [show Int32.toNatClampNeg (nI t) = t from nI_clamp (by omega)]
            refine he_s 1 (pc' := 57) (lc' := [(0, .ref 0), (1, .int (nI t)), (2, .int s), (3, .int m)]) (stk' := [.ref 0]) (mem' := cm g l (fm_u (fm_u a 6 t s) 7 t m) (fm_uf b (2 + t) (tc_f (b (2 + t)) 60 0)) R) (by intro _ _ _; eq_refl) ?_
            refine he_ivV ha_agree (by omega) (by rfl) (by rfl) (by rfl) (by rfl) (by rfl) (by rfl) ?_
            have q0 : (0 : Int) ≤ (s).toInt := tc_ltF h2
            have q1 : (s).toInt ≤ 3 := tc_gtF h3
            have q2 : (0 : Int) ≤ (m).toInt := tc_ltF h4
            have q3 : (m).toInt ≤ 60 := tc_le h5
            have e1 := nI_i32 (n := t) (by omega)
            exact he_ret ⟨1, 0, _, _, by decide, Or.inl ⟨t, ht, rfl, ⟨⟨by omega, by omega⟩, ⟨by omega, by omega⟩, by omega, by omega⟩, rfl, rfl, rfl⟩, rfl⟩ (by rfl) (by rfl) (by rfl)
        · refine he_s 2 (pc' := 28) (lc' := [(0, .ref 0), (1, .int (nI t)), (2, .int s), (3, .int m)]) (stk' := [.int 1, .ref 0]) (mem' := cm g l a b R) (by intro _ _ _; eq_refl) ?_
          refine he_ivV (ha_deny (x := 1)) (by omega) (by rfl) (by rfl) (by rfl) (by rfl) (by rfl) (by rfl) ?_
          have q0 : (0 : Int) ≤ (s).toInt := tc_ltF h2
          have q1 : (s).toInt ≤ 3 := tc_gtF h3
          have q2 : (m).toInt < 0 := tc_lt h4
          refine he_ret ⟨0, 1, _, _, by decide, Or.inr ⟨fun z => ?_, rfl, rfl, rfl⟩, rfl⟩ (by rfl) (by rfl) (by rfl)
          obtain ⟨⟨z1, z2⟩, ⟨z3, z4⟩, z5, z6⟩ := z
          first | omega | exact noz1 ⟨z1, by omega⟩
      · refine he_s 2 (pc' := 28) (lc' := [(0, .ref 0), (1, .int (nI t)), (2, .int s), (3, .int m)]) (stk' := [.int 1, .ref 0]) (mem' := cm g l a b R) (by intro _ _ _; eq_refl) ?_
        refine he_ivV (ha_deny (x := 1)) (by omega) (by rfl) (by rfl) (by rfl) (by rfl) (by rfl) (by rfl) ?_
        have q0 : (0 : Int) ≤ (s).toInt := tc_ltF h2
        have q1 : (3 : Int) < (s).toInt := tc_gt h3
        refine he_ret ⟨0, 1, _, _, by decide, Or.inr ⟨fun z => ?_, rfl, rfl, rfl⟩, rfl⟩ (by rfl) (by rfl) (by rfl)
        obtain ⟨⟨z1, z2⟩, ⟨z3, z4⟩, z5, z6⟩ := z
        first | omega | exact noz1 ⟨z1, by omega⟩
    · refine he_s 2 (pc' := 28) (lc' := [(0, .ref 0), (1, .int (nI t)), (2, .int s), (3, .int m)]) (stk' := [.int 1, .ref 0]) (mem' := cm g l a b R) (by intro _ _ _; eq_refl) ?_
      refine he_ivV (ha_deny (x := 1)) (by omega) (by rfl) (by rfl) (by rfl) (by rfl) (by rfl) (by rfl) ?_
      have q0 : (s).toInt < 0 := tc_lt h2
      refine he_ret ⟨0, 1, _, _, by decide, Or.inr ⟨fun z => ?_, rfl, rfl, rfl⟩, rfl⟩ (by rfl) (by rfl) (by rfl)
      obtain ⟨⟨z1, z2⟩, ⟨z3, z4⟩, z5, z6⟩ := z
      first | omega | exact noz1 ⟨z1, by omega⟩
theorem ha_place {x p : Int32} (hz : ∀ t, t < 4 → (a 7 t).toInt ≤ 60) : ∃ (v : Option Value) (mem' : fx_M), (fun R1 => ∃ z : Int32, (z = 0 ∧ (∃ t P, t < 4 ∧ x = nI t ∧ p = nI P ∧ P < 60 ∧ (P : Int) < (a 7 t).toInt) ∨ (z = 1 ∨ z = 2 ∨ z = 3) ∧ ¬ tp_ok (a 7) x p) ∧ R1 = (some (.int z), cm g l a b R)) (v, mem') ∧ hr_T 2 192 [.ref 0, .int x, .int p] (cm g l a b R) v mem' := by
  refine he_meth (F := fun R1 => ∃ z : Int32, (z = 0 ∧ (∃ t P, t < 4 ∧ x = nI t ∧ p = nI P ∧ P < 60 ∧ (P : Int) < (a 7 t).toInt) ∨ (z = 1 ∨ z = 2 ∨ z = 3) ∧ ¬ tp_ok (a 7) x p) ∧ R1 = (some (.int z), cm g l a b R)) (M := gk_m192) (by rfl) (by rfl) ?_
  refine he_s 1 (pc' := 1) (lc' := [(0, .ref 0), (1, .int x), (2, .int p)]) (stk' := [.int x]) (mem' := cm g l a b R) (by intro _ _ _; eq_refl) ?_
  obtain ⟨vz1, memz1, ⟨xz1, hxz1, hRz1⟩, hfrz1⟩ := ha_isTray (x := x) (g := g) (l := l) (a := a) (b := b) (R := R)
  cases hRz1
  refine he_ivS hfrz1 (by omega) (by rfl) (by rfl) (by rfl) (by rfl) (by rfl) ?_
  rcases hxz1 with ⟨rfl, not⟩ | ⟨rfl, t, ht, rfl⟩
  · refine he_s 1 (pc' := cond (fx_cb .ne 0 0) 9 7) (lc' := [(0, .ref 0), (1, .int x), (2, .int p)]) (stk' := []) (mem' := cm g l a b R) (by intro _ _ _; eq_refl) ?_
    rw [show (fx_cb .ne 0 0) = false from by decide]
    dsimp only [cond]
    refine he_s 1 (pc' := 8) (lc' := [(0, .ref 0), (1, .int x), (2, .int p)]) (stk' := [.int 1]) (mem' := cm g l a b R) (by intro _ _ _; eq_refl) ?_
    exact he_ret ⟨1, Or.inr ⟨Or.inl rfl, tp_no1 not⟩, rfl⟩ (by rfl) (by rfl) (by rfl)
  · refine he_s 1 (pc' := cond (fx_cb .ne 1 0) 9 7) (lc' := [(0, .ref 0), (1, .int (nI t)), (2, .int p)]) (stk' := []) (mem' := cm g l a b R) (by intro _ _ _; eq_refl) ?_
    rw [show (fx_cb .ne 1 0) = true from by decide]
    dsimp only [cond]
    refine he_s 3 (pc' := 14) (lc' := [(0, .ref 0), (1, .int (nI t)), (2, .int p)]) (stk' := [.int (nI t), .ref 7]) (mem' := cm g l a b R) (by intro _ _ _; eq_refl) ?_
    refine he_ldI (by rfl) (by rfl) (fx_inN (i := t) (by omega) (by omega)) ?_
    rw [show Int32.toNatClampNeg (nI t) = t from nI_clamp (by omega)]
    refine he_s 1 (pc' := cond (fx_cb .ge (a 7 t) 0) 20 18) (lc' := [(0, .ref 0), (1, .int (nI t)), (2, .int p)]) (stk' := []) (mem' := cm g l a b R) (by intro _ _ _; eq_refl) ?_
    cases h2 : fx_cb .ge (a 7 t) 0
    · refine he_s 1 (pc' := 19) (lc' := [(0, .ref 0), (1, .int (nI t)), (2, .int p)]) (stk' := [.int 2]) (mem' := cm g l a b R) (by intro _ _ _; eq_refl) ?_
      have q0 : (a 7 t).toInt < 0 := tc_geF h2
      exact he_ret ⟨2, Or.inr ⟨Or.inr (Or.inl rfl), tp_no ht (fun z => by omega)⟩, rfl⟩ (by rfl) (by rfl) (by rfl)
    · refine he_s 1 (pc' := 21) (lc' := [(0, .ref 0), (1, .int (nI t)), (2, .int p)]) (stk' := [.int p]) (mem' := cm g l a b R) (by intro _ _ _; eq_refl) ?_
      refine he_s 1 (pc' := cond (fx_cb .lt p 0) 34 24) (lc' := [(0, .ref 0), (1, .int (nI t)), (2, .int p)]) (stk' := []) (mem' := cm g l a b R) (by intro _ _ _; eq_refl) ?_
      cases h3 : fx_cb .lt p 0
      · refine he_s 4 (pc' := 30) (lc' := [(0, .ref 0), (1, .int (nI t)), (2, .int p)]) (stk' := [.int (nI t), .ref 7, .int p]) (mem' := cm g l a b R) (by intro _ _ _; eq_refl) ?_
        refine he_ldI (by rfl) (by rfl) (fx_inN (i := t) (by omega) (by omega)) ?_
        rw [show Int32.toNatClampNeg (nI t) = t from nI_clamp (by omega)]
        refine he_s 1 (pc' := cond (fx_cb .lt p (a 7 t)) 38 34) (lc' := [(0, .ref 0), (1, .int (nI t)), (2, .int p)]) (stk' := []) (mem' := cm g l a b R) (by intro _ _ _; eq_refl) ?_
        cases h4 : fx_cb .lt p (a 7 t)
        · refine he_s 2 (pc' := 39) (lc' := [(0, .ref 0), (1, .int (nI t)), (2, .int p)]) (stk' := [.int 3]) (mem' := cm g l a b R) (by intro _ _ _; eq_refl) ?_
          have q0 : (0 : Int) ≤ (a 7 t).toInt := tc_ge h2
          have q1 : (0 : Int) ≤ (p).toInt := tc_ltF h3
          have q2 : (a 7 t).toInt ≤ (p).toInt := tc_ltF h4
          exact he_ret ⟨3, Or.inr ⟨Or.inr (Or.inr rfl), tp_no ht (fun z => by omega)⟩, rfl⟩ (by rfl) (by rfl) (by rfl)
        · refine he_s 1 (pc' := 39) (lc' := [(0, .ref 0), (1, .int (nI t)), (2, .int p)]) (stk' := [.int 0]) (mem' := cm g l a b R) (by intro _ _ _; eq_refl) ?_
          have q0 : (0 : Int) ≤ (a 7 t).toInt := tc_ge h2
          have q1 : (0 : Int) ≤ (p).toInt := tc_ltF h3
          have q2 : (p).toInt < (a 7 t).toInt := tc_lt h4
          have hz1 := hz t ht
          obtain ⟨P, hP, rfl⟩ := nI_bd (x := p) (n := 59) (by omega) (by omega)
          have e1 := nI_i32 (n := P) (by omega)
          exact he_ret ⟨0, Or.inl ⟨rfl, t, P, ht, rfl, rfl, by omega, by omega⟩, rfl⟩ (by rfl) (by rfl) (by rfl)
      · refine he_s 2 (pc' := 39) (lc' := [(0, .ref 0), (1, .int (nI t)), (2, .int p)]) (stk' := [.int 3]) (mem' := cm g l a b R) (by intro _ _ _; eq_refl) ?_
        have q0 : (0 : Int) ≤ (a 7 t).toInt := tc_ge h2
        have q1 : (p).toInt < 0 := tc_lt h3
        exact he_ret ⟨3, Or.inr ⟨Or.inr (Or.inr rfl), tp_no ht (fun z => by omega)⟩, rfl⟩ (by rfl) (by rfl) (by rfl)
theorem ha_cut {s : Int32} {v : Int64} {mem : fx_M} (h0 : 0 ≤ s.toInt) (h3 : s.toInt ≤ 3) : hr_T 1 193 [.int s, .long v] mem (some (.long (tc_cut s v))) mem := by
  obtain ⟨k, hk, rfl⟩ := nI_bd (x := s) (n := 3) h0 h3
  rcases (by omega : k = 0 ∨ k = 1 ∨ k = 2 ∨ k = 3) with rfl | rfl | rfl | rfl
  · refine hr_meth (by rfl) (by rfl) ?_
    refine hr_s 6 (pc' := 32) (lc' := [(0, .int (nI 0)), (1, .long v)]) (stk' := [.long (tc_cut (nI 0) v)]) (mem' := mem) (by intro _ _ _; eq_refl) ?_
    exact hr_ret (by rfl) (by rfl) (by rfl)
  · refine hr_meth (by rfl) (by rfl) ?_
    refine hr_s 6 (pc' := 37) (lc' := [(0, .int (nI 1)), (1, .long v)]) (stk' := [.long (tc_cut (nI 1) v)]) (mem' := mem) (by intro _ _ _; eq_refl) ?_
    exact hr_ret (by rfl) (by rfl) (by rfl)
  · refine hr_meth (by rfl) (by rfl) ?_
    refine hr_s 5 (pc' := 41) (lc' := [(0, .int (nI 2)), (1, .long v)]) (stk' := [.long (tc_cut (nI 2) v)]) (mem' := mem) (by intro _ _ _; eq_refl) ?_
    exact hr_ret (by rfl) (by rfl) (by rfl)
  · refine hr_meth (by rfl) (by rfl) ?_
    refine hr_s 3 (pc' := 43) (lc' := [(0, .int (nI 3)), (1, .long v)]) (stk' := [.long (tc_cut (nI 3) v)]) (mem' := mem) (by intro _ _ _; eq_refl) ?_
    exact hr_ret (by rfl) (by rfl) (by rfl)
theorem ha_write {x p : Int32} {w : Int64} (hz : ∀ t, t < 4 → (a 7 t).toInt ≤ 60) (hs : ∀ t, t < 4 → 0 ≤ (a 6 t).toInt ∧ (a 6 t).toInt ≤ 3) : ∃ (v : Option Value) (mem' : fx_M), (fun R1 => ∃ (z st : Int32) (b' : Nat → Nat → Int64), (0 ≤ st.toInt ∧ st.toInt ≤ 9) ∧ ((∃ t P, t < 4 ∧ x = nI t ∧ p = nI P ∧ P < 60 ∧ (P : Int) < (a 7 t).toInt ∧ z = 1 ∧ b' = fm_uf b (2 + t) (vp_updL (b (2 + t)) P (tc_cut (a 6 t) w))) ∨ ¬ tp_ok (a 7) x p ∧ z = 0 ∧ b' = b) ∧ R1 = (some (.int z), cm (fm_u g 0 0 st) l a b' R)) (v, mem') ∧ hr_T 3 131 [.ref 0, .int x, .int p, .long w] (cm g l a b R) v mem' := by
  refine he_meth (F := fun R1 => ∃ (z st : Int32) (b' : Nat → Nat → Int64), (0 ≤ st.toInt ∧ st.toInt ≤ 9) ∧ ((∃ t P, t < 4 ∧ x = nI t ∧ p = nI P ∧ P < 60 ∧ (P : Int) < (a 7 t).toInt ∧ z = 1 ∧ b' = fm_uf b (2 + t) (vp_updL (b (2 + t)) P (tc_cut (a 6 t) w))) ∨ ¬ tp_ok (a 7) x p ∧ z = 0 ∧ b' = b) ∧ R1 = (some (.int z), cm (fm_u g 0 0 st) l a b' R)) (M := gk_m131) (by rfl) (by rfl) ?_
  refine he_s 3 (pc' := 3) (lc' := [(0, .ref 0), (1, .int x), (2, .int p), (3, .long w)]) (stk' := [.int p, .int x, .ref 0]) (mem' := cm g l a b R) (by intro _ _ _; eq_refl) ?_
  obtain ⟨vz1, memz1, ⟨xz1, hxz1, hRz1⟩, hfrz1⟩ := ha_place (x := x) (p := p) (g := g) (l := l) (a := a) (b := b) (R := R) hz
  cases hRz1
  refine he_ivV hfrz1 (by omega) (by rfl) (by rfl) (by rfl) (by rfl) (by rfl) (by rfl) ?_
  rcases hxz1 with ⟨rfl, t, P, ht, rfl, rfl, hP, hPz⟩ | ⟨rfl | rfl | rfl, nop⟩
  · refine he_s 2 (pc' := 10) (lc' := [(5, .int 0), (0, .ref 0), (1, .int (nI t)), (2, .int (nI P)), (3, .long w)]) (stk' := [.int 0]) (mem' := cm g l a b R) (by intro _ _ _; eq_refl) ?_
    refine he_s 1 (pc' := cond (fx_cb .eq 0 0) 20 13) (lc' := [(5, .int 0), (0, .ref 0), (1, .int (nI t)), (2, .int (nI P)), (3, .long w)]) (stk' := []) (mem' := cm g l a b R) (by intro _ _ _; eq_refl) ?_
    rw [show (fx_cb .eq 0 0) = true from by decide]
    dsimp only [cond]
    refine he_s 3 (pc' := 25) (lc' := [(5, .int 0), (0, .ref 0), (1, .int (nI t)), (2, .int (nI P)), (3, .long w)]) (stk' := [.int (nI t), .ref 1]) (mem' := cm g l a b R) (by intro _ _ _; eq_refl) ?_
    refine he_ldA (by rfl) (by rfl) (fx_inN (i := t) (by omega) (by omega)) (by rfl) ?_
    rw [cr1_at (t := t) (by omega)]
    refine he_s 4 (pc' := 32) (lc' := [(5, .int 0), (0, .ref 0), (1, .int (nI t)), (2, .int (nI P)), (3, .long w)]) (stk' := [.int (nI t), .ref 6, .int (nI P), .ref (2 + t)]) (mem' := cm g l a b R) (by intro _ _ _; eq_refl) ?_
    refine he_ldI (by rfl) (by rfl) (fx_inN (i := t) (by omega) (by omega)) ?_
    rw [show Int32.toNatClampNeg (nI t) = t from nI_clamp (by omega)]
    refine he_s 1 (pc' := 34) (lc' := [(5, .int 0), (0, .ref 0), (1, .int (nI t)), (2, .int (nI P)), (3, .long w)]) (stk' := [.long w, .int (a 6 t), .int (nI P), .ref (2 + t)]) (mem' := cm g l a b R) (by intro _ _ _; eq_refl) ?_
    refine he_ivS (ha_cut (s := a 6 t) (v := w) (hs _ ht).1 (hs _ ht).2) (by omega) (by rfl) (by rfl) (by rfl) (by rfl) (by rfl) ?_
    refine he_stL (by rfl) (cm_row (by omega)) (fx_inN (i := P) (by omega) (by omega)) (cm_rows (by omega) _) ?_
    rw [show Int32.toNatClampNeg (nI P) = P from nI_clamp (by omega)]
    refine he_s 1 (pc' := 39) (lc' := [(5, .int 0), (0, .ref 0), (1, .int (nI t)), (2, .int (nI P)), (3, .long w)]) (stk' := [.ref 0]) (mem' := cm g l a (fm_uf b (2 + t) (vp_updL (b (2 + t)) P (tc_cut (a 6 t) w))) R) (by intro _ _ _; eq_refl) ?_
    refine he_ivV ha_agree (by omega) (by rfl) (by rfl) (by rfl) (by rfl) (by rfl) (by rfl) ?_
    exact he_ret ⟨1, 0, _, by decide, Or.inl ⟨t, P, ht, rfl, rfl, hP, hPz, rfl, rfl⟩, rfl⟩ (by rfl) (by rfl) (by rfl)
  · refine he_s 2 (pc' := 10) (lc' := [(5, .int 1), (0, .ref 0), (1, .int x), (2, .int p), (3, .long w)]) (stk' := [.int 1]) (mem' := cm g l a b R) (by intro _ _ _; eq_refl) ?_
    refine he_s 1 (pc' := cond (fx_cb .eq 1 0) 20 13) (lc' := [(5, .int 1), (0, .ref 0), (1, .int x), (2, .int p), (3, .long w)]) (stk' := []) (mem' := cm g l a b R) (by intro _ _ _; eq_refl) ?_
    rw [show (fx_cb .eq 1 0) = false from by decide]
    dsimp only [cond]
    refine he_s 2 (pc' := 16) (lc' := [(5, .int 1), (0, .ref 0), (1, .int x), (2, .int p), (3, .long w)]) (stk' := [.int 1, .ref 0]) (mem' := cm g l a b R) (by intro _ _ _; eq_refl) ?_
    refine he_ivV (ha_deny (x := 1)) (by omega) (by rfl) (by rfl) (by rfl) (by rfl) (by rfl) (by rfl) ?_
    exact he_ret ⟨0, 1, _, by decide, Or.inr ⟨nop, rfl, rfl⟩, rfl⟩ (by rfl) (by rfl) (by rfl)
  · refine he_s 2 (pc' := 10) (lc' := [(5, .int 2), (0, .ref 0), (1, .int x), (2, .int p), (3, .long w)]) (stk' := [.int 2]) (mem' := cm g l a b R) (by intro _ _ _; eq_refl) ?_
    refine he_s 1 (pc' := cond (fx_cb .eq 2 0) 20 13) (lc' := [(5, .int 2), (0, .ref 0), (1, .int x), (2, .int p), (3, .long w)]) (stk' := []) (mem' := cm g l a b R) (by intro _ _ _; eq_refl) ?_
    rw [show (fx_cb .eq 2 0) = false from by decide]
    dsimp only [cond]
    refine he_s 2 (pc' := 16) (lc' := [(5, .int 2), (0, .ref 0), (1, .int x), (2, .int p), (3, .long w)]) (stk' := [.int 2, .ref 0]) (mem' := cm g l a b R) (by intro _ _ _; eq_refl) ?_
    refine he_ivV (ha_deny (x := 2)) (by omega) (by rfl) (by rfl) (by rfl) (by rfl) (by rfl) (by rfl) ?_
    exact he_ret ⟨0, 2, _, by decide, Or.inr ⟨nop, rfl, rfl⟩, rfl⟩ (by rfl) (by rfl) (by rfl)
  · refine he_s 2 (pc' := 10) (lc' := [(5, .int 3), (0, .ref 0), (1, .int x), (2, .int p), (3, .long w)]) (stk' := [.int 3]) (mem' := cm g l a b R) (by intro _ _ _; eq_refl) ?_
    refine he_s 1 (pc' := cond (fx_cb .eq 3 0) 20 13) (lc' := [(5, .int 3), (0, .ref 0), (1, .int x), (2, .int p), (3, .long w)]) (stk' := []) (mem' := cm g l a b R) (by intro _ _ _; eq_refl) ?_
    rw [show (fx_cb .eq 3 0) = false from by decide]
    dsimp only [cond]
    refine he_s 2 (pc' := 16) (lc' := [(5, .int 3), (0, .ref 0), (1, .int x), (2, .int p), (3, .long w)]) (stk' := [.int 3, .ref 0]) (mem' := cm g l a b R) (by intro _ _ _; eq_refl) ?_
    refine he_ivV (ha_deny (x := 3)) (by omega) (by rfl) (by rfl) (by rfl) (by rfl) (by rfl) (by rfl) ?_
    exact he_ret ⟨0, 3, _, by decide, Or.inr ⟨nop, rfl, rfl⟩, rfl⟩ (by rfl) (by rfl) (by rfl)
theorem ha_read {x p : Int32} (hz : ∀ t, t < 4 → (a 7 t).toInt ≤ 60) : ∃ (v : Option Value) (mem' : fx_M), (fun R1 => ∃ (z : Int64) (st : Int32), (0 ≤ st.toInt ∧ st.toInt ≤ 9) ∧ ((∃ t P, t < 4 ∧ x = nI t ∧ p = nI P ∧ P < 60 ∧ (P : Int) < (a 7 t).toInt ∧ z = b (2 + t) P) ∨ ¬ tp_ok (a 7) x p ∧ z = -1) ∧ R1 = (some (.long z), cm (fm_u g 0 0 st) l a b R)) (v, mem') ∧ hr_T 3 132 [.ref 0, .int x, .int p] (cm g l a b R) v mem' := by
  refine he_meth (F := fun R1 => ∃ (z : Int64) (st : Int32), (0 ≤ st.toInt ∧ st.toInt ≤ 9) ∧ ((∃ t P, t < 4 ∧ x = nI t ∧ p = nI P ∧ P < 60 ∧ (P : Int) < (a 7 t).toInt ∧ z = b (2 + t) P) ∨ ¬ tp_ok (a 7) x p ∧ z = -1) ∧ R1 = (some (.long z), cm (fm_u g 0 0 st) l a b R)) (M := gk_m132) (by rfl) (by rfl) ?_
  refine he_s 3 (pc' := 3) (lc' := [(0, .ref 0), (1, .int x), (2, .int p)]) (stk' := [.int p, .int x, .ref 0]) (mem' := cm g l a b R) (by intro _ _ _; eq_refl) ?_
  obtain ⟨vz1, memz1, ⟨xz1, hxz1, hRz1⟩, hfrz1⟩ := ha_place (x := x) (p := p) (g := g) (l := l) (a := a) (b := b) (R := R) hz
  cases hRz1
  refine he_ivV hfrz1 (by omega) (by rfl) (by rfl) (by rfl) (by rfl) (by rfl) (by rfl) ?_
  rcases hxz1 with ⟨rfl, t, P, ht, rfl, rfl, hP, hPz⟩ | ⟨rfl | rfl | rfl, nop⟩
  · refine he_s 2 (pc' := 8) (lc' := [(3, .int 0), (0, .ref 0), (1, .int (nI t)), (2, .int (nI P))]) (stk' := [.int 0]) (mem' := cm g l a b R) (by intro _ _ _; eq_refl) ?_
    refine he_s 1 (pc' := cond (fx_cb .eq 0 0) 18 11) (lc' := [(3, .int 0), (0, .ref 0), (1, .int (nI t)), (2, .int (nI P))]) (stk' := []) (mem' := cm g l a b R) (by intro _ _ _; eq_refl) ?_
    rw [show (fx_cb .eq 0 0) = true from by decide]
    dsimp only [cond]
    refine he_s 6 (pc' := 28) (lc' := [(3, .int 0), (0, .ref 0), (1, .int (nI t)), (2, .int (nI P))]) (stk' := [.int (nI t), .ref 1]) (mem' := cm (fm_u g 0 0 0) l a b R) (by intro _ _ _; eq_refl) ?_
    refine he_ldA (by rfl) (by rfl) (fx_inN (i := t) (by omega) (by omega)) (by rfl) ?_
    rw [cr1_at (t := t) (by omega)]
    refine he_s 1 (pc' := 30) (lc' := [(3, .int 0), (0, .ref 0), (1, .int (nI t)), (2, .int (nI P))]) (stk' := [.int (nI P), .ref (2 + t)]) (mem' := cm (fm_u g 0 0 0) l a b R) (by intro _ _ _; eq_refl) ?_
    refine he_ldL (by rfl) (cm_row (by omega)) (fx_inN (i := P) (by omega) (by omega)) ?_
    rw [show Int32.toNatClampNeg (nI P) = P from nI_clamp (by omega)]
    exact he_ret ⟨_, 0, by decide, Or.inl ⟨t, P, ht, rfl, rfl, hP, hPz, rfl⟩, rfl⟩ (by rfl) (by rfl) (by rfl)
  · refine he_s 2 (pc' := 8) (lc' := [(3, .int 1), (0, .ref 0), (1, .int x), (2, .int p)]) (stk' := [.int 1]) (mem' := cm g l a b R) (by intro _ _ _; eq_refl) ?_
    refine he_s 1 (pc' := cond (fx_cb .eq 1 0) 18 11) (lc' := [(3, .int 1), (0, .ref 0), (1, .int x), (2, .int p)]) (stk' := []) (mem' := cm g l a b R) (by intro _ _ _; eq_refl) ?_
    rw [show (fx_cb .eq 1 0) = false from by decide]
    dsimp only [cond]
    refine he_s 2 (pc' := 13) (lc' := [(3, .int 1), (0, .ref 0), (1, .int x), (2, .int p)]) (stk' := [.int 1, .ref 0]) (mem' := cm g l a b R) (by intro _ _ _; eq_refl) ?_
    refine he_ivV (ha_refuse (x := 1)) (by omega) (by rfl) (by rfl) (by rfl) (by rfl) (by rfl) (by rfl) ?_
    refine he_s 1 (pc' := 17) (lc' := [(3, .int 1), (0, .ref 0), (1, .int x), (2, .int p)]) (stk' := [.long ((-1).toInt64)]) (mem' := cm (fm_u g 0 0 1) l a b R) (by intro _ _ _; eq_refl) ?_
    exact he_ret ⟨_, 1, by decide, Or.inr ⟨nop, by rfl⟩, rfl⟩ (by rfl) (by rfl) (by rfl)
  · refine he_s 2 (pc' := 8) (lc' := [(3, .int 2), (0, .ref 0), (1, .int x), (2, .int p)]) (stk' := [.int 2]) (mem' := cm g l a b R) (by intro _ _ _; eq_refl) ?_
    refine he_s 1 (pc' := cond (fx_cb .eq 2 0) 18 11) (lc' := [(3, .int 2), (0, .ref 0), (1, .int x), (2, .int p)]) (stk' := []) (mem' := cm g l a b R) (by intro _ _ _; eq_refl) ?_
    rw [show (fx_cb .eq 2 0) = false from by decide]
    dsimp only [cond]
    refine he_s 2 (pc' := 13) (lc' := [(3, .int 2), (0, .ref 0), (1, .int x), (2, .int p)]) (stk' := [.int 2, .ref 0]) (mem' := cm g l a b R) (by intro _ _ _; eq_refl) ?_
    refine he_ivV (ha_refuse (x := 2)) (by omega) (by rfl) (by rfl) (by rfl) (by rfl) (by rfl) (by rfl) ?_
    refine he_s 1 (pc' := 17) (lc' := [(3, .int 2), (0, .ref 0), (1, .int x), (2, .int p)]) (stk' := [.long ((-1).toInt64)]) (mem' := cm (fm_u g 0 0 2) l a b R) (by intro _ _ _; eq_refl) ?_
    exact he_ret ⟨_, 2, by decide, Or.inr ⟨nop, by rfl⟩, rfl⟩ (by rfl) (by rfl) (by rfl)
  · refine he_s 2 (pc' := 8) (lc' := [(3, .int 3), (0, .ref 0), (1, .int x), (2, .int p)]) (stk' := [.int 3]) (mem' := cm g l a b R) (by intro _ _ _; eq_refl) ?_
    refine he_s 1 (pc' := cond (fx_cb .eq 3 0) 18 11) (lc' := [(3, .int 3), (0, .ref 0), (1, .int x), (2, .int p)]) (stk' := []) (mem' := cm g l a b R) (by intro _ _ _; eq_refl) ?_
    rw [show (fx_cb .eq 3 0) = false from by decide]
    dsimp only [cond]
    refine he_s 2 (pc' := 13) (lc' := [(3, .int 3), (0, .ref 0), (1, .int x), (2, .int p)]) (stk' := [.int 3, .ref 0]) (mem' := cm g l a b R) (by intro _ _ _; eq_refl) ?_
    refine he_ivV (ha_refuse (x := 3)) (by omega) (by rfl) (by rfl) (by rfl) (by rfl) (by rfl) (by rfl) ?_
    refine he_s 1 (pc' := 17) (lc' := [(3, .int 3), (0, .ref 0), (1, .int x), (2, .int p)]) (stk' := [.long ((-1).toInt64)]) (mem' := cm (fm_u g 0 0 3) l a b R) (by intro _ _ _; eq_refl) ?_
    exact he_ret ⟨_, 3, by decide, Or.inr ⟨nop, by rfl⟩, rfl⟩ (by rfl) (by rfl) (by rfl)
theorem ha_pour {x p y q n : Int32} (hz : ∀ t, t < 4 → (a 7 t).toInt ≤ 60) : ∃ (v : Option Value) (mem' : fx_M), (fun R1 => ∃ (z st : Int32) (b' : Nat → Nat → Int64), (0 ≤ st.toInt ∧ st.toInt ≤ 9) ∧ ((∃ t u P Q N, t < 4 ∧ u < 4 ∧ x = nI t ∧ y = nI u ∧ p = nI P ∧ q = nI Q ∧ n = nI N ∧ (P + N : Nat) ≤ (a 7 t).toInt ∧ (Q + N : Nat) ≤ (a 7 u).toInt ∧ a 6 t = a 6 u ∧ z = 1 ∧ b' = fm_uf b (2 + u) (va_cpy (b (2 + t)) (b (2 + u)) P Q N)) ∨ ¬ pr_ok (a 7) (a 6) x p y q n ∧ z = 0 ∧ b' = b) ∧ R1 = (some (.int z), cm (fm_u g 0 0 st) l a b' R)) (v, mem') ∧ hr_T 2 133 [.ref 0, .int x, .int p, .int y, .int q, .int n] (cm g l a b R) v mem' := by
  refine he_meth (F := fun R1 => ∃ (z st : Int32) (b' : Nat → Nat → Int64), (0 ≤ st.toInt ∧ st.toInt ≤ 9) ∧ ((∃ t u P Q N, t < 4 ∧ u < 4 ∧ x = nI t ∧ y = nI u ∧ p = nI P ∧ q = nI Q ∧ n = nI N ∧ (P + N : Nat) ≤ (a 7 t).toInt ∧ (Q + N : Nat) ≤ (a 7 u).toInt ∧ a 6 t = a 6 u ∧ z = 1 ∧ b' = fm_uf b (2 + u) (va_cpy (b (2 + t)) (b (2 + u)) P Q N)) ∨ ¬ pr_ok (a 7) (a 6) x p y q n ∧ z = 0 ∧ b' = b) ∧ R1 = (some (.int z), cm (fm_u g 0 0 st) l a b' R)) (M := gk_m133) (by rfl) (by rfl) ?_
  refine he_s 1 (pc' := 1) (lc' := [(0, .ref 0), (1, .int x), (2, .int p), (3, .int y), (4, .int q), (5, .int n)]) (stk' := [.int x]) (mem' := cm g l a b R) (by intro _ _ _; eq_refl) ?_
  obtain ⟨vz1, memz1, ⟨xz1, hxz1, hRz1⟩, hfrz1⟩ := ha_isTray (x := x) (g := g) (l := l) (a := a) (b := b) (R := R)
  cases hRz1
  refine he_ivS hfrz1 (by omega) (by rfl) (by rfl) (by rfl) (by rfl) (by rfl) ?_
  rcases hxz1 with ⟨rfl, not⟩ | ⟨rfl, t, ht, rfl⟩
  · refine he_s 1 (pc' := cond (fx_cb .eq 0 0) 28 7) (lc' := [(0, .ref 0), (1, .int x), (2, .int p), (3, .int y), (4, .int q), (5, .int n)]) (stk' := []) (mem' := cm g l a b R) (by intro _ _ _; eq_refl) ?_
    rw [show (fx_cb .eq 0 0) = true from by decide]
    dsimp only [cond]
    refine he_s 2 (pc' := 30) (lc' := [(0, .ref 0), (1, .int x), (2, .int p), (3, .int y), (4, .int q), (5, .int n)]) (stk' := [.int 1, .ref 0]) (mem' := cm g l a b R) (by intro _ _ _; eq_refl) ?_
    refine he_ivV (ha_deny (x := 1)) (by omega) (by rfl) (by rfl) (by rfl) (by rfl) (by rfl) (by rfl) ?_
    exact he_ret ⟨0, 1, _, by decide, Or.inr ⟨pr_no1 not, rfl, rfl⟩, rfl⟩ (by rfl) (by rfl) (by rfl)
  · refine he_s 1 (pc' := cond (fx_cb .eq 1 0) 28 7) (lc' := [(0, .ref 0), (1, .int (nI t)), (2, .int p), (3, .int y), (4, .int q), (5, .int n)]) (stk' := []) (mem' := cm g l a b R) (by intro _ _ _; eq_refl) ?_
    rw [show (fx_cb .eq 1 0) = false from by decide]
    dsimp only [cond]
    refine he_s 1 (pc' := 8) (lc' := [(0, .ref 0), (1, .int (nI t)), (2, .int p), (3, .int y), (4, .int q), (5, .int n)]) (stk' := [.int y]) (mem' := cm g l a b R) (by intro _ _ _; eq_refl) ?_
    obtain ⟨vz2, memz2, ⟨xz2, hxz2, hRz2⟩, hfrz2⟩ := ha_isTray (x := y) (g := g) (l := l) (a := a) (b := b) (R := R)
    cases hRz2
    refine he_ivS hfrz2 (by omega) (by rfl) (by rfl) (by rfl) (by rfl) (by rfl) ?_
    rcases hxz2 with ⟨rfl, nou⟩ | ⟨rfl, u, hu, rfl⟩
    · refine he_s 1 (pc' := cond (fx_cb .eq 0 0) 28 14) (lc' := [(0, .ref 0), (1, .int (nI t)), (2, .int p), (3, .int y), (4, .int q), (5, .int n)]) (stk' := []) (mem' := cm g l a b R) (by intro _ _ _; eq_refl) ?_
      rw [show (fx_cb .eq 0 0) = true from by decide]
      dsimp only [cond]
      refine he_s 2 (pc' := 30) (lc' := [(0, .ref 0), (1, .int (nI t)), (2, .int p), (3, .int y), (4, .int q), (5, .int n)]) (stk' := [.int 1, .ref 0]) (mem' := cm g l a b R) (by intro _ _ _; eq_refl) ?_
      refine he_ivV (ha_deny (x := 1)) (by omega) (by rfl) (by rfl) (by rfl) (by rfl) (by rfl) (by rfl) ?_
      exact he_ret ⟨0, 1, _, by decide, Or.inr ⟨pr_no2 nou, rfl, rfl⟩, rfl⟩ (by rfl) (by rfl) (by rfl)
    · refine he_s 1 (pc' := cond (fx_cb .eq 1 0) 28 14) (lc' := [(0, .ref 0), (1, .int (nI t)), (2, .int p), (3, .int (nI u)), (4, .int q), (5, .int n)]) (stk' := []) (mem' := cm g l a b R) (by intro _ _ _; eq_refl) ?_
      rw [show (fx_cb .eq 1 0) = false from by decide]
      dsimp only [cond]
      refine he_s 1 (pc' := 15) (lc' := [(0, .ref 0), (1, .int (nI t)), (2, .int p), (3, .int (nI u)), (4, .int q), (5, .int n)]) (stk' := [.int p]) (mem' := cm g l a b R) (by intro _ _ _; eq_refl) ?_
      refine he_s 1 (pc' := cond (fx_cb .lt p 0) 28 18) (lc' := [(0, .ref 0), (1, .int (nI t)), (2, .int p), (3, .int (nI u)), (4, .int q), (5, .int n)]) (stk' := []) (mem' := cm g l a b R) (by intro _ _ _; eq_refl) ?_
      cases h3 : fx_cb .lt p 0
      · refine he_s 1 (pc' := 20) (lc' := [(0, .ref 0), (1, .int (nI t)), (2, .int p), (3, .int (nI u)), (4, .int q), (5, .int n)]) (stk' := [.int q]) (mem' := cm g l a b R) (by intro _ _ _; eq_refl) ?_
        refine he_s 1 (pc' := cond (fx_cb .lt q 0) 28 23) (lc' := [(0, .ref 0), (1, .int (nI t)), (2, .int p), (3, .int (nI u)), (4, .int q), (5, .int n)]) (stk' := []) (mem' := cm g l a b R) (by intro _ _ _; eq_refl) ?_
        cases h4 : fx_cb .lt q 0
        · refine he_s 1 (pc' := 25) (lc' := [(0, .ref 0), (1, .int (nI t)), (2, .int p), (3, .int (nI u)), (4, .int q), (5, .int n)]) (stk' := [.int n]) (mem' := cm g l a b R) (by intro _ _ _; eq_refl) ?_
          refine he_s 1 (pc' := cond (fx_cb .ge n 0) 34 28) (lc' := [(0, .ref 0), (1, .int (nI t)), (2, .int p), (3, .int (nI u)), (4, .int q), (5, .int n)]) (stk' := []) (mem' := cm g l a b R) (by intro _ _ _; eq_refl) ?_
          cases h5 : fx_cb .ge n 0
          · refine he_s 2 (pc' := 30) (lc' := [(0, .ref 0), (1, .int (nI t)), (2, .int p), (3, .int (nI u)), (4, .int q), (5, .int n)]) (stk' := [.int 1, .ref 0]) (mem' := cm g l a b R) (by intro _ _ _; eq_refl) ?_
            refine he_ivV (ha_deny (x := 1)) (by omega) (by rfl) (by rfl) (by rfl) (by rfl) (by rfl) (by rfl) ?_
            have q0 : (0 : Int) ≤ (p).toInt := tc_ltF h3
            have q1 : (0 : Int) ≤ (q).toInt := tc_ltF h4
            have q2 : (n).toInt < 0 := tc_geF h5
            refine he_ret ⟨0, 1, _, by decide, Or.inr ⟨pr_no ht hu (fun z => ?_), rfl, rfl⟩, rfl⟩ (by rfl) (by rfl) (by rfl)
            obtain ⟨z1, z2, z3, z4, z5, -, z7, z8⟩ := z
            have s1 : n.toInt ≤ (a 7 t).toInt → (a 7 t - n).toInt = (a 7 t).toInt - n.toInt := fun z => tc_sub z3 z
            have s2 : n.toInt ≤ (a 7 u).toInt → (a 7 u - n).toInt = (a 7 u).toInt - n.toInt := fun z => tc_sub z3 z
            have s1 := s1 (by omega)
            have s2 := s2 (by omega)
            omega
          · refine he_s 3 (pc' := 39) (lc' := [(0, .ref 0), (1, .int (nI t)), (2, .int p), (3, .int (nI u)), (4, .int q), (5, .int n)]) (stk' := [.int (nI t), .ref 7]) (mem' := cm g l a b R) (by intro _ _ _; eq_refl) ?_
            refine he_ldI (by rfl) (by rfl) (fx_inN (i := t) (by omega) (by omega)) ?_
            rw [show Int32.toNatClampNeg (nI t) = t from nI_clamp (by omega)]
            refine he_s 1 (pc' := cond (fx_cb .lt (a 7 t) 0) 52 43) (lc' := [(0, .ref 0), (1, .int (nI t)), (2, .int p), (3, .int (nI u)), (4, .int q), (5, .int n)]) (stk' := []) (mem' := cm g l a b R) (by intro _ _ _; eq_refl) ?_
            cases h6 : fx_cb .lt (a 7 t) 0
            · refine he_s 3 (pc' := 48) (lc' := [(0, .ref 0), (1, .int (nI t)), (2, .int p), (3, .int (nI u)), (4, .int q), (5, .int n)]) (stk' := [.int (nI u), .ref 7]) (mem' := cm g l a b R) (by intro _ _ _; eq_refl) ?_
              refine he_ldI (by rfl) (by rfl) (fx_inN (i := u) (by omega) (by omega)) ?_
              rw [show Int32.toNatClampNeg (nI u) = u from nI_clamp (by omega)]
              refine he_s 1 (pc' := cond (fx_cb .ge (a 7 u) 0) 58 52) (lc' := [(0, .ref 0), (1, .int (nI t)), (2, .int p), (3, .int (nI u)), (4, .int q), (5, .int n)]) (stk' := []) (mem' := cm g l a b R) (by intro _ _ _; eq_refl) ?_
              cases h7 : fx_cb .ge (a 7 u) 0
              · refine he_s 2 (pc' := 54) (lc' := [(0, .ref 0), (1, .int (nI t)), (2, .int p), (3, .int (nI u)), (4, .int q), (5, .int n)]) (stk' := [.int 2, .ref 0]) (mem' := cm g l a b R) (by intro _ _ _; eq_refl) ?_
                refine he_ivV (ha_deny (x := 2)) (by omega) (by rfl) (by rfl) (by rfl) (by rfl) (by rfl) (by rfl) ?_
                have q0 : (0 : Int) ≤ (p).toInt := tc_ltF h3
                have q1 : (0 : Int) ≤ (q).toInt := tc_ltF h4
                have q2 : (0 : Int) ≤ (n).toInt := tc_ge h5
                have q3 : (0 : Int) ≤ (a 7 t).toInt := tc_ltF h6
                have q4 : (a 7 u).toInt < 0 := tc_geF h7
                refine he_ret ⟨0, 2, _, by decide, Or.inr ⟨pr_no ht hu (fun z => ?_), rfl, rfl⟩, rfl⟩ (by rfl) (by rfl) (by rfl)
                obtain ⟨z1, z2, z3, z4, z5, -, z7, z8⟩ := z
                have s1 : n.toInt ≤ (a 7 t).toInt → (a 7 t - n).toInt = (a 7 t).toInt - n.toInt := fun z => tc_sub z3 z
                have s2 : n.toInt ≤ (a 7 u).toInt → (a 7 u - n).toInt = (a 7 u).toInt - n.toInt := fun z => tc_sub z3 z
                have s1 := s1 (by omega)
                have s2 := s2 (by omega)
                omega
              · refine he_s 3 (pc' := 63) (lc' := [(0, .ref 0), (1, .int (nI t)), (2, .int p), (3, .int (nI u)), (4, .int q), (5, .int n)]) (stk' := [.int (nI t), .ref 6]) (mem' := cm g l a b R) (by intro _ _ _; eq_refl) ?_
                refine he_ldI (by rfl) (by rfl) (fx_inN (i := t) (by omega) (by omega)) ?_
                rw [show Int32.toNatClampNeg (nI t) = t from nI_clamp (by omega)]
                refine he_s 3 (pc' := 69) (lc' := [(0, .ref 0), (1, .int (nI t)), (2, .int p), (3, .int (nI u)), (4, .int q), (5, .int n)]) (stk' := [.int (nI u), .ref 6, .int (a 6 t)]) (mem' := cm g l a b R) (by intro _ _ _; eq_refl) ?_
                refine he_ldI (by rfl) (by rfl) (fx_inN (i := u) (by omega) (by omega)) ?_
                rw [show Int32.toNatClampNeg (nI u) = u from nI_clamp (by omega)]
                refine he_s 1 (pc' := cond (fx_cb .eq (a 6 t) (a 6 u)) 80 73) (lc' := [(0, .ref 0), (1, .int (nI t)), (2, .int p), (3, .int (nI u)), (4, .int q), (5, .int n)]) (stk' := []) (mem' := cm g l a b R) (by intro _ _ _; eq_refl) ?_
                cases h8 : fx_cb .eq (a 6 t) (a 6 u)
                · refine he_s 2 (pc' := 76) (lc' := [(0, .ref 0), (1, .int (nI t)), (2, .int p), (3, .int (nI u)), (4, .int q), (5, .int n)]) (stk' := [.int 8, .ref 0]) (mem' := cm g l a b R) (by intro _ _ _; eq_refl) ?_
                  refine he_ivV (ha_deny (x := 8)) (by omega) (by rfl) (by rfl) (by rfl) (by rfl) (by rfl) (by rfl) ?_
                  have q0 : (0 : Int) ≤ (p).toInt := tc_ltF h3
                  have q1 : (0 : Int) ≤ (q).toInt := tc_ltF h4
                  have q2 : (0 : Int) ≤ (n).toInt := tc_ge h5
                  have q3 : (0 : Int) ≤ (a 7 t).toInt := tc_ltF h6
                  have q4 : (0 : Int) ≤ (a 7 u).toInt := tc_ge h7
                  exact he_ret ⟨0, 8, _, by decide, Or.inr ⟨pr_no ht hu (fun z => of_decide_eq_false h8 z.2.2.2.2.2.1), rfl, rfl⟩, rfl⟩ (by rfl) (by rfl) (by rfl)
                · refine he_s 4 (pc' := 87) (lc' := [(0, .ref 0), (1, .int (nI t)), (2, .int p), (3, .int (nI u)), (4, .int q), (5, .int n)]) (stk' := [.int (nI t), .ref 7, .int n]) (mem' := cm g l a b R) (by intro _ _ _; eq_refl) ?_
                  refine he_ldI (by rfl) (by rfl) (fx_inN (i := t) (by omega) (by omega)) ?_
                  rw [show Int32.toNatClampNeg (nI t) = t from nI_clamp (by omega)]
                  refine he_s 1 (pc' := cond (fx_cb .gt n (a 7 t)) 129 91) (lc' := [(0, .ref 0), (1, .int (nI t)), (2, .int p), (3, .int (nI u)), (4, .int q), (5, .int n)]) (stk' := []) (mem' := cm g l a b R) (by intro _ _ _; eq_refl) ?_
                  cases h9 : fx_cb .gt n (a 7 t)
                  · refine he_s 4 (pc' := 97) (lc' := [(0, .ref 0), (1, .int (nI t)), (2, .int p), (3, .int (nI u)), (4, .int q), (5, .int n)]) (stk' := [.int (nI t), .ref 7, .int p]) (mem' := cm g l a b R) (by intro _ _ _; eq_refl) ?_
                    refine he_ldI (by rfl) (by rfl) (fx_inN (i := t) (by omega) (by omega)) ?_
                    rw [show Int32.toNatClampNeg (nI t) = t from nI_clamp (by omega)]
                    refine he_s 2 (pc' := 101) (lc' := [(0, .ref 0), (1, .int (nI t)), (2, .int p), (3, .int (nI u)), (4, .int q), (5, .int n)]) (stk' := [.int ((a 7 t) - n), .int p]) (mem' := cm g l a b R) (by intro _ _ _; eq_refl) ?_
                    refine he_s 1 (pc' := cond (fx_cb .gt p ((a 7 t) - n)) 129 104) (lc' := [(0, .ref 0), (1, .int (nI t)), (2, .int p), (3, .int (nI u)), (4, .int q), (5, .int n)]) (stk' := []) (mem' := cm g l a b R) (by intro _ _ _; eq_refl) ?_
                    cases h10 : fx_cb .gt p ((a 7 t) - n)
                    · refine he_s 4 (pc' := 111) (lc' := [(0, .ref 0), (1, .int (nI t)), (2, .int p), (3, .int (nI u)), (4, .int q), (5, .int n)]) (stk' := [.int (nI u), .ref 7, .int n]) (mem' := cm g l a b R) (by intro _ _ _; eq_refl) ?_
                      refine he_ldI (by rfl) (by rfl) (fx_inN (i := u) (by omega) (by omega)) ?_
                      rw [show Int32.toNatClampNeg (nI u) = u from nI_clamp (by omega)]
                      refine he_s 1 (pc' := cond (fx_cb .gt n (a 7 u)) 129 115) (lc' := [(0, .ref 0), (1, .int (nI t)), (2, .int p), (3, .int (nI u)), (4, .int q), (5, .int n)]) (stk' := []) (mem' := cm g l a b R) (by intro _ _ _; eq_refl) ?_
                      cases h11 : fx_cb .gt n (a 7 u)
                      · refine he_s 4 (pc' := 122) (lc' := [(0, .ref 0), (1, .int (nI t)), (2, .int p), (3, .int (nI u)), (4, .int q), (5, .int n)]) (stk' := [.int (nI u), .ref 7, .int q]) (mem' := cm g l a b R) (by intro _ _ _; eq_refl) ?_
                        refine he_ldI (by rfl) (by rfl) (fx_inN (i := u) (by omega) (by omega)) ?_
                        rw [show Int32.toNatClampNeg (nI u) = u from nI_clamp (by omega)]
                        refine he_s 2 (pc' := 126) (lc' := [(0, .ref 0), (1, .int (nI t)), (2, .int p), (3, .int (nI u)), (4, .int q), (5, .int n)]) (stk' := [.int ((a 7 u) - n), .int q]) (mem' := cm g l a b R) (by intro _ _ _; eq_refl) ?_
                        refine he_s 1 (pc' := cond (fx_cb .le q ((a 7 u) - n)) 135 129) (lc' := [(0, .ref 0), (1, .int (nI t)), (2, .int p), (3, .int (nI u)), (4, .int q), (5, .int n)]) (stk' := []) (mem' := cm g l a b R) (by intro _ _ _; eq_refl) ?_
                        cases h12 : fx_cb .le q ((a 7 u) - n)
                        · refine he_s 2 (pc' := 131) (lc' := [(0, .ref 0), (1, .int (nI t)), (2, .int p), (3, .int (nI u)), (4, .int q), (5, .int n)]) (stk' := [.int 3, .ref 0]) (mem' := cm g l a b R) (by intro _ _ _; eq_refl) ?_
                          refine he_ivV (ha_deny (x := 3)) (by omega) (by rfl) (by rfl) (by rfl) (by rfl) (by rfl) (by rfl) ?_
                          have q0 : (0 : Int) ≤ (p).toInt := tc_ltF h3
                          have q1 : (0 : Int) ≤ (q).toInt := tc_ltF h4
                          have q2 : (0 : Int) ≤ (n).toInt := tc_ge h5
                          have q3 : (0 : Int) ≤ (a 7 t).toInt := tc_ltF h6
                          have q4 : (0 : Int) ≤ (a 7 u).toInt := tc_ge h7
                          have q6 : (n).toInt ≤ (a 7 t).toInt := tc_gtF h9
                          have q7 : (p).toInt ≤ ((a 7 t) - n).toInt := tc_gtF h10
                          have q8 : (n).toInt ≤ (a 7 u).toInt := tc_gtF h11
                          have q9 : ((a 7 u) - n).toInt < (q).toInt := tc_leF h12
                          refine he_ret ⟨0, 3, _, by decide, Or.inr ⟨pr_no ht hu (fun z => ?_), rfl, rfl⟩, rfl⟩ (by rfl) (by rfl) (by rfl)
                          obtain ⟨z1, z2, z3, z4, z5, -, z7, z8⟩ := z
                          have s1 : n.toInt ≤ (a 7 t).toInt → (a 7 t - n).toInt = (a 7 t).toInt - n.toInt := fun z => tc_sub z3 z
                          have s2 : n.toInt ≤ (a 7 u).toInt → (a 7 u - n).toInt = (a 7 u).toInt - n.toInt := fun z => tc_sub z3 z
                          have s1 := s1 (by omega)
                          have s2 := s2 (by omega)
                          omega
                        · refine he_s 3 (pc' := 140) (lc' := [(0, .ref 0), (1, .int (nI t)), (2, .int p), (3, .int (nI u)), (4, .int q), (5, .int n)]) (stk' := [.int (nI t), .ref 1]) (mem' := cm g l a b R) (by intro _ _ _; eq_refl) ?_
                          refine he_ldA (by rfl) (by rfl) (fx_inN (i := t) (by omega) (by omega)) (by rfl) ?_
                          rw [cr1_at (t := t) (by omega)]
                          refine he_s 4 (pc' := 147) (lc' := [(0, .ref 0), (1, .int (nI t)), (2, .int p), (3, .int (nI u)), (4, .int q), (5, .int n)]) (stk' := [.int (nI u), .ref 1, .int p, .ref (2 + t)]) (mem' := cm g l a b R) (by intro _ _ _; eq_refl) ?_
                          refine he_ldA (by rfl) (by rfl) (fx_inN (i := u) (by omega) (by omega)) (by rfl) ?_
                          rw [cr1_at (t := u) (by omega)]
                          refine he_s 2 (pc' := 152) (lc' := [(0, .ref 0), (1, .int (nI t)), (2, .int p), (3, .int (nI u)), (4, .int q), (5, .int n)]) (stk' := [.int n, .int q, .ref (2 + u), .int p, .ref (2 + t)]) (mem' := cm g l a b R) (by intro _ _ _; eq_refl) ?_
                          have q0 : (0 : Int) ≤ (p).toInt := tc_ltF h3
                          have q1 : (0 : Int) ≤ (q).toInt := tc_ltF h4
                          have q2 : (0 : Int) ≤ (n).toInt := tc_ge h5
                          have q3 : (0 : Int) ≤ (a 7 t).toInt := tc_ltF h6
                          have q4 : (0 : Int) ≤ (a 7 u).toInt := tc_ge h7
                          have q6 : (n).toInt ≤ (a 7 t).toInt := tc_gtF h9
                          have q7 : (p).toInt ≤ ((a 7 t) - n).toInt := tc_gtF h10
                          have q8 : (n).toInt ≤ (a 7 u).toInt := tc_gtF h11
                          have q9 : (q).toInt ≤ ((a 7 u) - n).toInt := tc_le h12
                          have hzt := hz t ht
                          have hzu := hz u hu
                          have s1 := tc_sub (x := a 7 t) (y := n) (by omega) (by omega)
                          have s2 := tc_sub (x := a 7 u) (y := n) (by omega) (by omega)
                          obtain ⟨P, hP, rfl⟩ := nI_bd (x := p) (n := 60) (by omega) (by omega)
                          obtain ⟨Q, hQ, rfl⟩ := nI_bd (x := q) (n := 60) (by omega) (by omega)
                          obtain ⟨N, hN, rfl⟩ := nI_bd (x := n) (n := 60) (by omega) (by omega)
                          have e1 := nI_i32 (n := P) (by omega)
                          have e2 := nI_i32 (n := Q) (by omega)
                          have e3 := nI_i32 (n := N) (by omega)
                          refine he_cpL (by rfl) (by rfl) (cm_row (by omega)) (cm_row (by omega)) (by rfl) (by unfold hx_cc; rw [Bool.and_eq_true, Bool.and_eq_true, Bool.and_eq_true, Bool.and_eq_true, decide_eq_true_eq, decide_eq_true_eq, decide_eq_true_eq, decide_eq_true_eq, decide_eq_true_eq]; omega) (cm_rows (by omega) _) ?_
                          rw [show Int32.toNatClampNeg (nI P) = P from nI_clamp (by omega), show Int32.toNatClampNeg (nI Q) = Q from nI_clamp (by omega), show Int32.toNatClampNeg (nI N) = N from nI_clamp (by omega)]
                          refine he_s 1 (pc' := 156) (lc' := [(0, .ref 0), (1, .int (nI t)), (2, .int (nI P)), (3, .int (nI u)), (4, .int (nI Q)), (5, .int (nI N))]) (stk' := [.ref 0]) (mem' := cm g l a (fm_uf b (2 + u) (va_cpy (b (2 + t)) (b (2 + u)) P Q N)) R) (by intro _ _ _; eq_refl) ?_
                          refine he_ivV ha_agree (by omega) (by rfl) (by rfl) (by rfl) (by rfl) (by rfl) (by rfl) ?_
                          exact he_ret ⟨1, 0, _, by decide, Or.inl ⟨t, u, P, Q, N, ht, hu, rfl, rfl, rfl, rfl, rfl, by omega, by omega, of_decide_eq_true h8, rfl, rfl⟩, rfl⟩ (by rfl) (by rfl) (by rfl)
                      · refine he_s 2 (pc' := 131) (lc' := [(0, .ref 0), (1, .int (nI t)), (2, .int p), (3, .int (nI u)), (4, .int q), (5, .int n)]) (stk' := [.int 3, .ref 0]) (mem' := cm g l a b R) (by intro _ _ _; eq_refl) ?_
                        refine he_ivV (ha_deny (x := 3)) (by omega) (by rfl) (by rfl) (by rfl) (by rfl) (by rfl) (by rfl) ?_
                        have q0 : (0 : Int) ≤ (p).toInt := tc_ltF h3
                        have q1 : (0 : Int) ≤ (q).toInt := tc_ltF h4
                        have q2 : (0 : Int) ≤ (n).toInt := tc_ge h5
                        have q3 : (0 : Int) ≤ (a 7 t).toInt := tc_ltF h6
                        have q4 : (0 : Int) ≤ (a 7 u).toInt := tc_ge h7
                        have q6 : (n).toInt ≤ (a 7 t).toInt := tc_gtF h9
                        have q7 : (p).toInt ≤ ((a 7 t) - n).toInt := tc_gtF h10
                        have q8 : (a 7 u).toInt < (n).toInt := tc_gt h11
                        refine he_ret ⟨0, 3, _, by decide, Or.inr ⟨pr_no ht hu (fun z => ?_), rfl, rfl⟩, rfl⟩ (by rfl) (by rfl) (by rfl)
                        obtain ⟨z1, z2, z3, z4, z5, -, z7, z8⟩ := z
                        have s1 : n.toInt ≤ (a 7 t).toInt → (a 7 t - n).toInt = (a 7 t).toInt - n.toInt := fun z => tc_sub z3 z
                        have s2 : n.toInt ≤ (a 7 u).toInt → (a 7 u - n).toInt = (a 7 u).toInt - n.toInt := fun z => tc_sub z3 z
                        have s1 := s1 (by omega)
                        have s2 := s2 (by omega)
                        omega
                    · refine he_s 2 (pc' := 131) (lc' := [(0, .ref 0), (1, .int (nI t)), (2, .int p), (3, .int (nI u)), (4, .int q), (5, .int n)]) (stk' := [.int 3, .ref 0]) (mem' := cm g l a b R) (by intro _ _ _; eq_refl) ?_
                      refine he_ivV (ha_deny (x := 3)) (by omega) (by rfl) (by rfl) (by rfl) (by rfl) (by rfl) (by rfl) ?_
                      have q0 : (0 : Int) ≤ (p).toInt := tc_ltF h3
                      have q1 : (0 : Int) ≤ (q).toInt := tc_ltF h4
                      have q2 : (0 : Int) ≤ (n).toInt := tc_ge h5
                      have q3 : (0 : Int) ≤ (a 7 t).toInt := tc_ltF h6
                      have q4 : (0 : Int) ≤ (a 7 u).toInt := tc_ge h7
                      have q6 : (n).toInt ≤ (a 7 t).toInt := tc_gtF h9
                      have q7 : ((a 7 t) - n).toInt < (p).toInt := tc_gt h10
                      refine he_ret ⟨0, 3, _, by decide, Or.inr ⟨pr_no ht hu (fun z => ?_), rfl, rfl⟩, rfl⟩ (by rfl) (by rfl) (by rfl)
                      obtain ⟨z1, z2, z3, z4, z5, -, z7, z8⟩ := z
                      have s1 : n.toInt ≤ (a 7 t).toInt → (a 7 t - n).toInt = (a 7 t).toInt - n.toInt := fun z => tc_sub z3 z
                      have s2 : n.toInt ≤ (a 7 u).toInt → (a 7 u - n).toInt = (a 7 u).toInt - n.toInt := fun z => tc_sub z3 z
                      have s1 := s1 (by omega)
                      have s2 := s2 (by omega)
                      omega
                  · refine he_s 2 (pc' := 131) (lc' := [(0, .ref 0), (1, .int (nI t)), (2, .int p), (3, .int (nI u)), (4, .int q), (5, .int n)]) (stk' := [.int 3, .ref 0]) (mem' := cm g l a b R) (by intro _ _ _; eq_refl) ?_
                    refine he_ivV (ha_deny (x := 3)) (by omega) (by rfl) (by rfl) (by rfl) (by rfl) (by rfl) (by rfl) ?_
                    have q0 : (0 : Int) ≤ (p).toInt := tc_ltF h3
                    have q1 : (0 : Int) ≤ (q).toInt := tc_ltF h4
                    have q2 : (0 : Int) ≤ (n).toInt := tc_ge h5
                    have q3 : (0 : Int) ≤ (a 7 t).toInt := tc_ltF h6
                    have q4 : (0 : Int) ≤ (a 7 u).toInt := tc_ge h7
                    have q6 : (a 7 t).toInt < (n).toInt := tc_gt h9
                    refine he_ret ⟨0, 3, _, by decide, Or.inr ⟨pr_no ht hu (fun z => ?_), rfl, rfl⟩, rfl⟩ (by rfl) (by rfl) (by rfl)
                    obtain ⟨z1, z2, z3, z4, z5, -, z7, z8⟩ := z
                    have s1 : n.toInt ≤ (a 7 t).toInt → (a 7 t - n).toInt = (a 7 t).toInt - n.toInt := fun z => tc_sub z3 z
                    have s2 : n.toInt ≤ (a 7 u).toInt → (a 7 u - n).toInt = (a 7 u).toInt - n.toInt := fun z => tc_sub z3 z
                    have s1 := s1 (by omega)
                    have s2 := s2 (by omega)
                    omega
            · refine he_s 2 (pc' := 54) (lc' := [(0, .ref 0), (1, .int (nI t)), (2, .int p), (3, .int (nI u)), (4, .int q), (5, .int n)]) (stk' := [.int 2, .ref 0]) (mem' := cm g l a b R) (by intro _ _ _; eq_refl) ?_
              refine he_ivV (ha_deny (x := 2)) (by omega) (by rfl) (by rfl) (by rfl) (by rfl) (by rfl) (by rfl) ?_
              have q0 : (0 : Int) ≤ (p).toInt := tc_ltF h3
              have q1 : (0 : Int) ≤ (q).toInt := tc_ltF h4
              have q2 : (0 : Int) ≤ (n).toInt := tc_ge h5
              have q3 : (a 7 t).toInt < 0 := tc_lt h6
              refine he_ret ⟨0, 2, _, by decide, Or.inr ⟨pr_no ht hu (fun z => ?_), rfl, rfl⟩, rfl⟩ (by rfl) (by rfl) (by rfl)
              obtain ⟨z1, z2, z3, z4, z5, -, z7, z8⟩ := z
              have s1 : n.toInt ≤ (a 7 t).toInt → (a 7 t - n).toInt = (a 7 t).toInt - n.toInt := fun z => tc_sub z3 z
              have s2 : n.toInt ≤ (a 7 u).toInt → (a 7 u - n).toInt = (a 7 u).toInt - n.toInt := fun z => tc_sub z3 z
              have s1 := s1 (by omega)
              have s2 := s2 (by omega)
              omega
        · refine he_s 2 (pc' := 30) (lc' := [(0, .ref 0), (1, .int (nI t)), (2, .int p), (3, .int (nI u)), (4, .int q), (5, .int n)]) (stk' := [.int 1, .ref 0]) (mem' := cm g l a b R) (by intro _ _ _; eq_refl) ?_
          refine he_ivV (ha_deny (x := 1)) (by omega) (by rfl) (by rfl) (by rfl) (by rfl) (by rfl) (by rfl) ?_
          have q0 : (0 : Int) ≤ (p).toInt := tc_ltF h3
          have q1 : (q).toInt < 0 := tc_lt h4
          refine he_ret ⟨0, 1, _, by decide, Or.inr ⟨pr_no ht hu (fun z => ?_), rfl, rfl⟩, rfl⟩ (by rfl) (by rfl) (by rfl)
          obtain ⟨z1, z2, z3, z4, z5, -, z7, z8⟩ := z
          have s1 : n.toInt ≤ (a 7 t).toInt → (a 7 t - n).toInt = (a 7 t).toInt - n.toInt := fun z => tc_sub z3 z
          have s2 : n.toInt ≤ (a 7 u).toInt → (a 7 u - n).toInt = (a 7 u).toInt - n.toInt := fun z => tc_sub z3 z
          have s1 := s1 (by omega)
          have s2 := s2 (by omega)
          omega
      · refine he_s 2 (pc' := 30) (lc' := [(0, .ref 0), (1, .int (nI t)), (2, .int p), (3, .int (nI u)), (4, .int q), (5, .int n)]) (stk' := [.int 1, .ref 0]) (mem' := cm g l a b R) (by intro _ _ _; eq_refl) ?_
        refine he_ivV (ha_deny (x := 1)) (by omega) (by rfl) (by rfl) (by rfl) (by rfl) (by rfl) (by rfl) ?_
        have q0 : (p).toInt < 0 := tc_lt h3
        refine he_ret ⟨0, 1, _, by decide, Or.inr ⟨pr_no ht hu (fun z => ?_), rfl, rfl⟩, rfl⟩ (by rfl) (by rfl) (by rfl)
        obtain ⟨z1, z2, z3, z4, z5, -, z7, z8⟩ := z
        have s1 : n.toInt ≤ (a 7 t).toInt → (a 7 t - n).toInt = (a 7 t).toInt - n.toInt := fun z => tc_sub z3 z
        have s2 : n.toInt ≤ (a 7 u).toInt → (a 7 u - n).toInt = (a 7 u).toInt - n.toInt := fun z => tc_sub z3 z
        have s1 := s1 (by omega)
        have s2 := s2 (by omega)
        omega
end CT
end MH18_0
section MH18_1
/-! ===== the model's trays, exactly ===== -/
section MT
variable {g : Nat → Int32} {tp bt : Int64} {a : Nat → Nat → Int32} {b : Nat → Nat → Int64}
theorem ma_is0 : fr_T 1 206 [.ref 0, .int 0] (fm g tp bt a b) (some (.int 1)) (fm (upd g 2 0) tp bt a b) := by
  refine fr_meth (by rfl) (by rfl) ?_
  refine fr_s 7 (pc' := 14) (lc' := [(0, .ref 0), (1, .int 0)]) (stk' := [.int 1]) (mem' := fm (upd g 2 0) tp bt a b) (by intro _ _ _; eq_refl) ?_
  exact fr_ret (by rfl) (by rfl) (by rfl)
theorem ma_is1 : fr_T 1 206 [.ref 0, .int 1] (fm g tp bt a b) (some (.int 0)) (fm (upd g 2 1) tp bt a b) := by
  refine fr_meth (by rfl) (by rfl) ?_
  refine fr_s 6 (pc' := 14) (lc' := [(0, .ref 0), (1, .int 1)]) (stk' := [.int 0]) (mem' := fm (upd g 2 1) tp bt a b) (by intro _ _ _; eq_refl) ?_
  exact fr_ret (by rfl) (by rfl) (by rfl)
theorem ma_is2 : fr_T 1 206 [.ref 0, .int 2] (fm g tp bt a b) (some (.int 0)) (fm (upd g 2 2) tp bt a b) := by
  refine fr_meth (by rfl) (by rfl) ?_
  refine fr_s 6 (pc' := 14) (lc' := [(0, .ref 0), (1, .int 2)]) (stk' := [.int 0]) (mem' := fm (upd g 2 2) tp bt a b) (by intro _ _ _; eq_refl) ?_
  exact fr_ret (by rfl) (by rfl) (by rfl)
theorem ma_is3 : fr_T 1 206 [.ref 0, .int 3] (fm g tp bt a b) (some (.int 0)) (fm (upd g 2 3) tp bt a b) := by
  refine fr_meth (by rfl) (by rfl) ?_
  refine fr_s 6 (pc' := 14) (lc' := [(0, .ref 0), (1, .int 3)]) (stk' := [.int 0]) (mem' := fm (upd g 2 3) tp bt a b) (by intro _ _ _; eq_refl) ?_
  exact fr_ret (by rfl) (by rfl) (by rfl)
theorem ma_is8 : fr_T 1 206 [.ref 0, .int 8] (fm g tp bt a b) (some (.int 0)) (fm (upd g 2 8) tp bt a b) := by
  refine fr_meth (by rfl) (by rfl) ?_
  refine fr_s 6 (pc' := 14) (lc' := [(0, .ref 0), (1, .int 8)]) (stk' := [.int 0]) (mem' := fm (upd g 2 8) tp bt a b) (by intro _ _ _; eq_refl) ?_
  exact fr_ret (by rfl) (by rfl) (by rfl)
theorem tc_ne {x y : Int32} (h : fx_cb .ne x y = false) : x = y := by
  have h : (!decide (x = y)) = false := h
  rw [Bool.not_eq_false', decide_eq_true_eq] at h
  exact h
theorem tc_neT {x y : Int32} (h : fx_cb .ne x y = true) : ¬ x = y := by
  have h : (!decide (x = y)) = true := h
  rw [Bool.not_eq_true', decide_eq_false_iff_not] at h
  exact h
theorem ma_isTray {x : Int32} : ∃ (v : Option Value) (mem' : fx_M), (fun R1 => ∃ z : Int32, (z = 0 ∧ ¬ (0 ≤ x.toInt ∧ x.toInt < 4) ∨ z = 1 ∧ ∃ t, t < 4 ∧ x = nI t) ∧ R1 = (some (.int z), fm g tp bt a b)) (v, mem') ∧ fr_T 1 211 [.int x] (fm g tp bt a b) v mem' := by
  refine fe_meth (F := fun R1 => ∃ z : Int32, (z = 0 ∧ ¬ (0 ≤ x.toInt ∧ x.toInt < 4) ∨ z = 1 ∧ ∃ t, t < 4 ∧ x = nI t) ∧ R1 = (some (.int z), fm g tp bt a b)) (M := gk_m211) (by rfl) (by rfl) ?_
  refine fe_s 1 (pc' := 1) (lc' := [(0, .int x)]) (stk' := [.int x]) (mem' := fm g tp bt a b) (by intro _ _ _; eq_refl) ?_
  refine fe_s 1 (pc' := cond (fx_cb .lt x 0) 13 4) (lc' := [(0, .int x)]) (stk' := []) (mem' := fm g tp bt a b) (by intro _ _ _; eq_refl) ?_
  cases h1 : fx_cb .lt x 0
  · refine fe_s 2 (pc' := 6) (lc' := [(0, .int x)]) (stk' := [.int 4, .int x]) (mem' := fm g tp bt a b) (by intro _ _ _; eq_refl) ?_
    refine fe_s 1 (pc' := cond (fx_cb .ge x 4) 13 9) (lc' := [(0, .int x)]) (stk' := []) (mem' := fm g tp bt a b) (by intro _ _ _; eq_refl) ?_
    cases h2 : fx_cb .ge x 4
    · refine fe_s 2 (pc' := 14) (lc' := [(0, .int x)]) (stk' := [.int 1]) (mem' := fm g tp bt a b) (by intro _ _ _; eq_refl) ?_
      refine fe_ret ⟨1, Or.inr ⟨rfl, ?_⟩, rfl⟩ (by rfl) (by rfl) (by rfl)
      have q0 : (0 : Int) ≤ (x).toInt := tc_ltF h1
      have q1 : (x).toInt < 4 := tc_geF h2
      obtain ⟨t, ht, e⟩ := nI_bd (x := x) (n := 3) (by omega) (by omega)
      exact ⟨t, by omega, e⟩
    · refine fe_s 1 (pc' := 14) (lc' := [(0, .int x)]) (stk' := [.int 0]) (mem' := fm g tp bt a b) (by intro _ _ _; eq_refl) ?_
      refine fe_ret ⟨0, Or.inl ⟨rfl, fun z => ?_⟩, rfl⟩ (by rfl) (by rfl) (by rfl)
      have q0 : (0 : Int) ≤ (x).toInt := tc_ltF h1
      have q1 : (4 : Int) ≤ (x).toInt := tc_ge h2
      omega
  · refine fe_s 1 (pc' := 14) (lc' := [(0, .int x)]) (stk' := [.int 0]) (mem' := fm g tp bt a b) (by intro _ _ _; eq_refl) ?_
    refine fe_ret ⟨0, Or.inl ⟨rfl, fun z => ?_⟩, rfl⟩ (by rfl) (by rfl) (by rfl)
    have q0 : (x).toInt < 0 := tc_lt h1
    omega
theorem ma_cut {s : Int32} {v : Int64} {mem : fx_M} (h0 : 0 ≤ s.toInt) (h3 : s.toInt ≤ 3) : fr_T 1 212 [.long v, .int s] mem (some (.long (tc_cut s v))) mem := by
  obtain ⟨k, hk, rfl⟩ := nI_bd (x := s) (n := 3) h0 h3
  rcases (by omega : k = 0 ∨ k = 1 ∨ k = 2 ∨ k = 3) with rfl | rfl | rfl | rfl
  · refine fr_meth (by rfl) (by rfl) ?_
    refine fr_s 7 (pc' := 35) (lc' := [(0, .long v), (2, .int (nI 0))]) (stk' := [.long (tc_cut (nI 0) v)]) (mem' := mem) (by intro _ _ _; eq_refl) ?_
    exact fr_ret (by rfl) (by rfl) (by rfl)
  · refine fr_meth (by rfl) (by rfl) ?_
    refine fr_s 10 (pc' := 35) (lc' := [(0, .long v), (2, .int (nI 1))]) (stk' := [.long (tc_cut (nI 1) v)]) (mem' := mem) (by intro _ _ _; eq_refl) ?_
    exact fr_ret (by rfl) (by rfl) (by rfl)
  · refine fr_meth (by rfl) (by rfl) ?_
    refine fr_s 12 (pc' := 35) (lc' := [(0, .long v), (2, .int (nI 2))]) (stk' := [.long (tc_cut (nI 2) v)]) (mem' := mem) (by intro _ _ _; eq_refl) ?_
    exact fr_ret (by rfl) (by rfl) (by rfl)
  · refine fr_meth (by rfl) (by rfl) ?_
    refine fr_s 9 (pc' := 35) (lc' := [(0, .long v), (2, .int (nI 3))]) (stk' := [.long (tc_cut (nI 3) v)]) (mem' := mem) (by intro _ _ _; eq_refl) ?_
    exact fr_ret (by rfl) (by rfl) (by rfl)
theorem ma_place {x p : Int32} (hz : ∀ t, t < 4 → -1 ≤ (a 4 t).toInt ∧ (a 4 t).toInt ≤ 60) : ∃ (v : Option Value) (mem' : fx_M), (fun R1 => ∃ z : Int32, (z = 0 ∧ (∃ t P, t < 4 ∧ x = nI t ∧ p = nI P ∧ P < 60 ∧ (P : Int) < (a 4 t).toInt) ∨ (z = 1 ∨ z = 2 ∨ z = 3) ∧ ¬ tp_ok (a 4) x p) ∧ R1 = (some (.int z), fm g tp bt a b)) (v, mem') ∧ fr_T 2 214 [.ref 0, .int x, .int p] (fm g tp bt a b) v mem' := by
  refine fe_meth (F := fun R1 => ∃ z : Int32, (z = 0 ∧ (∃ t P, t < 4 ∧ x = nI t ∧ p = nI P ∧ P < 60 ∧ (P : Int) < (a 4 t).toInt) ∨ (z = 1 ∨ z = 2 ∨ z = 3) ∧ ¬ tp_ok (a 4) x p) ∧ R1 = (some (.int z), fm g tp bt a b)) (M := gk_m214) (by rfl) (by rfl) ?_
  refine fe_s 1 (pc' := 1) (lc' := [(0, .ref 0), (1, .int x), (2, .int p)]) (stk' := [.int x]) (mem' := fm g tp bt a b) (by intro _ _ _; eq_refl) ?_
  obtain ⟨vz1, memz1, ⟨xz1, hxz1, hRz1⟩, hfrz1⟩ := ma_isTray (x := x) (g := g) (tp := tp) (bt := bt) (a := a) (b := b)
  cases hRz1
  refine fe_ivS hfrz1 (by omega) (by rfl) (by rfl) (by rfl) (by rfl) (by rfl) ?_
  rcases hxz1 with ⟨rfl, not⟩ | ⟨rfl, t, ht, rfl⟩
  · refine fe_s 1 (pc' := cond (fx_cb .ne 0 0) 11 7) (lc' := [(0, .ref 0), (1, .int x), (2, .int p)]) (stk' := []) (mem' := fm g tp bt a b) (by intro _ _ _; eq_refl) ?_
    rw [show (fx_cb .ne 0 0) = false from by decide]
    dsimp only [cond]
    refine fe_s 2 (pc' := 44) (lc' := [(0, .ref 0), (1, .int x), (2, .int p)]) (stk' := [.int 1]) (mem' := fm g tp bt a b) (by intro _ _ _; eq_refl) ?_
    exact fe_ret ⟨1, Or.inr ⟨Or.inl rfl, tp_no1 not⟩, rfl⟩ (by rfl) (by rfl) (by rfl)
  · refine fe_s 1 (pc' := cond (fx_cb .ne 1 0) 11 7) (lc' := [(0, .ref 0), (1, .int (nI t)), (2, .int p)]) (stk' := []) (mem' := fm g tp bt a b) (by intro _ _ _; eq_refl) ?_
    rw [show (fx_cb .ne 1 0) = true from by decide]
    dsimp only [cond]
    refine fe_s 3 (pc' := 16) (lc' := [(0, .ref 0), (1, .int (nI t)), (2, .int p)]) (stk' := [.int (nI t), .ref 4]) (mem' := fm g tp bt a b) (by intro _ _ _; eq_refl) ?_
    refine fe_ldI (by rfl) (by rfl) (fx_inN (i := t) (by omega) (by omega)) ?_
    rw [show Int32.toNatClampNeg (nI t) = t from nI_clamp (by omega)]
    refine fe_s 1 (pc' := 18) (lc' := [(0, .ref 0), (1, .int (nI t)), (2, .int p)]) (stk' := [.int (-1), .int (a 4 t)]) (mem' := fm g tp bt a b) (by intro _ _ _; eq_refl) ?_
    refine fe_s 1 (pc' := cond (fx_cb .ne (a 4 t) (-1)) 25 21) (lc' := [(0, .ref 0), (1, .int (nI t)), (2, .int p)]) (stk' := []) (mem' := fm g tp bt a b) (by intro _ _ _; eq_refl) ?_
    cases h2 : fx_cb .ne (a 4 t) (-1)
    · refine fe_s 2 (pc' := 44) (lc' := [(0, .ref 0), (1, .int (nI t)), (2, .int p)]) (stk' := [.int 2]) (mem' := fm g tp bt a b) (by intro _ _ _; eq_refl) ?_
      have q0 : (a 4 t).toInt = (-1) := congrArg Int32.toInt (tc_ne h2)
      have hz1 := hz t ht
      exact fe_ret ⟨2, Or.inr ⟨Or.inr (Or.inl rfl), tp_no ht (fun z => by omega)⟩, rfl⟩ (by rfl) (by rfl) (by rfl)
    · refine fe_s 1 (pc' := 26) (lc' := [(0, .ref 0), (1, .int (nI t)), (2, .int p)]) (stk' := [.int p]) (mem' := fm g tp bt a b) (by intro _ _ _; eq_refl) ?_
      refine fe_s 1 (pc' := cond (fx_cb .lt p 0) 39 29) (lc' := [(0, .ref 0), (1, .int (nI t)), (2, .int p)]) (stk' := []) (mem' := fm g tp bt a b) (by intro _ _ _; eq_refl) ?_
      cases h3 : fx_cb .lt p 0
      · refine fe_s 4 (pc' := 35) (lc' := [(0, .ref 0), (1, .int (nI t)), (2, .int p)]) (stk' := [.int (nI t), .ref 4, .int p]) (mem' := fm g tp bt a b) (by intro _ _ _; eq_refl) ?_
        refine fe_ldI (by rfl) (by rfl) (fx_inN (i := t) (by omega) (by omega)) ?_
        rw [show Int32.toNatClampNeg (nI t) = t from nI_clamp (by omega)]
        refine fe_s 1 (pc' := cond (fx_cb .lt p (a 4 t)) 43 39) (lc' := [(0, .ref 0), (1, .int (nI t)), (2, .int p)]) (stk' := []) (mem' := fm g tp bt a b) (by intro _ _ _; eq_refl) ?_
        cases h4 : fx_cb .lt p (a 4 t)
        · refine fe_s 2 (pc' := 44) (lc' := [(0, .ref 0), (1, .int (nI t)), (2, .int p)]) (stk' := [.int 3]) (mem' := fm g tp bt a b) (by intro _ _ _; eq_refl) ?_
          have q0 : ¬ (a 4 t).toInt = (-1) := fun z => (tc_neT h2) (Int32.toInt_inj.mp z)
          have q1 : (0 : Int) ≤ (p).toInt := tc_ltF h3
          have q2 : (a 4 t).toInt ≤ (p).toInt := tc_ltF h4
          have hz1 := hz t ht
          exact fe_ret ⟨3, Or.inr ⟨Or.inr (Or.inr rfl), tp_no ht (fun z => by omega)⟩, rfl⟩ (by rfl) (by rfl) (by rfl)
        · refine fe_s 1 (pc' := 44) (lc' := [(0, .ref 0), (1, .int (nI t)), (2, .int p)]) (stk' := [.int 0]) (mem' := fm g tp bt a b) (by intro _ _ _; eq_refl) ?_
          have q0 : ¬ (a 4 t).toInt = (-1) := fun z => (tc_neT h2) (Int32.toInt_inj.mp z)
          have q1 : (0 : Int) ≤ (p).toInt := tc_ltF h3
          have q2 : (p).toInt < (a 4 t).toInt := tc_lt h4
          have hz1 := hz t ht
          obtain ⟨P, hP, rfl⟩ := nI_bd (x := p) (n := 59) (by omega) (by omega)
          have e1 := nI_i32 (n := P) (by omega)
          exact fe_ret ⟨0, Or.inl ⟨rfl, t, P, ht, rfl, rfl, by omega, by omega⟩, rfl⟩ (by rfl) (by rfl) (by rfl)
      · refine fe_s 2 (pc' := 44) (lc' := [(0, .ref 0), (1, .int (nI t)), (2, .int p)]) (stk' := [.int 3]) (mem' := fm g tp bt a b) (by intro _ _ _; eq_refl) ?_
        have q0 : ¬ (a 4 t).toInt = (-1) := fun z => (tc_neT h2) (Int32.toInt_inj.mp z)
        have q1 : (p).toInt < 0 := tc_lt h3
        have hz1 := hz t ht
        exact fe_ret ⟨3, Or.inr ⟨Or.inr (Or.inr rfl), tp_no ht (fun z => by omega)⟩, rfl⟩ (by rfl) (by rfl) (by rfl)
theorem ma_write {x p : Int32} {w : Int64} (hz : ∀ t, t < 4 → -1 ≤ (a 4 t).toInt ∧ (a 4 t).toInt ≤ 60) (hs : ∀ t, t < 4 → 0 ≤ (a 3 t).toInt ∧ (a 3 t).toInt ≤ 3) : ∃ (v : Option Value) (mem' : fx_M), (fun R1 => ∃ (z st : Int32) (b' : Nat → Nat → Int64), (0 ≤ st.toInt ∧ st.toInt ≤ 9) ∧ ((∃ t P, t < 4 ∧ x = nI t ∧ p = nI P ∧ P < 60 ∧ (P : Int) < (a 4 t).toInt ∧ z = 1 ∧ b' = fm_uf b 5 (vp_updL (b 5) (60 * t + P) (tc_cut (a 3 t) w))) ∨ ¬ tp_ok (a 4) x p ∧ z = 0 ∧ b' = b) ∧ R1 = (some (.int z), fm (upd g 2 st) tp bt a b')) (v, mem') ∧ fr_T 3 215 [.ref 0, .int x, .int p, .long w] (fm g tp bt a b) v mem' := by
  refine fe_meth (F := fun R1 => ∃ (z st : Int32) (b' : Nat → Nat → Int64), (0 ≤ st.toInt ∧ st.toInt ≤ 9) ∧ ((∃ t P, t < 4 ∧ x = nI t ∧ p = nI P ∧ P < 60 ∧ (P : Int) < (a 4 t).toInt ∧ z = 1 ∧ b' = fm_uf b 5 (vp_updL (b 5) (60 * t + P) (tc_cut (a 3 t) w))) ∨ ¬ tp_ok (a 4) x p ∧ z = 0 ∧ b' = b) ∧ R1 = (some (.int z), fm (upd g 2 st) tp bt a b')) (M := gk_m215) (by rfl) (by rfl) ?_
  refine fe_s 3 (pc' := 3) (lc' := [(0, .ref 0), (1, .int x), (2, .int p), (3, .long w)]) (stk' := [.int p, .int x, .ref 0]) (mem' := fm g tp bt a b) (by intro _ _ _; eq_refl) ?_
  obtain ⟨vz1, memz1, ⟨xz1, hxz1, hRz1⟩, hfrz1⟩ := ma_place (x := x) (p := p) (g := g) (tp := tp) (bt := bt) (a := a) (b := b) hz
  cases hRz1
  refine fe_ivV hfrz1 (by omega) (by rfl) (by rfl) (by rfl) (by rfl) (by rfl) (by rfl) ?_
  rcases hxz1 with ⟨rfl, t, P, ht, rfl, rfl, hP, hPz⟩ | ⟨rfl | rfl | rfl, nop⟩
  · refine fe_s 2 (pc' := 10) (lc' := [(5, .int 0), (0, .ref 0), (1, .int (nI t)), (2, .int (nI P)), (3, .long w)]) (stk' := [.int 0]) (mem' := fm g tp bt a b) (by intro _ _ _; eq_refl) ?_
    refine fe_s 1 (pc' := cond (fx_cb .ne 0 0) 34 13) (lc' := [(5, .int 0), (0, .ref 0), (1, .int (nI t)), (2, .int (nI P)), (3, .long w)]) (stk' := []) (mem' := fm g tp bt a b) (by intro _ _ _; eq_refl) ?_
    rw [show (fx_cb .ne 0 0) = false from by decide]
    dsimp only [cond]
    refine fe_s 11 (pc' := 29) (lc' := [(5, .int 0), (0, .ref 0), (1, .int (nI t)), (2, .int (nI P)), (3, .long w)]) (stk' := [.int (nI t), .ref 3, .long w, .int ((60 * (nI t)) + (nI P)), .ref 5]) (mem' := fm g tp bt a b) (by intro _ _ _; eq_refl) ?_
    rw [show ((60 * (nI t)) + (nI P) : Int32) = nI ((60 * t) + P) from by simp only [show (60 : Int32) = nI 60 from rfl, nI_add, fm_mul]]
    refine fe_ldI (by rfl) (by rfl) (fx_inN (i := t) (by omega) (by omega)) ?_
    rw [show Int32.toNatClampNeg (nI t) = t from nI_clamp (by omega)]
    refine fe_ivS (ma_cut (s := a 3 t) (v := w) (hs _ ht).1 (hs _ ht).2) (by omega) (by rfl) (by rfl) (by rfl) (by rfl) (by rfl) ?_
    refine fe_stL (mem' := fm g tp bt a (fm_uf b 5 (vp_updL (b 5) (nI ((60 * t) + P) : Int32).toNatClampNeg (tc_cut (a 3 t) w)))) (by rfl) (by rfl) (fx_inN (i := (60 * t) + P) (by omega) (by omega)) fm_sl5 ?_
    rw [show Int32.toNatClampNeg (nI ((60 * t) + P)) = (60 * t) + P from nI_clamp (by omega)]
    refine fe_s 2 (pc' := 37) (lc' := [(5, .int 0), (0, .ref 0), (1, .int (nI t)), (2, .int (nI P)), (3, .long w)]) (stk' := [.int 0, .ref 0]) (mem' := fm g tp bt a (fm_uf b 5 (vp_updL (b 5) ((60 * t) + P) (tc_cut (a 3 t) w)))) (by intro _ _ _; eq_refl) ?_
    refine fe_ivV ma_is0 (by omega) (by rfl) (by rfl) (by rfl) (by rfl) (by rfl) (by rfl) ?_
    exact fe_ret ⟨1, 0, _, by decide, Or.inl ⟨t, P, ht, rfl, rfl, hP, hPz, rfl, rfl⟩, rfl⟩ (by rfl) (by rfl) (by rfl)
  · refine fe_s 2 (pc' := 10) (lc' := [(5, .int 1), (0, .ref 0), (1, .int x), (2, .int p), (3, .long w)]) (stk' := [.int 1]) (mem' := fm g tp bt a b) (by intro _ _ _; eq_refl) ?_
    refine fe_s 1 (pc' := cond (fx_cb .ne 1 0) 34 13) (lc' := [(5, .int 1), (0, .ref 0), (1, .int x), (2, .int p), (3, .long w)]) (stk' := []) (mem' := fm g tp bt a b) (by intro _ _ _; eq_refl) ?_
    rw [show (fx_cb .ne 1 0) = true from by decide]
    dsimp only [cond]
    refine fe_s 2 (pc' := 37) (lc' := [(5, .int 1), (0, .ref 0), (1, .int x), (2, .int p), (3, .long w)]) (stk' := [.int 1, .ref 0]) (mem' := fm g tp bt a b) (by intro _ _ _; eq_refl) ?_
    refine fe_ivV ma_is1 (by omega) (by rfl) (by rfl) (by rfl) (by rfl) (by rfl) (by rfl) ?_
    exact fe_ret ⟨0, 1, _, by decide, Or.inr ⟨nop, rfl, rfl⟩, rfl⟩ (by rfl) (by rfl) (by rfl)
  · refine fe_s 2 (pc' := 10) (lc' := [(5, .int 2), (0, .ref 0), (1, .int x), (2, .int p), (3, .long w)]) (stk' := [.int 2]) (mem' := fm g tp bt a b) (by intro _ _ _; eq_refl) ?_
    refine fe_s 1 (pc' := cond (fx_cb .ne 2 0) 34 13) (lc' := [(5, .int 2), (0, .ref 0), (1, .int x), (2, .int p), (3, .long w)]) (stk' := []) (mem' := fm g tp bt a b) (by intro _ _ _; eq_refl) ?_
    rw [show (fx_cb .ne 2 0) = true from by decide]
    dsimp only [cond]
    refine fe_s 2 (pc' := 37) (lc' := [(5, .int 2), (0, .ref 0), (1, .int x), (2, .int p), (3, .long w)]) (stk' := [.int 2, .ref 0]) (mem' := fm g tp bt a b) (by intro _ _ _; eq_refl) ?_
    refine fe_ivV ma_is2 (by omega) (by rfl) (by rfl) (by rfl) (by rfl) (by rfl) (by rfl) ?_
    exact fe_ret ⟨0, 2, _, by decide, Or.inr ⟨nop, rfl, rfl⟩, rfl⟩ (by rfl) (by rfl) (by rfl)
  · refine fe_s 2 (pc' := 10) (lc' := [(5, .int 3), (0, .ref 0), (1, .int x), (2, .int p), (3, .long w)]) (stk' := [.int 3]) (mem' := fm g tp bt a b) (by intro _ _ _; eq_refl) ?_
    refine fe_s 1 (pc' := cond (fx_cb .ne 3 0) 34 13) (lc' := [(5, .int 3), (0, .ref 0), (1, .int x), (2, .int p), (3, .long w)]) (stk' := []) (mem' := fm g tp bt a b) (by intro _ _ _; eq_refl) ?_
    rw [show (fx_cb .ne 3 0) = true from by decide]
    dsimp only [cond]
    refine fe_s 2 (pc' := 37) (lc' := [(5, .int 3), (0, .ref 0), (1, .int x), (2, .int p), (3, .long w)]) (stk' := [.int 3, .ref 0]) (mem' := fm g tp bt a b) (by intro _ _ _; eq_refl) ?_
    refine fe_ivV ma_is3 (by omega) (by rfl) (by rfl) (by rfl) (by rfl) (by rfl) (by rfl) ?_
    exact fe_ret ⟨0, 3, _, by decide, Or.inr ⟨nop, rfl, rfl⟩, rfl⟩ (by rfl) (by rfl) (by rfl)
theorem ma_read {x p : Int32} (hz : ∀ t, t < 4 → -1 ≤ (a 4 t).toInt ∧ (a 4 t).toInt ≤ 60) : ∃ (v : Option Value) (mem' : fx_M), (fun R1 => ∃ (z : Int64) (st : Int32), (0 ≤ st.toInt ∧ st.toInt ≤ 9) ∧ ((∃ t P, t < 4 ∧ x = nI t ∧ p = nI P ∧ P < 60 ∧ (P : Int) < (a 4 t).toInt ∧ z = b 5 (60 * t + P)) ∨ ¬ tp_ok (a 4) x p ∧ z = -1) ∧ R1 = (some (.long z), fm (upd g 2 st) tp bt a b)) (v, mem') ∧ fr_T 3 216 [.ref 0, .int x, .int p] (fm g tp bt a b) v mem' := by
  refine fe_meth (F := fun R1 => ∃ (z : Int64) (st : Int32), (0 ≤ st.toInt ∧ st.toInt ≤ 9) ∧ ((∃ t P, t < 4 ∧ x = nI t ∧ p = nI P ∧ P < 60 ∧ (P : Int) < (a 4 t).toInt ∧ z = b 5 (60 * t + P)) ∨ ¬ tp_ok (a 4) x p ∧ z = -1) ∧ R1 = (some (.long z), fm (upd g 2 st) tp bt a b)) (M := gk_m216) (by rfl) (by rfl) ?_
  refine fe_s 4 (pc' := 4) (lc' := [(0, .ref 0), (1, .int x), (2, .int p)]) (stk' := [.int p, .int x, .ref 0, .ref 0]) (mem' := fm g tp bt a b) (by intro _ _ _; eq_refl) ?_
  obtain ⟨vz1, memz1, ⟨xz1, hxz1, hRz1⟩, hfrz1⟩ := ma_place (x := x) (p := p) (g := g) (tp := tp) (bt := bt) (a := a) (b := b) hz
  cases hRz1
  refine fe_ivV hfrz1 (by omega) (by rfl) (by rfl) (by rfl) (by rfl) (by rfl) (by rfl) ?_
  rcases hxz1 with ⟨rfl, t, P, ht, rfl, rfl, hP, hPz⟩ | ⟨rfl | rfl | rfl, nop⟩
  · refine fe_s 3 (pc' := 14) (lc' := [(0, .ref 0), (1, .int (nI t)), (2, .int (nI P))]) (stk' := [.int 0]) (mem' := fm (upd g 2 0) tp bt a b) (by intro _ _ _; eq_refl) ?_
    refine fe_s 1 (pc' := cond (fx_cb .le 0 0) 23 17) (lc' := [(0, .ref 0), (1, .int (nI t)), (2, .int (nI P))]) (stk' := []) (mem' := fm (upd g 2 0) tp bt a b) (by intro _ _ _; eq_refl) ?_
    rw [show (fx_cb .le 0 0) = true from by decide]
    dsimp only [cond]
    refine fe_s 7 (pc' := 33) (lc' := [(0, .ref 0), (1, .int (nI t)), (2, .int (nI P))]) (stk' := [.int ((60 * (nI t)) + (nI P)), .ref 5]) (mem' := fm (upd g 2 0) tp bt a b) (by intro _ _ _; eq_refl) ?_
    rw [show ((60 * (nI t)) + (nI P) : Int32) = nI ((60 * t) + P) from by simp only [show (60 : Int32) = nI 60 from rfl, nI_add, fm_mul]]
    refine fe_ldL (by rfl) (by rfl) (fx_inN (i := (60 * t) + P) (by omega) (by omega)) ?_
    rw [show Int32.toNatClampNeg (nI ((60 * t) + P)) = (60 * t) + P from nI_clamp (by omega)]
    exact fe_ret ⟨_, 0, by decide, Or.inl ⟨t, P, ht, rfl, rfl, hP, hPz, rfl⟩, rfl⟩ (by rfl) (by rfl) (by rfl)
  · refine fe_s 3 (pc' := 14) (lc' := [(0, .ref 0), (1, .int x), (2, .int p)]) (stk' := [.int 1]) (mem' := fm (upd g 2 1) tp bt a b) (by intro _ _ _; eq_refl) ?_
    refine fe_s 1 (pc' := cond (fx_cb .le 1 0) 23 17) (lc' := [(0, .ref 0), (1, .int x), (2, .int p)]) (stk' := []) (mem' := fm (upd g 2 1) tp bt a b) (by intro _ _ _; eq_refl) ?_
    rw [show (fx_cb .le 1 0) = false from by decide]
    dsimp only [cond]
    refine fe_s 2 (pc' := 34) (lc' := [(0, .ref 0), (1, .int x), (2, .int p)]) (stk' := [.long (-1)]) (mem' := fm (upd g 2 1) tp bt a b) (by intro _ _ _; eq_refl) ?_
    exact fe_ret ⟨_, 1, by decide, Or.inr ⟨nop, by rfl⟩, rfl⟩ (by rfl) (by rfl) (by rfl)
  · refine fe_s 3 (pc' := 14) (lc' := [(0, .ref 0), (1, .int x), (2, .int p)]) (stk' := [.int 2]) (mem' := fm (upd g 2 2) tp bt a b) (by intro _ _ _; eq_refl) ?_
    refine fe_s 1 (pc' := cond (fx_cb .le 2 0) 23 17) (lc' := [(0, .ref 0), (1, .int x), (2, .int p)]) (stk' := []) (mem' := fm (upd g 2 2) tp bt a b) (by intro _ _ _; eq_refl) ?_
    rw [show (fx_cb .le 2 0) = false from by decide]
    dsimp only [cond]
    refine fe_s 2 (pc' := 34) (lc' := [(0, .ref 0), (1, .int x), (2, .int p)]) (stk' := [.long (-1)]) (mem' := fm (upd g 2 2) tp bt a b) (by intro _ _ _; eq_refl) ?_
    exact fe_ret ⟨_, 2, by decide, Or.inr ⟨nop, by rfl⟩, rfl⟩ (by rfl) (by rfl) (by rfl)
  · refine fe_s 3 (pc' := 14) (lc' := [(0, .ref 0), (1, .int x), (2, .int p)]) (stk' := [.int 3]) (mem' := fm (upd g 2 3) tp bt a b) (by intro _ _ _; eq_refl) ?_
    refine fe_s 1 (pc' := cond (fx_cb .le 3 0) 23 17) (lc' := [(0, .ref 0), (1, .int x), (2, .int p)]) (stk' := []) (mem' := fm (upd g 2 3) tp bt a b) (by intro _ _ _; eq_refl) ?_
    rw [show (fx_cb .le 3 0) = false from by decide]
    dsimp only [cond]
    refine fe_s 2 (pc' := 34) (lc' := [(0, .ref 0), (1, .int x), (2, .int p)]) (stk' := [.long (-1)]) (mem' := fm (upd g 2 3) tp bt a b) (by intro _ _ _; eq_refl) ?_
    exact fe_ret ⟨_, 3, by decide, Or.inr ⟨nop, by rfl⟩, rfl⟩ (by rfl) (by rfl) (by rfl)
/-- k numbers from i on are 0 -/
def tm_f (f : Nat → Int64) (i k : Nat) : Nat → Int64 := fun j => if i ≤ j ∧ j < i + k then 0 else f j
theorem tm_f0 (f : Nat → Int64) (i : Nat) : tm_f f i 0 = f := funext (fun _ => if_neg (by omega))
theorem tm_fs (f : Nat → Int64) (i k : Nat) : vp_updL (tm_f f i k) (i + k) 0 = tm_f f i (k + 1) := by
  funext j
  unfold vp_updL tm_f
  by_cases h : j = i + k
  · rw [if_pos h, if_pos (by omega)]
  · rw [if_neg h]
    by_cases h2 : i ≤ j ∧ j < i + k
    · rw [if_pos h2, if_pos (by omega)]
    · rw [if_neg h2, if_neg (by omega)]
theorem fm_uf_id (b : Nat → Nat → Int64) (j : Nat) : fm_uf b j (b j) = b := by
  funext k
  unfold fm_uf
  by_cases h : k = j
  · rw [if_pos h, h]
  · rw [if_neg h]
theorem ma_tray {x s m : Int32} : ∃ (v : Option Value) (mem' : fx_M), (fun R1 => ∃ (z st : Int32) (a' : Nat → Nat → Int32) (b' : Nat → Nat → Int64), (0 ≤ st.toInt ∧ st.toInt ≤ 9) ∧ ((∃ t M, t < 4 ∧ M ≤ 60 ∧ x = nI t ∧ m = nI M ∧ ty_ok x s m ∧ z = 1 ∧ a' = fm_u (fm_u a 3 t s) 4 t m ∧ b' = fm_uf b 5 (tm_f (b 5) (60 * t) M)) ∨ ¬ ty_ok x s m ∧ z = 0 ∧ a' = a ∧ b' = b) ∧ R1 = (some (.int z), fm (upd g 2 st) tp bt a' b')) (v, mem') ∧ fr_T 2 213 [.ref 0, .int x, .int s, .int m] (fm g tp bt a b) v mem' := by
  refine fe_meth (F := fun R1 => ∃ (z st : Int32) (a' : Nat → Nat → Int32) (b' : Nat → Nat → Int64), (0 ≤ st.toInt ∧ st.toInt ≤ 9) ∧ ((∃ t M, t < 4 ∧ M ≤ 60 ∧ x = nI t ∧ m = nI M ∧ ty_ok x s m ∧ z = 1 ∧ a' = fm_u (fm_u a 3 t s) 4 t m ∧ b' = fm_uf b 5 (tm_f (b 5) (60 * t) M)) ∨ ¬ ty_ok x s m ∧ z = 0 ∧ a' = a ∧ b' = b) ∧ R1 = (some (.int z), fm (upd g 2 st) tp bt a' b')) (M := gk_m213) (by rfl) (by rfl) ?_
  refine fe_s 1 (pc' := 1) (lc' := [(0, .ref 0), (1, .int x), (2, .int s), (3, .int m)]) (stk' := [.int x]) (mem' := fm g tp bt a b) (by intro _ _ _; eq_refl) ?_
  obtain ⟨vz1, memz1, ⟨xz1, hxz1, hRz1⟩, hfrz1⟩ := ma_isTray (x := x) (g := g) (tp := tp) (bt := bt) (a := a) (b := b)
  cases hRz1
  refine fe_ivS hfrz1 (by omega) (by rfl) (by rfl) (by rfl) (by rfl) (by rfl) ?_
  rcases hxz1 with ⟨rfl, not⟩ | ⟨rfl, t, ht, rfl⟩
  · refine fe_s 1 (pc' := cond (fx_cb .eq 0 0) 26 7) (lc' := [(0, .ref 0), (1, .int x), (2, .int s), (3, .int m)]) (stk' := []) (mem' := fm g tp bt a b) (by intro _ _ _; eq_refl) ?_
    rw [show (fx_cb .eq 0 0) = true from by decide]
    dsimp only [cond]
    refine fe_s 2 (pc' := 28) (lc' := [(0, .ref 0), (1, .int x), (2, .int s), (3, .int m)]) (stk' := [.int 1, .ref 0]) (mem' := fm g tp bt a b) (by intro _ _ _; eq_refl) ?_
    refine fe_ivV ma_is1 (by omega) (by rfl) (by rfl) (by rfl) (by rfl) (by rfl) (by rfl) ?_
    refine fe_ret ⟨0, 1, _, _, by decide, Or.inr ⟨fun z => ?_, rfl, rfl, rfl⟩, rfl⟩ (by rfl) (by rfl) (by rfl)
    obtain ⟨⟨z1, z2⟩, ⟨z3, z4⟩, z5, z6⟩ := z
    first | omega | exact not ⟨z1, by omega⟩
  · refine fe_s 1 (pc' := cond (fx_cb .eq 1 0) 26 7) (lc' := [(0, .ref 0), (1, .int (nI t)), (2, .int s), (3, .int m)]) (stk' := []) (mem' := fm g tp bt a b) (by intro _ _ _; eq_refl) ?_
    rw [show (fx_cb .eq 1 0) = false from by decide]
    dsimp only [cond]
    refine fe_s 1 (pc' := 8) (lc' := [(0, .ref 0), (1, .int (nI t)), (2, .int s), (3, .int m)]) (stk' := [.int s]) (mem' := fm g tp bt a b) (by intro _ _ _; eq_refl) ?_
    refine fe_s 1 (pc' := cond (fx_cb .lt s 0) 26 11) (lc' := [(0, .ref 0), (1, .int (nI t)), (2, .int s), (3, .int m)]) (stk' := []) (mem' := fm g tp bt a b) (by intro _ _ _; eq_refl) ?_
    cases h2 : fx_cb .lt s 0
    · refine fe_s 2 (pc' := 13) (lc' := [(0, .ref 0), (1, .int (nI t)), (2, .int s), (3, .int m)]) (stk' := [.int 3, .int s]) (mem' := fm g tp bt a b) (by intro _ _ _; eq_refl) ?_
      refine fe_s 1 (pc' := cond (fx_cb .gt s 3) 26 16) (lc' := [(0, .ref 0), (1, .int (nI t)), (2, .int s), (3, .int m)]) (stk' := []) (mem' := fm g tp bt a b) (by intro _ _ _; eq_refl) ?_
      cases h3 : fx_cb .gt s 3
      · refine fe_s 1 (pc' := 17) (lc' := [(0, .ref 0), (1, .int (nI t)), (2, .int s), (3, .int m)]) (stk' := [.int m]) (mem' := fm g tp bt a b) (by intro _ _ _; eq_refl) ?_
        refine fe_s 1 (pc' := cond (fx_cb .lt m 0) 26 20) (lc' := [(0, .ref 0), (1, .int (nI t)), (2, .int s), (3, .int m)]) (stk' := []) (mem' := fm g tp bt a b) (by intro _ _ _; eq_refl) ?_
        cases h4 : fx_cb .lt m 0
        · refine fe_s 2 (pc' := 23) (lc' := [(0, .ref 0), (1, .int (nI t)), (2, .int s), (3, .int m)]) (stk' := [.int 60, .int m]) (mem' := fm g tp bt a b) (by intro _ _ _; eq_refl) ?_
          refine fe_s 1 (pc' := cond (fx_cb .le m 60) 32 26) (lc' := [(0, .ref 0), (1, .int (nI t)), (2, .int s), (3, .int m)]) (stk' := []) (mem' := fm g tp bt a b) (by intro _ _ _; eq_refl) ?_
          cases h5 : fx_cb .le m 60
          · refine fe_s 2 (pc' := 28) (lc' := [(0, .ref 0), (1, .int (nI t)), (2, .int s), (3, .int m)]) (stk' := [.int 1, .ref 0]) (mem' := fm g tp bt a b) (by intro _ _ _; eq_refl) ?_
            refine fe_ivV ma_is1 (by omega) (by rfl) (by rfl) (by rfl) (by rfl) (by rfl) (by rfl) ?_
            have q0 : (0 : Int) ≤ (s).toInt := tc_ltF h2
            have q1 : (s).toInt ≤ 3 := tc_gtF h3
            have q2 : (0 : Int) ≤ (m).toInt := tc_ltF h4
            have q3 : (60 : Int) < (m).toInt := tc_leF h5
            refine fe_ret ⟨0, 1, _, _, by decide, Or.inr ⟨fun z => ?_, rfl, rfl, rfl⟩, rfl⟩ (by rfl) (by rfl) (by rfl)
            obtain ⟨⟨z1, z2⟩, ⟨z3, z4⟩, z5, z6⟩ := z
            first | omega | exact not ⟨z1, by omega⟩
          · refine fe_s 4 (pc' := 38) (lc' := [(0, .ref 0), (1, .int (nI t)), (2, .int s), (3, .int m)]) (stk' := [.int s, .int (nI t), .ref 3]) (mem' := fm g tp bt a b) (by intro _ _ _; eq_refl) ?_
            refine fe_stI (mem' := fm g tp bt (fm_u a 3 (nI t : Int32).toNatClampNeg s) b) (by rfl) (by rfl) (fx_inN (i := t) (by omega) (by omega)) fm_si3 ?_
            rw [show Int32.toNatClampNeg (nI t) = t from nI_clamp (by omega)]
            refine fe_s 4 (pc' := 45) (lc' := [(0, .ref 0), (1, .int (nI t)), (2, .int s), (3, .int m)]) (stk' := [.int m, .int (nI t), .ref 4]) (mem' := fm g tp bt (fm_u a 3 t s) b) (by intro _ _ _; eq_refl) ?_
            refine fe_stI (mem' := fm g tp bt (fm_u (fm_u a 3 t s) 4 (nI t : Int32).toNatClampNeg m) b) (by rfl) (by rfl) (fx_inN (i := t) (by omega) (by omega)) fm_si4 ?_
            rw [show Int32.toNatClampNeg (nI t) = t from nI_clamp (by omega)]
            refine fe_s 2 (pc' := 49) (lc' := [(4, .int 0), (0, .ref 0), (1, .int (nI t)), (2, .int s), (3, .int m)]) (stk' := []) (mem' := fm g tp bt (fm_u (fm_u a 3 t s) 4 t m) b) (by intro _ _ _; eq_refl) ?_
            have q0 : (0 : Int) ≤ (s).toInt := tc_ltF h2
            have q1 : (s).toInt ≤ 3 := tc_gtF h3
            have q2 : (0 : Int) ≤ (m).toInt := tc_ltF h4
            have q3 : (m).toInt ≤ 60 := tc_le h5
            obtain ⟨M, hM, rfl⟩ := nI_bd (x := m) (n := 60) (by omega) (by omega)
            have e1 := nI_i32 (n := t) (by omega)
            have e2 := nI_i32 (n := M) (by omega)
            have loop : ∀ (r k : Nat), k + r = M → fe_R 1 gk_m213 49 [(4, .int (nI k)), (0, .ref 0), (1, .int (nI t)), (2, .int s), (3, .int (nI M))] [] (fm g tp bt (fm_u (fm_u a 3 t s) 4 t (nI M)) (fm_uf b 5 (tm_f (b 5) (60 * t) k))) (fun R1 => ∃ (z st : Int32) (a' : Nat → Nat → Int32) (b' : Nat → Nat → Int64), (0 ≤ st.toInt ∧ st.toInt ≤ 9) ∧ ((∃ t2 M2, t2 < 4 ∧ M2 ≤ 60 ∧ nI t = nI t2 ∧ nI M = nI M2 ∧ ty_ok (nI t) s (nI M) ∧ z = 1 ∧ a' = fm_u (fm_u a 3 t2 s) 4 t2 (nI M) ∧ b' = fm_uf b 5 (tm_f (b 5) (60 * t2) M2)) ∨ ¬ ty_ok (nI t) s (nI M) ∧ z = 0 ∧ a' = a ∧ b' = b) ∧ R1 = (some (.int z), fm (upd g 2 st) tp bt a' b')) := by
              intro r
              induction r with
              | zero =>
                intro k hk
                obtain rfl : k = M := by omega
                refine fe_s 3 (pc' := cond (fx_cb .ge (nI k) (nI k)) 74 55) (lc' := [(4, .int (nI k)), (0, .ref 0), (1, .int (nI t)), (2, .int s), (3, .int (nI k))]) (stk' := []) (mem' := fm g tp bt (fm_u (fm_u a 3 t s) 4 t (nI k)) (fm_uf b 5 (tm_f (b 5) (60 * t) k))) (by intro _ _ _; eq_refl) ?_
                rw [show (fx_cb .ge (nI k) (nI k)) = true from cb_geT (a := k) (b := k) (by omega) (by omega) (by omega)]
                dsimp only [cond]
                refine fe_s 2 (pc' := 76) (lc' := [(4, .int (nI k)), (0, .ref 0), (1, .int (nI t)), (2, .int s), (3, .int (nI k))]) (stk' := [.int 0, .ref 0]) (mem' := fm g tp bt (fm_u (fm_u a 3 t s) 4 t (nI k)) (fm_uf b 5 (tm_f (b 5) (60 * t) k))) (by intro _ _ _; eq_refl) ?_
                refine fe_ivV ma_is0 (by omega) (by rfl) (by rfl) (by rfl) (by rfl) (by rfl) (by rfl) ?_
                exact fe_ret ⟨1, 0, _, _, by decide, Or.inl ⟨t, k, ht, hM, rfl, rfl, ⟨⟨by omega, by omega⟩, ⟨by omega, by omega⟩, by omega, by omega⟩, rfl, rfl, rfl⟩, rfl⟩ (by rfl) (by rfl) (by rfl)
              | succ r ih =>
                intro k hk
                refine fe_s 3 (pc' := cond (fx_cb .ge (nI k) (nI M)) 74 55) (lc' := [(4, .int (nI k)), (0, .ref 0), (1, .int (nI t)), (2, .int s), (3, .int (nI M))]) (stk' := []) (mem' := fm g tp bt (fm_u (fm_u a 3 t s) 4 t (nI M)) (fm_uf b 5 (tm_f (b 5) (60 * t) k))) (by intro _ _ _; eq_refl) ?_
                rw [show (fx_cb .ge (nI k) (nI M)) = false from cb_geF (a := k) (b := M) (by omega) (by omega) (by omega)]
                dsimp only [cond]
                refine fe_s 8 (pc' := 67) (lc' := [(4, .int (nI k)), (0, .ref 0), (1, .int (nI t)), (2, .int s), (3, .int (nI M))]) (stk' := [.long 0, .int (60 * nI t + nI k), .ref 5]) (mem' := fm g tp bt (fm_u (fm_u a 3 t s) 4 t (nI M)) (fm_uf b 5 (tm_f (b 5) (60 * t) k))) (by intro _ _ _; eq_refl) ?_
                rw [show (60 * nI t + nI k : Int32) = nI (60 * t + k) from by simp only [show (60 : Int32) = nI 60 from rfl, nI_add, fm_mul]]
                refine fe_stL (mem' := fm g tp bt (fm_u (fm_u a 3 t s) 4 t (nI M)) (fm_uf (fm_uf b 5 (tm_f (b 5) (60 * t) k)) 5 (vp_updL (tm_f (b 5) (60 * t) k) (nI (60 * t + k)).toNatClampNeg 0))) (by rfl) (by rfl) (fx_inN (i := 60 * t + k) (by omega) (by omega)) fm_sl5 ?_
                rw [show Int32.toNatClampNeg (nI (60 * t + k)) = 60 * t + k from nI_clamp (by omega), tm_fs, fm_uf_uf]
                refine fe_s 2 (pc' := 49) (lc' := [(4, .int (nI k + 1)), (0, .ref 0), (1, .int (nI t)), (2, .int s), (3, .int (nI M))]) (stk' := []) (mem' := fm g tp bt (fm_u (fm_u a 3 t s) 4 t (nI M)) (fm_uf b 5 (tm_f (b 5) (60 * t) (k + 1)))) (by intro _ _ _; eq_refl) ?_
                rw [show nI k + 1 = nI (k + 1) from nI_add k 1]
                exact ih (k + 1) (by omega)
            have h0 := loop M 0 (by omega)
            rw [tm_f0, fm_uf_id] at h0
            refine fe_w (lc' := [(4, .int (nI 0)), (0, .ref 0), (1, .int (nI t)), (2, .int s), (3, .int (nI M))]) ⟨rfl, rfl, rfl, rfl, rfl, trivial⟩ (by show List.Nodup [4, 0, 1, 2, 3]; decide) (by show List.Nodup [4, 0, 1, 2, 3]; decide) h0
        · refine fe_s 2 (pc' := 28) (lc' := [(0, .ref 0), (1, .int (nI t)), (2, .int s), (3, .int m)]) (stk' := [.int 1, .ref 0]) (mem' := fm g tp bt a b) (by intro _ _ _; eq_refl) ?_
          refine fe_ivV ma_is1 (by omega) (by rfl) (by rfl) (by rfl) (by rfl) (by rfl) (by rfl) ?_
          have q0 : (0 : Int) ≤ (s).toInt := tc_ltF h2
          have q1 : (s).toInt ≤ 3 := tc_gtF h3
          have q2 : (m).toInt < 0 := tc_lt h4
          refine fe_ret ⟨0, 1, _, _, by decide, Or.inr ⟨fun z => ?_, rfl, rfl, rfl⟩, rfl⟩ (by rfl) (by rfl) (by rfl)
          obtain ⟨⟨z1, z2⟩, ⟨z3, z4⟩, z5, z6⟩ := z
          first | omega | exact not ⟨z1, by omega⟩
      · refine fe_s 2 (pc' := 28) (lc' := [(0, .ref 0), (1, .int (nI t)), (2, .int s), (3, .int m)]) (stk' := [.int 1, .ref 0]) (mem' := fm g tp bt a b) (by intro _ _ _; eq_refl) ?_
        refine fe_ivV ma_is1 (by omega) (by rfl) (by rfl) (by rfl) (by rfl) (by rfl) (by rfl) ?_
        have q0 : (0 : Int) ≤ (s).toInt := tc_ltF h2
        have q1 : (3 : Int) < (s).toInt := tc_gt h3
        refine fe_ret ⟨0, 1, _, _, by decide, Or.inr ⟨fun z => ?_, rfl, rfl, rfl⟩, rfl⟩ (by rfl) (by rfl) (by rfl)
        obtain ⟨⟨z1, z2⟩, ⟨z3, z4⟩, z5, z6⟩ := z
        first | omega | exact not ⟨z1, by omega⟩
    · refine fe_s 2 (pc' := 28) (lc' := [(0, .ref 0), (1, .int (nI t)), (2, .int s), (3, .int m)]) (stk' := [.int 1, .ref 0]) (mem' := fm g tp bt a b) (by intro _ _ _; eq_refl) ?_
      refine fe_ivV ma_is1 (by omega) (by rfl) (by rfl) (by rfl) (by rfl) (by rfl) (by rfl) ?_
      have q0 : (s).toInt < 0 := tc_lt h2
      refine fe_ret ⟨0, 1, _, _, by decide, Or.inr ⟨fun z => ?_, rfl, rfl, rfl⟩, rfl⟩ (by rfl) (by rfl) (by rfl)
      obtain ⟨⟨z1, z2⟩, ⟨z3, z4⟩, z5, z6⟩ := z
      first | omega | exact not ⟨z1, by omega⟩
theorem tp_sub {x y : Int32} (h : 0 ≤ y.toInt) (h2 : -1 ≤ x.toInt) : (x - y).toInt = x.toInt - y.toInt := by
  rw [Int32.toInt_sub]
  have a := Int32.le_toInt y
  have b := Int32.toInt_lt y
  have c := Int32.toInt_lt x
  exact Int.bmod_eq_of_le (by omega) (by omega)
theorem tpc_0 (f : Nat → Int64) (s d : Nat) : va_cpy f f s d 0 = f := funext (fun _ => if_neg (by omega))
theorem tpc_up (f : Nat → Int64) (s d k : Nat) (h : ¬ (d ≤ s + k ∧ s + k < d + k)) : vp_updL (va_cpy f f s d k) (d + k) (va_cpy f f s d k (s + k)) = va_cpy f f s d (k + 1) := by
  have e : va_cpy f f s d k (s + k) = f (s + k) := if_neg h
  rw [e]
  funext j
  unfold vp_updL va_cpy
  by_cases h1 : j = d + k
  · rw [if_pos h1, if_pos (by omega), h1, show d + k - d = k from by omega]
  · rw [if_neg h1]
    by_cases h2 : d ≤ j ∧ j < d + k
    · rw [if_pos h2, if_pos (by omega)]
    · rw [if_neg h2, if_neg (by omega)]
theorem tpc_dn (f : Nat → Int64) (s d n k : Nat) (hk : k < n) (h : ¬ (d + (n - k) ≤ s + (n - 1 - k) ∧ s + (n - 1 - k) < d + (n - k) + k)) : vp_updL (va_cpy f f (s + (n - k)) (d + (n - k)) k) (d + (n - 1 - k)) (va_cpy f f (s + (n - k)) (d + (n - k)) k (s + (n - 1 - k))) = va_cpy f f (s + (n - (k + 1))) (d + (n - (k + 1))) (k + 1) := by
  have e : va_cpy f f (s + (n - k)) (d + (n - k)) k (s + (n - 1 - k)) = f (s + (n - 1 - k)) := if_neg h
  rw [e]
  funext j
  unfold vp_updL va_cpy
  by_cases h1 : j = d + (n - 1 - k)
  · rw [if_pos h1, if_pos (by omega), h1, show s + (n - (k + 1)) + (d + (n - 1 - k) - (d + (n - (k + 1)))) = s + (n - 1 - k) from by omega]
  · rw [if_neg h1]
    by_cases h2 : d + (n - k) ≤ j ∧ j < d + (n - k) + k
    · rw [if_pos h2, if_pos (by omega), show s + (n - k) + (j - (d + (n - k))) = s + (n - (k + 1)) + (j - (d + (n - (k + 1)))) from by omega]
    · rw [if_neg h2, if_neg (by omega)]
theorem ma_pour {x p y q n : Int32} (hz : ∀ t, t < 4 → -1 ≤ (a 4 t).toInt ∧ (a 4 t).toInt ≤ 60) : ∃ (v : Option Value) (mem' : fx_M), (fun R1 => ∃ (z st : Int32) (b' : Nat → Nat → Int64), (0 ≤ st.toInt ∧ st.toInt ≤ 9) ∧ ((∃ t u P Q N, t < 4 ∧ u < 4 ∧ x = nI t ∧ y = nI u ∧ p = nI P ∧ q = nI Q ∧ n = nI N ∧ (P + N : Nat) ≤ (a 4 t).toInt ∧ (Q + N : Nat) ≤ (a 4 u).toInt ∧ a 3 t = a 3 u ∧ z = 1 ∧ b' = fm_uf b 5 (va_cpy (b 5) (b 5) (60 * t + P) (60 * u + Q) N)) ∨ ¬ pr_ok (a 4) (a 3) x p y q n ∧ z = 0 ∧ b' = b) ∧ R1 = (some (.int z), fm (upd g 2 st) tp bt a b')) (v, mem') ∧ fr_T 2 217 [.ref 0, .int x, .int p, .int y, .int q, .int n] (fm g tp bt a b) v mem' := by
  refine fe_meth (F := fun R1 => ∃ (z st : Int32) (b' : Nat → Nat → Int64), (0 ≤ st.toInt ∧ st.toInt ≤ 9) ∧ ((∃ t u P Q N, t < 4 ∧ u < 4 ∧ x = nI t ∧ y = nI u ∧ p = nI P ∧ q = nI Q ∧ n = nI N ∧ (P + N : Nat) ≤ (a 4 t).toInt ∧ (Q + N : Nat) ≤ (a 4 u).toInt ∧ a 3 t = a 3 u ∧ z = 1 ∧ b' = fm_uf b 5 (va_cpy (b 5) (b 5) (60 * t + P) (60 * u + Q) N)) ∨ ¬ pr_ok (a 4) (a 3) x p y q n ∧ z = 0 ∧ b' = b) ∧ R1 = (some (.int z), fm (upd g 2 st) tp bt a b')) (M := gk_m217) (by rfl) (by rfl) ?_
  refine fe_s 1 (pc' := 1) (lc' := [(0, .ref 0), (1, .int x), (2, .int p), (3, .int y), (4, .int q), (5, .int n)]) (stk' := [.int x]) (mem' := fm g tp bt a b) (by intro _ _ _; eq_refl) ?_
  obtain ⟨vz1, memz1, ⟨xz1, hxz1, hRz1⟩, hfrz1⟩ := ma_isTray (x := x) (g := g) (tp := tp) (bt := bt) (a := a) (b := b)
  cases hRz1
  refine fe_ivS hfrz1 (by omega) (by rfl) (by rfl) (by rfl) (by rfl) (by rfl) ?_
  rcases hxz1 with ⟨rfl, not⟩ | ⟨rfl, t, ht, rfl⟩
  · refine fe_s 1 (pc' := cond (fx_cb .eq 0 0) 28 7) (lc' := [(0, .ref 0), (1, .int x), (2, .int p), (3, .int y), (4, .int q), (5, .int n)]) (stk' := []) (mem' := fm g tp bt a b) (by intro _ _ _; eq_refl) ?_
    rw [show (fx_cb .eq 0 0) = true from by decide]
    dsimp only [cond]
    refine fe_s 2 (pc' := 30) (lc' := [(0, .ref 0), (1, .int x), (2, .int p), (3, .int y), (4, .int q), (5, .int n)]) (stk' := [.int 1, .ref 0]) (mem' := fm g tp bt a b) (by intro _ _ _; eq_refl) ?_
    refine fe_ivV ma_is1 (by omega) (by rfl) (by rfl) (by rfl) (by rfl) (by rfl) (by rfl) ?_
    exact fe_ret ⟨0, 1, _, by decide, Or.inr ⟨pr_no1 not, rfl, rfl⟩, rfl⟩ (by rfl) (by rfl) (by rfl)
  · refine fe_s 1 (pc' := cond (fx_cb .eq 1 0) 28 7) (lc' := [(0, .ref 0), (1, .int (nI t)), (2, .int p), (3, .int y), (4, .int q), (5, .int n)]) (stk' := []) (mem' := fm g tp bt a b) (by intro _ _ _; eq_refl) ?_
    rw [show (fx_cb .eq 1 0) = false from by decide]
    dsimp only [cond]
    refine fe_s 1 (pc' := 8) (lc' := [(0, .ref 0), (1, .int (nI t)), (2, .int p), (3, .int y), (4, .int q), (5, .int n)]) (stk' := [.int y]) (mem' := fm g tp bt a b) (by intro _ _ _; eq_refl) ?_
    obtain ⟨vz2, memz2, ⟨xz2, hxz2, hRz2⟩, hfrz2⟩ := ma_isTray (x := y) (g := g) (tp := tp) (bt := bt) (a := a) (b := b)
    cases hRz2
    refine fe_ivS hfrz2 (by omega) (by rfl) (by rfl) (by rfl) (by rfl) (by rfl) ?_
    rcases hxz2 with ⟨rfl, nou⟩ | ⟨rfl, u, hu, rfl⟩
    · refine fe_s 1 (pc' := cond (fx_cb .eq 0 0) 28 14) (lc' := [(0, .ref 0), (1, .int (nI t)), (2, .int p), (3, .int y), (4, .int q), (5, .int n)]) (stk' := []) (mem' := fm g tp bt a b) (by intro _ _ _; eq_refl) ?_
      rw [show (fx_cb .eq 0 0) = true from by decide]
      dsimp only [cond]
      refine fe_s 2 (pc' := 30) (lc' := [(0, .ref 0), (1, .int (nI t)), (2, .int p), (3, .int y), (4, .int q), (5, .int n)]) (stk' := [.int 1, .ref 0]) (mem' := fm g tp bt a b) (by intro _ _ _; eq_refl) ?_
      refine fe_ivV ma_is1 (by omega) (by rfl) (by rfl) (by rfl) (by rfl) (by rfl) (by rfl) ?_
      exact fe_ret ⟨0, 1, _, by decide, Or.inr ⟨pr_no2 nou, rfl, rfl⟩, rfl⟩ (by rfl) (by rfl) (by rfl)
    · refine fe_s 1 (pc' := cond (fx_cb .eq 1 0) 28 14) (lc' := [(0, .ref 0), (1, .int (nI t)), (2, .int p), (3, .int (nI u)), (4, .int q), (5, .int n)]) (stk' := []) (mem' := fm g tp bt a b) (by intro _ _ _; eq_refl) ?_
      rw [show (fx_cb .eq 1 0) = false from by decide]
      dsimp only [cond]
      refine fe_s 1 (pc' := 15) (lc' := [(0, .ref 0), (1, .int (nI t)), (2, .int p), (3, .int (nI u)), (4, .int q), (5, .int n)]) (stk' := [.int p]) (mem' := fm g tp bt a b) (by intro _ _ _; eq_refl) ?_
      refine fe_s 1 (pc' := cond (fx_cb .lt p 0) 28 18) (lc' := [(0, .ref 0), (1, .int (nI t)), (2, .int p), (3, .int (nI u)), (4, .int q), (5, .int n)]) (stk' := []) (mem' := fm g tp bt a b) (by intro _ _ _; eq_refl) ?_
      cases h3 : fx_cb .lt p 0
      · refine fe_s 1 (pc' := 20) (lc' := [(0, .ref 0), (1, .int (nI t)), (2, .int p), (3, .int (nI u)), (4, .int q), (5, .int n)]) (stk' := [.int q]) (mem' := fm g tp bt a b) (by intro _ _ _; eq_refl) ?_
        refine fe_s 1 (pc' := cond (fx_cb .lt q 0) 28 23) (lc' := [(0, .ref 0), (1, .int (nI t)), (2, .int p), (3, .int (nI u)), (4, .int q), (5, .int n)]) (stk' := []) (mem' := fm g tp bt a b) (by intro _ _ _; eq_refl) ?_
        cases h4 : fx_cb .lt q 0
        · refine fe_s 1 (pc' := 25) (lc' := [(0, .ref 0), (1, .int (nI t)), (2, .int p), (3, .int (nI u)), (4, .int q), (5, .int n)]) (stk' := [.int n]) (mem' := fm g tp bt a b) (by intro _ _ _; eq_refl) ?_
          refine fe_s 1 (pc' := cond (fx_cb .ge n 0) 34 28) (lc' := [(0, .ref 0), (1, .int (nI t)), (2, .int p), (3, .int (nI u)), (4, .int q), (5, .int n)]) (stk' := []) (mem' := fm g tp bt a b) (by intro _ _ _; eq_refl) ?_
          cases h5 : fx_cb .ge n 0
          · refine fe_s 2 (pc' := 30) (lc' := [(0, .ref 0), (1, .int (nI t)), (2, .int p), (3, .int (nI u)), (4, .int q), (5, .int n)]) (stk' := [.int 1, .ref 0]) (mem' := fm g tp bt a b) (by intro _ _ _; eq_refl) ?_
            refine fe_ivV ma_is1 (by omega) (by rfl) (by rfl) (by rfl) (by rfl) (by rfl) (by rfl) ?_
            have hzt := hz t ht
            have hzu := hz u hu
            have q0 : (0 : Int) ≤ (p).toInt := tc_ltF h3
            have q1 : (0 : Int) ≤ (q).toInt := tc_ltF h4
            have q2 : (n).toInt < 0 := tc_geF h5
            refine fe_ret ⟨0, 1, _, by decide, Or.inr ⟨pr_no ht hu (fun z => ?_), rfl, rfl⟩, rfl⟩ (by rfl) (by rfl) (by rfl)
            obtain ⟨z1, z2, z3, z4, z5, -, z7, z8⟩ := z
            have s1 := tp_sub (x := a 4 t) (y := p) (by omega) (by omega)
            have s2 := tp_sub (x := a 4 u) (y := q) (by omega) (by omega)
            omega
          · refine fe_s 3 (pc' := 39) (lc' := [(0, .ref 0), (1, .int (nI t)), (2, .int p), (3, .int (nI u)), (4, .int q), (5, .int n)]) (stk' := [.int (nI t), .ref 4]) (mem' := fm g tp bt a b) (by intro _ _ _; eq_refl) ?_
            refine fe_ldI (by rfl) (by rfl) (fx_inN (i := t) (by omega) (by omega)) ?_
            rw [show Int32.toNatClampNeg (nI t) = t from nI_clamp (by omega)]
            refine fe_s 1 (pc' := 41) (lc' := [(0, .ref 0), (1, .int (nI t)), (2, .int p), (3, .int (nI u)), (4, .int q), (5, .int n)]) (stk' := [.int (-1), .int (a 4 t)]) (mem' := fm g tp bt a b) (by intro _ _ _; eq_refl) ?_
            refine fe_s 1 (pc' := cond (fx_cb .eq (a 4 t) (-1)) 54 44) (lc' := [(0, .ref 0), (1, .int (nI t)), (2, .int p), (3, .int (nI u)), (4, .int q), (5, .int n)]) (stk' := []) (mem' := fm g tp bt a b) (by intro _ _ _; eq_refl) ?_
            cases h6 : fx_cb .eq (a 4 t) (-1)
            · refine fe_s 3 (pc' := 49) (lc' := [(0, .ref 0), (1, .int (nI t)), (2, .int p), (3, .int (nI u)), (4, .int q), (5, .int n)]) (stk' := [.int (nI u), .ref 4]) (mem' := fm g tp bt a b) (by intro _ _ _; eq_refl) ?_
              refine fe_ldI (by rfl) (by rfl) (fx_inN (i := u) (by omega) (by omega)) ?_
              rw [show Int32.toNatClampNeg (nI u) = u from nI_clamp (by omega)]
              refine fe_s 1 (pc' := 51) (lc' := [(0, .ref 0), (1, .int (nI t)), (2, .int p), (3, .int (nI u)), (4, .int q), (5, .int n)]) (stk' := [.int (-1), .int (a 4 u)]) (mem' := fm g tp bt a b) (by intro _ _ _; eq_refl) ?_
              refine fe_s 1 (pc' := cond (fx_cb .ne (a 4 u) (-1)) 60 54) (lc' := [(0, .ref 0), (1, .int (nI t)), (2, .int p), (3, .int (nI u)), (4, .int q), (5, .int n)]) (stk' := []) (mem' := fm g tp bt a b) (by intro _ _ _; eq_refl) ?_
              cases h7 : fx_cb .ne (a 4 u) (-1)
              · refine fe_s 2 (pc' := 56) (lc' := [(0, .ref 0), (1, .int (nI t)), (2, .int p), (3, .int (nI u)), (4, .int q), (5, .int n)]) (stk' := [.int 2, .ref 0]) (mem' := fm g tp bt a b) (by intro _ _ _; eq_refl) ?_
                refine fe_ivV ma_is2 (by omega) (by rfl) (by rfl) (by rfl) (by rfl) (by rfl) (by rfl) ?_
                have hzt := hz t ht
                have hzu := hz u hu
                have q0 : (0 : Int) ≤ (p).toInt := tc_ltF h3
                have q1 : (0 : Int) ≤ (q).toInt := tc_ltF h4
                have q2 : (0 : Int) ≤ (n).toInt := tc_ge h5
                have q3 : ¬ (a 4 t).toInt = (-1) := fun z => (of_decide_eq_false h6) (Int32.toInt_inj.mp z)
                have q4 : (a 4 u).toInt = (-1) := congrArg Int32.toInt (tc_ne h7)
                refine fe_ret ⟨0, 2, _, by decide, Or.inr ⟨pr_no ht hu (fun z => ?_), rfl, rfl⟩, rfl⟩ (by rfl) (by rfl) (by rfl)
                obtain ⟨z1, z2, z3, z4, z5, -, z7, z8⟩ := z
                have s1 := tp_sub (x := a 4 t) (y := p) (by omega) (by omega)
                have s2 := tp_sub (x := a 4 u) (y := q) (by omega) (by omega)
                omega
              · refine fe_s 3 (pc' := 65) (lc' := [(0, .ref 0), (1, .int (nI t)), (2, .int p), (3, .int (nI u)), (4, .int q), (5, .int n)]) (stk' := [.int (nI t), .ref 3]) (mem' := fm g tp bt a b) (by intro _ _ _; eq_refl) ?_
                refine fe_ldI (by rfl) (by rfl) (fx_inN (i := t) (by omega) (by omega)) ?_
                rw [show Int32.toNatClampNeg (nI t) = t from nI_clamp (by omega)]
                refine fe_s 3 (pc' := 71) (lc' := [(0, .ref 0), (1, .int (nI t)), (2, .int p), (3, .int (nI u)), (4, .int q), (5, .int n)]) (stk' := [.int (nI u), .ref 3, .int (a 3 t)]) (mem' := fm g tp bt a b) (by intro _ _ _; eq_refl) ?_
                refine fe_ldI (by rfl) (by rfl) (fx_inN (i := u) (by omega) (by omega)) ?_
                rw [show Int32.toNatClampNeg (nI u) = u from nI_clamp (by omega)]
                refine fe_s 1 (pc' := cond (fx_cb .eq (a 3 t) (a 3 u)) 82 75) (lc' := [(0, .ref 0), (1, .int (nI t)), (2, .int p), (3, .int (nI u)), (4, .int q), (5, .int n)]) (stk' := []) (mem' := fm g tp bt a b) (by intro _ _ _; eq_refl) ?_
                cases h8 : fx_cb .eq (a 3 t) (a 3 u)
                · refine fe_s 2 (pc' := 78) (lc' := [(0, .ref 0), (1, .int (nI t)), (2, .int p), (3, .int (nI u)), (4, .int q), (5, .int n)]) (stk' := [.int 8, .ref 0]) (mem' := fm g tp bt a b) (by intro _ _ _; eq_refl) ?_
                  refine fe_ivV ma_is8 (by omega) (by rfl) (by rfl) (by rfl) (by rfl) (by rfl) (by rfl) ?_
                  have hzt := hz t ht
                  have hzu := hz u hu
                  exact fe_ret ⟨0, 8, _, by decide, Or.inr ⟨pr_no ht hu (fun z => of_decide_eq_false h8 z.2.2.2.2.2.1), rfl, rfl⟩, rfl⟩ (by rfl) (by rfl) (by rfl)
                · refine fe_s 4 (pc' := 89) (lc' := [(0, .ref 0), (1, .int (nI t)), (2, .int p), (3, .int (nI u)), (4, .int q), (5, .int n)]) (stk' := [.int (nI t), .ref 4, .int n]) (mem' := fm g tp bt a b) (by intro _ _ _; eq_refl) ?_
                  refine fe_ldI (by rfl) (by rfl) (fx_inN (i := t) (by omega) (by omega)) ?_
                  rw [show Int32.toNatClampNeg (nI t) = t from nI_clamp (by omega)]
                  refine fe_s 2 (pc' := 92) (lc' := [(0, .ref 0), (1, .int (nI t)), (2, .int p), (3, .int (nI u)), (4, .int q), (5, .int n)]) (stk' := [.int ((a 4 t) - p), .int n]) (mem' := fm g tp bt a b) (by intro _ _ _; eq_refl) ?_
                  refine fe_s 1 (pc' := cond (fx_cb .gt n ((a 4 t) - p)) 109 95) (lc' := [(0, .ref 0), (1, .int (nI t)), (2, .int p), (3, .int (nI u)), (4, .int q), (5, .int n)]) (stk' := []) (mem' := fm g tp bt a b) (by intro _ _ _; eq_refl) ?_
                  cases h9 : fx_cb .gt n ((a 4 t) - p)
                  · refine fe_s 4 (pc' := 102) (lc' := [(0, .ref 0), (1, .int (nI t)), (2, .int p), (3, .int (nI u)), (4, .int q), (5, .int n)]) (stk' := [.int (nI u), .ref 4, .int n]) (mem' := fm g tp bt a b) (by intro _ _ _; eq_refl) ?_
                    refine fe_ldI (by rfl) (by rfl) (fx_inN (i := u) (by omega) (by omega)) ?_
                    rw [show Int32.toNatClampNeg (nI u) = u from nI_clamp (by omega)]
                    refine fe_s 2 (pc' := 106) (lc' := [(0, .ref 0), (1, .int (nI t)), (2, .int p), (3, .int (nI u)), (4, .int q), (5, .int n)]) (stk' := [.int ((a 4 u) - q), .int n]) (mem' := fm g tp bt a b) (by intro _ _ _; eq_refl) ?_
                    refine fe_s 1 (pc' := cond (fx_cb .le n ((a 4 u) - q)) 115 109) (lc' := [(0, .ref 0), (1, .int (nI t)), (2, .int p), (3, .int (nI u)), (4, .int q), (5, .int n)]) (stk' := []) (mem' := fm g tp bt a b) (by intro _ _ _; eq_refl) ?_
                    cases h10 : fx_cb .le n ((a 4 u) - q)
                    · refine fe_s 2 (pc' := 111) (lc' := [(0, .ref 0), (1, .int (nI t)), (2, .int p), (3, .int (nI u)), (4, .int q), (5, .int n)]) (stk' := [.int 3, .ref 0]) (mem' := fm g tp bt a b) (by intro _ _ _; eq_refl) ?_
                      refine fe_ivV ma_is3 (by omega) (by rfl) (by rfl) (by rfl) (by rfl) (by rfl) (by rfl) ?_
                      have hzt := hz t ht
                      have hzu := hz u hu
                      have q0 : (0 : Int) ≤ (p).toInt := tc_ltF h3
                      have q1 : (0 : Int) ≤ (q).toInt := tc_ltF h4
                      have q2 : (0 : Int) ≤ (n).toInt := tc_ge h5
                      have q3 : ¬ (a 4 t).toInt = (-1) := fun z => (of_decide_eq_false h6) (Int32.toInt_inj.mp z)
                      have q4 : ¬ (a 4 u).toInt = (-1) := fun z => (tc_neT h7) (Int32.toInt_inj.mp z)
                      have q6 : (n).toInt ≤ ((a 4 t) - p).toInt := tc_gtF h9
                      have q7 : ((a 4 u) - q).toInt < (n).toInt := tc_leF h10
                      refine fe_ret ⟨0, 3, _, by decide, Or.inr ⟨pr_no ht hu (fun z => ?_), rfl, rfl⟩, rfl⟩ (by rfl) (by rfl) (by rfl)
                      obtain ⟨z1, z2, z3, z4, z5, -, z7, z8⟩ := z
                      have s1 := tp_sub (x := a 4 t) (y := p) (by omega) (by omega)
                      have s2 := tp_sub (x := a 4 u) (y := q) (by omega) (by omega)
                      omega
                    · refine fe_s 2 (pc' := 118) (lc' := [(6, .int 0), (0, .ref 0), (1, .int (nI t)), (2, .int p), (3, .int (nI u)), (4, .int q), (5, .int n)]) (stk' := []) (mem' := fm g tp bt a b) (by intro _ _ _; eq_refl) ?_
                      have q0 : (0 : Int) ≤ (p).toInt := tc_ltF h3
                      have q1 : (0 : Int) ≤ (q).toInt := tc_ltF h4
                      have q2 : (0 : Int) ≤ (n).toInt := tc_ge h5
                      have q3 : ¬ (a 4 t).toInt = (-1) := fun z => (of_decide_eq_false h6) (Int32.toInt_inj.mp z)
                      have q4 : ¬ (a 4 u).toInt = (-1) := fun z => (tc_neT h7) (Int32.toInt_inj.mp z)
                      have q6 : (n).toInt ≤ ((a 4 t) - p).toInt := tc_gtF h9
                      have q7 : (n).toInt ≤ ((a 4 u) - q).toInt := tc_le h10
                      have hzt := hz t ht
                      have hzu := hz u hu
                      have s1 := tp_sub (x := a 4 t) (y := p) (by omega) (by omega)
                      have s2 := tp_sub (x := a 4 u) (y := q) (by omega) (by omega)
                      obtain ⟨P, hP, rfl⟩ := nI_bd (x := p) (n := 60) (by omega) (by omega)
                      have eP := nI_i32 (n := P) (by omega)
                      obtain ⟨Q, hQ, rfl⟩ := nI_bd (x := q) (n := 60) (by omega) (by omega)
                      have eQ := nI_i32 (n := Q) (by omega)
                      obtain ⟨N, hN, rfl⟩ := nI_bd (x := n) (n := 60) (by omega) (by omega)
                      have eN := nI_i32 (n := N) (by omega)
                      have ee := of_decide_eq_true h8
                      by_cases hpq : Q ≤ P
                      · have loop : ∀ (r k : Nat), k + r = N → fe_R 1 gk_m217 118 [(6, .int (nI k)), (0, .ref 0), (1, .int (nI t)), (2, .int (nI P)), (3, .int (nI u)), (4, .int (nI Q)), (5, .int (nI N))] [] (fm g tp bt a (fm_uf b 5 (va_cpy (b 5) (b 5) (60 * t + P) (60 * u + Q) k))) (fun R1 => ∃ (z st : Int32) (b' : Nat → Nat → Int64), (0 ≤ st.toInt ∧ st.toInt ≤ 9) ∧ ((∃ t2 u2 P2 Q2 N2, t2 < 4 ∧ u2 < 4 ∧ (nI t) = nI t2 ∧ (nI u) = nI u2 ∧ (nI P) = nI P2 ∧ (nI Q) = nI Q2 ∧ (nI N) = nI N2 ∧ (P2 + N2 : Nat) ≤ (a 4 t2).toInt ∧ (Q2 + N2 : Nat) ≤ (a 4 u2).toInt ∧ a 3 t2 = a 3 u2 ∧ z = 1 ∧ b' = fm_uf b 5 (va_cpy (b 5) (b 5) (60 * t2 + P2) (60 * u2 + Q2) N2)) ∨ ¬ pr_ok (a 4) (a 3) (nI t) (nI P) (nI u) (nI Q) (nI N) ∧ z = 0 ∧ b' = b) ∧ R1 = (some (.int z), fm (upd g 2 st) tp bt a b')) := by
                          intro r
                          induction r with
                          | zero =>
                            intro k hk
                            obtain rfl : k = N := by omega
                            refine fe_s 3 (pc' := cond (fx_cb .ge (nI k) (nI k)) 180 125) (lc' := [(6, .int (nI k)), (0, .ref 0), (1, .int (nI t)), (2, .int (nI P)), (3, .int (nI u)), (4, .int (nI Q)), (5, .int (nI k))]) (stk' := []) (mem' := fm g tp bt a (fm_uf b 5 (va_cpy (b 5) (b 5) (60 * t + P) (60 * u + Q) k))) (by intro _ _ _; eq_refl) ?_
                            rw [show (fx_cb .ge (nI k) (nI k)) = true from cb_geT (a := k) (b := k) (by omega) (by omega) (by omega)]
                            dsimp only [cond]
                            refine fe_s 2 (pc' := 182) (lc' := [(6, .int (nI k)), (0, .ref 0), (1, .int (nI t)), (2, .int (nI P)), (3, .int (nI u)), (4, .int (nI Q)), (5, .int (nI k))]) (stk' := [.int 0, .ref 0]) (mem' := fm g tp bt a (fm_uf b 5 (va_cpy (b 5) (b 5) (60 * t + P) (60 * u + Q) k))) (by intro _ _ _; eq_refl) ?_
                            refine fe_ivV ma_is0 (by omega) (by rfl) (by rfl) (by rfl) (by rfl) (by rfl) (by rfl) ?_
                            exact fe_ret ⟨1, 0, _, by decide, Or.inl ⟨t, u, P, Q, k, ht, hu, rfl, rfl, rfl, rfl, rfl, by omega, by omega, ee, rfl, rfl⟩, rfl⟩ (by rfl) (by rfl) (by rfl)
                          | succ r ih =>
                            intro k hk
                            refine fe_s 3 (pc' := cond (fx_cb .ge (nI k) (nI N)) 180 125) (lc' := [(6, .int (nI k)), (0, .ref 0), (1, .int (nI t)), (2, .int (nI P)), (3, .int (nI u)), (4, .int (nI Q)), (5, .int (nI N))]) (stk' := []) (mem' := fm g tp bt a (fm_uf b 5 (va_cpy (b 5) (b 5) (60 * t + P) (60 * u + Q) k))) (by intro _ _ _; eq_refl) ?_
                            rw [show (fx_cb .ge (nI k) (nI N)) = false from cb_geF (a := k) (b := N) (by omega) (by omega) (by omega)]
                            dsimp only [cond]
                            refine fe_s 3 (pc' := cond (fx_cb .ge (nI P) (nI Q)) 141 131) (lc' := [(6, .int (nI k)), (0, .ref 0), (1, .int (nI t)), (2, .int (nI P)), (3, .int (nI u)), (4, .int (nI Q)), (5, .int (nI N))]) (stk' := []) (mem' := fm g tp bt a (fm_uf b 5 (va_cpy (b 5) (b 5) (60 * t + P) (60 * u + Q) k))) (by intro _ _ _; eq_refl) ?_
                            rw [show (fx_cb .ge (nI P) (nI Q)) = true from cb_geT (a := P) (b := Q) (by omega) (by omega) (by omega)]
                            dsimp only [cond]
                            refine fe_s 20 (pc' := 172) (lc' := [(7, .int (nI k)), (6, .int (nI k)), (0, .ref 0), (1, .int (nI t)), (2, .int (nI P)), (3, .int (nI u)), (4, .int (nI Q)), (5, .int (nI N))]) (stk' := [.int (60 * nI t + nI P + nI k), .ref 5, .int (60 * nI u + nI Q + nI k), .ref 5]) (mem' := fm g tp bt a (fm_uf b 5 (va_cpy (b 5) (b 5) (60 * t + P) (60 * u + Q) k))) (by intro _ _ _; eq_refl) ?_
                            rw [show (60 * nI t + nI P + nI k : Int32) = nI (60 * t + P + k) from by simp only [show (60 : Int32) = nI 60 from rfl, nI_add, fm_mul], show (60 * nI u + nI Q + nI k : Int32) = nI (60 * u + Q + k) from by simp only [show (60 : Int32) = nI 60 from rfl, nI_add, fm_mul]]
                            refine fe_ldL (by rfl) (by rfl) (fx_inN (i := 60 * t + P + k) (by omega) (by omega)) ?_
                            rw [show Int32.toNatClampNeg (nI (60 * t + P + k)) = 60 * t + P + k from nI_clamp (by omega)]
                            show fe_R 1 gk_m217 173 _ [.long ((va_cpy (b 5) (b 5) (60 * t + P) (60 * u + Q) k) (60 * t + P + k)), .int (nI (60 * u + Q + k)), .ref 5] _ _
                            refine fe_stL (mem' := fm g tp bt a (fm_uf (fm_uf b 5 (va_cpy (b 5) (b 5) (60 * t + P) (60 * u + Q) k)) 5 (vp_updL (va_cpy (b 5) (b 5) (60 * t + P) (60 * u + Q) k) (nI (60 * u + Q + k)).toNatClampNeg ((va_cpy (b 5) (b 5) (60 * t + P) (60 * u + Q) k) (60 * t + P + k))))) (by rfl) (by rfl) (fx_inN (i := 60 * u + Q + k) (by omega) (by omega)) fm_sl5 ?_
                            rw [show Int32.toNatClampNeg (nI (60 * u + Q + k)) = 60 * u + Q + k from nI_clamp (by omega), tpc_up (b 5) (60 * t + P) (60 * u + Q) k (fun z => by omega), fm_uf_uf]
                            refine fe_s 2 (pc' := 118) (lc' := [(6, .int (nI k + 1)), (7, .int (nI k)), (0, .ref 0), (1, .int (nI t)), (2, .int (nI P)), (3, .int (nI u)), (4, .int (nI Q)), (5, .int (nI N))]) (stk' := []) (mem' := fm g tp bt a (fm_uf b 5 (va_cpy (b 5) (b 5) (60 * t + P) (60 * u + Q) (k + 1)))) (by intro _ _ _; eq_refl) ?_
                            rw [show nI k + 1 = nI (k + 1) from nI_add k 1]
                            exact fe_w (lc' := [(6, .int (nI (k + 1))), (0, .ref 0), (1, .int (nI t)), (2, .int (nI P)), (3, .int (nI u)), (4, .int (nI Q)), (5, .int (nI N))]) ⟨rfl, rfl, rfl, rfl, rfl, rfl, rfl, trivial⟩ (by show List.Nodup [6, 0, 1, 2, 3, 4, 5]; decide) (by show List.Nodup [6, 7, 0, 1, 2, 3, 4, 5]; decide) (ih (k + 1) (by omega))
                        have h0 := loop N 0 (by omega)
                        rw [tpc_0, fm_uf_id] at h0
                        refine fe_w (lc' := [(6, .int (nI 0)), (0, .ref 0), (1, .int (nI t)), (2, .int (nI P)), (3, .int (nI u)), (4, .int (nI Q)), (5, .int (nI N))]) ⟨rfl, rfl, rfl, rfl, rfl, rfl, rfl, trivial⟩ (by show List.Nodup [6, 0, 1, 2, 3, 4, 5]; decide) (by show List.Nodup [6, 0, 1, 2, 3, 4, 5]; decide) h0
                      · have loop : ∀ (r k : Nat), k + r = N → fe_R 1 gk_m217 118 [(6, .int (nI k)), (0, .ref 0), (1, .int (nI t)), (2, .int (nI P)), (3, .int (nI u)), (4, .int (nI Q)), (5, .int (nI N))] [] (fm g tp bt a (fm_uf b 5 (va_cpy (b 5) (b 5) (60 * t + P + (N - k)) (60 * u + Q + (N - k)) k))) (fun R1 => ∃ (z st : Int32) (b' : Nat → Nat → Int64), (0 ≤ st.toInt ∧ st.toInt ≤ 9) ∧ ((∃ t2 u2 P2 Q2 N2, t2 < 4 ∧ u2 < 4 ∧ (nI t) = nI t2 ∧ (nI u) = nI u2 ∧ (nI P) = nI P2 ∧ (nI Q) = nI Q2 ∧ (nI N) = nI N2 ∧ (P2 + N2 : Nat) ≤ (a 4 t2).toInt ∧ (Q2 + N2 : Nat) ≤ (a 4 u2).toInt ∧ a 3 t2 = a 3 u2 ∧ z = 1 ∧ b' = fm_uf b 5 (va_cpy (b 5) (b 5) (60 * t2 + P2) (60 * u2 + Q2) N2)) ∨ ¬ pr_ok (a 4) (a 3) (nI t) (nI P) (nI u) (nI Q) (nI N) ∧ z = 0 ∧ b' = b) ∧ R1 = (some (.int z), fm (upd g 2 st) tp bt a b')) := by
                          intro r
                          induction r with
                          | zero =>
                            intro k hk
                            obtain rfl : k = N := by omega
                            refine fe_s 3 (pc' := cond (fx_cb .ge (nI k) (nI k)) 180 125) (lc' := [(6, .int (nI k)), (0, .ref 0), (1, .int (nI t)), (2, .int (nI P)), (3, .int (nI u)), (4, .int (nI Q)), (5, .int (nI k))]) (stk' := []) (mem' := fm g tp bt a (fm_uf b 5 (va_cpy (b 5) (b 5) (60 * t + P + (k - k)) (60 * u + Q + (k - k)) k))) (by intro _ _ _; eq_refl) ?_
                            rw [show (fx_cb .ge (nI k) (nI k)) = true from cb_geT (a := k) (b := k) (by omega) (by omega) (by omega)]
                            dsimp only [cond]
                            refine fe_s 2 (pc' := 182) (lc' := [(6, .int (nI k)), (0, .ref 0), (1, .int (nI t)), (2, .int (nI P)), (3, .int (nI u)), (4, .int (nI Q)), (5, .int (nI k))]) (stk' := [.int 0, .ref 0]) (mem' := fm g tp bt a (fm_uf b 5 (va_cpy (b 5) (b 5) (60 * t + P + (k - k)) (60 * u + Q + (k - k)) k))) (by intro _ _ _; eq_refl) ?_
                            refine fe_ivV ma_is0 (by omega) (by rfl) (by rfl) (by rfl) (by rfl) (by rfl) (by rfl) ?_
                            rw [show k - k = 0 from Nat.sub_self k]
                            exact fe_ret ⟨1, 0, _, by decide, Or.inl ⟨t, u, P, Q, k, ht, hu, rfl, rfl, rfl, rfl, rfl, by omega, by omega, ee, rfl, rfl⟩, rfl⟩ (by rfl) (by rfl) (by rfl)
                          | succ r ih =>
                            intro k hk
                            refine fe_s 3 (pc' := cond (fx_cb .ge (nI k) (nI N)) 180 125) (lc' := [(6, .int (nI k)), (0, .ref 0), (1, .int (nI t)), (2, .int (nI P)), (3, .int (nI u)), (4, .int (nI Q)), (5, .int (nI N))]) (stk' := []) (mem' := fm g tp bt a (fm_uf b 5 (va_cpy (b 5) (b 5) (60 * t + P + (N - k)) (60 * u + Q + (N - k)) k))) (by intro _ _ _; eq_refl) ?_
                            rw [show (fx_cb .ge (nI k) (nI N)) = false from cb_geF (a := k) (b := N) (by omega) (by omega) (by omega)]
                            dsimp only [cond]
                            refine fe_s 3 (pc' := cond (fx_cb .ge (nI P) (nI Q)) 141 131) (lc' := [(6, .int (nI k)), (0, .ref 0), (1, .int (nI t)), (2, .int (nI P)), (3, .int (nI u)), (4, .int (nI Q)), (5, .int (nI N))]) (stk' := []) (mem' := fm g tp bt a (fm_uf b 5 (va_cpy (b 5) (b 5) (60 * t + P + (N - k)) (60 * u + Q + (N - k)) k))) (by intro _ _ _; eq_refl) ?_
                            rw [show (fx_cb .ge (nI P) (nI Q)) = false from cb_geF (a := P) (b := Q) (by omega) (by omega) (by omega)]
                            dsimp only [cond]
                            refine fe_s 25 (pc' := 172) (lc' := [(7, .int (nI N - 1 - nI k)), (6, .int (nI k)), (0, .ref 0), (1, .int (nI t)), (2, .int (nI P)), (3, .int (nI u)), (4, .int (nI Q)), (5, .int (nI N))]) (stk' := [.int (60 * nI t + nI P + (nI N - 1 - nI k)), .ref 5, .int (60 * nI u + nI Q + (nI N - 1 - nI k)), .ref 5]) (mem' := fm g tp bt a (fm_uf b 5 (va_cpy (b 5) (b 5) (60 * t + P + (N - k)) (60 * u + Q + (N - k)) k))) (by intro _ _ _; eq_refl) ?_
                            rw [show (nI N - 1 - nI k : Int32) = nI (N - 1 - k) from by rw [show (1 : Int32) = nI 1 from rfl, tg_sub2 (x := N) (y := 1) (by omega), tg_sub2 (x := N - 1) (y := k) (by omega)]]
                            rw [show (60 * nI t + nI P + nI (N - 1 - k) : Int32) = nI (60 * t + P + (N - 1 - k)) from by simp only [show (60 : Int32) = nI 60 from rfl, nI_add, fm_mul], show (60 * nI u + nI Q + nI (N - 1 - k) : Int32) = nI (60 * u + Q + (N - 1 - k)) from by simp only [show (60 : Int32) = nI 60 from rfl, nI_add, fm_mul]]
                            refine fe_ldL (by rfl) (by rfl) (fx_inN (i := 60 * t + P + (N - 1 - k)) (by omega) (by omega)) ?_
                            rw [show Int32.toNatClampNeg (nI (60 * t + P + (N - 1 - k))) = 60 * t + P + (N - 1 - k) from nI_clamp (by omega)]
                            show fe_R 1 gk_m217 173 _ [.long ((va_cpy (b 5) (b 5) (60 * t + P + (N - k)) (60 * u + Q + (N - k)) k) (60 * t + P + (N - 1 - k))), .int (nI (60 * u + Q + (N - 1 - k))), .ref 5] _ _
                            refine fe_stL (mem' := fm g tp bt a (fm_uf (fm_uf b 5 (va_cpy (b 5) (b 5) (60 * t + P + (N - k)) (60 * u + Q + (N - k)) k)) 5 (vp_updL (va_cpy (b 5) (b 5) (60 * t + P + (N - k)) (60 * u + Q + (N - k)) k) (nI (60 * u + Q + (N - 1 - k))).toNatClampNeg ((va_cpy (b 5) (b 5) (60 * t + P + (N - k)) (60 * u + Q + (N - k)) k) (60 * t + P + (N - 1 - k)))))) (by rfl) (by rfl) (fx_inN (i := 60 * u + Q + (N - 1 - k)) (by omega) (by omega)) fm_sl5 ?_
                            rw [show Int32.toNatClampNeg (nI (60 * u + Q + (N - 1 - k))) = 60 * u + Q + (N - 1 - k) from nI_clamp (by omega), tpc_dn (b 5) (60 * t + P) (60 * u + Q) N k (by omega) (fun z => by omega), fm_uf_uf]
                            refine fe_s 2 (pc' := 118) (lc' := [(6, .int (nI k + 1)), (7, .int (nI (N - 1 - k))), (0, .ref 0), (1, .int (nI t)), (2, .int (nI P)), (3, .int (nI u)), (4, .int (nI Q)), (5, .int (nI N))]) (stk' := []) (mem' := fm g tp bt a (fm_uf b 5 (va_cpy (b 5) (b 5) (60 * t + P + (N - (k + 1))) (60 * u + Q + (N - (k + 1))) (k + 1)))) (by intro _ _ _; eq_refl) ?_
                            rw [show nI k + 1 = nI (k + 1) from nI_add k 1]
                            exact fe_w (lc' := [(6, .int (nI (k + 1))), (0, .ref 0), (1, .int (nI t)), (2, .int (nI P)), (3, .int (nI u)), (4, .int (nI Q)), (5, .int (nI N))]) ⟨rfl, rfl, rfl, rfl, rfl, rfl, rfl, trivial⟩ (by show List.Nodup [6, 0, 1, 2, 3, 4, 5]; decide) (by show List.Nodup [6, 7, 0, 1, 2, 3, 4, 5]; decide) (ih (k + 1) (by omega))
                        have h0 := loop N 0 (by omega)
                        rw [tpc_0, fm_uf_id] at h0
                        refine fe_w (lc' := [(6, .int (nI 0)), (0, .ref 0), (1, .int (nI t)), (2, .int (nI P)), (3, .int (nI u)), (4, .int (nI Q)), (5, .int (nI N))]) ⟨rfl, rfl, rfl, rfl, rfl, rfl, rfl, trivial⟩ (by show List.Nodup [6, 0, 1, 2, 3, 4, 5]; decide) (by show List.Nodup [6, 0, 1, 2, 3, 4, 5]; decide) h0
                  · refine fe_s 2 (pc' := 111) (lc' := [(0, .ref 0), (1, .int (nI t)), (2, .int p), (3, .int (nI u)), (4, .int q), (5, .int n)]) (stk' := [.int 3, .ref 0]) (mem' := fm g tp bt a b) (by intro _ _ _; eq_refl) ?_
                    refine fe_ivV ma_is3 (by omega) (by rfl) (by rfl) (by rfl) (by rfl) (by rfl) (by rfl) ?_
                    have hzt := hz t ht
                    have hzu := hz u hu
                    have q0 : (0 : Int) ≤ (p).toInt := tc_ltF h3
                    have q1 : (0 : Int) ≤ (q).toInt := tc_ltF h4
                    have q2 : (0 : Int) ≤ (n).toInt := tc_ge h5
                    have q3 : ¬ (a 4 t).toInt = (-1) := fun z => (of_decide_eq_false h6) (Int32.toInt_inj.mp z)
                    have q4 : ¬ (a 4 u).toInt = (-1) := fun z => (tc_neT h7) (Int32.toInt_inj.mp z)
                    have q6 : ((a 4 t) - p).toInt < (n).toInt := tc_gt h9
                    refine fe_ret ⟨0, 3, _, by decide, Or.inr ⟨pr_no ht hu (fun z => ?_), rfl, rfl⟩, rfl⟩ (by rfl) (by rfl) (by rfl)
                    obtain ⟨z1, z2, z3, z4, z5, -, z7, z8⟩ := z
                    have s1 := tp_sub (x := a 4 t) (y := p) (by omega) (by omega)
                    have s2 := tp_sub (x := a 4 u) (y := q) (by omega) (by omega)
                    omega
            · refine fe_s 2 (pc' := 56) (lc' := [(0, .ref 0), (1, .int (nI t)), (2, .int p), (3, .int (nI u)), (4, .int q), (5, .int n)]) (stk' := [.int 2, .ref 0]) (mem' := fm g tp bt a b) (by intro _ _ _; eq_refl) ?_
              refine fe_ivV ma_is2 (by omega) (by rfl) (by rfl) (by rfl) (by rfl) (by rfl) (by rfl) ?_
              have hzt := hz t ht
              have hzu := hz u hu
              have q0 : (0 : Int) ≤ (p).toInt := tc_ltF h3
              have q1 : (0 : Int) ≤ (q).toInt := tc_ltF h4
              have q2 : (0 : Int) ≤ (n).toInt := tc_ge h5
              have q3 : (a 4 t).toInt = (-1) := congrArg Int32.toInt (of_decide_eq_true h6)
              refine fe_ret ⟨0, 2, _, by decide, Or.inr ⟨pr_no ht hu (fun z => ?_), rfl, rfl⟩, rfl⟩ (by rfl) (by rfl) (by rfl)
              obtain ⟨z1, z2, z3, z4, z5, -, z7, z8⟩ := z
              have s1 := tp_sub (x := a 4 t) (y := p) (by omega) (by omega)
              have s2 := tp_sub (x := a 4 u) (y := q) (by omega) (by omega)
              omega
        · refine fe_s 2 (pc' := 30) (lc' := [(0, .ref 0), (1, .int (nI t)), (2, .int p), (3, .int (nI u)), (4, .int q), (5, .int n)]) (stk' := [.int 1, .ref 0]) (mem' := fm g tp bt a b) (by intro _ _ _; eq_refl) ?_
          refine fe_ivV ma_is1 (by omega) (by rfl) (by rfl) (by rfl) (by rfl) (by rfl) (by rfl) ?_
          have hzt := hz t ht
          have hzu := hz u hu
          have q0 : (0 : Int) ≤ (p).toInt := tc_ltF h3
          have q1 : (q).toInt < 0 := tc_lt h4
          refine fe_ret ⟨0, 1, _, by decide, Or.inr ⟨pr_no ht hu (fun z => ?_), rfl, rfl⟩, rfl⟩ (by rfl) (by rfl) (by rfl)
          obtain ⟨z1, z2, z3, z4, z5, -, z7, z8⟩ := z
          have s1 := tp_sub (x := a 4 t) (y := p) (by omega) (by omega)
          have s2 := tp_sub (x := a 4 u) (y := q) (by omega) (by omega)
          omega
      · refine fe_s 2 (pc' := 30) (lc' := [(0, .ref 0), (1, .int (nI t)), (2, .int p), (3, .int (nI u)), (4, .int q), (5, .int n)]) (stk' := [.int 1, .ref 0]) (mem' := fm g tp bt a b) (by intro _ _ _; eq_refl) ?_
        refine fe_ivV ma_is1 (by omega) (by rfl) (by rfl) (by rfl) (by rfl) (by rfl) (by rfl) ?_
        have hzt := hz t ht
        have hzu := hz u hu
        have q0 : (p).toInt < 0 := tc_lt h3
        refine fe_ret ⟨0, 1, _, by decide, Or.inr ⟨pr_no ht hu (fun z => ?_), rfl, rfl⟩, rfl⟩ (by rfl) (by rfl) (by rfl)
        obtain ⟨z1, z2, z3, z4, z5, -, z7, z8⟩ := z
        have s1 := tp_sub (x := a 4 t) (y := p) (by omega) (by omega)
        have s2 := tp_sub (x := a 4 u) (y := q) (by omega) (by omega)
        omega
end MT
end MH18_1
section MH18_2
/-! ===== the class's trays: its calls, told of worlds ===== -/
/-- the references stand, too -/
def hg_X (ws : va_W) : Prop := gc_X lw_twC ws ∧ gs ws
theorem gc_X_far {tw : List Nat} {ws ws' : va_W} (h : ∀ (j t : Nat), tw[j]? = some t → 31 ≤ t → ∀ (y : Nat) (e : va_E), ws'[j]? = some (y, e) → ∃ e0, ws[j]? = some (y, e0) ∧ ∀ i, tk_pos e i = tk_pos e0 i) (hX : gc_X tw ws) : gc_X tw ws' := by
  have hrl : ∀ q ∈ gc_rl, 31 ≤ q.1 ∧ 31 ≤ q.2.1 ∧ 31 ≤ q.2.2 := by decide
  refine ⟨fun t to ta j jo ja y yo ya r e eo ea n x v h1 h2 h3 h4 h5 h6 h7 h8 h9 h10 h11 h12 h13 h14 h15 => ?_, fun t to ta j1 j2 y1 y2 yo k e1 e2 h1 h2 h3 h4 h5 h6 h7 h8 => ?_⟩
  · obtain ⟨r1, r2, r3⟩ := hrl _ h1
    obtain ⟨f, k1, k2⟩ := h j t h3 r1 y e h6
    obtain ⟨fo, k3, k4⟩ := h jo to h4 r2 yo eo h7
    obtain ⟨fa, k5, k6⟩ := h ja ta h5 r3 ya ea h8
    rw [k2] at h9 h10 h11
    rw [k4] at h13
    rw [k6] at h14
    exact hX.1 t to ta j jo ja y yo ya r f fo fa n x v h1 h2 h3 h4 h5 k1 k3 k5 h9 h10 h11 h12 h13 h14 h15
  · obtain ⟨r1, r2, r3⟩ := hrl _ h1
    obtain ⟨f1, k1, k2⟩ := h j1 t h3 r1 y1 e1 h5
    obtain ⟨f2, k3, k4⟩ := h j2 t h4 r1 y2 e2 h6
    rw [k2] at h7
    rw [k4] at h8
    exact hX.2 t to ta j1 j2 y1 y2 yo k f1 f2 h1 h2 h3 h4 k1 k3 h7 h8
theorem lw_twC_far : ∀ j t : Nat, lw_twC[j]? = some t → 31 ≤ t → 8 ≤ j := by
  intro j t h ht
  have hb : j < 270 := lw_ltC h
  have key : (List.range 270).all (fun j => match lw_twC[j]? with
    | some t => Nat.blt t 31 || Nat.ble 8 j
    | none => true) = true := by decide +kernel
  have h1 := List.all_eq_true.mp key j (List.mem_range.mpr hb)
  rw [h] at h1
  rcases Bool.or_eq_true_iff.mp h1 with h2 | h2
  · have := Nat.le_of_ble_eq_true h2; omega
  · exact Nat.le_of_ble_eq_true h2
section CMT
variable {g g' : Nat → Nat → Int32} {l : Nat → Nat → Int64} {a a' : Nat → Nat → Int32} {b b' : Nat → Nat → Int64} {R : fx_M}
theorem cm_tail (hg : ∀ j, j ≠ 0 → g' j = g j) (ha : ∀ j, j ≠ 6 → j ≠ 7 → a' j = a j) (hb : ∀ j, j < 2 ∨ 5 < j → b' j = b j) : ∀ j, j = 1 ∨ 8 ≤ j → (cm g' l a' b' R)[j]? = (cm g l a b R)[j]? := by
  have e1 : g' = fun j => cond (Nat.beq j 0) (g' j) (g j) := funext (fun j => by
    show g' j = cond (Nat.beq j 0) (g' j) (g j)
    cases h : Nat.beq j 0 with
    | true => rfl
    | false => exact hg j (fun z => by rw [z] at h; cases h))
  have e2 : a' = fun j => cond (Nat.beq j 6 || Nat.beq j 7) (a' j) (a j) := funext (fun j => by
    show a' j = cond (Nat.beq j 6 || Nat.beq j 7) (a' j) (a j)
    cases h : (Nat.beq j 6 || Nat.beq j 7) with
    | true => rfl
    | false => exact ha j (fun z => by rw [z] at h; cases h) (fun z => by rw [z] at h; cases h))
  have e3 : b' = fun j => cond (Nat.ble 2 j && Nat.ble j 5) (b' j) (b j) := funext (fun j => by
    show b' j = cond (Nat.ble 2 j && Nat.ble j 5) (b' j) (b j)
    cases h : (Nat.ble 2 j && Nat.ble j 5) with
    | true => rfl
    | false =>
      refine hb j (Classical.byContradiction (fun z => ?_))
      rw [Nat.ble_eq_true_of_le (show 2 ≤ j by omega), Nat.ble_eq_true_of_le (show j ≤ 5 by omega)] at h
      cases h)
  have key : (cm g' l a' b' R).drop 8 = (cm g l a b R).drop 8 := by
    rw [e1, e2, e3]
    rfl
  rintro j (rfl | hj)
  · rfl
  · have h := congrArg (fun l : fx_M => l[j - 8]?) key
    rw [List.getElem?_drop, List.getElem?_drop, show 8 + (j - 8) = j from by omega] at h
    exact h
end CMT
section HT
variable {ads : List Nat} {ws : va_W} {U : State}
theorem hw_get {mem' : fx_M} {j : Nat} {q : Nat × va_E} {e : fx_E} (h : ws[j]? = some q) (hm : mem'[j]? = some e) : (fx_w (hc_ps ws) mem')[j]? = some (q.1, fx_c (hc_ps ws) (hc_cl q.2) e) := by
  unfold fx_w
  rw [List.getElem?_zipWith, hc_ps_at h, hm]
theorem hw_inv {mem' : fx_M} {j : Nat} {q' : Nat × va_E} (h : (fx_w (hc_ps ws) mem')[j]? = some q') : ∃ (q : Nat × va_E) (e : fx_E), ws[j]? = some q ∧ mem'[j]? = some e ∧ q' = (q.1, fx_c (hc_ps ws) (hc_cl q.2) e) := by
  cases h3 : ws[j]? with
  | none =>
    unfold fx_w at h
    rw [List.getElem?_zipWith, show (hc_ps ws)[j]? = none from by unfold hc_ps; rw [List.getElem?_map, h3]; rfl] at h
    cases h
  | some q =>
    cases h2 : mem'[j]? with
    | none =>
      unfold fx_w at h
      rw [List.getElem?_zipWith, hc_ps_at h3, h2] at h
      cases h
    | some e =>
      rw [hw_get h3 h2] at h
      exact ⟨q, e, rfl, rfl, (Option.some.inj h).symm⟩
theorem hw_pos (h4 : ws.map Prod.fst = ads) (h5 : rk_A2 (fun b (q : Nat × va_E) => tk_cl gc_TY lc_ro ads lw_twC U b q.2) lw_twC ws) {j : Nat} {q : Nat × va_E} {e : fx_E} (h : ws[j]? = some q) (hm : (hc_mem ads lw_twC ws)[j]? = some e) : ∀ i, tk_pos (fx_c (hc_ps ws) (hc_cl q.2) e) i = tk_pos q.2 i := by
  have hlt : j < lw_twC.length := by
    have h1 := (List.getElem?_eq_some_iff.mp h).1
    have h2 := h5.len
    omega
  have ht : lw_twC[j]? = some (lw_twC[j]'hlt) := List.getElem?_eq_getElem hlt
  obtain ⟨q2, k4, k5⟩ := h5.get ht
  rw [h] at k4
  cases k4
  rw [hc_mem_at h ht] at hm
  cases hm
  exact (hc_c h4 k5 (lw_twC_lt ht)).1
theorem hw_keep (h4 : ws.map Prod.fst = ads) (h5 : rk_A2 (fun b (q : Nat × va_E) => tk_cl gc_TY lc_ro ads lw_twC U b q.2) lw_twC ws) {mem' : fx_M} {j y : Nat} {e : va_E} (hm : mem'[j]? = (hc_mem ads lw_twC ws)[j]?) (h : (fx_w (hc_ps ws) mem')[j]? = some (y, e)) : ∃ e0, ws[j]? = some (y, e0) ∧ ∀ i, tk_pos e i = tk_pos e0 i := by
  obtain ⟨q, e1, k1, k2, k3⟩ := hw_inv h
  cases k3
  rw [hm] at k2
  exact ⟨q.2, k1, hw_pos h4 h5 k1 k2⟩
theorem hw_at {mem' : fx_M} {j i : Nat} {q : Nat × va_E} {e : fx_E} (h : ws[j]? = some q) (hm : mem'[j]? = some e) : lw_at (fx_w (hc_ps ws) mem') (j, i) = tk_pos (fx_c (hc_ps ws) (hc_cl q.2) e) i := by
  unfold lw_at
  dsimp only
  rw [hw_get h hm]
theorem hw_at0 (h4 : ws.map Prod.fst = ads) (h5 : rk_A2 (fun b (q : Nat × va_E) => tk_cl gc_TY lc_ro ads lw_twC U b q.2) lw_twC ws) {j i : Nat} {q : Nat × va_E} {e : fx_E} (h : ws[j]? = some q) (hm : (hc_mem ads lw_twC ws)[j]? = some e) : lw_at ws (j, i) = tk_pos (fx_c (hc_ps ws) (hc_cl q.2) e) i := by
  rw [hw_pos h4 h5 h hm]
  unfold lw_at
  dsimp only
  rw [h]
theorem hc_bdI (h5 : rk_A2 (fun b (q : Nat × va_E) => tk_cl gc_TY lc_ro ads lw_twC U b q.2) lw_twC ws) {j t n : Nat} {lo hi : Int} (ht : lw_twC[j]? = some t) (hk : gc_ty[t]? = some (.inr (.int, n, (0, lo, hi)))) : ∀ i, i < n → lo ≤ (ca ws j i).toInt ∧ (ca ws j i).toInt ≤ hi := by
  obtain ⟨q, hq, hc⟩ := h5.get ht
  unfold tk_cl at hc
  rw [show gc_TY.1[t]? = _ from hk] at hc
  obtain ⟨cA, -, -, h3⟩ := hc
  obtain ⟨f, e, h3⟩ := (show ∃ f : Nat → Int32, q.2 = .inl (cA, n, .inl f) ∧ ∀ i, i < n → tk_fv lc_ro gc_TY.2.1 ads lw_twC t i (0, lo, hi) (.int (f i)) from h3)
  have e2 : ca ws j = f := by
    unfold ca
    rw [hq, show q = (q.1, q.2) from rfl, e]
  intro i hlt
  obtain ⟨x, hx, h1, h2⟩ := (show ∃ x : Int32, Value.int (f i) = .int x ∧ lo ≤ x.toInt ∧ x.toInt ≤ hi from h3 i hlt)
  cases hx
  rw [e2]
  exact ⟨h1, h2⟩
/-- the trays in the class's world: sizes, sorts, numbers -/
def tc_V (ws : va_W) (z s : Nat → Int32) (f : Nat → Nat → Int64) : Prop := ∀ t, t < 4 → lw_at ws (7, t) = some (.int (z t)) ∧ lw_at ws (6, t) = some (.int (s t)) ∧ ∀ i, i < 60 → lw_at ws (2 + t, i) = some (.long (f t i))
theorem tc_V_mem {g : Nat → Nat → Int32} {l : Nat → Nat → Int64} {a : Nat → Nat → Int32} {b : Nat → Nat → Int64} {R : fx_M} {w : va_W} (h : ∀ (j : Nat) (e : fx_E), j < 8 → (cm g l a b R)[j]? = some e → ∃ cA, ∀ i, lw_at w (j, i) = tk_pos (fx_c (hc_ps ws) cA e) i) : tc_V w (a 7) (a 6) (fun t => b (2 + t)) := by
  intro t ht
  refine ⟨?_, ?_, fun i hi => ?_⟩
  · obtain ⟨cA, h1⟩ := h 7 _ (by decide) rfl
    rw [h1]
    show (if t < 4 then some (Value.int (a 7 t)) else none) = _
    rw [if_pos ht]
  · obtain ⟨cA, h1⟩ := h 6 _ (by decide) rfl
    rw [h1]
    show (if t < 4 then some (Value.int (a 6 t)) else none) = _
    rw [if_pos ht]
  · obtain ⟨cA, h1⟩ := h (2 + t) _ (by omega) (cm_row ht)
    rw [h1]
    show (if i < 60 then some (Value.long (b (2 + t) i)) else none) = _
    rw [if_pos hi]
end HT
section HTS
variable {l : Launch} {D : va_G} {xt : tk_XT} {ads : List Nat}
abbrev ht_S : Type := List Value → (Nat → Int32) → (Nat → Int32) → (Nat → Nat → Int64) → (Nat → Int32) → (Nat → Int32) → (Nat → Nat → Int64) → Value → Prop
def ht_Q (V : va_W → (Nat → Int32) → (Nat → Int32) → (Nat → Nat → Int64) → Prop) (S : ht_S) : List Value → va_W → va_W → Value → Prop := fun av ws ws' v => ∃ (z s : Nat → Int32) (f : Nat → Nat → Int64) (z' s' : Nat → Int32) (f' : Nat → Nat → Int64), V ws z s f ∧ V ws' z' s' f' ∧ S av z s f z' s' f' v
theorem gs_ne : ∀ z ∈ gs_L, (z.1 = 0 ∧ z.2.1 ≠ 0) ∨ z.1 = 1 ∨ 8 ≤ z.1 := by decide
set_option maxHeartbeats 8000000 in
theorem ht_sem (hxt : tk_xtok xt) {k f : Nat} {kinds : List Nat} {envs : List tk_I} {S : ht_S}
    (hex : ∀ (rest : List Value) (g : Nat → Nat → Int32) (l' : Nat → Nat → Int64) (a : Nat → Nat → Int32) (b : Nat → Nat → Int64) (R : fx_M), rk_A2 lq_av (kinds.zip envs) rest → (∀ t, t < 4 → 0 ≤ (a 6 t).toInt ∧ (a 6 t).toInt ≤ 3) → (∀ t, t < 4 → -1 ≤ (a 7 t).toInt ∧ (a 7 t).toInt ≤ 60) → ∃ (v : Value) (st : Int32) (a' : Nat → Nat → Int32) (b' : Nat → Nat → Int64), fx_kd v ≤ 1 ∧ hr_T k f (.ref 0 :: rest) (cm g l' a b R) (some v) (cm (fm_u g 0 0 st) l' a' b' R) ∧ (0 ≤ st.toInt ∧ st.toInt ≤ 9) ∧ (∀ j, j ≠ 6 → j ≠ 7 → a' j = a j) ∧ (∀ j, j < 2 ∨ 5 < j → b' j = b j) ∧ (∀ t, t < 4 → (0 ≤ (a' 6 t).toInt ∧ (a' 6 t).toInt ≤ 3) ∧ -1 ≤ (a' 7 t).toInt ∧ (a' 7 t).toInt ≤ 60) ∧ S rest (a 7) (a 6) (fun t => b (2 + t)) (a' 7) (a' 6) (fun t => b' (2 + t)) v) : lw_sem l D xt gc_TY hg_X ads lw_twC (k + 4) f kinds envs (ht_Q tc_V S) := by
  refine hc_sem0 hxt (fun U ax rest ws hty hrest h5 h4 hD hX => ?_)
  have hcm := hc_cm h4 h5 hD hX.2
  have hl : ws.length = lw_twC.length := h5.len.symm
  have hl270 : ws.length = 270 := by rw [hl]; exact lw_lenC
  generalize (hc_mem ads lw_twC ws).drop 67 = R at hcm
  obtain ⟨v, st, a', b', hv, hrun, hst, ha, hb, hbd, hS⟩ := hex rest (cg ws) (cl_ ws) (ca ws) (cb ws) R hrest (hc_bdI h5 (show lw_twC[6]? = some 3 by decide +kernel) rfl) (hc_bdI h5 (show lw_twC[7]? = some 4 by decide +kernel) rfl)
  have hg : ∀ j, j ≠ 0 → (fm_u (cg ws) 0 0 st) j = cg ws j := fun j hj => if_neg hj
  have htl := cm_tail (l := cl_ ws) (R := R) hg ha hb
  have hlen : (cm (fm_u (cg ws) 0 0 st) (cl_ ws) a' b' R).length = ws.length := by
    rw [show (cm (fm_u (cg ws) 0 0 st) (cl_ ws) a' b' R).length = (cm (cg ws) (cl_ ws) (ca ws) (cb ws) R).length from rfl, ← hcm]
    exact hc_mem_len hl
  have hw : ∀ {j : Nat}, j < 270 → ∃ q, ws[j]? = some q := fun {j} hj => ⟨_, List.getElem?_eq_getElem (by omega)⟩
  have hfst : ∀ k : Nat, ((fx_w (hc_ps ws) (cm (fm_u (cg ws) 0 0 st) (cl_ ws) a' b' R))[k]?).map (fun q => Value.ref q.1) = (ws[k]?).map (fun q => Value.ref q.1) := fun k => by
    cases h1 : ws[k]? with
    | none =>
      cases h2 : (fx_w (hc_ps ws) (cm (fm_u (cg ws) 0 0 st) (cl_ ws) a' b' R))[k]? with
      | none => rfl
      | some q' =>
        obtain ⟨q, e, k1, -, -⟩ := hw_inv h2
        rw [h1] at k1
        cases k1
    | some q =>
      have hk : k < (cm (fm_u (cg ws) 0 0 st) (cl_ ws) a' b' R).length := by rw [hlen]; exact (List.getElem?_eq_some_iff.mp h1).1
      rw [hw_get h1 (List.getElem?_eq_getElem hk)]
      rfl
  have hkeep : ∀ (j : Nat), j = 1 ∨ 8 ≤ j → ∀ (y : Nat) (e : va_E), (fx_w (hc_ps ws) (cm (fm_u (cg ws) 0 0 st) (cl_ ws) a' b' R))[j]? = some (y, e) → ∃ e0, ws[j]? = some (y, e0) ∧ ∀ i, tk_pos e i = tk_pos e0 i := fun j hj y e h => hw_keep h4 h5 (by rw [htl j hj, hcm]) h
  refine ⟨v, _, hv, by rw [hcm]; exact hrun, hlen, fun j t e e' ht he he' => ?_, ⟨gc_X_far (fun j t ht h31 => hkeep j (Or.inr (lw_twC_far j t ht h31))) hX.1, fun z hz => ?_⟩, _, _, _, _, _, _, tc_V_mem (ws := ws) (g := cg ws) (l := cl_ ws) (a := ca ws) (b := cb ws) (R := R) (fun j e hj he => ?_), tc_V_mem (ws := ws) (g := fm_u (cg ws) 0 0 st) (l := cl_ ws) (a := a') (b := b') (R := R) (fun j e hj he => ?_), hS⟩
  · rw [hcm] at he
    rcases (by omega : (j = 1 ∨ 8 ≤ j) ∨ j = 0 ∨ j = 2 ∨ j = 3 ∨ j = 4 ∨ j = 5 ∨ j = 6 ∨ j = 7) with hj | rfl | rfl | rfl | rfl | rfl | rfl | rfl
    · rw [htl j hj, he] at he'
      cases he'
      exact Or.inl rfl
    · rw [show lw_twC[0]? = some 0 by decide +kernel] at ht
      cases ht
      cases he
      cases he'
      refine Or.inr (Or.inr (Or.inr ⟨11, _, _, rfl, rfl, rfl, fun fs hfs i f hf => ?_⟩))
      match i with
      | 0 =>
        refine Or.inr ⟨.int st, rfl, Nat.zero_le 1, ?_⟩
        have h0 : fs[0]? = some (0, 0, 9) := by
          rw [show gc_ty[0]? = some _ from rfl] at hfs
          cases hfs
          rfl
        rw [hf] at h0
        cases h0
        exact ⟨st, rfl, hst.1, hst.2⟩
      | i + 1 => exact Or.inl (show (List.tail (co0 ((fm_u (cg ws) 0 0 st) 0) (cl_ ws 0)))[i]? = (List.tail (co0 (cg ws 0) (cl_ ws 0)))[i]? from rfl)
    · rw [show lw_twC[2]? = some 2 by decide +kernel] at ht
      cases ht
      cases he'
      exact Or.inr (Or.inr (Or.inl ⟨60, b' 2, _, rfl, rfl, fun i hi => ⟨_, rfl, Int64.le_toInt _, by have := Int64.toInt_lt (b' 2 i); show _ ≤ (9223372036854775807 : Int); omega⟩⟩))
    · rw [show lw_twC[3]? = some 2 by decide +kernel] at ht
      cases ht
      cases he'
      exact Or.inr (Or.inr (Or.inl ⟨60, b' 3, _, rfl, rfl, fun i hi => ⟨_, rfl, Int64.le_toInt _, by have := Int64.toInt_lt (b' 3 i); show _ ≤ (9223372036854775807 : Int); omega⟩⟩))
    · rw [show lw_twC[4]? = some 2 by decide +kernel] at ht
      cases ht
      cases he'
      exact Or.inr (Or.inr (Or.inl ⟨60, b' 4, _, rfl, rfl, fun i hi => ⟨_, rfl, Int64.le_toInt _, by have := Int64.toInt_lt (b' 4 i); show _ ≤ (9223372036854775807 : Int); omega⟩⟩))
    · rw [show lw_twC[5]? = some 2 by decide +kernel] at ht
      cases ht
      cases he'
      exact Or.inr (Or.inr (Or.inl ⟨60, b' 5, _, rfl, rfl, fun i hi => ⟨_, rfl, Int64.le_toInt _, by have := Int64.toInt_lt (b' 5 i); show _ ≤ (9223372036854775807 : Int); omega⟩⟩))
    · rw [show lw_twC[6]? = some 3 by decide +kernel] at ht
      cases ht
      cases he'
      exact Or.inr (Or.inl ⟨.int, 4, a' 6, _, Or.inl rfl, rfl, rfl, fun i hi => ⟨_, rfl, (hbd i hi).1.1, (hbd i hi).1.2⟩⟩)
    · rw [show lw_twC[7]? = some 4 by decide +kernel] at ht
      cases ht
      cases he'
      exact Or.inr (Or.inl ⟨.int, 4, a' 7, _, Or.inl rfl, rfl, rfl, fun i hi => ⟨_, rfl, (hbd i hi).2.1, (hbd i hi).2.2⟩⟩)
  · rw [hfst, ← hX.2 z hz]
    rcases gs_ne z hz with ⟨h0, h1⟩ | hj
    · obtain ⟨j, i, kk⟩ := z
      obtain rfl : j = 0 := h0
      obtain ⟨q, hq⟩ := hw (j := 0) (by decide)
      rw [hw_at hq rfl, hw_at0 h4 h5 hq (by rw [hcm]; rfl)]
      show ((co0 ((fm_u (cg ws) 0 0 st) 0) (cl_ ws 0)).map (fx_v (hc_ps ws)))[i]? = ((co0 (cg ws 0) (cl_ ws 0)).map (fx_v (hc_ps ws)))[i]?
      rw [List.getElem?_map, List.getElem?_map]
      match i, h1 with
      | 0, h1 => exact absurd rfl h1
      | i + 1, _ => exact congrArg (Option.map (fx_v (hc_ps ws))) (show (List.tail (co0 ((fm_u (cg ws) 0 0 st) 0) (cl_ ws 0)))[i]? = (List.tail (co0 (cg ws 0) (cl_ ws 0)))[i]? from rfl)
    · have hlt : z.1 < 270 := by
        have : ∀ z ∈ gs_L, z.1 < 270 := by decide
        exact this z hz
      obtain ⟨q, hq⟩ := hw hlt
      have hlt2 : z.1 < (cm (fm_u (cg ws) 0 0 st) (cl_ ws) a' b' R).length := by rw [hlen]; omega
      have he : (cm (fm_u (cg ws) 0 0 st) (cl_ ws) a' b' R)[z.1]? = some _ := List.getElem?_eq_getElem hlt2
      rw [hw_at hq he, hw_at0 h4 h5 hq (by rw [hcm, ← htl _ hj]; exact he)]
  · obtain ⟨q, hq⟩ := hw (j := j) (by omega)
    exact ⟨_, fun i => hw_at0 h4 h5 hq (by rw [hcm]; exact he)⟩
  · obtain ⟨q, hq⟩ := hw (j := j) (by omega)
    exact ⟨_, fun i => hw_at hq he⟩
def gn_l : tk_I := ((-9223372036854775808), 9223372036854775807)
theorem av_int {p : tk_I} {q : List (Nat × tk_I)} {av : List Value} (h : rk_A2 lq_av ((0, p) :: q) av) : ∃ (x : Int32) (r : List Value), av = .int x :: r ∧ rk_A2 lq_av q r := by
  obtain ⟨v, r, rfl, h1, h2⟩ := rk_A2.cons h
  rcases h1 with ⟨-, x, rfl, -⟩ | ⟨h1, -⟩
  · exact ⟨x, r, rfl, h2⟩
  · cases h1
theorem av_lng {p : tk_I} {q : List (Nat × tk_I)} {av : List Value} (h : rk_A2 lq_av ((1, p) :: q) av) : ∃ (x : Int64) (r : List Value), av = .long x :: r ∧ rk_A2 lq_av q r := by
  obtain ⟨v, r, rfl, h1, h2⟩ := rk_A2.cons h
  rcases h1 with ⟨h1, -⟩ | ⟨-, x, rfl, -⟩
  · cases h1
  · exact ⟨x, r, rfl, h2⟩
/-- a tray is made -/
def ty_S : ht_S := fun av z s f z' s' f' v => ∃ x q m : Int32, av = [.int x, .int q, .int m] ∧ ((∃ t M, t < 4 ∧ M ≤ 60 ∧ x = nI t ∧ m = nI M ∧ ty_ok x q m ∧ v = .int 1 ∧ z' = upd z t m ∧ s' = upd s t q ∧ ∀ u, u < 4 → ∀ i, i < 60 → i < M ∨ u ≠ t → f' u i = if u = t then 0 else f u i) ∨ ¬ ty_ok x q m ∧ v = .int 0 ∧ z' = z ∧ s' = s ∧ f' = f)
/-- a number is written -/
def wr_S : ht_S := fun av z s f z' s' f' v => ∃ (x p : Int32) (n : Int64), av = [.int x, .int p, .long n] ∧ z' = z ∧ s' = s ∧ ((∃ t P, t < 4 ∧ x = nI t ∧ p = nI P ∧ P < 60 ∧ (P : Int) < (z t).toInt ∧ v = .int 1 ∧ ∀ u, u < 4 → ∀ i, i < 60 → f' u i = if u = t ∧ i = P then tc_cut (s t) n else f u i) ∨ ¬ tp_ok z x p ∧ v = .int 0 ∧ f' = f)
def rd_S : ht_S := fun av z s f z' s' f' v => ∃ x p : Int32, av = [.int x, .int p] ∧ z' = z ∧ s' = s ∧ f' = f ∧ ((∃ t P, t < 4 ∧ x = nI t ∧ p = nI P ∧ P < 60 ∧ (P : Int) < (z t).toInt ∧ v = .long (f t P)) ∨ ¬ tp_ok z x p ∧ v = .long (-1))
def pr_S : ht_S := fun av z s f z' s' f' v => ∃ x p y q n : Int32, av = [.int x, .int p, .int y, .int q, .int n] ∧ z' = z ∧ s' = s ∧ ((∃ t u P Q N, t < 4 ∧ u < 4 ∧ x = nI t ∧ y = nI u ∧ p = nI P ∧ q = nI Q ∧ n = nI N ∧ (P + N : Nat) ≤ (z t).toInt ∧ (Q + N : Nat) ≤ (z u).toInt ∧ P + N ≤ 60 ∧ Q + N ≤ 60 ∧ s t = s u ∧ v = .int 1 ∧ ∀ w, w < 4 → ∀ i, i < 60 → f' w i = if w = u ∧ Q ≤ i ∧ i < Q + N then f t (P + (i - Q)) else f w i) ∨ ¬ pr_ok z s x p y q n ∧ v = .int 0 ∧ f' = f)
theorem fm_uf_n {b : Nat → Nat → Int64} {j k : Nat} {f : Nat → Int64} (h : k ≠ j) : fm_uf b j f k = b k := if_neg h
theorem tt_upd {z : Nat → Int32} {t : Nat} {m : Int32} {lo hi : Int} (h : ∀ t, t < 4 → lo ≤ (z t).toInt ∧ (z t).toInt ≤ hi) (hm : lo ≤ m.toInt ∧ m.toInt ≤ hi) : ∀ u, u < 4 → lo ≤ (upd z t m u).toInt ∧ (upd z t m u).toInt ≤ hi := by
  intro u hu
  by_cases e : u = t
  · rw [e, pk_us]; exact hm
  · rw [pk_un e]; exact h u hu
theorem ty_semC (hxt : tk_xtok xt) : lw_sem l D xt gc_TY hg_X ads lw_twC 6 130 [0, 0, 0] [gn_i, gn_i, gn_i] (ht_Q tc_V ty_S) := by
  refine ht_sem (k := 2) hxt (fun rest g l' a b R hr hs hz => ?_)
  obtain ⟨x, r1, rfl, k1⟩ := av_int hr
  obtain ⟨q, r2, rfl, k2⟩ := av_int k1
  obtain ⟨m, r3, rfl, k3⟩ := av_int k2
  obtain rfl := k3.nil
  obtain ⟨v, mem', ⟨z, st, a', b', hst, hh, hR⟩, hrun⟩ := ha_tray (g := g) (l := l') (a := a) (b := b) (R := R) (x := x) (s := q) (m := m)
  cases hR
  refine ⟨.int z, st, a', b', Nat.zero_le 1, hrun, hst, ?_⟩
  rcases hh with ⟨t, ht, rfl, hok, rfl, rfl, rfl⟩ | ⟨hno, rfl, rfl, rfl⟩
  · obtain ⟨M, hM, rfl⟩ := nI_bd (x := m) (n := 60) hok.2.2.1 hok.2.2.2
    have e6 : (fm_u (fm_u a 6 t q) 7 t (nI M)) 6 = upd (a 6) t q := rfl
    have e7 : (fm_u (fm_u a 6 t q) 7 t (nI M)) 7 = upd (a 7) t (nI M) := rfl
    refine ⟨fun j h6 h7 => (if_neg h7).trans (if_neg h6), fun j hj => fm_uf_n (by omega), fun u hu => ?_, nI t, q, nI M, rfl, Or.inl ⟨t, M, ht, hM, rfl, rfl, hok, rfl, e7, e6, fun u hu i hi hiM => ?_⟩⟩
    · rw [e6, e7]
      exact ⟨tt_upd hs hok.2.1 u hu, tt_upd hz ⟨by have := hok.2.2.1; omega, hok.2.2.2⟩ u hu⟩
    · show fm_uf b (2 + t) (tc_f (b (2 + t)) 60 0) (2 + u) i = _
      by_cases e : u = t
      · rw [if_pos e, e, fm_uf_s]
        exact if_pos hi
      · rw [if_neg e, fm_uf_n (by omega)]
  · exact ⟨fun _ _ _ => rfl, fun _ _ => rfl, fun u hu => ⟨hs u hu, hz u hu⟩, x, q, m, rfl, Or.inr ⟨hno, rfl, rfl, rfl, rfl⟩⟩
theorem wr_semC (hxt : tk_xtok xt) : lw_sem l D xt gc_TY hg_X ads lw_twC 7 131 [0, 0, 1] [gn_i, gn_i, gn_l] (ht_Q tc_V wr_S) := by
  refine ht_sem (k := 3) hxt (fun rest g l' a b R hr hs hz => ?_)
  obtain ⟨x, r1, rfl, k1⟩ := av_int hr
  obtain ⟨p, r2, rfl, k2⟩ := av_int k1
  obtain ⟨n, r3, rfl, k3⟩ := av_lng k2
  obtain rfl := k3.nil
  obtain ⟨v, mem', ⟨z, st, b', hst, hh, hR⟩, hrun⟩ := ha_write (g := g) (l := l') (a := a) (b := b) (R := R) (x := x) (p := p) (w := n) (fun t ht => (hz t ht).2) hs
  cases hR
  refine ⟨.int z, st, a, b', Nat.zero_le 1, hrun, hst, fun _ _ _ => rfl, ?_⟩
  rcases hh with ⟨t, P, ht, rfl, rfl, hP, hPz, rfl, rfl⟩ | ⟨hno, rfl, rfl⟩
  · refine ⟨fun j hj => fm_uf_n (by omega), fun u hu => ⟨hs u hu, hz u hu⟩, nI t, nI P, n, rfl, rfl, rfl, Or.inl ⟨t, P, ht, rfl, rfl, hP, hPz, rfl, fun u hu i hi => ?_⟩⟩
    show fm_uf b (2 + t) (vp_updL (b (2 + t)) P (tc_cut (a 6 t) n)) (2 + u) i = _
    by_cases e : u = t
    · rw [e, fm_uf_s]
      unfold vp_updL
      by_cases e2 : i = P
      · rw [if_pos e2, if_pos ⟨rfl, e2⟩]
      · rw [if_neg e2, if_neg (fun z => e2 z.2)]
    · rw [if_neg (fun z => e z.1), fm_uf_n (by omega)]
  · exact ⟨fun _ _ => rfl, fun u hu => ⟨hs u hu, hz u hu⟩, x, p, n, rfl, rfl, rfl, Or.inr ⟨hno, rfl, rfl⟩⟩
theorem rd_semC (hxt : tk_xtok xt) : lw_sem l D xt gc_TY hg_X ads lw_twC 7 132 [0, 0] [gn_i, gn_i] (ht_Q tc_V rd_S) := by
  refine ht_sem (k := 3) hxt (fun rest g l' a b R hr hs hz => ?_)
  obtain ⟨x, r1, rfl, k1⟩ := av_int hr
  obtain ⟨p, r2, rfl, k2⟩ := av_int k1
  obtain rfl := k2.nil
  obtain ⟨v, mem', ⟨z, st, hst, hh, hR⟩, hrun⟩ := ha_read (g := g) (l := l') (a := a) (b := b) (R := R) (x := x) (p := p) (fun t ht => (hz t ht).2)
  cases hR
  refine ⟨.long z, st, a, b, Nat.le_refl 1, hrun, hst, fun _ _ _ => rfl, fun _ _ => rfl, fun u hu => ⟨hs u hu, hz u hu⟩, x, p, rfl, rfl, rfl, rfl, ?_⟩
  rcases hh with ⟨t, P, ht, rfl, rfl, hP, hPz, rfl⟩ | ⟨hno, rfl⟩
  · exact Or.inl ⟨t, P, ht, rfl, rfl, hP, hPz, rfl⟩
  · exact Or.inr ⟨hno, rfl⟩
theorem pr_semC (hxt : tk_xtok xt) : lw_sem l D xt gc_TY hg_X ads lw_twC 6 133 [0, 0, 0, 0, 0] [gn_i, gn_i, gn_i, gn_i, gn_i] (ht_Q tc_V pr_S) := by
  refine ht_sem (k := 2) hxt (fun rest g l' a b R hr hs hz => ?_)
  obtain ⟨x, r1, rfl, k1⟩ := av_int hr
  obtain ⟨p, r2, rfl, k2⟩ := av_int k1
  obtain ⟨y, r3, rfl, k3⟩ := av_int k2
  obtain ⟨q, r4, rfl, k4⟩ := av_int k3
  obtain ⟨n, r5, rfl, k5⟩ := av_int k4
  obtain rfl := k5.nil
  obtain ⟨v, mem', ⟨z, st, b', hst, hh, hR⟩, hrun⟩ := ha_pour (g := g) (l := l') (a := a) (b := b) (R := R) (x := x) (p := p) (y := y) (q := q) (n := n) (fun t ht => (hz t ht).2)
  cases hR
  refine ⟨.int z, st, a, b', Nat.zero_le 1, hrun, hst, fun _ _ _ => rfl, ?_⟩
  rcases hh with ⟨t, u, P, Q, N, ht, hu, rfl, rfl, rfl, rfl, rfl, h1, h2, h3, rfl, rfl⟩ | ⟨hno, rfl, rfl⟩
  · refine ⟨fun j hj => fm_uf_n (by omega), fun u hu => ⟨hs u hu, hz u hu⟩, nI t, nI P, nI u, nI Q, nI N, rfl, rfl, rfl, Or.inl ⟨t, u, P, Q, N, ht, hu, rfl, rfl, rfl, rfl, rfl, h1, h2, by have := hz t ht; omega, by have := hz u hu; omega, h3, rfl, fun w hw i hi => ?_⟩⟩
    show fm_uf b (2 + u) (va_cpy (b (2 + t)) (b (2 + u)) P Q N) (2 + w) i = _
    by_cases e : w = u
    · rw [e, fm_uf_s]
      unfold va_cpy
      by_cases e2 : Q ≤ i ∧ i < Q + N
      · rw [if_pos e2, if_pos ⟨rfl, e2⟩]
      · rw [if_neg e2, if_neg (fun z => e2 z.2)]
    · rw [if_neg (fun z => e z.1), fm_uf_n (by omega)]
  · exact ⟨fun _ _ => rfl, fun u hu => ⟨hs u hu, hz u hu⟩, x, p, y, q, n, rfl, rfl, rfl, Or.inr ⟨hno, rfl, rfl⟩⟩
end HTS
end MH18_2
section MH18_3
/-! ===== the model's trays: its calls, told of worlds ===== -/
def gn_MT : List (Nat × Nat) := (List.range 224).map (fun r => (1, r)) ++ [(0, 2), (0, 3), (0, 4), (3, 0), (4, 0), (5, 0)]
theorem gn_MT_ms : fm_ms gn_MT := ⟨gn_Mr _, List.mem_append_right _ (by decide), List.mem_append_right _ (by decide)⟩
theorem gm_ar3 : ∀ q ∈ gm_ar, q.1 = 3 → q = (3, 4, 0, 3) := by decide
theorem gm_ar4 : ∀ q ∈ gm_ar, q.1 = 4 → q = (4, 4, (-1), 60) := by decide
/-- the trays in the model's world: sizes, sorts, numbers -/
def tm_V (ws : va_W) (z s : Nat → Int32) (f : Nat → Nat → Int64) : Prop := ∀ t, t < 4 → lw_at ws (4, t) = some (.int (z t)) ∧ lw_at ws (3, t) = some (.int (s t)) ∧ ∀ i, i < 60 → lw_at ws (5, 60 * t + i) = some (.long (f t i))
theorem tm_V_of {ws : va_W} {g : Nat → Int32} {tp bt : Int64} {a : Nat → Nat → Int32} {b : Nat → Nat → Int64} (h : fw_is ws g tp bt a b) : tm_V ws (a 4) (a 3) (fun t i => b 5 (60 * t + i)) := fun t ht => ⟨h.2.1 4 4 _ (a 4) t rfl ht, h.2.1 3 4 _ (a 3) t rfl ht, fun i hi => h.2.2 5 240 _ (b 5) (60 * t + i) rfl (by omega)⟩
section MTS
variable {l : Launch} {D : va_G} {xt : tk_XT} {ads : List Nat}
theorem mt_sem (hst : ∀ (Ad : Nat → Prop) (U : State) (H : Heap), xt Ad U H → ∃ pl v tx, sk_X pl v Ad U H ∧ vk_R "GooseIceModel" 189 tx pl U) {k f : Nat} {kinds : List Nat} {envs : List tk_I} {S : ht_S}
    (hex : ∀ (rest : List Value) (g : Nat → Int32) (tp bt : Int64) (a : Nat → Nat → Int32) (b : Nat → Nat → Int64), rk_A2 lq_av (kinds.zip envs) rest → (∀ t, t < 4 → 0 ≤ (a 3 t).toInt ∧ (a 3 t).toInt ≤ 3) → (∀ t, t < 4 → -1 ≤ (a 4 t).toInt ∧ (a 4 t).toInt ≤ 60) → ∃ (v : Value) (st : Int32) (a' : Nat → Nat → Int32) (b' : Nat → Nat → Int64), fx_kd v ≤ 1 ∧ fr_T k f (.ref 0 :: rest) (fm g tp bt a b) (some v) (fm (upd g 2 st) tp bt a' b') ∧ (0 ≤ st.toInt ∧ st.toInt ≤ 9) ∧ (∀ j, j ≠ 3 → j ≠ 4 → a' j = a j) ∧ (∀ j, j ≠ 5 → b' j = b j) ∧ (∀ t, t < 4 → (0 ≤ (a' 3 t).toInt ∧ (a' 3 t).toInt ≤ 3) ∧ -1 ≤ (a' 4 t).toInt ∧ (a' 4 t).toInt ≤ 60) ∧ S rest (a 4) (a 3) (fun t i => b 5 (60 * t + i)) (a' 4) (a' 3) (fun t i => b' 5 (60 * t + i)) v) : lw_sem l D xt gn_TY (gn_X lw_twM) ads lw_twM (k + 4) f kinds envs (ht_Q tm_V S) := by
  refine fm_sem0 (mods := gn_MT) hst gn_fmTy (fun U rest ws h0 ps σ g tp bt a b hrest hty hfst hD hat hX => ?_)
  have hI := fm_I_of gn_fmTy hty hat hX
  obtain ⟨v, st, a', b', hv, hrun, hst', ha, hb, hbd, hS⟩ := hex rest g tp bt a b hrest (fun t ht => hI.2.2 (3, 4, 0, 3) (by decide) t ht) (fun t ht => hI.2.2 (4, 4, (-1), 60) (by decide) t ht)
  have hB : fm_B a' := fm_B_eq hI.2.1 (fun i => by rw [ha 1 (by decide) (by decide)]) (fun i hi => by rw [ha 9 (by decide) (by decide)]; exact hI.2.1.2.2 i hi)
  have hI2 : fm_I (upd g 2 st) a' := fm_I_a (fm_I_u2 hI hst') hB (fun q hq i hi => by
    by_cases h3 : q.1 = 3
    · have e := gm_ar3 q hq h3
      subst e
      exact (hbd i hi).1
    · by_cases h4 : q.1 = 4
      · have e := gm_ar4 q hq h4
        subst e
        exact (hbd i hi).2
      · rw [ha q.1 h3 h4]; exact hI.2.2 q hq i hi)
  have hF : fm_ffr gn_MT g a b (upd g 2 st) a' b' := ⟨fun k => by
    by_cases h : k = 2
    · subst h; exact Or.inl (List.mem_append_right _ (by decide))
    · exact Or.inr (pk_un h), fun t _ => by
    by_cases h3 : t = 3
    · subst h3; exact Or.inl (List.mem_append_right _ (by decide))
    · by_cases h4 : t = 4
      · subst h4; exact Or.inl (List.mem_append_right _ (by decide))
      · exact Or.inr (ha t h3 h4), fun t => by
    by_cases h5 : t = 5
    · subst h5; exact Or.inl (List.mem_append_right _ (by decide))
    · exact Or.inr (hb t h5)⟩
  exact ⟨v, _, hv, hrun, fm_chgA gn_fmTy hI2 gn_MT_ms hF, fm_X2 hat hX hI2.2.1.2.1 (fm_B_60 hI2.2.1.1), _, _, _, _, _, _, tm_V_of (fw_is_at hat), tm_V_of (fw_is_put hat), hS⟩
theorem ty_semM (hst : ∀ (Ad : Nat → Prop) (U : State) (H : Heap), xt Ad U H → ∃ pl v tx, sk_X pl v Ad U H ∧ vk_R "GooseIceModel" 189 tx pl U) : lw_sem l D xt gn_TY (gn_X lw_twM) ads lw_twM 6 213 [0, 0, 0] [gn_i, gn_i, gn_i] (ht_Q tm_V ty_S) := by
  refine mt_sem (k := 2) hst (fun rest g tp bt a b hr hs hz => ?_)
  obtain ⟨x, r1, rfl, k1⟩ := av_int hr
  obtain ⟨q, r2, rfl, k2⟩ := av_int k1
  obtain ⟨m, r3, rfl, k3⟩ := av_int k2
  obtain rfl := k3.nil
  obtain ⟨v, mem', ⟨z, st, a', b', hst', hh, hR⟩, hrun⟩ := ma_tray (g := g) (tp := tp) (bt := bt) (a := a) (b := b) (x := x) (s := q) (m := m)
  cases hR
  refine ⟨.int z, st, a', b', Nat.zero_le 1, hrun, hst', ?_⟩
  rcases hh with ⟨t, M, ht, hM, rfl, rfl, hok, rfl, rfl, rfl⟩ | ⟨hno, rfl, rfl, rfl⟩
  · have e6 : (fm_u (fm_u a 3 t q) 4 t (nI M)) 3 = upd (a 3) t q := rfl
    have e7 : (fm_u (fm_u a 3 t q) 4 t (nI M)) 4 = upd (a 4) t (nI M) := rfl
    refine ⟨fun j h6 h7 => (if_neg h7).trans (if_neg h6), fun j hj => fm_uf_n hj, fun u hu => ?_, nI t, q, nI M, rfl, Or.inl ⟨t, M, ht, hM, rfl, rfl, hok, rfl, e7, e6, fun u hu i hi hiM => ?_⟩⟩
    · rw [e6, e7]
      exact ⟨tt_upd hs hok.2.1 u hu, tt_upd hz ⟨by have := hok.2.2.1; omega, hok.2.2.2⟩ u hu⟩
    · show fm_uf b 5 (tm_f (b 5) (60 * t) M) 5 (60 * u + i) = _
      rw [fm_uf_s]
      unfold tm_f
      by_cases e : u = t
      · rw [if_pos e, if_pos (by omega)]
      · rw [if_neg e, if_neg (by omega)]
  · exact ⟨fun _ _ _ => rfl, fun _ _ => rfl, fun u hu => ⟨hs u hu, hz u hu⟩, x, q, m, rfl, Or.inr ⟨hno, rfl, rfl, rfl, rfl⟩⟩
theorem wr_semM (hst : ∀ (Ad : Nat → Prop) (U : State) (H : Heap), xt Ad U H → ∃ pl v tx, sk_X pl v Ad U H ∧ vk_R "GooseIceModel" 189 tx pl U) : lw_sem l D xt gn_TY (gn_X lw_twM) ads lw_twM 7 215 [0, 0, 1] [gn_i, gn_i, gn_l] (ht_Q tm_V wr_S) := by
  refine mt_sem (k := 3) hst (fun rest g tp bt a b hr hs hz => ?_)
  obtain ⟨x, r1, rfl, k1⟩ := av_int hr
  obtain ⟨p, r2, rfl, k2⟩ := av_int k1
  obtain ⟨n, r3, rfl, k3⟩ := av_lng k2
  obtain rfl := k3.nil
  obtain ⟨v, mem', ⟨z, st, b', hst', hh, hR⟩, hrun⟩ := ma_write (g := g) (tp := tp) (bt := bt) (a := a) (b := b) (x := x) (p := p) (w := n) hz hs
  cases hR
  refine ⟨.int z, st, a, b', Nat.zero_le 1, hrun, hst', fun _ _ _ => rfl, ?_⟩
  rcases hh with ⟨t, P, ht, rfl, rfl, hP, hPz, rfl, rfl⟩ | ⟨hno, rfl, rfl⟩
  · refine ⟨fun j hj => fm_uf_n hj, fun u hu => ⟨hs u hu, hz u hu⟩, nI t, nI P, n, rfl, rfl, rfl, Or.inl ⟨t, P, ht, rfl, rfl, hP, hPz, rfl, fun u hu i hi => ?_⟩⟩
    show fm_uf b 5 (vp_updL (b 5) (60 * t + P) (tc_cut (a 3 t) n)) 5 (60 * u + i) = _
    rw [fm_uf_s]
    unfold vp_updL
    by_cases e : u = t ∧ i = P
    · rw [if_pos e, if_pos (by omega)]
    · rw [if_neg e, if_neg (fun z => e (by omega))]
  · exact ⟨fun _ _ => rfl, fun u hu => ⟨hs u hu, hz u hu⟩, x, p, n, rfl, rfl, rfl, Or.inr ⟨hno, rfl, rfl⟩⟩
theorem rd_semM (hst : ∀ (Ad : Nat → Prop) (U : State) (H : Heap), xt Ad U H → ∃ pl v tx, sk_X pl v Ad U H ∧ vk_R "GooseIceModel" 189 tx pl U) : lw_sem l D xt gn_TY (gn_X lw_twM) ads lw_twM 7 216 [0, 0] [gn_i, gn_i] (ht_Q tm_V rd_S) := by
  refine mt_sem (k := 3) hst (fun rest g tp bt a b hr hs hz => ?_)
  obtain ⟨x, r1, rfl, k1⟩ := av_int hr
  obtain ⟨p, r2, rfl, k2⟩ := av_int k1
  obtain rfl := k2.nil
  obtain ⟨v, mem', ⟨z, st, hst', hh, hR⟩, hrun⟩ := ma_read (g := g) (tp := tp) (bt := bt) (a := a) (b := b) (x := x) (p := p) hz
  cases hR
  refine ⟨.long z, st, a, b, Nat.le_refl 1, hrun, hst', fun _ _ _ => rfl, fun _ _ => rfl, fun u hu => ⟨hs u hu, hz u hu⟩, x, p, rfl, rfl, rfl, rfl, ?_⟩
  rcases hh with ⟨t, P, ht, rfl, rfl, hP, hPz, rfl⟩ | ⟨hno, rfl⟩
  · exact Or.inl ⟨t, P, ht, rfl, rfl, hP, hPz, rfl⟩
  · exact Or.inr ⟨hno, rfl⟩
theorem pr_semM (hst : ∀ (Ad : Nat → Prop) (U : State) (H : Heap), xt Ad U H → ∃ pl v tx, sk_X pl v Ad U H ∧ vk_R "GooseIceModel" 189 tx pl U) : lw_sem l D xt gn_TY (gn_X lw_twM) ads lw_twM 6 217 [0, 0, 0, 0, 0] [gn_i, gn_i, gn_i, gn_i, gn_i] (ht_Q tm_V pr_S) := by
  refine mt_sem (k := 2) hst (fun rest g tp bt a b hr hs hz => ?_)
  obtain ⟨x, r1, rfl, k1⟩ := av_int hr
  obtain ⟨p, r2, rfl, k2⟩ := av_int k1
  obtain ⟨y, r3, rfl, k3⟩ := av_int k2
  obtain ⟨q, r4, rfl, k4⟩ := av_int k3
  obtain ⟨n, r5, rfl, k5⟩ := av_int k4
  obtain rfl := k5.nil
  obtain ⟨v, mem', ⟨z, st, b', hst', hh, hR⟩, hrun⟩ := ma_pour (g := g) (tp := tp) (bt := bt) (a := a) (b := b) (x := x) (p := p) (y := y) (q := q) (n := n) hz
  cases hR
  refine ⟨.int z, st, a, b', Nat.zero_le 1, hrun, hst', fun _ _ _ => rfl, ?_⟩
  rcases hh with ⟨t, u, P, Q, N, ht, hu, rfl, rfl, rfl, rfl, rfl, h1, h2, h3, rfl, rfl⟩ | ⟨hno, rfl, rfl⟩
  · have hzu := hz u hu
    refine ⟨fun j hj => fm_uf_n hj, fun u hu => ⟨hs u hu, hz u hu⟩, nI t, nI P, nI u, nI Q, nI N, rfl, rfl, rfl, Or.inl ⟨t, u, P, Q, N, ht, hu, rfl, rfl, rfl, rfl, rfl, h1, h2, by have := hz t ht; omega, by omega, h3, rfl, fun w hw i hi => ?_⟩⟩
    show fm_uf b 5 (va_cpy (b 5) (b 5) (60 * t + P) (60 * u + Q) N) 5 (60 * w + i) = _
    rw [fm_uf_s]
    unfold va_cpy
    by_cases e : w = u ∧ Q ≤ i ∧ i < Q + N
    · rw [if_pos e, if_pos (by omega)]
      exact congrArg (b 5) (by omega)
    · rw [if_neg e, if_neg (fun z => e (by omega))]
  · exact ⟨fun _ _ => rfl, fun u hu => ⟨hs u hu, hz u hu⟩, x, p, y, q, n, rfl, rfl, rfl, Or.inr ⟨hno, rfl, rfl⟩⟩
end MTS
/-! ===== what binds the trays of both ===== -/
def tr_F (c : Bool) (z s : Nat → Int32) (f : Nat → Nat → Int64) (z2 s2 : Nat → Int32) (f2 : Nat → Nat → Int64) : Prop := ∀ t, t < 4 → z t = z2 t ∧ s t = s2 t ∧ (c = true → ∀ i : Nat, i < 60 → (i : Int) < (z t).toInt → f t i = f2 t i)
/-- with what is in them, where c says so -/
def tr_R (c : Bool) (wc wm : va_W) : Prop := ∀ t, t < 4 → lw_at wc (7, t) = lw_at wm (4, t) ∧ lw_at wc (6, t) = lw_at wm (3, t) ∧ (c = true → ∀ (i : Nat) (x : Int32), i < 60 → lw_at wc (7, t) = some (.int x) → (i : Int) < x.toInt → lw_at wc (2 + t, i) = lw_at wm (5, 60 * t + i))
section TRF
variable {c : Bool} {wc wm : va_W} {z s z2 s2 z' s' z2' s2' : Nat → Int32} {f f2 f' f2' : Nat → Nat → Int64} {u w : Value}
theorem tr_get (h : tr_R c wc wm) (hC : tc_V wc z s f) (hM : tm_V wm z2 s2 f2) : tr_F c z s f z2 s2 f2 := by
  intro t ht
  obtain ⟨h1, h2, h3⟩ := h t ht
  obtain ⟨c1, c2, c3⟩ := hC t ht
  obtain ⟨m1, m2, m3⟩ := hM t ht
  rw [c1, m1] at h1
  rw [c2, m2] at h2
  refine ⟨Value.int.inj (Option.some.inj h1), Value.int.inj (Option.some.inj h2), fun hc i hi hz => ?_⟩
  have h4 := h3 hc i (z t) hi c1 hz
  rw [c3 i hi, m3 i hi] at h4
  exact Value.long.inj (Option.some.inj h4)
theorem tr_put (h : tr_F c z s f z2 s2 f2) (hC : tc_V wc z s f) (hM : tm_V wm z2 s2 f2) : tr_R c wc wm := by
  intro t ht
  obtain ⟨h1, h2, h3⟩ := h t ht
  obtain ⟨c1, c2, c3⟩ := hC t ht
  obtain ⟨m1, m2, m3⟩ := hM t ht
  refine ⟨by rw [c1, m1, h1], by rw [c2, m2, h2], fun hc i x hi hx hz => ?_⟩
  rw [c1] at hx
  rw [c3 i hi, m3 i hi, h3 hc i hi (by rw [Value.int.inj (Option.some.inj hx)]; exact hz)]
theorem tp_ext (h : ∀ t, t < 4 → z t = z2 t) {x p : Int32} (h1 : tp_ok z x p) : tp_ok z2 x p := by
  obtain ⟨t, ht, e, h2, h3⟩ := h1
  exact ⟨t, ht, e, h2, by rw [← h t ht]; exact h3⟩
theorem pr_ext (h : ∀ t, t < 4 → z t = z2 t) (hs : ∀ t, t < 4 → s t = s2 t) {x p y q n : Int32} (h1 : pr_ok z s x p y q n) : pr_ok z2 s2 x p y q n := by
  obtain ⟨t, u, ht, hu, e1, e2, k1, k2, k3, k4, k5, k6, k7, k8⟩ := h1
  exact ⟨t, u, ht, hu, e1, e2, k1, k2, k3, by rw [← h t ht]; exact k4, by rw [← h u hu]; exact k5, by rw [← hs t ht, ← hs u hu]; exact k6, by rw [← h t ht]; exact k7, by rw [← h u hu]; exact k8⟩
theorem nI_bnd {n m : Nat} (hn : n ≤ 60) (hm : m ≤ 60) (e : nI n = nI m) : n = m := by
  have h2 : (nI n).toInt = (nI m).toInt := by rw [e]
  rw [nI_i32 (by omega), nI_i32 (by omega)] at h2
  omega
theorem ty_rel (h : tr_F c z s f z2 s2 f2) {av : List Value} (h1 : ty_S av z s f z' s' f' u) (h2 : ty_S av z2 s2 f2 z2' s2' f2' w) : u = w ∧ tr_F c z' s' f' z2' s2' f2' := by
  obtain ⟨x, q, m, rfl, k1⟩ := h1
  obtain ⟨x2, q2, m2, e, k2⟩ := h2
  cases e
  rcases k1 with ⟨t, M, ht, hM, rfl, rfl, hok, rfl, rfl, rfl, hf⟩ | ⟨hno, rfl, rfl, rfl, rfl⟩
  · rcases k2 with ⟨t2, M2, ht2, hM2, e1, e2, -, rfl, rfl, rfl, hf2⟩ | ⟨hno, -⟩
    · obtain rfl := nI_lt4 ht ht2 e1
      obtain rfl := nI_bnd hM hM2 e2
      refine ⟨rfl, fun v hv => ?_⟩
      obtain ⟨r1, r2, r3⟩ := h v hv
      by_cases e : v = t
      · subst e
        refine ⟨by rw [pk_us, pk_us], by rw [pk_us, pk_us], fun hc i hi hz => ?_⟩
        rw [pk_us, nI_i32 (by omega)] at hz
        rw [hf v hv i hi (Or.inl (by omega)), hf2 v hv i hi (Or.inl (by omega)), if_pos rfl, if_pos rfl]
      · refine ⟨by rw [pk_un e, pk_un e]; exact r1, by rw [pk_un e, pk_un e]; exact r2, fun hc i hi hz => ?_⟩
        rw [pk_un e] at hz
        rw [hf v hv i hi (Or.inr e), hf2 v hv i hi (Or.inr e), if_neg e, if_neg e]
        exact r3 hc i hi hz
    · exact absurd hok hno
  · rcases k2 with ⟨t2, M2, ht2, hM2, rfl, rfl, hok, -⟩ | ⟨-, rfl, rfl, rfl, rfl⟩
    · exact absurd hok hno
    · exact ⟨rfl, h⟩
theorem wr_rel (h : tr_F c z s f z2 s2 f2) {av av2 : List Value} (ha : ∃ (x p : Int32) (n n2 : Int64), av = [.int x, .int p, .long n] ∧ av2 = [.int x, .int p, .long n2] ∧ (c = true → n = n2)) (h1 : wr_S av z s f z' s' f' u) (h2 : wr_S av2 z2 s2 f2 z2' s2' f2' w) : u = w ∧ tr_F c z' s' f' z2' s2' f2' := by
  obtain ⟨x, p, n, n2, rfl, rfl, hn⟩ := ha
  obtain ⟨x1, p1, n1, e, rfl, rfl, k1⟩ := h1
  cases e
  obtain ⟨x1, p1, n1, e, rfl, rfl, k2⟩ := h2
  cases e
  rcases k1 with ⟨t, P, ht, rfl, rfl, hP, hPz, rfl, hf⟩ | ⟨hno, rfl, rfl⟩
  · rcases k2 with ⟨t2, P2, ht2, e1, e2, hP2, hPz2, rfl, hf2⟩ | ⟨hno, -⟩
    · obtain rfl := nI_lt4 ht ht2 e1
      obtain rfl := nI_bnd (by omega) (by omega) e2
      refine ⟨rfl, fun v hv => ⟨(h v hv).1, (h v hv).2.1, fun hc i hi hz => ?_⟩⟩
      rw [hf v hv i hi, hf2 v hv i hi]
      by_cases e : v = t ∧ i = P
      · rw [if_pos e, if_pos e, hn hc, (h t ht).2.1]
      · rw [if_neg e, if_neg e]
        exact (h v hv).2.2 hc i hi hz
    · exact absurd ⟨t, ht, rfl, by rw [nI_i32 (by omega)]; omega, by rw [nI_i32 (by omega), ← (h t ht).1]; exact hPz⟩ hno
  · rcases k2 with ⟨t, P, ht, rfl, rfl, hP, hPz, -⟩ | ⟨-, rfl, rfl⟩
    · exact absurd ⟨t, ht, rfl, by rw [nI_i32 (by omega)]; omega, by rw [nI_i32 (by omega), (h t ht).1]; exact hPz⟩ hno
    · exact ⟨rfl, h⟩
theorem rd_rel (h : tr_F true z s f z2 s2 f2) {av : List Value} (h1 : rd_S av z s f z' s' f' u) (h2 : rd_S av z2 s2 f2 z2' s2' f2' w) : u = w ∧ tr_F true z' s' f' z2' s2' f2' := by
  obtain ⟨x, p, rfl, rfl, rfl, rfl, k1⟩ := h1
  obtain ⟨x1, p1, e, rfl, rfl, rfl, k2⟩ := h2
  cases e
  refine ⟨?_, h⟩
  rcases k1 with ⟨t, P, ht, rfl, rfl, hP, hPz, rfl⟩ | ⟨hno, rfl⟩
  · rcases k2 with ⟨t2, P2, ht2, e1, e2, hP2, hPz2, rfl⟩ | ⟨hno, -⟩
    · obtain rfl := nI_lt4 ht ht2 e1
      obtain rfl := nI_bnd (by omega) (by omega) e2
      rw [(h t ht).2.2 rfl P hP hPz]
    · exact absurd ⟨t, ht, rfl, by rw [nI_i32 (by omega)]; omega, by rw [nI_i32 (by omega), ← (h t ht).1]; exact hPz⟩ hno
  · rcases k2 with ⟨t, P, ht, rfl, rfl, hP, hPz, -⟩ | ⟨-, rfl⟩
    · exact absurd ⟨t, ht, rfl, by rw [nI_i32 (by omega)]; omega, by rw [nI_i32 (by omega), (h t ht).1]; exact hPz⟩ hno
    · rfl
theorem pr_rel (h : tr_F c z s f z2 s2 f2) {av : List Value} (h1 : pr_S av z s f z' s' f' u) (h2 : pr_S av z2 s2 f2 z2' s2' f2' w) : u = w ∧ tr_F c z' s' f' z2' s2' f2' := by
  obtain ⟨x, p, y, q, n, rfl, rfl, rfl, k1⟩ := h1
  obtain ⟨x1, p1, y1, q1, n1, e, rfl, rfl, k2⟩ := h2
  cases e
  have ok : ∀ {z s : Nat → Int32} {t u P Q N : Nat}, t < 4 → u < 4 → (P + N : Nat) ≤ (z t).toInt → (Q + N : Nat) ≤ (z u).toInt → P + N ≤ 60 → Q + N ≤ 60 → s t = s u → pr_ok z s (nI t) (nI P) (nI u) (nI Q) (nI N) := fun {z s t u P Q N} ht hu a1 a2 a3 a4 a5 => ⟨t, u, ht, hu, rfl, rfl, by rw [nI_i32 (by omega)]; omega, by rw [nI_i32 (by omega)]; omega, by rw [nI_i32 (by omega)]; omega, by omega, by omega, a5, by rw [nI_i32 (by omega), nI_i32 (by omega)]; omega, by rw [nI_i32 (by omega), nI_i32 (by omega)]; omega⟩
  rcases k1 with ⟨t, v, P, Q, N, ht, hv, rfl, rfl, rfl, rfl, rfl, a1, a2, a3, a4, a5, rfl, hf⟩ | ⟨hno, rfl, rfl⟩
  · rcases k2 with ⟨t2, v2, P2, Q2, N2, ht2, hv2, e1, e2, e3, e4, e5, b1, b2, b3, b4, b5, rfl, hf2⟩ | ⟨hno, -⟩
    · obtain rfl := nI_lt4 ht ht2 e1
      obtain rfl := nI_lt4 hv hv2 e2
      obtain rfl := nI_bnd (by omega) (by omega) e3
      obtain rfl := nI_bnd (by omega) (by omega) e4
      obtain rfl := nI_bnd (by omega) (by omega) e5
      refine ⟨rfl, fun k hk => ⟨(h k hk).1, (h k hk).2.1, fun hc i hi hz => ?_⟩⟩
      rw [hf k hk i hi, hf2 k hk i hi]
      by_cases e : k = v ∧ Q ≤ i ∧ i < Q + N
      · rw [if_pos e, if_pos e]
        exact (h t ht).2.2 hc _ (by omega) (by omega)
      · rw [if_neg e, if_neg e]
        exact (h k hk).2.2 hc i hi hz
    · exact absurd (pr_ext (fun t ht => (h t ht).1) (fun t ht => (h t ht).2.1) (ok ht hv a1 a2 a3 a4 a5)) hno
  · rcases k2 with ⟨t, v, P, Q, N, ht, hv, rfl, rfl, rfl, rfl, rfl, a1, a2, a3, a4, a5, -⟩ | ⟨-, rfl, rfl⟩
    · exact absurd (pr_ext (fun t ht => (h t ht).1.symm) (fun t ht => (h t ht).2.1.symm) (ok ht hv a1 a2 a3 a4 a5)) hno
    · exact ⟨rfl, h⟩
/-- the same, of the worlds -/
theorem tr_both {c0 m0 c1 m1 : va_W} {S S2 : ht_S} {av av2 : List Value} (h : tr_R c c0 m0) (hS : ∀ {z s z2 s2 z' s' z2' s2' : Nat → Int32} {f f2 f' f2' : Nat → Nat → Int64}, tr_F c z s f z2 s2 f2 → S av z s f z' s' f' u → S2 av2 z2 s2 f2 z2' s2' f2' w → u = w ∧ tr_F c z' s' f' z2' s2' f2') (h1 : ht_Q tc_V S av c0 c1 u) (h2 : ht_Q tm_V S2 av2 m0 m1 w) : u = w ∧ tr_R c c1 m1 := by
  obtain ⟨z, s, f, z', s', f', a1, a2, a3⟩ := h1
  obtain ⟨z2, s2, f2, z2', s2', f2', b1, b2, b3⟩ := h2
  obtain ⟨e, h3⟩ := hS (tr_get h a1 b1) a3 b3
  exact ⟨e, tr_put h3 a2 b2⟩
def tr_WC (c : Bool) : List (Nat × Nat) := (List.range 4).flatMap (fun t => (7, t) :: (6, t) :: cond c ((List.range 60).map (fun i => (2 + t, i))) [])
def tr_WM (c : Bool) : List (Nat × Nat) := (List.range 4).flatMap (fun t => (4, t) :: (3, t) :: cond c ((List.range 60).map (fun i => (5, 60 * t + i))) [])
theorem tr_un {c0 m0 c1 m1 : va_W} (h : tr_R c c0 m0) (hC : ∀ z ∈ tr_WC c, lw_at c1 z = lw_at c0 z) (hM : ∀ z ∈ tr_WM c, lw_at m1 z = lw_at m0 z) : tr_R c c1 m1 := by
  intro t ht
  have kC : ∀ z ∈ ((7, t) :: (6, t) :: cond c ((List.range 60).map (fun i => (2 + t, i))) [] : List (Nat × Nat)), lw_at c1 z = lw_at c0 z := fun z hz => hC z (List.mem_flatMap.mpr ⟨t, List.mem_range.mpr ht, hz⟩)
  have kM : ∀ z ∈ ((4, t) :: (3, t) :: cond c ((List.range 60).map (fun i => (5, 60 * t + i))) [] : List (Nat × Nat)), lw_at m1 z = lw_at m0 z := fun z hz => hM z (List.mem_flatMap.mpr ⟨t, List.mem_range.mpr ht, hz⟩)
  obtain ⟨h1, h2, h3⟩ := h t ht
  have c7 := kC _ List.mem_cons_self
  have c6 := kC _ (List.mem_cons_of_mem _ List.mem_cons_self)
  have m4 := kM _ List.mem_cons_self
  have m3 := kM _ (List.mem_cons_of_mem _ List.mem_cons_self)
  refine ⟨by rw [c7, m4]; exact h1, by rw [c6, m3]; exact h2, fun hc i x hi hx hz => ?_⟩
  rw [c7] at hx
  subst hc
  rw [kC (2 + t, i) (List.mem_cons_of_mem _ (List.mem_cons_of_mem _ (List.mem_map.mpr ⟨i, List.mem_range.mpr hi, rfl⟩))), kM (5, 60 * t + i) (List.mem_cons_of_mem _ (List.mem_cons_of_mem _ (List.mem_map.mpr ⟨i, List.mem_range.mpr hi, rfl⟩)))]
  exact h3 rfl i x hi hx hz
end TRF
/-- where the references need to stand, too -/
theorem lw_sem_gs {l : Launch} {D : va_G} {xt : tk_XT} {ads : List Nat} {d f : Nat} {kinds : List Nat} {envs : List tk_I} {Q : List Value → va_W → va_W → Value → Prop} (h : lw_sem l D xt gc_TY (gc_X lw_twC) ads lw_twC d f kinds envs Q) (hQ : ∀ av ws ws' v, Q av ws ws' v → ∀ z ∈ gs_L, lw_at ws' (z.1, z.2.1) = lw_at ws (z.1, z.2.1)) : lw_sem l D xt gc_TY hg_X ads lw_twC d f kinds envs Q := by
  intro q hq
  obtain ⟨M, h1, h2, h3⟩ := h q hq
  refine ⟨M, h1, h2, fun ax ws av sz a1 a2 a3 a4 => rk_Met_case (fun aU U hP => ?_)⟩
  obtain ⟨p1, p2, p3, p4, p5, p6, p7, p8, p10⟩ := hP
  refine ⟨_, _, h3 ax ws av sz a1 a2 a3 a4, ⟨p1, p2, p3, p4, p5, p6, p7, p8, p10.1⟩, ?_⟩
  rintro oc t - ⟨⟨ws', v, b1, b2, b3, b4, b5, b6, b7⟩, hF⟩
  refine ⟨⟨ws', v, b1, b2, b3, b4, ⟨b5, fun z hz => ?_⟩, b6, b7⟩, hF⟩
  rw [hQ _ _ _ _ b6 z hz, p10.2 z hz]
  have e : ∀ (w : va_W) (k : Nat), (w[k]?).map (fun q => Value.ref q.1) = ((w.map Prod.fst)[k]?).map Value.ref := fun w k => by
    rw [List.getElem?_map, Option.map_map]
    rfl
  rw [e, e, b1, a3]
end MH18_3
section MH18_4
/-! ===== the tokens of a text: bytes are numbers from 0 to 255 ===== -/
def sp_ws (c : Nat) : Bool := Nat.beq c 10 || Nat.beq c 32
def sp_sm (c : Nat) : Bool := Nat.ble 97 c && Nat.ble c 122
def sp_dg (c : Nat) : Bool := Nat.ble 48 c && Nat.ble c 57
def sp_sg (c : Nat) : Bool := Nat.ble 59 c && Nat.ble c 62
theorem sp_ws_i {c : Nat} : sp_ws c = true ↔ c = 10 ∨ c = 32 := by
  unfold sp_ws
  rw [Bool.or_eq_true, Nat.beq_eq, Nat.beq_eq]
theorem sp_rg_i {lo hi c : Nat} : (Nat.ble lo c && Nat.ble c hi) = true ↔ lo ≤ c ∧ c ≤ hi := by
  rw [Bool.and_eq_true, Nat.ble_eq, Nat.ble_eq]
theorem sp_sm_i {c : Nat} : sp_sm c = true ↔ 97 ≤ c ∧ c ≤ 122 := sp_rg_i
theorem sp_dg_i {c : Nat} : sp_dg c = true ↔ 48 ≤ c ∧ c ≤ 57 := sp_rg_i
theorem sp_sg_i {c : Nat} : sp_sg c = true ↔ 59 ≤ c ∧ c ≤ 62 := sp_rg_i
/-- the first place from k on, at most f places on, that is not of kind P, or n -/
def sp_go (P : Nat → Bool) (T : Nat → Nat) (n : Nat) : Nat → Nat → Nat
  | 0, k => k
  | f + 1, k => if k < n ∧ P (T k) = true then sp_go P T n f (k + 1) else k
def sp_e (P : Nat → Bool) (T : Nat → Nat) (n k : Nat) : Nat := sp_go P T n (n - k) k
section SPE
variable {P : Nat → Bool} {T : Nat → Nat} {n k : Nat}
theorem sp_e_t (h : k < n) (hp : P (T k) = true) : sp_e P T n k = sp_e P T n (k + 1) := by
  unfold sp_e
  rw [show n - k = (n - (k + 1)) + 1 from by omega]
  show (if k < n ∧ P (T k) = true then sp_go P T n (n - (k + 1)) (k + 1) else k) = _
  rw [if_pos ⟨h, hp⟩]
theorem sp_e_f (h : ¬ (k < n ∧ P (T k) = true)) : sp_e P T n k = k := by
  unfold sp_e
  cases n - k with
  | zero => rfl
  | succ m =>
    show (if k < n ∧ P (T k) = true then sp_go P T n m (k + 1) else k) = k
    rw [if_neg h]
theorem sp_e_ind : ∀ (f k : Nat), n - k = f → k ≤ sp_e P T n k ∧ (k ≤ n → sp_e P T n k ≤ n) ∧ (∀ j, k ≤ j → j < sp_e P T n k → P (T j) = true) ∧ ¬ (sp_e P T n k < n ∧ P (T (sp_e P T n k)) = true) := by
  intro f
  induction f with
  | zero =>
    intro k hk
    have hn : ¬ (k < n ∧ P (T k) = true) := fun z => by have := z.1; omega
    rw [sp_e_f hn]
    exact ⟨Nat.le_refl _, id, fun j h1 h2 => absurd h2 (by omega), hn⟩
  | succ f ih =>
    intro k hk
    by_cases h : k < n ∧ P (T k) = true
    · rw [sp_e_t h.1 h.2]
      obtain ⟨a1, a2, a3, a4⟩ := ih (k + 1) (by omega)
      refine ⟨by omega, fun _ => a2 (by omega), fun j h1 h2 => ?_, a4⟩
      by_cases e : j = k
      · rw [e]; exact h.2
      · exact a3 j (by omega) h2
    · rw [sp_e_f h]
      exact ⟨Nat.le_refl _, id, fun j h1 h2 => absurd h2 (by omega), h⟩
theorem sp_e_ge : k ≤ sp_e P T n k := (sp_e_ind _ k rfl).1
theorem sp_e_le (h : k ≤ n) : sp_e P T n k ≤ n := (sp_e_ind _ k rfl).2.1 h
theorem sp_e_all {j : Nat} (h : k ≤ j) (h2 : j < sp_e P T n k) : P (T j) = true := (sp_e_ind _ k rfl).2.2.1 j h h2
theorem sp_e_end : ¬ (sp_e P T n k < n ∧ P (T (sp_e P T n k)) = true) := (sp_e_ind _ k rfl).2.2.2
theorem sp_e_one (h : k < n) (hp : P (T k) = true) : k < sp_e P T n k := by
  rw [sp_e_t h hp]
  have : k + 1 ≤ sp_e P T n (k + 1) := sp_e_ge
  omega
end SPE
/-- where the token behind p begins -/
def sp_s (T : Nat → Nat) (n p : Nat) : Nat := sp_e sp_ws T n p
/-- 0 none, 1 a word, 2 a number, 3 a sign, 4 bad -/
def sp_k (T : Nat → Nat) (n p : Nat) : Nat := if sp_s T n p < n then (if sp_sm (T (sp_s T n p)) = true then 1 else if sp_dg (T (sp_s T n p)) = true then (if sp_e sp_dg T n (sp_s T n p) ≤ sp_s T n p + 4 then 2 else 4) else if sp_sg (T (sp_s T n p)) = true then 3 else 4) else 0
/-- where it ends (a bad sign: where it begins) -/
def sp_n (T : Nat → Nat) (n p : Nat) : Nat := if sp_s T n p < n then (if sp_sm (T (sp_s T n p)) = true then sp_e sp_sm T n (sp_s T n p) else if sp_dg (T (sp_s T n p)) = true then sp_e sp_dg T n (sp_s T n p) else if sp_sg (T (sp_s T n p)) = true then sp_s T n p + 1 else sp_s T n p) else sp_s T n p
section SPT
variable {T : Nat → Nat} {n p : Nat}
theorem sp_s_ge : p ≤ sp_s T n p := sp_e_ge
theorem sp_s_le (h : p ≤ n) : sp_s T n p ≤ n := sp_e_le h
theorem sp_t0 (h : ¬ sp_s T n p < n) : sp_k T n p = 0 ∧ sp_n T n p = sp_s T n p := by
  unfold sp_k sp_n
  rw [if_neg h, if_neg h]
  exact ⟨rfl, rfl⟩
theorem sp_t1 (h : sp_s T n p < n) (h1 : sp_sm (T (sp_s T n p)) = true) : sp_k T n p = 1 ∧ sp_n T n p = sp_e sp_sm T n (sp_s T n p) := by
  unfold sp_k sp_n
  rw [if_pos h, if_pos h, if_pos h1, if_pos h1]
  exact ⟨rfl, rfl⟩
theorem sp_dg_sm {c : Nat} (h : sp_dg c = true) : ¬ sp_sm c = true := fun z => by
  have h1 := sp_dg_i.mp h
  have h2 := sp_sm_i.mp z
  omega
theorem sp_sg_sm {c : Nat} (h : sp_sg c = true) : ¬ sp_sm c = true := fun z => by
  have h1 := sp_sg_i.mp h
  have h2 := sp_sm_i.mp z
  omega
theorem sp_sg_dg {c : Nat} (h : sp_sg c = true) : ¬ sp_dg c = true := fun z => by
  have h1 := sp_sg_i.mp h
  have h2 := sp_dg_i.mp z
  omega
theorem sp_t2 (h : sp_s T n p < n) (h1 : sp_dg (T (sp_s T n p)) = true) : sp_k T n p = (if sp_n T n p ≤ sp_s T n p + 4 then 2 else 4) ∧ sp_n T n p = sp_e sp_dg T n (sp_s T n p) := by
  have e : sp_n T n p = sp_e sp_dg T n (sp_s T n p) := by
    unfold sp_n
    rw [if_pos h, if_neg (sp_dg_sm h1), if_pos h1]
  rw [e]
  unfold sp_k
  rw [if_pos h, if_neg (sp_dg_sm h1), if_pos h1]
  exact ⟨rfl, rfl⟩
theorem sp_t3 (h : sp_s T n p < n) (h1 : sp_sg (T (sp_s T n p)) = true) : sp_k T n p = 3 ∧ sp_n T n p = sp_s T n p + 1 := by
  unfold sp_k sp_n
  rw [if_pos h, if_pos h, if_neg (sp_sg_sm h1), if_neg (sp_sg_sm h1), if_neg (sp_sg_dg h1), if_neg (sp_sg_dg h1), if_pos h1, if_pos h1]
  exact ⟨rfl, rfl⟩
theorem sp_t4 (h : sp_s T n p < n) (h1 : ¬ sp_sm (T (sp_s T n p)) = true) (h2 : ¬ sp_dg (T (sp_s T n p)) = true) (h3 : ¬ sp_sg (T (sp_s T n p)) = true) : sp_k T n p = 4 ∧ sp_n T n p = sp_s T n p := by
  unfold sp_k sp_n
  rw [if_pos h, if_pos h, if_neg h1, if_neg h1, if_neg h2, if_neg h2, if_neg h3, if_neg h3]
  exact ⟨rfl, rfl⟩
/-- what a token may be -/
theorem sp_cs (hp : p ≤ n) : (sp_s T n p = n ∧ sp_k T n p = 0 ∧ sp_n T n p = n) ∨ (sp_s T n p < n ∧ sp_sm (T (sp_s T n p)) = true ∧ sp_k T n p = 1 ∧ sp_s T n p < sp_n T n p ∧ sp_n T n p ≤ n ∧ sp_n T n p = sp_e sp_sm T n (sp_s T n p)) ∨ (sp_s T n p < n ∧ sp_dg (T (sp_s T n p)) = true ∧ (sp_k T n p = 2 ∧ sp_n T n p ≤ sp_s T n p + 4 ∨ sp_k T n p = 4 ∧ sp_s T n p + 4 < sp_n T n p) ∧ sp_s T n p < sp_n T n p ∧ sp_n T n p ≤ n ∧ sp_n T n p = sp_e sp_dg T n (sp_s T n p)) ∨ (sp_s T n p < n ∧ sp_sg (T (sp_s T n p)) = true ∧ sp_k T n p = 3 ∧ sp_n T n p = sp_s T n p + 1) ∨ (sp_s T n p < n ∧ ¬ sp_sm (T (sp_s T n p)) = true ∧ ¬ sp_dg (T (sp_s T n p)) = true ∧ ¬ sp_sg (T (sp_s T n p)) = true ∧ sp_k T n p = 4 ∧ sp_n T n p = sp_s T n p) := by
  have hs := sp_s_le (T := T) hp
  by_cases h : sp_s T n p < n
  · by_cases h1 : sp_sm (T (sp_s T n p)) = true
    · obtain ⟨e1, e2⟩ := sp_t1 h h1
      refine Or.inr (Or.inl ⟨h, h1, e1, ?_, ?_, e2⟩)
      · rw [e2]; exact sp_e_one h h1
      · rw [e2]; exact sp_e_le hs
    · by_cases h2 : sp_dg (T (sp_s T n p)) = true
      · obtain ⟨e1, e2⟩ := sp_t2 h h2
        refine Or.inr (Or.inr (Or.inl ⟨h, h2, ?_, ?_, ?_, e2⟩))
        · by_cases h4 : sp_n T n p ≤ sp_s T n p + 4
          · rw [if_pos h4] at e1; exact Or.inl ⟨e1, h4⟩
          · rw [if_neg h4] at e1; exact Or.inr ⟨e1, by omega⟩
        · rw [e2]; exact sp_e_one h h2
        · rw [e2]; exact sp_e_le hs
      · by_cases h3 : sp_sg (T (sp_s T n p)) = true
        · obtain ⟨e1, e2⟩ := sp_t3 h h3
          exact Or.inr (Or.inr (Or.inr (Or.inl ⟨h, h3, e1, e2⟩)))
        · obtain ⟨e1, e2⟩ := sp_t4 h h1 h2 h3
          exact Or.inr (Or.inr (Or.inr (Or.inr ⟨h, h1, h2, h3, e1, e2⟩)))
  · obtain ⟨e1, e2⟩ := sp_t0 h
    exact Or.inl ⟨by omega, e1, by rw [e2]; omega⟩
theorem sp_k4 : sp_k T n p ≤ 4 := by
  unfold sp_k
  split
  · split
    · decide
    · split
      · split <;> decide
      · split <;> decide
  · decide
theorem sp_n_le (hp : p ≤ n) : sp_n T n p ≤ n := by
  rcases sp_cs (T := T) hp with h | h | h | h | h <;> omega
theorem sp_n_ge : sp_s T n p ≤ sp_n T n p := by
  unfold sp_n
  split
  · split
    · exact sp_e_ge
    · split
      · exact sp_e_ge
      · split <;> omega
  · exact Nat.le_refl _
theorem sp_n_p : p ≤ sp_n T n p := Nat.le_trans sp_s_ge sp_n_ge
/-- a token that is no bad one and not the end goes on -/
theorem sp_n_lt (hp : p ≤ n) (h : sp_k T n p = 1 ∨ sp_k T n p = 2 ∨ sp_k T n p = 3) : sp_s T n p < sp_n T n p := by
  rcases sp_cs (T := T) hp with h1 | h1 | h1 | h1 | h1 <;> omega
end SPT
/-- the letters from s to e -/
def sp_L (T : Nat → Nat) (s k : Nat) : List Nat := (List.range k).map (fun i => T (s + i))
theorem sp_L_s (T : Nat → Nat) (s k : Nat) : sp_L T s (k + 1) = sp_L T s k ++ [T (s + k)] := by
  unfold sp_L
  rw [List.range_succ, List.map_append]
  rfl
theorem sp_L_len (T : Nat → Nat) (s k : Nat) : (sp_L T s k).length = k := by
  unfold sp_L
  rw [List.length_map, List.length_range]
/-- the word of the token behind p -/
def sp_wd (T : Nat → Nat) (n p : Nat) : List Nat := sp_L T (sp_s T n p) (sp_n T n p - sp_s T n p)
def sp_lo (L : List Nat) : Prop := ∀ c ∈ L, 97 ≤ c ∧ c ≤ 122
theorem sp_L_mem {T : Nat → Nat} {s k c : Nat} (h : c ∈ sp_L T s k) : ∃ i, i < k ∧ c = T (s + i) := by
  unfold sp_L at h
  obtain ⟨i, h1, h2⟩ := List.mem_map.mp h
  exact ⟨i, List.mem_range.mp h1, h2.symm⟩
theorem sp_wd_lo {T : Nat → Nat} {n p : Nat} (hp : p ≤ n) (h : sp_k T n p = 1) : sp_lo (sp_wd T n p) := by
  intro c hc
  obtain ⟨i, h1, rfl⟩ := sp_L_mem hc
  rcases sp_cs (T := T) hp with h2 | h2 | h2 | h2 | h2
  · omega
  · exact sp_sm_i.mp (sp_e_all (k := sp_s T n p) (by omega) (by rw [← h2.2.2.2.2.2]; omega))
  · omega
  · omega
  · omega
theorem sp_wd_len {T : Nat → Nat} {n p : Nat} : (sp_wd T n p).length = sp_n T n p - sp_s T n p := sp_L_len _ _ _
/-- the class's number of letters, and the model's -/
def sp_cd (L : List Nat) : Nat := L.foldl (fun v c => v * 32 + (c - 96)) 0
def sp_c8 (L : List Nat) : Nat := L.foldl (fun v c => v * 256 + c) 0
theorem sp_cd_s (L : List Nat) (c : Nat) : sp_cd (L ++ [c]) = sp_cd L * 32 + (c - 96) := by
  unfold sp_cd
  rw [List.foldl_append]
  rfl
theorem sp_c8_s (L : List Nat) (c : Nat) : sp_c8 (L ++ [c]) = sp_c8 L * 256 + c := by
  unfold sp_c8
  rw [List.foldl_append]
  rfl
theorem sp_rev {Q : List Nat → Prop} (h0 : Q []) (h1 : ∀ (L : List Nat) (c : Nat), Q L → Q (L ++ [c])) : ∀ L, Q L := by
  intro L
  have key : ∀ M : List Nat, Q M.reverse := by
    intro M
    induction M with
    | nil => exact h0
    | cons c M ih => rw [List.reverse_cons]; exact h1 _ _ ih
  have := key L.reverse
  rw [List.reverse_reverse] at this
  exact this
theorem sp_lo_app {L : List Nat} {c : Nat} (h : sp_lo (L ++ [c])) : sp_lo L ∧ 97 ≤ c ∧ c ≤ 122 := ⟨fun d hd => h d (List.mem_append_left _ hd), h c (List.mem_append_right _ List.mem_cons_self)⟩
theorem sp_cd_lt : ∀ L : List Nat, sp_lo L → sp_cd L < 32 ^ L.length := by
  refine sp_rev (fun _ => by decide) (fun L c ih h => ?_)
  obtain ⟨h1, h2, h3⟩ := sp_lo_app h
  have := ih h1
  rw [sp_cd_s, List.length_append, show ([c] : List Nat).length = 1 from rfl, Nat.pow_succ]
  omega
theorem sp_c8_lt : ∀ L : List Nat, sp_lo L → sp_c8 L < 256 ^ L.length := by
  refine sp_rev (fun _ => by decide) (fun L c ih h => ?_)
  obtain ⟨h1, h2, h3⟩ := sp_lo_app h
  have := ih h1
  rw [sp_c8_s, List.length_append, show ([c] : List Nat).length = 1 from rfl, Nat.pow_succ]
  omega
theorem sp_cd_inj : ∀ L : List Nat, sp_lo L → ∀ M : List Nat, sp_lo M → sp_cd L = sp_cd M → L = M := by
  refine sp_rev (fun _ => ?_) (fun L c ih h => ?_)
  · refine sp_rev (fun _ _ => rfl) (fun M d _ h e => ?_)
    obtain ⟨-, h2, h3⟩ := sp_lo_app h
    rw [sp_cd_s] at e
    have e : (0 : Nat) = _ := e
    omega
  · obtain ⟨h1, h2, h3⟩ := sp_lo_app h
    refine sp_rev (fun _ e => ?_) (fun M d _ hM e => ?_)
    · rw [sp_cd_s] at e
      have e : _ = (0 : Nat) := e
      omega
    · obtain ⟨k1, k2, k3⟩ := sp_lo_app hM
      rw [sp_cd_s, sp_cd_s] at e
      have e1 : sp_cd L = sp_cd M := by omega
      have e2 : c = d := by omega
      rw [ih h1 M k1 e1, e2]
theorem sp_c8_inj : ∀ L : List Nat, sp_lo L → ∀ M : List Nat, sp_lo M → sp_c8 L = sp_c8 M → L = M := by
  refine sp_rev (fun _ => ?_) (fun L c ih h => ?_)
  · refine sp_rev (fun _ _ => rfl) (fun M d _ h e => ?_)
    obtain ⟨-, h2, h3⟩ := sp_lo_app h
    rw [sp_c8_s] at e
    have e : (0 : Nat) = _ := e
    omega
  · obtain ⟨h1, h2, h3⟩ := sp_lo_app h
    refine sp_rev (fun _ e => ?_) (fun M d _ hM e => ?_)
    · rw [sp_c8_s] at e
      have e : _ = (0 : Nat) := e
      omega
    · obtain ⟨k1, k2, k3⟩ := sp_lo_app hM
      rw [sp_c8_s, sp_c8_s] at e
      have e1 : sp_c8 L = sp_c8 M := by omega
      have e2 : c = d := by omega
      rw [ih h1 M k1 e1, e2]
/-- the number of k digits from s on, as the class counts it and as the model does -/
def sp_nb (T : Nat → Nat) (s : Nat) : Nat → Nat
  | 0 => 0
  | k + 1 => sp_nb T s k * 10 + (T (s + k) - 48)
def sp_nv (T : Nat → Nat) (s : Nat) : Nat → Nat
  | 0 => 0
  | k + 1 => min 100000 (10 * sp_nv T s k + T (s + k) - 48)
theorem sp_nb_lt {T : Nat → Nat} {s : Nat} : ∀ k : Nat, (∀ i, i < k → 48 ≤ T (s + i) ∧ T (s + i) ≤ 57) → sp_nb T s k < 10 ^ k := by
  intro k
  induction k with
  | zero => intro _; exact Nat.one_pos
  | succ k ih =>
    intro h
    have h1 := ih (fun i hi => h i (by omega))
    have h2 := h k (by omega)
    show sp_nb T s k * 10 + (T (s + k) - 48) < 10 ^ (k + 1)
    rw [Nat.pow_succ]
    omega
theorem sp_nv_eq {T : Nat → Nat} {s : Nat} : ∀ k : Nat, k ≤ 4 → (∀ i, i < k → 48 ≤ T (s + i) ∧ T (s + i) ≤ 57) → sp_nv T s k = sp_nb T s k := by
  intro k
  induction k with
  | zero => intro _ _; rfl
  | succ k ih =>
    intro h4 h
    have h1 := ih (by omega) (fun i hi => h i (by omega))
    have h2 := h k (by omega)
    have h3 := sp_nb_lt (s := s) k (fun i hi => h i (by omega))
    have h5 : 10 ^ k ≤ 10 ^ 3 := Nat.pow_le_pow_right (by decide) (by omega)
    show min 100000 (10 * sp_nv T s k + T (s + k) - 48) = sp_nb T s k * 10 + (T (s + k) - 48)
    rw [h1]
    have h6 : (10 : Nat) ^ 3 = 1000 := by decide
    omega
theorem sp_nv_le {T : Nat → Nat} {s : Nat} : ∀ k : Nat, sp_nv T s k ≤ 100000 := by
  intro k
  cases k with
  | zero => exact Nat.zero_le _
  | succ k => exact Nat.min_le_left _ _
/-- the number of the token behind p -/
def sp_v (T : Nat → Nat) (n p : Nat) : Nat := sp_nb T (sp_s T n p) (sp_n T n p - sp_s T n p)
theorem sp_v_lt {T : Nat → Nat} {n p : Nat} (hp : p ≤ n) (h : sp_k T n p = 2) : sp_v T n p < 10000 := by
  have h4 : sp_n T n p ≤ sp_s T n p + 4 := by rcases sp_cs (T := T) hp with h2 | h2 | h2 | h2 | h2 <;> omega
  have h1 := sp_nb_lt (T := T) (s := sp_s T n p) (sp_n T n p - sp_s T n p) (fun i hi => by
    rcases sp_cs (T := T) hp with h2 | h2 | h2 | h2 | h2
    · omega
    · omega
    · exact sp_dg_i.mp (sp_e_all (k := sp_s T n p) (by omega) (by rw [← h2.2.2.2.2.2]; omega))
    · omega
    · omega)
  have h5 : (10 : Nat) ^ (sp_n T n p - sp_s T n p) ≤ 10 ^ 4 := Nat.pow_le_pow_right (by decide) (by omega)
  have h6 : (10 : Nat) ^ 4 = 10000 := by decide
  unfold sp_v
  omega
/-- the words that are no names, in the order of the class -/
def sp_KW : List (List Nat) := [[105, 99, 101], [98, 101, 97, 114, 115], [115, 104, 111, 114, 101], [119, 97, 121], [98, 101, 115, 105, 100, 101], [119, 97, 108, 107, 101, 114], [119, 101, 105, 103, 104, 115], [97, 116], [119, 111, 114, 115, 101], [104, 111, 117, 114], [98, 101, 116, 116, 101, 114], [115, 101, 110, 100], [116, 111], [115, 116, 101, 112], [102, 114, 111, 115, 116], [116, 104, 97, 119], [97, 110, 121], [119, 104, 101, 110], [105, 110], [119, 101, 116], [108, 111, 111, 112], [101, 110, 100], [115, 116, 111, 112]]
/-- the model's number of each -/
def sp_pm : List Nat := [0, 8, 1, 2, 3, 4, 9, 10, 5, 6, 7, 11, 16, 12, 13, 14, 15, 18, 17, 22, 19, 20, 21]
/-- the number of a word among them, 23 for none -/
def sp_kw (L : List Nat) : Nat := sp_KW.findIdx (fun w => decide (w = L))
theorem sp_kw_le (L : List Nat) : sp_kw L ≤ 23 := List.findIdx_le_length
theorem sp_kw_get {L : List Nat} (h : sp_kw L < 23) : sp_KW[sp_kw L]? = some L := by
  have h2 : sp_kw L < sp_KW.length := h
  have := List.findIdx_getElem (w := h2)
  rw [List.getElem?_eq_getElem h2]
  exact congrArg some (of_decide_eq_true this)
theorem sp_KW_nd : ∀ i, i < 23 → ∀ j, j < 23 → sp_KW[i]? = sp_KW[j]? → i = j := by decide +kernel
theorem sp_kw_of {L : List Nat} {j : Nat} (h : sp_KW[j]? = some L) : sp_kw L = j := by
  have hj : j < 23 := (List.getElem?_eq_some_iff.mp h).1
  have h1 : sp_kw L < 23 := by
    show List.findIdx _ sp_KW < sp_KW.length
    exact List.findIdx_lt_length_of_exists ⟨L, List.mem_of_getElem? h, decide_eq_true rfl⟩
  exact sp_KW_nd _ h1 _ hj ((sp_kw_get h1).trans h.symm)
theorem sp_kw_no {L : List Nat} (h : ∀ j, j < 23 → sp_KW[j]? ≠ some L) : sp_kw L = 23 := by
  have h1 := sp_kw_le L
  by_cases h2 : sp_kw L < 23
  · exact absurd (sp_kw_get h2) (h _ h2)
  · omega
theorem sp_KW_lo : ∀ w ∈ sp_KW, (∀ c ∈ w, 97 ≤ c ∧ c ≤ 122) ∧ w.length ≤ 8 ∧ 0 < sp_cd w := by decide +kernel
theorem sp_i64 {a b : Nat} (ha : a < 2 ^ 63) (hb : b < 2 ^ 63) (h : Int64.ofNat a = Int64.ofNat b) : a = b := by
  have h1 : (Int64.ofNat a).toInt = (Int64.ofNat b).toInt := by rw [h]
  rw [Int64.toInt_ofNat_of_lt ha, Int64.toInt_ofNat_of_lt hb] at h1
  omega
theorem sp_cd_63 {L : List Nat} (h : sp_lo L) (h8 : L.length ≤ 8) : sp_cd L < 2 ^ 63 := by
  have h1 := sp_cd_lt L h
  have h2 : 32 ^ L.length ≤ 32 ^ 8 := Nat.pow_le_pow_right (by decide) h8
  have h3 : (32 : Nat) ^ 8 < 2 ^ 63 := by decide
  omega
theorem sp_cdI {L M : List Nat} (h : sp_lo L) (h8 : L.length ≤ 8) (hM : sp_lo M) (hM8 : M.length ≤ 8) (e : Int64.ofNat (sp_cd L) = Int64.ofNat (sp_cd M)) : L = M := sp_cd_inj L h M hM (sp_i64 (sp_cd_63 h h8) (sp_cd_63 hM hM8) e)
/-- a name: a word of at most 8 letters that is none of these -/
def sp_nm (T : Nat → Nat) (n p : Nat) : Prop := sp_k T n p = 1 ∧ sp_n T n p ≤ sp_s T n p + 8 ∧ sp_kw (sp_wd T n p) = 23
theorem sp_cd_pos {L : List Nat} (h : sp_lo L) (h0 : L ≠ []) : 0 < sp_cd L := by
  revert h h0
  refine sp_rev (Q := fun L => sp_lo L → L ≠ [] → 0 < sp_cd L) (fun _ z => absurd rfl z) (fun L c _ h _ => ?_) L
  obtain ⟨h1, h2, h3⟩ := sp_lo_app h
  rw [sp_cd_s]
  omega
/-- what is told of a word: the class's name, its number among those that are no names -/
def sp_cn (T : Nat → Nat) (n p : Nat) : Int64 := if sp_n T n p ≤ sp_s T n p + 8 then Int64.ofNat (sp_cd (sp_wd T n p)) else 0
def sp_cw (T : Nat → Nat) (n p : Nat) : Int32 := if sp_k T n p = 1 ∧ sp_kw (sp_wd T n p) < 23 then nI (sp_kw (sp_wd T n p)) else -1
theorem sp_cw0 {T : Nat → Nat} {n p : Nat} (h : sp_k T n p ≠ 1) : sp_cw T n p = -1 := if_neg (fun z => h z.1)
/-- the fault where another token is wanted -/
def sp_m (T : Nat → Nat) (n p : Nat) : Int32 := if sp_k T n p = 4 then 1 else 2
theorem sp_m0 {T : Nat → Nat} {n p : Nat} : sp_m T n p ≠ 0 := by
  unfold sp_m
  split <;> decide
end MH18_4
