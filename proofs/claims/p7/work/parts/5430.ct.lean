/-! ===== the class's trays, exactly ===== -/
def fm_ul (l : Nat → Nat → Int64) (t i : Nat) (v : Int64) : Nat → Nat → Int64 := fun t2 => if t2 = t then vp_updL (l t) i v else l t2
def fm_uf (b : Nat → Nat → Int64) (j : Nat) (f : Nat → Int64) : Nat → Nat → Int64 := fun j2 => if j2 = j then f else b j2
theorem fm_uf_uf (b : Nat → Nat → Int64) (j : Nat) (f f2 : Nat → Int64) : fm_uf (fm_uf b j f) j f2 = fm_uf b j f2 := by
  funext k
  unfold fm_uf
  by_cases h : k = j
  · rw [if_pos h, if_pos h]
  · rw [if_neg h, if_neg h, if_neg h]
theorem fm_uf_s {b : Nat → Nat → Int64} {j : Nat} {f : Nat → Int64} : fm_uf b j f j = f := if_pos rfl
def ty_ok (t s m : Int32) : Prop := (0 ≤ t.toInt ∧ t.toInt ≤ 3) ∧ (0 ≤ s.toInt ∧ s.toInt ≤ 3) ∧ 0 ≤ m.toInt ∧ m.toInt ≤ 60
theorem nI_lt4 {k k' : Nat} (h : k < 4) (h' : k' < 4) (e : nI k = nI k') : k = k' := by
  have h2 : (nI k).toInt = (nI k').toInt := by rw [e]
  rw [nI_i32 (by omega), nI_i32 (by omega)] at h2
  omega
/-- a place of a tray; z the trays' sizes -/
def tp_ok (z : Nat → Int32) (x p : Int32) : Prop := ∃ t, t < 4 ∧ x = nI t ∧ 0 ≤ p.toInt ∧ p.toInt < (z t).toInt
theorem tp_no1 {z : Nat → Int32} {x p : Int32} (h : ¬ (0 ≤ x.toInt ∧ x.toInt < 4)) : ¬ tp_ok z x p := by
  rintro ⟨t, ht, rfl, -⟩
  exact h ⟨by rw [nI_i32 (by omega)]; omega, by rw [nI_i32 (by omega)]; omega⟩
theorem tp_no {z : Nat → Int32} {p : Int32} {t : Nat} (ht : t < 4) (h : ¬ (0 ≤ p.toInt ∧ p.toInt < (z t).toInt)) : ¬ tp_ok z (nI t) p := by
  rintro ⟨t', ht', e, h1, h2⟩
  have := nI_lt4 ht ht' e
  subst this
  exact h ⟨h1, h2⟩
/-- what may be poured; z the sizes, s the sorts -/
def pr_ok (z s : Nat → Int32) (x p y q n : Int32) : Prop := ∃ t u, t < 4 ∧ u < 4 ∧ x = nI t ∧ y = nI u ∧ 0 ≤ p.toInt ∧ 0 ≤ q.toInt ∧ 0 ≤ n.toInt ∧ 0 ≤ (z t).toInt ∧ 0 ≤ (z u).toInt ∧ s t = s u ∧ p.toInt + n.toInt ≤ (z t).toInt ∧ q.toInt + n.toInt ≤ (z u).toInt
theorem pr_no1 {z s : Nat → Int32} {x p y q n : Int32} (h : ¬ (0 ≤ x.toInt ∧ x.toInt < 4)) : ¬ pr_ok z s x p y q n := by
  rintro ⟨t, u, ht, hu, rfl, -⟩
  exact h ⟨by rw [nI_i32 (by omega)]; omega, by rw [nI_i32 (by omega)]; omega⟩
theorem pr_no2 {z s : Nat → Int32} {x p y q n : Int32} (h : ¬ (0 ≤ y.toInt ∧ y.toInt < 4)) : ¬ pr_ok z s x p y q n := by
  rintro ⟨t, u, ht, hu, -, rfl, -⟩
  exact h ⟨by rw [nI_i32 (by omega)]; omega, by rw [nI_i32 (by omega)]; omega⟩
theorem pr_no {z s : Nat → Int32} {p q n : Int32} {t u : Nat} (ht : t < 4) (hu : u < 4) (h : ¬ (0 ≤ p.toInt ∧ 0 ≤ q.toInt ∧ 0 ≤ n.toInt ∧ 0 ≤ (z t).toInt ∧ 0 ≤ (z u).toInt ∧ s t = s u ∧ p.toInt + n.toInt ≤ (z t).toInt ∧ q.toInt + n.toInt ≤ (z u).toInt)) : ¬ pr_ok z s (nI t) p (nI u) q n := by
  rintro ⟨t', u', ht', hu', e, e2, h1⟩
  have := nI_lt4 ht ht' e
  have := nI_lt4 hu hu' e2
  subst t' u'
  exact h h1
theorem tc_sub {x y : Int32} (h : 0 ≤ y.toInt) (h2 : y.toInt ≤ x.toInt) : (x - y).toInt = x.toInt - y.toInt := by
  rw [Int32.toInt_sub]
  have a := Int32.le_toInt x
  have b := Int32.toInt_lt x
  exact Int.bmod_eq_of_le (by omega) (by omega)
/-- the first k of a row are v -/
def tc_f (f : Nat → Int64) (k : Nat) (v : Int64) : Nat → Int64 := fun i => if i < k then v else f i
theorem tc_f0 (f : Nat → Int64) (v : Int64) : tc_f f 0 v = f := funext (fun _ => if_neg (Nat.not_lt_zero _))
theorem tc_fs (f : Nat → Int64) (k : Nat) (v : Int64) : vp_updL (tc_f f k v) k v = tc_f f (k + 1) v := by
  funext i
  unfold vp_updL tc_f
  by_cases h : i = k
  · rw [if_pos h, if_pos (by omega)]
  · rw [if_neg h]
    by_cases h2 : i < k
    · rw [if_pos h2, if_pos (by omega)]
    · rw [if_neg h2, if_neg (by omega)]
section CT
variable {g : Nat → Nat → Int32} {l : Nat → Nat → Int64} {a : Nat → Nat → Int32} {b : Nat → Nat → Int64} {R : fx_M}
theorem cm_row {t : Nat} (ht : t < 4) : (cm g l a b R)[2 + t]? = some (.inr (.long, 60, .inr (.inl (b (2 + t))))) := by
  rcases (by omega : t = 0 ∨ t = 1 ∨ t = 2 ∨ t = 3) with rfl | rfl | rfl | rfl <;> rfl
theorem cm_rows {t : Nat} (ht : t < 4) (f : Nat → Int64) : (cm g l a b R).set (2 + t) (.inr (.long, 60, .inr (.inl f))) = cm g l a (fm_uf b (2 + t) f) R := by
  rcases (by omega : t = 0 ∨ t = 1 ∨ t = 2 ∨ t = 3) with rfl | rfl | rfl | rfl <;> rfl
theorem cr1_at {t : Nat} (ht : t < 4) : va_rf (cr1 (nI t).toNatClampNeg) = .ref (2 + t) := by
  rw [nI_clamp (by omega)]
  unfold cr1
  rw [if_pos ht]
  rfl
theorem ha_deny {x : Int32} : hr_T 1 189 [.ref 0, .int x] (cm g l a b R) (some (.int 0)) (cm (fm_u g 0 0 x) l a b R) := by
  refine hr_meth (by rfl) (by rfl) ?_
  refine hr_s 4 (pc' := 6) (lc' := [(0, .ref 0), (1, .int x)]) (stk' := [.int 0]) (mem' := cm (fm_u g 0 0 x) l a b R) (by intro _ _ _; eq_refl) ?_
  exact hr_ret (by rfl) (by rfl) (by rfl)
theorem ha_agree : hr_T 1 188 [.ref 0] (cm g l a b R) (some (.int 1)) (cm (fm_u g 0 0 0) l a b R) := by
  refine hr_meth (by rfl) (by rfl) ?_
  refine hr_s 4 (pc' := 6) (lc' := [(0, .ref 0)]) (stk' := [.int 1]) (mem' := cm (fm_u g 0 0 0) l a b R) (by intro _ _ _; eq_refl) ?_
  exact hr_ret (by rfl) (by rfl) (by rfl)
theorem ha_refuse {x : Int32} : hr_T 1 187 [.ref 0, .int x] (cm g l a b R) (some (.int (-1))) (cm (fm_u g 0 0 x) l a b R) := by
  refine hr_meth (by rfl) (by rfl) ?_
  refine hr_s 4 (pc' := 6) (lc' := [(0, .ref 0), (1, .int x)]) (stk' := [.int (-1)]) (mem' := cm (fm_u g 0 0 x) l a b R) (by intro _ _ _; eq_refl) ?_
  exact hr_ret (by rfl) (by rfl) (by rfl)
theorem tc_lt {x y : Int32} (h : fx_cb .lt x y = true) : x.toInt < y.toInt := Int32.lt_iff_toInt_lt.mp (of_decide_eq_true h)
theorem tc_ltF {x y : Int32} (h : fx_cb .lt x y = false) : y.toInt ≤ x.toInt := by
  have := of_decide_eq_false h
  rw [Int32.lt_iff_toInt_lt] at this
  omega
theorem tc_ge {x y : Int32} (h : fx_cb .ge x y = true) : y.toInt ≤ x.toInt := Int32.le_iff_toInt_le.mp (of_decide_eq_true h)
theorem tc_geF {x y : Int32} (h : fx_cb .ge x y = false) : x.toInt < y.toInt := by
  have := of_decide_eq_false h
  rw [Int32.le_iff_toInt_le] at this
  omega
theorem tc_gt {x y : Int32} (h : fx_cb .gt x y = true) : y.toInt < x.toInt := Int32.lt_iff_toInt_lt.mp (of_decide_eq_true h)
theorem tc_gtF {x y : Int32} (h : fx_cb .gt x y = false) : x.toInt ≤ y.toInt := by
  have := of_decide_eq_false h
  rw [Int32.lt_iff_toInt_lt] at this
  omega
theorem tc_le {x y : Int32} (h : fx_cb .le x y = true) : x.toInt ≤ y.toInt := Int32.le_iff_toInt_le.mp (of_decide_eq_true h)
theorem tc_leF {x y : Int32} (h : fx_cb .le x y = false) : y.toInt < x.toInt := by
  have := of_decide_eq_false h
  rw [Int32.le_iff_toInt_le] at this
  omega
theorem tc_z (n : Nat) : ((OfNat.ofNat n : Int32)).toInt = (OfNat.ofNat n : Int32).toInt := rfl
theorem ha_isTray {x : Int32} : ∃ (v : Option Value) (mem' : fx_M), (fun R1 => ∃ z : Int32, (z = 0 ∧ ¬ (0 ≤ x.toInt ∧ x.toInt < 4) ∨ z = 1 ∧ ∃ t, t < 4 ∧ x = nI t) ∧ R1 = (some (.int z), cm g l a b R)) (v, mem') ∧ hr_T 1 191 [.int x] (cm g l a b R) v mem' := by
  refine he_meth (F := fun R1 => ∃ z : Int32, (z = 0 ∧ ¬ (0 ≤ x.toInt ∧ x.toInt < 4) ∨ z = 1 ∧ ∃ t, t < 4 ∧ x = nI t) ∧ R1 = (some (.int z), cm g l a b R)) (M := gk_m191) (by rfl) (by rfl) ?_
  refine he_s 1 (pc' := 1) (lc' := [(0, .int x)]) (stk' := [.int x]) (mem' := cm g l a b R) (by intro _ _ _; eq_refl) ?_
  refine he_s 1 (pc' := cond (fx_cb .lt x 0) 13 4) (lc' := [(0, .int x)]) (stk' := []) (mem' := cm g l a b R) (by intro _ _ _; eq_refl) ?_
  cases h1 : fx_cb .lt x 0
  · refine he_s 2 (pc' := 6) (lc' := [(0, .int x)]) (stk' := [.int 4, .int x]) (mem' := cm g l a b R) (by intro _ _ _; eq_refl) ?_
    refine he_s 1 (pc' := cond (fx_cb .ge x 4) 13 9) (lc' := [(0, .int x)]) (stk' := []) (mem' := cm g l a b R) (by intro _ _ _; eq_refl) ?_
    cases h2 : fx_cb .ge x 4
    · refine he_s 2 (pc' := 14) (lc' := [(0, .int x)]) (stk' := [.int 1]) (mem' := cm g l a b R) (by intro _ _ _; eq_refl) ?_
      refine he_ret ⟨1, Or.inr ⟨rfl, ?_⟩, rfl⟩ (by rfl) (by rfl) (by rfl)
      have q1 := tc_ltF h1
      have q2 := tc_geF h2
      have q1 : (0 : Int) ≤ x.toInt := q1
      have q2 : x.toInt < 4 := q2
      obtain ⟨t, ht, e⟩ := nI_bd (x := x) (n := 3) q1 (by omega)
      exact ⟨t, by omega, e⟩
    · refine he_s 1 (pc' := 14) (lc' := [(0, .int x)]) (stk' := [.int 0]) (mem' := cm g l a b R) (by intro _ _ _; eq_refl) ?_
      refine he_ret ⟨0, Or.inl ⟨rfl, fun z => ?_⟩, rfl⟩ (by rfl) (by rfl) (by rfl)
      have q1 : (4 : Int) ≤ x.toInt := tc_ge h2
      omega
  · refine he_s 1 (pc' := 14) (lc' := [(0, .int x)]) (stk' := [.int 0]) (mem' := cm g l a b R) (by intro _ _ _; eq_refl) ?_
    refine he_ret ⟨0, Or.inl ⟨rfl, fun z => ?_⟩, rfl⟩ (by rfl) (by rfl) (by rfl)
    have q1 : x.toInt < 0 := tc_lt h1
    omega
/-- a number cut to its sort -/
def tc_cut (s : Int32) (v : Int64) : Int64 := if s = 0 then v.toInt32.toInt8.toInt32.toInt64 else if s = 1 then v.toInt32.toInt16.toInt32.toInt64 else if s = 2 then v.toInt32.toInt64 else v
theorem ha_fill {t : Nat} {v : Int64} (ht : t < 4) : hr_T 1 387 [.ref (2 + t), .long v] (cm g l a b R) none (cm g l a (fm_uf b (2 + t) (tc_f (b (2 + t)) 60 v)) R) := by
  have loop : ∀ (r k : Nat), k + r = 60 → hr_R 0 gk_m387 6 [(4, .int 60), (3, .int (nI k)), (0, .ref (2 + t)), (1, .long v)] [] (cm g l a (fm_uf b (2 + t) (tc_f (b (2 + t)) k v)) R) (none, cm g l a (fm_uf b (2 + t) (tc_f (b (2 + t)) 60 v)) R) := by
    intro r
    induction r with
    | zero =>
      intro k hk
      obtain rfl : k = 60 := by omega
      refine hr_s 3 (pc' := cond (fx_cb .ge (nI 60) 60) 22 12) (lc' := [(4, .int 60), (3, .int (nI 60)), (0, .ref (2 + t)), (1, .long v)]) (stk' := []) (mem' := cm g l a (fm_uf b (2 + t) (tc_f (b (2 + t)) 60 v)) R) (by intro _ _ _; eq_refl) ?_
      rw [show (fx_cb .ge (nI 60) 60) = true from by decide]
      exact hr_ret (by rfl) (by rfl) (by rfl)
    | succ r ih =>
      intro k hk
      refine hr_s 3 (pc' := cond (fx_cb .ge (nI k) 60) 22 12) (lc' := [(4, .int 60), (3, .int (nI k)), (0, .ref (2 + t)), (1, .long v)]) (stk' := []) (mem' := cm g l a (fm_uf b (2 + t) (tc_f (b (2 + t)) k v)) R) (by intro _ _ _; eq_refl) ?_
      rw [show (fx_cb .ge (nI k) 60) = false from cb_geF (a := k) (b := 60) (by omega) (by omega) (by omega)]
      dsimp only [cond]
      refine hr_s 3 (pc' := 15) (lc' := [(4, .int 60), (3, .int (nI k)), (0, .ref (2 + t)), (1, .long v)]) (stk' := [.long v, .int (nI k), .ref (2 + t)]) (mem' := cm g l a (fm_uf b (2 + t) (tc_f (b (2 + t)) k v)) R) (by intro _ _ _; eq_refl) ?_
      refine hr_stL (by rfl) (cm_row ht) (fx_inN (i := k) (by omega) (by omega)) (cm_rows ht _) ?_
      rw [nI_clamp (by omega), fm_uf_s, tc_fs, fm_uf_uf]
      refine hr_s 2 (pc' := 6) (lc' := [(3, .int (nI k + 1)), (4, .int 60), (0, .ref (2 + t)), (1, .long v)]) (stk' := []) (mem' := cm g l a (fm_uf b (2 + t) (tc_f (b (2 + t)) (k + 1) v)) R) (by intro _ _ _; eq_refl) ?_
      rw [show nI k + 1 = nI (k + 1) from nI_add k 1]
      exact hr_w (lc' := [(4, .int 60), (3, .int (nI (k + 1))), (0, .ref (2 + t)), (1, .long v)]) ⟨rfl, rfl, rfl, rfl, trivial⟩ (by show List.Nodup [4, 3, 0, 1]; decide) (by show List.Nodup [3, 4, 0, 1]; decide) (ih (k + 1) (by omega))
  refine hr_meth (by rfl) (by rfl) ?_
  refine hr_s 3 (pc' := 3) (lc' := [(3, .int 0), (0, .ref (2 + t)), (1, .long v)]) (stk' := [.ref (2 + t)]) (mem' := cm g l a b R) (by intro _ _ _; eq_refl) ?_
  refine hr_len (by rfl) (cm_row ht) ?_
  refine hr_s 1 (pc' := 6) (lc' := [(4, .int 60), (3, .int 0), (0, .ref (2 + t)), (1, .long v)]) (stk' := []) (mem' := cm g l a b R) (by intro _ _ _; eq_refl) ?_
  have h0 := loop 60 0 (by omega)
  rw [tc_f0] at h0
  have e : fm_uf b (2 + t) (b (2 + t)) = b := by
    funext k
    unfold fm_uf
    by_cases h : k = 2 + t
    · rw [if_pos h, h]
    · rw [if_neg h]
  rw [e] at h0
  exact h0
theorem ha_tray {x s m : Int32} : ∃ (v : Option Value) (mem' : fx_M), (fun R1 => ∃ (z st : Int32) (a' : Nat → Nat → Int32) (b' : Nat → Nat → Int64), (0 ≤ st.toInt ∧ st.toInt ≤ 9) ∧ ((∃ t, t < 4 ∧ x = nI t ∧ ty_ok x s m ∧ z = 1 ∧ a' = fm_u (fm_u a 6 t s) 7 t m ∧ b' = fm_uf b (2 + t) (tc_f (b (2 + t)) 60 0)) ∨ ¬ ty_ok x s m ∧ z = 0 ∧ a' = a ∧ b' = b) ∧ R1 = (some (.int z), cm (fm_u g 0 0 st) l a' b' R)) (v, mem') ∧ hr_T 2 130 [.ref 0, .int x, .int s, .int m] (cm g l a b R) v mem' := by
  refine he_meth (F := fun R1 => ∃ (z st : Int32) (a' : Nat → Nat → Int32) (b' : Nat → Nat → Int64), (0 ≤ st.toInt ∧ st.toInt ≤ 9) ∧ ((∃ t, t < 4 ∧ x = nI t ∧ ty_ok x s m ∧ z = 1 ∧ a' = fm_u (fm_u a 6 t s) 7 t m ∧ b' = fm_uf b (2 + t) (tc_f (b (2 + t)) 60 0)) ∨ ¬ ty_ok x s m ∧ z = 0 ∧ a' = a ∧ b' = b) ∧ R1 = (some (.int z), cm (fm_u g 0 0 st) l a' b' R)) (M := gk_m130) (by rfl) (by rfl) ?_
  refine he_s 1 (pc' := 1) (lc' := [(0, .ref 0), (1, .int x), (2, .int s), (3, .int m)]) (stk' := [.int x]) (mem' := cm g l a b R) (by intro _ _ _; eq_refl) ?_
  obtain ⟨vz1, memz1, ⟨xz1, hxz1, hRz1⟩, hfrz1⟩ := ha_isTray (x := x) (g := g) (l := l) (a := a) (b := b) (R := R)
  cases hRz1
  refine he_ivS hfrz1 (by omega) (by rfl) (by rfl) (by rfl) (by rfl) (by rfl) ?_
  rcases hxz1 with ⟨rfl, not⟩ | ⟨rfl, t, ht, rfl⟩
  · refine he_s 1 (pc' := cond (fx_cb .eq 0 0) 26 7) (lc' := [(0, .ref 0), (1, .int x), (2, .int s), (3, .int m)]) (stk' := []) (mem' := cm g l a b R) (by intro _ _ _; eq_refl) ?_
    rw [show (fx_cb .eq 0 0) = true from by decide]
    dsimp only [cond]
    refine he_s 2 (pc' := 28) (lc' := [(0, .ref 0), (1, .int x), (2, .int s), (3, .int m)]) (stk' := [.int 1, .ref 0]) (mem' := cm g l a b R) (by intro _ _ _; eq_refl) ?_
    refine he_ivV (ha_deny (x := 1)) (by omega) (by rfl) (by rfl) (by rfl) (by rfl) (by rfl) (by rfl) ?_
    refine he_ret ⟨0, 1, _, _, by decide, Or.inr ⟨fun z => ?_, rfl, rfl, rfl⟩, rfl⟩ (by rfl) (by rfl) (by rfl)
    obtain ⟨⟨z1, z2⟩, ⟨z3, z4⟩, z5, z6⟩ := z
    first | omega | exact noz1 ⟨z1, by omega⟩
  · refine he_s 1 (pc' := cond (fx_cb .eq 1 0) 26 7) (lc' := [(0, .ref 0), (1, .int (nI t)), (2, .int s), (3, .int m)]) (stk' := []) (mem' := cm g l a b R) (by intro _ _ _; eq_refl) ?_
    rw [show (fx_cb .eq 1 0) = false from by decide]
    dsimp only [cond]
    refine he_s 1 (pc' := 8) (lc' := [(0, .ref 0), (1, .int (nI t)), (2, .int s), (3, .int m)]) (stk' := [.int s]) (mem' := cm g l a b R) (by intro _ _ _; eq_refl) ?_
    refine he_s 1 (pc' := cond (fx_cb .lt s 0) 26 11) (lc' := [(0, .ref 0), (1, .int (nI t)), (2, .int s), (3, .int m)]) (stk' := []) (mem' := cm g l a b R) (by intro _ _ _; eq_refl) ?_
    cases h2 : fx_cb .lt s 0
    · refine he_s 2 (pc' := 13) (lc' := [(0, .ref 0), (1, .int (nI t)), (2, .int s), (3, .int m)]) (stk' := [.int 3, .int s]) (mem' := cm g l a b R) (by intro _ _ _; eq_refl) ?_
      refine he_s 1 (pc' := cond (fx_cb .gt s 3) 26 16) (lc' := [(0, .ref 0), (1, .int (nI t)), (2, .int s), (3, .int m)]) (stk' := []) (mem' := cm g l a b R) (by intro _ _ _; eq_refl) ?_
      cases h3 : fx_cb .gt s 3
      · refine he_s 1 (pc' := 17) (lc' := [(0, .ref 0), (1, .int (nI t)), (2, .int s), (3, .int m)]) (stk' := [.int m]) (mem' := cm g l a b R) (by intro _ _ _; eq_refl) ?_
        refine he_s 1 (pc' := cond (fx_cb .lt m 0) 26 20) (lc' := [(0, .ref 0), (1, .int (nI t)), (2, .int s), (3, .int m)]) (stk' := []) (mem' := cm g l a b R) (by intro _ _ _; eq_refl) ?_
        cases h4 : fx_cb .lt m 0
        · refine he_s 2 (pc' := 23) (lc' := [(0, .ref 0), (1, .int (nI t)), (2, .int s), (3, .int m)]) (stk' := [.int 60, .int m]) (mem' := cm g l a b R) (by intro _ _ _; eq_refl) ?_
          refine he_s 1 (pc' := cond (fx_cb .le m 60) 32 26) (lc' := [(0, .ref 0), (1, .int (nI t)), (2, .int s), (3, .int m)]) (stk' := []) (mem' := cm g l a b R) (by intro _ _ _; eq_refl) ?_
          cases h5 : fx_cb .le m 60
          · refine he_s 2 (pc' := 28) (lc' := [(0, .ref 0), (1, .int (nI t)), (2, .int s), (3, .int m)]) (stk' := [.int 1, .ref 0]) (mem' := cm g l a b R) (by intro _ _ _; eq_refl) ?_
            refine he_ivV (ha_deny (x := 1)) (by omega) (by rfl) (by rfl) (by rfl) (by rfl) (by rfl) (by rfl) ?_
            have q0 : (0 : Int) ≤ (s).toInt := tc_ltF h2
            have q1 : (s).toInt ≤ 3 := tc_gtF h3
            have q2 : (0 : Int) ≤ (m).toInt := tc_ltF h4
            have q3 : (60 : Int) < (m).toInt := tc_leF h5
            refine he_ret ⟨0, 1, _, _, by decide, Or.inr ⟨fun z => ?_, rfl, rfl, rfl⟩, rfl⟩ (by rfl) (by rfl) (by rfl)
            obtain ⟨⟨z1, z2⟩, ⟨z3, z4⟩, z5, z6⟩ := z
            first | omega | exact noz1 ⟨z1, by omega⟩
          · refine he_s 3 (pc' := 37) (lc' := [(0, .ref 0), (1, .int (nI t)), (2, .int s), (3, .int m)]) (stk' := [.int (nI t), .ref 1]) (mem' := cm g l a b R) (by intro _ _ _; eq_refl) ?_
            refine he_ldA (by rfl) (by rfl) (fx_inN (i := t) (by omega) (by omega)) (by rfl) ?_
            rw [cr1_at (t := t) (by omega)]
            refine he_s 1 (pc' := 39) (lc' := [(0, .ref 0), (1, .int (nI t)), (2, .int s), (3, .int m)]) (stk' := [.long 0, .ref (2 + t)]) (mem' := cm g l a b R) (by intro _ _ _; eq_refl) ?_
            refine he_ivS (ha_fill (t := t) (v := 0) (by omega)) (by omega) (by rfl) (by rfl) (by rfl) (by rfl) (by rfl) ?_
            refine he_s 4 (pc' := 48) (lc' := [(0, .ref 0), (1, .int (nI t)), (2, .int s), (3, .int m)]) (stk' := [.int s, .int (nI t), .ref 6]) (mem' := cm g l a (fm_uf b (2 + t) (tc_f (b (2 + t)) 60 0)) R) (by intro _ _ _; eq_refl) ?_
            refine he_stI (mem' := cm g l (fm_u a 6 (nI t : Int32).toNatClampNeg s) (fm_uf b (2 + t) (tc_f (b (2 + t)) 60 0)) R) (by rfl) (by rfl) (fx_inN (i := t) (by omega) (by omega)) cm_si6 ?_
            rw [show Int32.toNatClampNeg (nI t) = t from nI_clamp (by omega)]
            refine he_s 4 (pc' := 55) (lc' := [(0, .ref 0), (1, .int (nI t)), (2, .int s), (3, .int m)]) (stk' := [.int m, .int (nI t), .ref 7]) (mem' := cm g l (fm_u a 6 t s) (fm_uf b (2 + t) (tc_f (b (2 + t)) 60 0)) R) (by intro _ _ _; eq_refl) ?_
            refine he_stI (mem' := cm g l (fm_u (fm_u a 6 t s) 7 (nI t : Int32).toNatClampNeg m) (fm_uf b (2 + t) (tc_f (b (2 + t)) 60 0)) R) (by rfl) (by rfl) (fx_inN (i := t) (by omega) (by omega)) cm_si7 ?_
            rw [show Int32.toNatClampNeg (nI t) = t from nI_clamp (by omega)]
            refine he_s 1 (pc' := 57) (lc' := [(0, .ref 0), (1, .int (nI t)), (2, .int s), (3, .int m)]) (stk' := [.ref 0]) (mem' := cm g l (fm_u (fm_u a 6 t s) 7 t m) (fm_uf b (2 + t) (tc_f (b (2 + t)) 60 0)) R) (by intro _ _ _; eq_refl) ?_
            refine he_ivV ha_agree (by omega) (by rfl) (by rfl) (by rfl) (by rfl) (by rfl) (by rfl) ?_
            have q0 : (0 : Int) ≤ (s).toInt := tc_ltF h2
            have q1 : (s).toInt ≤ 3 := tc_gtF h3
            have q2 : (0 : Int) ≤ (m).toInt := tc_ltF h4
            have q3 : (m).toInt ≤ 60 := tc_le h5
            have e1 := nI_i32 (n := t) (by omega)
            exact he_ret ⟨1, 0, _, _, by decide, Or.inl ⟨t, ht, rfl, ⟨⟨by omega, by omega⟩, ⟨by omega, by omega⟩, by omega, by omega⟩, rfl, rfl, rfl⟩, rfl⟩ (by rfl) (by rfl) (by rfl)
        · refine he_s 2 (pc' := 28) (lc' := [(0, .ref 0), (1, .int (nI t)), (2, .int s), (3, .int m)]) (stk' := [.int 1, .ref 0]) (mem' := cm g l a b R) (by intro _ _ _; eq_refl) ?_
          refine he_ivV (ha_deny (x := 1)) (by omega) (by rfl) (by rfl) (by rfl) (by rfl) (by rfl) (by rfl) ?_
          have q0 : (0 : Int) ≤ (s).toInt := tc_ltF h2
          have q1 : (s).toInt ≤ 3 := tc_gtF h3
          have q2 : (m).toInt < 0 := tc_lt h4
          refine he_ret ⟨0, 1, _, _, by decide, Or.inr ⟨fun z => ?_, rfl, rfl, rfl⟩, rfl⟩ (by rfl) (by rfl) (by rfl)
          obtain ⟨⟨z1, z2⟩, ⟨z3, z4⟩, z5, z6⟩ := z
          first | omega | exact noz1 ⟨z1, by omega⟩
      · refine he_s 2 (pc' := 28) (lc' := [(0, .ref 0), (1, .int (nI t)), (2, .int s), (3, .int m)]) (stk' := [.int 1, .ref 0]) (mem' := cm g l a b R) (by intro _ _ _; eq_refl) ?_
        refine he_ivV (ha_deny (x := 1)) (by omega) (by rfl) (by rfl) (by rfl) (by rfl) (by rfl) (by rfl) ?_
        have q0 : (0 : Int) ≤ (s).toInt := tc_ltF h2
        have q1 : (3 : Int) < (s).toInt := tc_gt h3
        refine he_ret ⟨0, 1, _, _, by decide, Or.inr ⟨fun z => ?_, rfl, rfl, rfl⟩, rfl⟩ (by rfl) (by rfl) (by rfl)
        obtain ⟨⟨z1, z2⟩, ⟨z3, z4⟩, z5, z6⟩ := z
        first | omega | exact noz1 ⟨z1, by omega⟩
    · refine he_s 2 (pc' := 28) (lc' := [(0, .ref 0), (1, .int (nI t)), (2, .int s), (3, .int m)]) (stk' := [.int 1, .ref 0]) (mem' := cm g l a b R) (by intro _ _ _; eq_refl) ?_
      refine he_ivV (ha_deny (x := 1)) (by omega) (by rfl) (by rfl) (by rfl) (by rfl) (by rfl) (by rfl) ?_
      have q0 : (s).toInt < 0 := tc_lt h2
      refine he_ret ⟨0, 1, _, _, by decide, Or.inr ⟨fun z => ?_, rfl, rfl, rfl⟩, rfl⟩ (by rfl) (by rfl) (by rfl)
      obtain ⟨⟨z1, z2⟩, ⟨z3, z4⟩, z5, z6⟩ := z
      first | omega | exact noz1 ⟨z1, by omega⟩
theorem ha_place {x p : Int32} (hz : ∀ t, t < 4 → (a 7 t).toInt ≤ 60) : ∃ (v : Option Value) (mem' : fx_M), (fun R1 => ∃ z : Int32, (z = 0 ∧ (∃ t P, t < 4 ∧ x = nI t ∧ p = nI P ∧ P < 60 ∧ (P : Int) < (a 7 t).toInt) ∨ (z = 1 ∨ z = 2 ∨ z = 3) ∧ ¬ tp_ok (a 7) x p) ∧ R1 = (some (.int z), cm g l a b R)) (v, mem') ∧ hr_T 2 192 [.ref 0, .int x, .int p] (cm g l a b R) v mem' := by
  refine he_meth (F := fun R1 => ∃ z : Int32, (z = 0 ∧ (∃ t P, t < 4 ∧ x = nI t ∧ p = nI P ∧ P < 60 ∧ (P : Int) < (a 7 t).toInt) ∨ (z = 1 ∨ z = 2 ∨ z = 3) ∧ ¬ tp_ok (a 7) x p) ∧ R1 = (some (.int z), cm g l a b R)) (M := gk_m192) (by rfl) (by rfl) ?_
  refine he_s 1 (pc' := 1) (lc' := [(0, .ref 0), (1, .int x), (2, .int p)]) (stk' := [.int x]) (mem' := cm g l a b R) (by intro _ _ _; eq_refl) ?_
  obtain ⟨vz1, memz1, ⟨xz1, hxz1, hRz1⟩, hfrz1⟩ := ha_isTray (x := x) (g := g) (l := l) (a := a) (b := b) (R := R)
  cases hRz1
  refine he_ivS hfrz1 (by omega) (by rfl) (by rfl) (by rfl) (by rfl) (by rfl) ?_
  rcases hxz1 with ⟨rfl, not⟩ | ⟨rfl, t, ht, rfl⟩
  · refine he_s 1 (pc' := cond (fx_cb .ne 0 0) 9 7) (lc' := [(0, .ref 0), (1, .int x), (2, .int p)]) (stk' := []) (mem' := cm g l a b R) (by intro _ _ _; eq_refl) ?_
    rw [show (fx_cb .ne 0 0) = false from by decide]
    dsimp only [cond]
    refine he_s 1 (pc' := 8) (lc' := [(0, .ref 0), (1, .int x), (2, .int p)]) (stk' := [.int 1]) (mem' := cm g l a b R) (by intro _ _ _; eq_refl) ?_
    exact he_ret ⟨1, Or.inr ⟨Or.inl rfl, tp_no1 not⟩, rfl⟩ (by rfl) (by rfl) (by rfl)
  · refine he_s 1 (pc' := cond (fx_cb .ne 1 0) 9 7) (lc' := [(0, .ref 0), (1, .int (nI t)), (2, .int p)]) (stk' := []) (mem' := cm g l a b R) (by intro _ _ _; eq_refl) ?_
    rw [show (fx_cb .ne 1 0) = true from by decide]
    dsimp only [cond]
    refine he_s 3 (pc' := 14) (lc' := [(0, .ref 0), (1, .int (nI t)), (2, .int p)]) (stk' := [.int (nI t), .ref 7]) (mem' := cm g l a b R) (by intro _ _ _; eq_refl) ?_
    refine he_ldI (by rfl) (by rfl) (fx_inN (i := t) (by omega) (by omega)) ?_
    rw [show Int32.toNatClampNeg (nI t) = t from nI_clamp (by omega)]
    refine he_s 1 (pc' := cond (fx_cb .ge (a 7 t) 0) 20 18) (lc' := [(0, .ref 0), (1, .int (nI t)), (2, .int p)]) (stk' := []) (mem' := cm g l a b R) (by intro _ _ _; eq_refl) ?_
    cases h2 : fx_cb .ge (a 7 t) 0
    · refine he_s 1 (pc' := 19) (lc' := [(0, .ref 0), (1, .int (nI t)), (2, .int p)]) (stk' := [.int 2]) (mem' := cm g l a b R) (by intro _ _ _; eq_refl) ?_
      have q0 : (a 7 t).toInt < 0 := tc_geF h2
      exact he_ret ⟨2, Or.inr ⟨Or.inr (Or.inl rfl), tp_no ht (fun z => by omega)⟩, rfl⟩ (by rfl) (by rfl) (by rfl)
    · refine he_s 1 (pc' := 21) (lc' := [(0, .ref 0), (1, .int (nI t)), (2, .int p)]) (stk' := [.int p]) (mem' := cm g l a b R) (by intro _ _ _; eq_refl) ?_
      refine he_s 1 (pc' := cond (fx_cb .lt p 0) 34 24) (lc' := [(0, .ref 0), (1, .int (nI t)), (2, .int p)]) (stk' := []) (mem' := cm g l a b R) (by intro _ _ _; eq_refl) ?_
      cases h3 : fx_cb .lt p 0
      · refine he_s 4 (pc' := 30) (lc' := [(0, .ref 0), (1, .int (nI t)), (2, .int p)]) (stk' := [.int (nI t), .ref 7, .int p]) (mem' := cm g l a b R) (by intro _ _ _; eq_refl) ?_
        refine he_ldI (by rfl) (by rfl) (fx_inN (i := t) (by omega) (by omega)) ?_
        rw [show Int32.toNatClampNeg (nI t) = t from nI_clamp (by omega)]
        refine he_s 1 (pc' := cond (fx_cb .lt p (a 7 t)) 38 34) (lc' := [(0, .ref 0), (1, .int (nI t)), (2, .int p)]) (stk' := []) (mem' := cm g l a b R) (by intro _ _ _; eq_refl) ?_
        cases h4 : fx_cb .lt p (a 7 t)
        · refine he_s 2 (pc' := 39) (lc' := [(0, .ref 0), (1, .int (nI t)), (2, .int p)]) (stk' := [.int 3]) (mem' := cm g l a b R) (by intro _ _ _; eq_refl) ?_
          have q0 : (0 : Int) ≤ (a 7 t).toInt := tc_ge h2
          have q1 : (0 : Int) ≤ (p).toInt := tc_ltF h3
          have q2 : (a 7 t).toInt ≤ (p).toInt := tc_ltF h4
          exact he_ret ⟨3, Or.inr ⟨Or.inr (Or.inr rfl), tp_no ht (fun z => by omega)⟩, rfl⟩ (by rfl) (by rfl) (by rfl)
        · refine he_s 1 (pc' := 39) (lc' := [(0, .ref 0), (1, .int (nI t)), (2, .int p)]) (stk' := [.int 0]) (mem' := cm g l a b R) (by intro _ _ _; eq_refl) ?_
          have q0 : (0 : Int) ≤ (a 7 t).toInt := tc_ge h2
          have q1 : (0 : Int) ≤ (p).toInt := tc_ltF h3
          have q2 : (p).toInt < (a 7 t).toInt := tc_lt h4
          have hz1 := hz t ht
          obtain ⟨P, hP, rfl⟩ := nI_bd (x := p) (n := 59) (by omega) (by omega)
          have e1 := nI_i32 (n := P) (by omega)
          exact he_ret ⟨0, Or.inl ⟨rfl, t, P, ht, rfl, rfl, by omega, by omega⟩, rfl⟩ (by rfl) (by rfl) (by rfl)
      · refine he_s 2 (pc' := 39) (lc' := [(0, .ref 0), (1, .int (nI t)), (2, .int p)]) (stk' := [.int 3]) (mem' := cm g l a b R) (by intro _ _ _; eq_refl) ?_
        have q0 : (0 : Int) ≤ (a 7 t).toInt := tc_ge h2
        have q1 : (p).toInt < 0 := tc_lt h3
        exact he_ret ⟨3, Or.inr ⟨Or.inr (Or.inr rfl), tp_no ht (fun z => by omega)⟩, rfl⟩ (by rfl) (by rfl) (by rfl)
theorem ha_cut {s : Int32} {v : Int64} {mem : fx_M} (h0 : 0 ≤ s.toInt) (h3 : s.toInt ≤ 3) : hr_T 1 193 [.int s, .long v] mem (some (.long (tc_cut s v))) mem := by
  obtain ⟨k, hk, rfl⟩ := nI_bd (x := s) (n := 3) h0 h3
  rcases (by omega : k = 0 ∨ k = 1 ∨ k = 2 ∨ k = 3) with rfl | rfl | rfl | rfl
  · refine hr_meth (by rfl) (by rfl) ?_
    refine hr_s 6 (pc' := 32) (lc' := [(0, .int (nI 0)), (1, .long v)]) (stk' := [.long (tc_cut (nI 0) v)]) (mem' := mem) (by intro _ _ _; eq_refl) ?_
    exact hr_ret (by rfl) (by rfl) (by rfl)
  · refine hr_meth (by rfl) (by rfl) ?_
    refine hr_s 6 (pc' := 37) (lc' := [(0, .int (nI 1)), (1, .long v)]) (stk' := [.long (tc_cut (nI 1) v)]) (mem' := mem) (by intro _ _ _; eq_refl) ?_
    exact hr_ret (by rfl) (by rfl) (by rfl)
  · refine hr_meth (by rfl) (by rfl) ?_
    refine hr_s 5 (pc' := 41) (lc' := [(0, .int (nI 2)), (1, .long v)]) (stk' := [.long (tc_cut (nI 2) v)]) (mem' := mem) (by intro _ _ _; eq_refl) ?_
    exact hr_ret (by rfl) (by rfl) (by rfl)
  · refine hr_meth (by rfl) (by rfl) ?_
    refine hr_s 3 (pc' := 43) (lc' := [(0, .int (nI 3)), (1, .long v)]) (stk' := [.long (tc_cut (nI 3) v)]) (mem' := mem) (by intro _ _ _; eq_refl) ?_
    exact hr_ret (by rfl) (by rfl) (by rfl)
theorem ha_write {x p : Int32} {w : Int64} (hz : ∀ t, t < 4 → (a 7 t).toInt ≤ 60) (hs : ∀ t, t < 4 → 0 ≤ (a 6 t).toInt ∧ (a 6 t).toInt ≤ 3) : ∃ (v : Option Value) (mem' : fx_M), (fun R1 => ∃ (z st : Int32) (b' : Nat → Nat → Int64), (0 ≤ st.toInt ∧ st.toInt ≤ 9) ∧ ((∃ t P, t < 4 ∧ x = nI t ∧ p = nI P ∧ P < 60 ∧ (P : Int) < (a 7 t).toInt ∧ z = 1 ∧ b' = fm_uf b (2 + t) (vp_updL (b (2 + t)) P (tc_cut (a 6 t) w))) ∨ ¬ tp_ok (a 7) x p ∧ z = 0 ∧ b' = b) ∧ R1 = (some (.int z), cm (fm_u g 0 0 st) l a b' R)) (v, mem') ∧ hr_T 3 131 [.ref 0, .int x, .int p, .long w] (cm g l a b R) v mem' := by
  refine he_meth (F := fun R1 => ∃ (z st : Int32) (b' : Nat → Nat → Int64), (0 ≤ st.toInt ∧ st.toInt ≤ 9) ∧ ((∃ t P, t < 4 ∧ x = nI t ∧ p = nI P ∧ P < 60 ∧ (P : Int) < (a 7 t).toInt ∧ z = 1 ∧ b' = fm_uf b (2 + t) (vp_updL (b (2 + t)) P (tc_cut (a 6 t) w))) ∨ ¬ tp_ok (a 7) x p ∧ z = 0 ∧ b' = b) ∧ R1 = (some (.int z), cm (fm_u g 0 0 st) l a b' R)) (M := gk_m131) (by rfl) (by rfl) ?_
  refine he_s 3 (pc' := 3) (lc' := [(0, .ref 0), (1, .int x), (2, .int p), (3, .long w)]) (stk' := [.int p, .int x, .ref 0]) (mem' := cm g l a b R) (by intro _ _ _; eq_refl) ?_
  obtain ⟨vz1, memz1, ⟨xz1, hxz1, hRz1⟩, hfrz1⟩ := ha_place (x := x) (p := p) (g := g) (l := l) (a := a) (b := b) (R := R) hz
  cases hRz1
  refine he_ivV hfrz1 (by omega) (by rfl) (by rfl) (by rfl) (by rfl) (by rfl) (by rfl) ?_
  rcases hxz1 with ⟨rfl, t, P, ht, rfl, rfl, hP, hPz⟩ | ⟨rfl | rfl | rfl, nop⟩
  · refine he_s 2 (pc' := 10) (lc' := [(5, .int 0), (0, .ref 0), (1, .int (nI t)), (2, .int (nI P)), (3, .long w)]) (stk' := [.int 0]) (mem' := cm g l a b R) (by intro _ _ _; eq_refl) ?_
    refine he_s 1 (pc' := cond (fx_cb .eq 0 0) 20 13) (lc' := [(5, .int 0), (0, .ref 0), (1, .int (nI t)), (2, .int (nI P)), (3, .long w)]) (stk' := []) (mem' := cm g l a b R) (by intro _ _ _; eq_refl) ?_
    rw [show (fx_cb .eq 0 0) = true from by decide]
    dsimp only [cond]
    refine he_s 3 (pc' := 25) (lc' := [(5, .int 0), (0, .ref 0), (1, .int (nI t)), (2, .int (nI P)), (3, .long w)]) (stk' := [.int (nI t), .ref 1]) (mem' := cm g l a b R) (by intro _ _ _; eq_refl) ?_
    refine he_ldA (by rfl) (by rfl) (fx_inN (i := t) (by omega) (by omega)) (by rfl) ?_
    rw [cr1_at (t := t) (by omega)]
    refine he_s 4 (pc' := 32) (lc' := [(5, .int 0), (0, .ref 0), (1, .int (nI t)), (2, .int (nI P)), (3, .long w)]) (stk' := [.int (nI t), .ref 6, .int (nI P), .ref (2 + t)]) (mem' := cm g l a b R) (by intro _ _ _; eq_refl) ?_
    refine he_ldI (by rfl) (by rfl) (fx_inN (i := t) (by omega) (by omega)) ?_
    rw [show Int32.toNatClampNeg (nI t) = t from nI_clamp (by omega)]
    refine he_s 1 (pc' := 34) (lc' := [(5, .int 0), (0, .ref 0), (1, .int (nI t)), (2, .int (nI P)), (3, .long w)]) (stk' := [.long w, .int (a 6 t), .int (nI P), .ref (2 + t)]) (mem' := cm g l a b R) (by intro _ _ _; eq_refl) ?_
    refine he_ivS (ha_cut (s := a 6 t) (v := w) (hs _ ht).1 (hs _ ht).2) (by omega) (by rfl) (by rfl) (by rfl) (by rfl) (by rfl) ?_
    refine he_stL (by rfl) (cm_row (by omega)) (fx_inN (i := P) (by omega) (by omega)) (cm_rows (by omega) _) ?_
    rw [show Int32.toNatClampNeg (nI P) = P from nI_clamp (by omega)]
    refine he_s 1 (pc' := 39) (lc' := [(5, .int 0), (0, .ref 0), (1, .int (nI t)), (2, .int (nI P)), (3, .long w)]) (stk' := [.ref 0]) (mem' := cm g l a (fm_uf b (2 + t) (vp_updL (b (2 + t)) P (tc_cut (a 6 t) w))) R) (by intro _ _ _; eq_refl) ?_
    refine he_ivV ha_agree (by omega) (by rfl) (by rfl) (by rfl) (by rfl) (by rfl) (by rfl) ?_
    exact he_ret ⟨1, 0, _, by decide, Or.inl ⟨t, P, ht, rfl, rfl, hP, hPz, rfl, rfl⟩, rfl⟩ (by rfl) (by rfl) (by rfl)
  · refine he_s 2 (pc' := 10) (lc' := [(5, .int 1), (0, .ref 0), (1, .int x), (2, .int p), (3, .long w)]) (stk' := [.int 1]) (mem' := cm g l a b R) (by intro _ _ _; eq_refl) ?_
    refine he_s 1 (pc' := cond (fx_cb .eq 1 0) 20 13) (lc' := [(5, .int 1), (0, .ref 0), (1, .int x), (2, .int p), (3, .long w)]) (stk' := []) (mem' := cm g l a b R) (by intro _ _ _; eq_refl) ?_
    rw [show (fx_cb .eq 1 0) = false from by decide]
    dsimp only [cond]
    refine he_s 2 (pc' := 16) (lc' := [(5, .int 1), (0, .ref 0), (1, .int x), (2, .int p), (3, .long w)]) (stk' := [.int 1, .ref 0]) (mem' := cm g l a b R) (by intro _ _ _; eq_refl) ?_
    refine he_ivV (ha_deny (x := 1)) (by omega) (by rfl) (by rfl) (by rfl) (by rfl) (by rfl) (by rfl) ?_
    exact he_ret ⟨0, 1, _, by decide, Or.inr ⟨nop, rfl, rfl⟩, rfl⟩ (by rfl) (by rfl) (by rfl)
  · refine he_s 2 (pc' := 10) (lc' := [(5, .int 2), (0, .ref 0), (1, .int x), (2, .int p), (3, .long w)]) (stk' := [.int 2]) (mem' := cm g l a b R) (by intro _ _ _; eq_refl) ?_
    refine he_s 1 (pc' := cond (fx_cb .eq 2 0) 20 13) (lc' := [(5, .int 2), (0, .ref 0), (1, .int x), (2, .int p), (3, .long w)]) (stk' := []) (mem' := cm g l a b R) (by intro _ _ _; eq_refl) ?_
    rw [show (fx_cb .eq 2 0) = false from by decide]
    dsimp only [cond]
    refine he_s 2 (pc' := 16) (lc' := [(5, .int 2), (0, .ref 0), (1, .int x), (2, .int p), (3, .long w)]) (stk' := [.int 2, .ref 0]) (mem' := cm g l a b R) (by intro _ _ _; eq_refl) ?_
    refine he_ivV (ha_deny (x := 2)) (by omega) (by rfl) (by rfl) (by rfl) (by rfl) (by rfl) (by rfl) ?_
    exact he_ret ⟨0, 2, _, by decide, Or.inr ⟨nop, rfl, rfl⟩, rfl⟩ (by rfl) (by rfl) (by rfl)
  · refine he_s 2 (pc' := 10) (lc' := [(5, .int 3), (0, .ref 0), (1, .int x), (2, .int p), (3, .long w)]) (stk' := [.int 3]) (mem' := cm g l a b R) (by intro _ _ _; eq_refl) ?_
    refine he_s 1 (pc' := cond (fx_cb .eq 3 0) 20 13) (lc' := [(5, .int 3), (0, .ref 0), (1, .int x), (2, .int p), (3, .long w)]) (stk' := []) (mem' := cm g l a b R) (by intro _ _ _; eq_refl) ?_
    rw [show (fx_cb .eq 3 0) = false from by decide]
    dsimp only [cond]
    refine he_s 2 (pc' := 16) (lc' := [(5, .int 3), (0, .ref 0), (1, .int x), (2, .int p), (3, .long w)]) (stk' := [.int 3, .ref 0]) (mem' := cm g l a b R) (by intro _ _ _; eq_refl) ?_
    refine he_ivV (ha_deny (x := 3)) (by omega) (by rfl) (by rfl) (by rfl) (by rfl) (by rfl) (by rfl) ?_
    exact he_ret ⟨0, 3, _, by decide, Or.inr ⟨nop, rfl, rfl⟩, rfl⟩ (by rfl) (by rfl) (by rfl)
theorem ha_read {x p : Int32} (hz : ∀ t, t < 4 → (a 7 t).toInt ≤ 60) : ∃ (v : Option Value) (mem' : fx_M), (fun R1 => ∃ (z : Int64) (st : Int32), (0 ≤ st.toInt ∧ st.toInt ≤ 9) ∧ ((∃ t P, t < 4 ∧ x = nI t ∧ p = nI P ∧ P < 60 ∧ (P : Int) < (a 7 t).toInt ∧ z = b (2 + t) P) ∨ ¬ tp_ok (a 7) x p ∧ z = -1) ∧ R1 = (some (.long z), cm (fm_u g 0 0 st) l a b R)) (v, mem') ∧ hr_T 3 132 [.ref 0, .int x, .int p] (cm g l a b R) v mem' := by
  refine he_meth (F := fun R1 => ∃ (z : Int64) (st : Int32), (0 ≤ st.toInt ∧ st.toInt ≤ 9) ∧ ((∃ t P, t < 4 ∧ x = nI t ∧ p = nI P ∧ P < 60 ∧ (P : Int) < (a 7 t).toInt ∧ z = b (2 + t) P) ∨ ¬ tp_ok (a 7) x p ∧ z = -1) ∧ R1 = (some (.long z), cm (fm_u g 0 0 st) l a b R)) (M := gk_m132) (by rfl) (by rfl) ?_
  refine he_s 3 (pc' := 3) (lc' := [(0, .ref 0), (1, .int x), (2, .int p)]) (stk' := [.int p, .int x, .ref 0]) (mem' := cm g l a b R) (by intro _ _ _; eq_refl) ?_
  obtain ⟨vz1, memz1, ⟨xz1, hxz1, hRz1⟩, hfrz1⟩ := ha_place (x := x) (p := p) (g := g) (l := l) (a := a) (b := b) (R := R) hz
  cases hRz1
  refine he_ivV hfrz1 (by omega) (by rfl) (by rfl) (by rfl) (by rfl) (by rfl) (by rfl) ?_
  rcases hxz1 with ⟨rfl, t, P, ht, rfl, rfl, hP, hPz⟩ | ⟨rfl | rfl | rfl, nop⟩
  · refine he_s 2 (pc' := 8) (lc' := [(3, .int 0), (0, .ref 0), (1, .int (nI t)), (2, .int (nI P))]) (stk' := [.int 0]) (mem' := cm g l a b R) (by intro _ _ _; eq_refl) ?_
    refine he_s 1 (pc' := cond (fx_cb .eq 0 0) 18 11) (lc' := [(3, .int 0), (0, .ref 0), (1, .int (nI t)), (2, .int (nI P))]) (stk' := []) (mem' := cm g l a b R) (by intro _ _ _; eq_refl) ?_
    rw [show (fx_cb .eq 0 0) = true from by decide]
    dsimp only [cond]
    refine he_s 6 (pc' := 28) (lc' := [(3, .int 0), (0, .ref 0), (1, .int (nI t)), (2, .int (nI P))]) (stk' := [.int (nI t), .ref 1]) (mem' := cm (fm_u g 0 0 0) l a b R) (by intro _ _ _; eq_refl) ?_
    refine he_ldA (by rfl) (by rfl) (fx_inN (i := t) (by omega) (by omega)) (by rfl) ?_
    rw [cr1_at (t := t) (by omega)]
    refine he_s 1 (pc' := 30) (lc' := [(3, .int 0), (0, .ref 0), (1, .int (nI t)), (2, .int (nI P))]) (stk' := [.int (nI P), .ref (2 + t)]) (mem' := cm (fm_u g 0 0 0) l a b R) (by intro _ _ _; eq_refl) ?_
    refine he_ldL (by rfl) (cm_row (by omega)) (fx_inN (i := P) (by omega) (by omega)) ?_
    rw [show Int32.toNatClampNeg (nI P) = P from nI_clamp (by omega)]
    exact he_ret ⟨_, 0, by decide, Or.inl ⟨t, P, ht, rfl, rfl, hP, hPz, rfl⟩, rfl⟩ (by rfl) (by rfl) (by rfl)
  · refine he_s 2 (pc' := 8) (lc' := [(3, .int 1), (0, .ref 0), (1, .int x), (2, .int p)]) (stk' := [.int 1]) (mem' := cm g l a b R) (by intro _ _ _; eq_refl) ?_
    refine he_s 1 (pc' := cond (fx_cb .eq 1 0) 18 11) (lc' := [(3, .int 1), (0, .ref 0), (1, .int x), (2, .int p)]) (stk' := []) (mem' := cm g l a b R) (by intro _ _ _; eq_refl) ?_
    rw [show (fx_cb .eq 1 0) = false from by decide]
    dsimp only [cond]
    refine he_s 2 (pc' := 13) (lc' := [(3, .int 1), (0, .ref 0), (1, .int x), (2, .int p)]) (stk' := [.int 1, .ref 0]) (mem' := cm g l a b R) (by intro _ _ _; eq_refl) ?_
    refine he_ivV (ha_refuse (x := 1)) (by omega) (by rfl) (by rfl) (by rfl) (by rfl) (by rfl) (by rfl) ?_
    refine he_s 1 (pc' := 17) (lc' := [(3, .int 1), (0, .ref 0), (1, .int x), (2, .int p)]) (stk' := [.long ((-1).toInt64)]) (mem' := cm (fm_u g 0 0 1) l a b R) (by intro _ _ _; eq_refl) ?_
    exact he_ret ⟨_, 1, by decide, Or.inr ⟨nop, by rfl⟩, rfl⟩ (by rfl) (by rfl) (by rfl)
  · refine he_s 2 (pc' := 8) (lc' := [(3, .int 2), (0, .ref 0), (1, .int x), (2, .int p)]) (stk' := [.int 2]) (mem' := cm g l a b R) (by intro _ _ _; eq_refl) ?_
    refine he_s 1 (pc' := cond (fx_cb .eq 2 0) 18 11) (lc' := [(3, .int 2), (0, .ref 0), (1, .int x), (2, .int p)]) (stk' := []) (mem' := cm g l a b R) (by intro _ _ _; eq_refl) ?_
    rw [show (fx_cb .eq 2 0) = false from by decide]
    dsimp only [cond]
    refine he_s 2 (pc' := 13) (lc' := [(3, .int 2), (0, .ref 0), (1, .int x), (2, .int p)]) (stk' := [.int 2, .ref 0]) (mem' := cm g l a b R) (by intro _ _ _; eq_refl) ?_
    refine he_ivV (ha_refuse (x := 2)) (by omega) (by rfl) (by rfl) (by rfl) (by rfl) (by rfl) (by rfl) ?_
    refine he_s 1 (pc' := 17) (lc' := [(3, .int 2), (0, .ref 0), (1, .int x), (2, .int p)]) (stk' := [.long ((-1).toInt64)]) (mem' := cm (fm_u g 0 0 2) l a b R) (by intro _ _ _; eq_refl) ?_
    exact he_ret ⟨_, 2, by decide, Or.inr ⟨nop, by rfl⟩, rfl⟩ (by rfl) (by rfl) (by rfl)
  · refine he_s 2 (pc' := 8) (lc' := [(3, .int 3), (0, .ref 0), (1, .int x), (2, .int p)]) (stk' := [.int 3]) (mem' := cm g l a b R) (by intro _ _ _; eq_refl) ?_
    refine he_s 1 (pc' := cond (fx_cb .eq 3 0) 18 11) (lc' := [(3, .int 3), (0, .ref 0), (1, .int x), (2, .int p)]) (stk' := []) (mem' := cm g l a b R) (by intro _ _ _; eq_refl) ?_
    rw [show (fx_cb .eq 3 0) = false from by decide]
    dsimp only [cond]
    refine he_s 2 (pc' := 13) (lc' := [(3, .int 3), (0, .ref 0), (1, .int x), (2, .int p)]) (stk' := [.int 3, .ref 0]) (mem' := cm g l a b R) (by intro _ _ _; eq_refl) ?_
    refine he_ivV (ha_refuse (x := 3)) (by omega) (by rfl) (by rfl) (by rfl) (by rfl) (by rfl) (by rfl) ?_
    refine he_s 1 (pc' := 17) (lc' := [(3, .int 3), (0, .ref 0), (1, .int x), (2, .int p)]) (stk' := [.long ((-1).toInt64)]) (mem' := cm (fm_u g 0 0 3) l a b R) (by intro _ _ _; eq_refl) ?_
    exact he_ret ⟨_, 3, by decide, Or.inr ⟨nop, by rfl⟩, rfl⟩ (by rfl) (by rfl) (by rfl)
theorem ha_pour {x p y q n : Int32} (hz : ∀ t, t < 4 → (a 7 t).toInt ≤ 60) : ∃ (v : Option Value) (mem' : fx_M), (fun R1 => ∃ (z st : Int32) (b' : Nat → Nat → Int64), (0 ≤ st.toInt ∧ st.toInt ≤ 9) ∧ ((∃ t u P Q N, t < 4 ∧ u < 4 ∧ x = nI t ∧ y = nI u ∧ p = nI P ∧ q = nI Q ∧ n = nI N ∧ (P + N : Nat) ≤ (a 7 t).toInt ∧ (Q + N : Nat) ≤ (a 7 u).toInt ∧ a 6 t = a 6 u ∧ z = 1 ∧ b' = fm_uf b (2 + u) (va_cpy (b (2 + t)) (b (2 + u)) P Q N)) ∨ ¬ pr_ok (a 7) (a 6) x p y q n ∧ z = 0 ∧ b' = b) ∧ R1 = (some (.int z), cm (fm_u g 0 0 st) l a b' R)) (v, mem') ∧ hr_T 2 133 [.ref 0, .int x, .int p, .int y, .int q, .int n] (cm g l a b R) v mem' := by
  refine he_meth (F := fun R1 => ∃ (z st : Int32) (b' : Nat → Nat → Int64), (0 ≤ st.toInt ∧ st.toInt ≤ 9) ∧ ((∃ t u P Q N, t < 4 ∧ u < 4 ∧ x = nI t ∧ y = nI u ∧ p = nI P ∧ q = nI Q ∧ n = nI N ∧ (P + N : Nat) ≤ (a 7 t).toInt ∧ (Q + N : Nat) ≤ (a 7 u).toInt ∧ a 6 t = a 6 u ∧ z = 1 ∧ b' = fm_uf b (2 + u) (va_cpy (b (2 + t)) (b (2 + u)) P Q N)) ∨ ¬ pr_ok (a 7) (a 6) x p y q n ∧ z = 0 ∧ b' = b) ∧ R1 = (some (.int z), cm (fm_u g 0 0 st) l a b' R)) (M := gk_m133) (by rfl) (by rfl) ?_
  refine he_s 1 (pc' := 1) (lc' := [(0, .ref 0), (1, .int x), (2, .int p), (3, .int y), (4, .int q), (5, .int n)]) (stk' := [.int x]) (mem' := cm g l a b R) (by intro _ _ _; eq_refl) ?_
  obtain ⟨vz1, memz1, ⟨xz1, hxz1, hRz1⟩, hfrz1⟩ := ha_isTray (x := x) (g := g) (l := l) (a := a) (b := b) (R := R)
  cases hRz1
  refine he_ivS hfrz1 (by omega) (by rfl) (by rfl) (by rfl) (by rfl) (by rfl) ?_
  rcases hxz1 with ⟨rfl, not⟩ | ⟨rfl, t, ht, rfl⟩
  · refine he_s 1 (pc' := cond (fx_cb .eq 0 0) 28 7) (lc' := [(0, .ref 0), (1, .int x), (2, .int p), (3, .int y), (4, .int q), (5, .int n)]) (stk' := []) (mem' := cm g l a b R) (by intro _ _ _; eq_refl) ?_
    rw [show (fx_cb .eq 0 0) = true from by decide]
    dsimp only [cond]
    refine he_s 2 (pc' := 30) (lc' := [(0, .ref 0), (1, .int x), (2, .int p), (3, .int y), (4, .int q), (5, .int n)]) (stk' := [.int 1, .ref 0]) (mem' := cm g l a b R) (by intro _ _ _; eq_refl) ?_
    refine he_ivV (ha_deny (x := 1)) (by omega) (by rfl) (by rfl) (by rfl) (by rfl) (by rfl) (by rfl) ?_
    exact he_ret ⟨0, 1, _, by decide, Or.inr ⟨pr_no1 not, rfl, rfl⟩, rfl⟩ (by rfl) (by rfl) (by rfl)
  · refine he_s 1 (pc' := cond (fx_cb .eq 1 0) 28 7) (lc' := [(0, .ref 0), (1, .int (nI t)), (2, .int p), (3, .int y), (4, .int q), (5, .int n)]) (stk' := []) (mem' := cm g l a b R) (by intro _ _ _; eq_refl) ?_
    rw [show (fx_cb .eq 1 0) = false from by decide]
    dsimp only [cond]
    refine he_s 1 (pc' := 8) (lc' := [(0, .ref 0), (1, .int (nI t)), (2, .int p), (3, .int y), (4, .int q), (5, .int n)]) (stk' := [.int y]) (mem' := cm g l a b R) (by intro _ _ _; eq_refl) ?_
    obtain ⟨vz2, memz2, ⟨xz2, hxz2, hRz2⟩, hfrz2⟩ := ha_isTray (x := y) (g := g) (l := l) (a := a) (b := b) (R := R)
    cases hRz2
    refine he_ivS hfrz2 (by omega) (by rfl) (by rfl) (by rfl) (by rfl) (by rfl) ?_
    rcases hxz2 with ⟨rfl, nou⟩ | ⟨rfl, u, hu, rfl⟩
    · refine he_s 1 (pc' := cond (fx_cb .eq 0 0) 28 14) (lc' := [(0, .ref 0), (1, .int (nI t)), (2, .int p), (3, .int y), (4, .int q), (5, .int n)]) (stk' := []) (mem' := cm g l a b R) (by intro _ _ _; eq_refl) ?_
      rw [show (fx_cb .eq 0 0) = true from by decide]
      dsimp only [cond]
      refine he_s 2 (pc' := 30) (lc' := [(0, .ref 0), (1, .int (nI t)), (2, .int p), (3, .int y), (4, .int q), (5, .int n)]) (stk' := [.int 1, .ref 0]) (mem' := cm g l a b R) (by intro _ _ _; eq_refl) ?_
      refine he_ivV (ha_deny (x := 1)) (by omega) (by rfl) (by rfl) (by rfl) (by rfl) (by rfl) (by rfl) ?_
      exact he_ret ⟨0, 1, _, by decide, Or.inr ⟨pr_no2 nou, rfl, rfl⟩, rfl⟩ (by rfl) (by rfl) (by rfl)
    · refine he_s 1 (pc' := cond (fx_cb .eq 1 0) 28 14) (lc' := [(0, .ref 0), (1, .int (nI t)), (2, .int p), (3, .int (nI u)), (4, .int q), (5, .int n)]) (stk' := []) (mem' := cm g l a b R) (by intro _ _ _; eq_refl) ?_
      rw [show (fx_cb .eq 1 0) = false from by decide]
      dsimp only [cond]
      refine he_s 1 (pc' := 15) (lc' := [(0, .ref 0), (1, .int (nI t)), (2, .int p), (3, .int (nI u)), (4, .int q), (5, .int n)]) (stk' := [.int p]) (mem' := cm g l a b R) (by intro _ _ _; eq_refl) ?_
      refine he_s 1 (pc' := cond (fx_cb .lt p 0) 28 18) (lc' := [(0, .ref 0), (1, .int (nI t)), (2, .int p), (3, .int (nI u)), (4, .int q), (5, .int n)]) (stk' := []) (mem' := cm g l a b R) (by intro _ _ _; eq_refl) ?_
      cases h3 : fx_cb .lt p 0
      · refine he_s 1 (pc' := 20) (lc' := [(0, .ref 0), (1, .int (nI t)), (2, .int p), (3, .int (nI u)), (4, .int q), (5, .int n)]) (stk' := [.int q]) (mem' := cm g l a b R) (by intro _ _ _; eq_refl) ?_
        refine he_s 1 (pc' := cond (fx_cb .lt q 0) 28 23) (lc' := [(0, .ref 0), (1, .int (nI t)), (2, .int p), (3, .int (nI u)), (4, .int q), (5, .int n)]) (stk' := []) (mem' := cm g l a b R) (by intro _ _ _; eq_refl) ?_
        cases h4 : fx_cb .lt q 0
        · refine he_s 1 (pc' := 25) (lc' := [(0, .ref 0), (1, .int (nI t)), (2, .int p), (3, .int (nI u)), (4, .int q), (5, .int n)]) (stk' := [.int n]) (mem' := cm g l a b R) (by intro _ _ _; eq_refl) ?_
          refine he_s 1 (pc' := cond (fx_cb .ge n 0) 34 28) (lc' := [(0, .ref 0), (1, .int (nI t)), (2, .int p), (3, .int (nI u)), (4, .int q), (5, .int n)]) (stk' := []) (mem' := cm g l a b R) (by intro _ _ _; eq_refl) ?_
          cases h5 : fx_cb .ge n 0
          · refine he_s 2 (pc' := 30) (lc' := [(0, .ref 0), (1, .int (nI t)), (2, .int p), (3, .int (nI u)), (4, .int q), (5, .int n)]) (stk' := [.int 1, .ref 0]) (mem' := cm g l a b R) (by intro _ _ _; eq_refl) ?_
            refine he_ivV (ha_deny (x := 1)) (by omega) (by rfl) (by rfl) (by rfl) (by rfl) (by rfl) (by rfl) ?_
            have q0 : (0 : Int) ≤ (p).toInt := tc_ltF h3
            have q1 : (0 : Int) ≤ (q).toInt := tc_ltF h4
            have q2 : (n).toInt < 0 := tc_geF h5
            refine he_ret ⟨0, 1, _, by decide, Or.inr ⟨pr_no ht hu (fun z => ?_), rfl, rfl⟩, rfl⟩ (by rfl) (by rfl) (by rfl)
            obtain ⟨z1, z2, z3, z4, z5, -, z7, z8⟩ := z
            have s1 : n.toInt ≤ (a 7 t).toInt → (a 7 t - n).toInt = (a 7 t).toInt - n.toInt := fun z => tc_sub z3 z
            have s2 : n.toInt ≤ (a 7 u).toInt → (a 7 u - n).toInt = (a 7 u).toInt - n.toInt := fun z => tc_sub z3 z
            have s1 := s1 (by omega)
            have s2 := s2 (by omega)
            omega
          · refine he_s 3 (pc' := 39) (lc' := [(0, .ref 0), (1, .int (nI t)), (2, .int p), (3, .int (nI u)), (4, .int q), (5, .int n)]) (stk' := [.int (nI t), .ref 7]) (mem' := cm g l a b R) (by intro _ _ _; eq_refl) ?_
            refine he_ldI (by rfl) (by rfl) (fx_inN (i := t) (by omega) (by omega)) ?_
            rw [show Int32.toNatClampNeg (nI t) = t from nI_clamp (by omega)]
            refine he_s 1 (pc' := cond (fx_cb .lt (a 7 t) 0) 52 43) (lc' := [(0, .ref 0), (1, .int (nI t)), (2, .int p), (3, .int (nI u)), (4, .int q), (5, .int n)]) (stk' := []) (mem' := cm g l a b R) (by intro _ _ _; eq_refl) ?_
            cases h6 : fx_cb .lt (a 7 t) 0
            · refine he_s 3 (pc' := 48) (lc' := [(0, .ref 0), (1, .int (nI t)), (2, .int p), (3, .int (nI u)), (4, .int q), (5, .int n)]) (stk' := [.int (nI u), .ref 7]) (mem' := cm g l a b R) (by intro _ _ _; eq_refl) ?_
              refine he_ldI (by rfl) (by rfl) (fx_inN (i := u) (by omega) (by omega)) ?_
              rw [show Int32.toNatClampNeg (nI u) = u from nI_clamp (by omega)]
              refine he_s 1 (pc' := cond (fx_cb .ge (a 7 u) 0) 58 52) (lc' := [(0, .ref 0), (1, .int (nI t)), (2, .int p), (3, .int (nI u)), (4, .int q), (5, .int n)]) (stk' := []) (mem' := cm g l a b R) (by intro _ _ _; eq_refl) ?_
              cases h7 : fx_cb .ge (a 7 u) 0
              · refine he_s 2 (pc' := 54) (lc' := [(0, .ref 0), (1, .int (nI t)), (2, .int p), (3, .int (nI u)), (4, .int q), (5, .int n)]) (stk' := [.int 2, .ref 0]) (mem' := cm g l a b R) (by intro _ _ _; eq_refl) ?_
                refine he_ivV (ha_deny (x := 2)) (by omega) (by rfl) (by rfl) (by rfl) (by rfl) (by rfl) (by rfl) ?_
                have q0 : (0 : Int) ≤ (p).toInt := tc_ltF h3
                have q1 : (0 : Int) ≤ (q).toInt := tc_ltF h4
                have q2 : (0 : Int) ≤ (n).toInt := tc_ge h5
                have q3 : (0 : Int) ≤ (a 7 t).toInt := tc_ltF h6
                have q4 : (a 7 u).toInt < 0 := tc_geF h7
                refine he_ret ⟨0, 2, _, by decide, Or.inr ⟨pr_no ht hu (fun z => ?_), rfl, rfl⟩, rfl⟩ (by rfl) (by rfl) (by rfl)
                obtain ⟨z1, z2, z3, z4, z5, -, z7, z8⟩ := z
                have s1 : n.toInt ≤ (a 7 t).toInt → (a 7 t - n).toInt = (a 7 t).toInt - n.toInt := fun z => tc_sub z3 z
                have s2 : n.toInt ≤ (a 7 u).toInt → (a 7 u - n).toInt = (a 7 u).toInt - n.toInt := fun z => tc_sub z3 z
                have s1 := s1 (by omega)
                have s2 := s2 (by omega)
                omega
              · refine he_s 3 (pc' := 63) (lc' := [(0, .ref 0), (1, .int (nI t)), (2, .int p), (3, .int (nI u)), (4, .int q), (5, .int n)]) (stk' := [.int (nI t), .ref 6]) (mem' := cm g l a b R) (by intro _ _ _; eq_refl) ?_
                refine he_ldI (by rfl) (by rfl) (fx_inN (i := t) (by omega) (by omega)) ?_
                rw [show Int32.toNatClampNeg (nI t) = t from nI_clamp (by omega)]
                refine he_s 3 (pc' := 69) (lc' := [(0, .ref 0), (1, .int (nI t)), (2, .int p), (3, .int (nI u)), (4, .int q), (5, .int n)]) (stk' := [.int (nI u), .ref 6, .int (a 6 t)]) (mem' := cm g l a b R) (by intro _ _ _; eq_refl) ?_
                refine he_ldI (by rfl) (by rfl) (fx_inN (i := u) (by omega) (by omega)) ?_
                rw [show Int32.toNatClampNeg (nI u) = u from nI_clamp (by omega)]
                refine he_s 1 (pc' := cond (fx_cb .eq (a 6 t) (a 6 u)) 80 73) (lc' := [(0, .ref 0), (1, .int (nI t)), (2, .int p), (3, .int (nI u)), (4, .int q), (5, .int n)]) (stk' := []) (mem' := cm g l a b R) (by intro _ _ _; eq_refl) ?_
                cases h8 : fx_cb .eq (a 6 t) (a 6 u)
                · refine he_s 2 (pc' := 76) (lc' := [(0, .ref 0), (1, .int (nI t)), (2, .int p), (3, .int (nI u)), (4, .int q), (5, .int n)]) (stk' := [.int 8, .ref 0]) (mem' := cm g l a b R) (by intro _ _ _; eq_refl) ?_
                  refine he_ivV (ha_deny (x := 8)) (by omega) (by rfl) (by rfl) (by rfl) (by rfl) (by rfl) (by rfl) ?_
                  have q0 : (0 : Int) ≤ (p).toInt := tc_ltF h3
                  have q1 : (0 : Int) ≤ (q).toInt := tc_ltF h4
                  have q2 : (0 : Int) ≤ (n).toInt := tc_ge h5
                  have q3 : (0 : Int) ≤ (a 7 t).toInt := tc_ltF h6
                  have q4 : (0 : Int) ≤ (a 7 u).toInt := tc_ge h7
                  exact he_ret ⟨0, 8, _, by decide, Or.inr ⟨pr_no ht hu (fun z => of_decide_eq_false h8 z.2.2.2.2.2.1), rfl, rfl⟩, rfl⟩ (by rfl) (by rfl) (by rfl)
                · refine he_s 4 (pc' := 87) (lc' := [(0, .ref 0), (1, .int (nI t)), (2, .int p), (3, .int (nI u)), (4, .int q), (5, .int n)]) (stk' := [.int (nI t), .ref 7, .int n]) (mem' := cm g l a b R) (by intro _ _ _; eq_refl) ?_
                  refine he_ldI (by rfl) (by rfl) (fx_inN (i := t) (by omega) (by omega)) ?_
                  rw [show Int32.toNatClampNeg (nI t) = t from nI_clamp (by omega)]
                  refine he_s 1 (pc' := cond (fx_cb .gt n (a 7 t)) 129 91) (lc' := [(0, .ref 0), (1, .int (nI t)), (2, .int p), (3, .int (nI u)), (4, .int q), (5, .int n)]) (stk' := []) (mem' := cm g l a b R) (by intro _ _ _; eq_refl) ?_
                  cases h9 : fx_cb .gt n (a 7 t)
                  · refine he_s 4 (pc' := 97) (lc' := [(0, .ref 0), (1, .int (nI t)), (2, .int p), (3, .int (nI u)), (4, .int q), (5, .int n)]) (stk' := [.int (nI t), .ref 7, .int p]) (mem' := cm g l a b R) (by intro _ _ _; eq_refl) ?_
                    refine he_ldI (by rfl) (by rfl) (fx_inN (i := t) (by omega) (by omega)) ?_
                    rw [show Int32.toNatClampNeg (nI t) = t from nI_clamp (by omega)]
                    refine he_s 2 (pc' := 101) (lc' := [(0, .ref 0), (1, .int (nI t)), (2, .int p), (3, .int (nI u)), (4, .int q), (5, .int n)]) (stk' := [.int ((a 7 t) - n), .int p]) (mem' := cm g l a b R) (by intro _ _ _; eq_refl) ?_
                    refine he_s 1 (pc' := cond (fx_cb .gt p ((a 7 t) - n)) 129 104) (lc' := [(0, .ref 0), (1, .int (nI t)), (2, .int p), (3, .int (nI u)), (4, .int q), (5, .int n)]) (stk' := []) (mem' := cm g l a b R) (by intro _ _ _; eq_refl) ?_
                    cases h10 : fx_cb .gt p ((a 7 t) - n)
                    · refine he_s 4 (pc' := 111) (lc' := [(0, .ref 0), (1, .int (nI t)), (2, .int p), (3, .int (nI u)), (4, .int q), (5, .int n)]) (stk' := [.int (nI u), .ref 7, .int n]) (mem' := cm g l a b R) (by intro _ _ _; eq_refl) ?_
                      refine he_ldI (by rfl) (by rfl) (fx_inN (i := u) (by omega) (by omega)) ?_
                      rw [show Int32.toNatClampNeg (nI u) = u from nI_clamp (by omega)]
                      refine he_s 1 (pc' := cond (fx_cb .gt n (a 7 u)) 129 115) (lc' := [(0, .ref 0), (1, .int (nI t)), (2, .int p), (3, .int (nI u)), (4, .int q), (5, .int n)]) (stk' := []) (mem' := cm g l a b R) (by intro _ _ _; eq_refl) ?_
                      cases h11 : fx_cb .gt n (a 7 u)
                      · refine he_s 4 (pc' := 122) (lc' := [(0, .ref 0), (1, .int (nI t)), (2, .int p), (3, .int (nI u)), (4, .int q), (5, .int n)]) (stk' := [.int (nI u), .ref 7, .int q]) (mem' := cm g l a b R) (by intro _ _ _; eq_refl) ?_
                        refine he_ldI (by rfl) (by rfl) (fx_inN (i := u) (by omega) (by omega)) ?_
                        rw [show Int32.toNatClampNeg (nI u) = u from nI_clamp (by omega)]
                        refine he_s 2 (pc' := 126) (lc' := [(0, .ref 0), (1, .int (nI t)), (2, .int p), (3, .int (nI u)), (4, .int q), (5, .int n)]) (stk' := [.int ((a 7 u) - n), .int q]) (mem' := cm g l a b R) (by intro _ _ _; eq_refl) ?_
                        refine he_s 1 (pc' := cond (fx_cb .le q ((a 7 u) - n)) 135 129) (lc' := [(0, .ref 0), (1, .int (nI t)), (2, .int p), (3, .int (nI u)), (4, .int q), (5, .int n)]) (stk' := []) (mem' := cm g l a b R) (by intro _ _ _; eq_refl) ?_
                        cases h12 : fx_cb .le q ((a 7 u) - n)
                        · refine he_s 2 (pc' := 131) (lc' := [(0, .ref 0), (1, .int (nI t)), (2, .int p), (3, .int (nI u)), (4, .int q), (5, .int n)]) (stk' := [.int 3, .ref 0]) (mem' := cm g l a b R) (by intro _ _ _; eq_refl) ?_
                          refine he_ivV (ha_deny (x := 3)) (by omega) (by rfl) (by rfl) (by rfl) (by rfl) (by rfl) (by rfl) ?_
                          have q0 : (0 : Int) ≤ (p).toInt := tc_ltF h3
                          have q1 : (0 : Int) ≤ (q).toInt := tc_ltF h4
                          have q2 : (0 : Int) ≤ (n).toInt := tc_ge h5
                          have q3 : (0 : Int) ≤ (a 7 t).toInt := tc_ltF h6
                          have q4 : (0 : Int) ≤ (a 7 u).toInt := tc_ge h7
                          have q6 : (n).toInt ≤ (a 7 t).toInt := tc_gtF h9
                          have q7 : (p).toInt ≤ ((a 7 t) - n).toInt := tc_gtF h10
                          have q8 : (n).toInt ≤ (a 7 u).toInt := tc_gtF h11
                          have q9 : ((a 7 u) - n).toInt < (q).toInt := tc_leF h12
                          refine he_ret ⟨0, 3, _, by decide, Or.inr ⟨pr_no ht hu (fun z => ?_), rfl, rfl⟩, rfl⟩ (by rfl) (by rfl) (by rfl)
                          obtain ⟨z1, z2, z3, z4, z5, -, z7, z8⟩ := z
                          have s1 : n.toInt ≤ (a 7 t).toInt → (a 7 t - n).toInt = (a 7 t).toInt - n.toInt := fun z => tc_sub z3 z
                          have s2 : n.toInt ≤ (a 7 u).toInt → (a 7 u - n).toInt = (a 7 u).toInt - n.toInt := fun z => tc_sub z3 z
                          have s1 := s1 (by omega)
                          have s2 := s2 (by omega)
                          omega
                        · refine he_s 3 (pc' := 140) (lc' := [(0, .ref 0), (1, .int (nI t)), (2, .int p), (3, .int (nI u)), (4, .int q), (5, .int n)]) (stk' := [.int (nI t), .ref 1]) (mem' := cm g l a b R) (by intro _ _ _; eq_refl) ?_
                          refine he_ldA (by rfl) (by rfl) (fx_inN (i := t) (by omega) (by omega)) (by rfl) ?_
                          rw [cr1_at (t := t) (by omega)]
                          refine he_s 4 (pc' := 147) (lc' := [(0, .ref 0), (1, .int (nI t)), (2, .int p), (3, .int (nI u)), (4, .int q), (5, .int n)]) (stk' := [.int (nI u), .ref 1, .int p, .ref (2 + t)]) (mem' := cm g l a b R) (by intro _ _ _; eq_refl) ?_
                          refine he_ldA (by rfl) (by rfl) (fx_inN (i := u) (by omega) (by omega)) (by rfl) ?_
                          rw [cr1_at (t := u) (by omega)]
                          refine he_s 2 (pc' := 152) (lc' := [(0, .ref 0), (1, .int (nI t)), (2, .int p), (3, .int (nI u)), (4, .int q), (5, .int n)]) (stk' := [.int n, .int q, .ref (2 + u), .int p, .ref (2 + t)]) (mem' := cm g l a b R) (by intro _ _ _; eq_refl) ?_
                          have q0 : (0 : Int) ≤ (p).toInt := tc_ltF h3
                          have q1 : (0 : Int) ≤ (q).toInt := tc_ltF h4
                          have q2 : (0 : Int) ≤ (n).toInt := tc_ge h5
                          have q3 : (0 : Int) ≤ (a 7 t).toInt := tc_ltF h6
                          have q4 : (0 : Int) ≤ (a 7 u).toInt := tc_ge h7
                          have q6 : (n).toInt ≤ (a 7 t).toInt := tc_gtF h9
                          have q7 : (p).toInt ≤ ((a 7 t) - n).toInt := tc_gtF h10
                          have q8 : (n).toInt ≤ (a 7 u).toInt := tc_gtF h11
                          have q9 : (q).toInt ≤ ((a 7 u) - n).toInt := tc_le h12
                          have hzt := hz t ht
                          have hzu := hz u hu
                          have s1 := tc_sub (x := a 7 t) (y := n) (by omega) (by omega)
                          have s2 := tc_sub (x := a 7 u) (y := n) (by omega) (by omega)
                          obtain ⟨P, hP, rfl⟩ := nI_bd (x := p) (n := 60) (by omega) (by omega)
                          obtain ⟨Q, hQ, rfl⟩ := nI_bd (x := q) (n := 60) (by omega) (by omega)
                          obtain ⟨N, hN, rfl⟩ := nI_bd (x := n) (n := 60) (by omega) (by omega)
                          have e1 := nI_i32 (n := P) (by omega)
                          have e2 := nI_i32 (n := Q) (by omega)
                          have e3 := nI_i32 (n := N) (by omega)
                          refine he_cpL (by rfl) (by rfl) (cm_row (by omega)) (cm_row (by omega)) (by rfl) (by unfold hx_cc; rw [Bool.and_eq_true, Bool.and_eq_true, Bool.and_eq_true, Bool.and_eq_true, decide_eq_true_eq, decide_eq_true_eq, decide_eq_true_eq, decide_eq_true_eq, decide_eq_true_eq]; omega) (cm_rows (by omega) _) ?_
                          rw [show Int32.toNatClampNeg (nI P) = P from nI_clamp (by omega), show Int32.toNatClampNeg (nI Q) = Q from nI_clamp (by omega), show Int32.toNatClampNeg (nI N) = N from nI_clamp (by omega)]
                          refine he_s 1 (pc' := 156) (lc' := [(0, .ref 0), (1, .int (nI t)), (2, .int (nI P)), (3, .int (nI u)), (4, .int (nI Q)), (5, .int (nI N))]) (stk' := [.ref 0]) (mem' := cm g l a (fm_uf b (2 + u) (va_cpy (b (2 + t)) (b (2 + u)) P Q N)) R) (by intro _ _ _; eq_refl) ?_
                          refine he_ivV ha_agree (by omega) (by rfl) (by rfl) (by rfl) (by rfl) (by rfl) (by rfl) ?_
                          exact he_ret ⟨1, 0, _, by decide, Or.inl ⟨t, u, P, Q, N, ht, hu, rfl, rfl, rfl, rfl, rfl, by omega, by omega, of_decide_eq_true h8, rfl, rfl⟩, rfl⟩ (by rfl) (by rfl) (by rfl)
                      · refine he_s 2 (pc' := 131) (lc' := [(0, .ref 0), (1, .int (nI t)), (2, .int p), (3, .int (nI u)), (4, .int q), (5, .int n)]) (stk' := [.int 3, .ref 0]) (mem' := cm g l a b R) (by intro _ _ _; eq_refl) ?_
                        refine he_ivV (ha_deny (x := 3)) (by omega) (by rfl) (by rfl) (by rfl) (by rfl) (by rfl) (by rfl) ?_
                        have q0 : (0 : Int) ≤ (p).toInt := tc_ltF h3
                        have q1 : (0 : Int) ≤ (q).toInt := tc_ltF h4
                        have q2 : (0 : Int) ≤ (n).toInt := tc_ge h5
                        have q3 : (0 : Int) ≤ (a 7 t).toInt := tc_ltF h6
                        have q4 : (0 : Int) ≤ (a 7 u).toInt := tc_ge h7
                        have q6 : (n).toInt ≤ (a 7 t).toInt := tc_gtF h9
                        have q7 : (p).toInt ≤ ((a 7 t) - n).toInt := tc_gtF h10
                        have q8 : (a 7 u).toInt < (n).toInt := tc_gt h11
                        refine he_ret ⟨0, 3, _, by decide, Or.inr ⟨pr_no ht hu (fun z => ?_), rfl, rfl⟩, rfl⟩ (by rfl) (by rfl) (by rfl)
                        obtain ⟨z1, z2, z3, z4, z5, -, z7, z8⟩ := z
                        have s1 : n.toInt ≤ (a 7 t).toInt → (a 7 t - n).toInt = (a 7 t).toInt - n.toInt := fun z => tc_sub z3 z
                        have s2 : n.toInt ≤ (a 7 u).toInt → (a 7 u - n).toInt = (a 7 u).toInt - n.toInt := fun z => tc_sub z3 z
                        have s1 := s1 (by omega)
                        have s2 := s2 (by omega)
                        omega
                    · refine he_s 2 (pc' := 131) (lc' := [(0, .ref 0), (1, .int (nI t)), (2, .int p), (3, .int (nI u)), (4, .int q), (5, .int n)]) (stk' := [.int 3, .ref 0]) (mem' := cm g l a b R) (by intro _ _ _; eq_refl) ?_
                      refine he_ivV (ha_deny (x := 3)) (by omega) (by rfl) (by rfl) (by rfl) (by rfl) (by rfl) (by rfl) ?_
                      have q0 : (0 : Int) ≤ (p).toInt := tc_ltF h3
                      have q1 : (0 : Int) ≤ (q).toInt := tc_ltF h4
                      have q2 : (0 : Int) ≤ (n).toInt := tc_ge h5
                      have q3 : (0 : Int) ≤ (a 7 t).toInt := tc_ltF h6
                      have q4 : (0 : Int) ≤ (a 7 u).toInt := tc_ge h7
                      have q6 : (n).toInt ≤ (a 7 t).toInt := tc_gtF h9
                      have q7 : ((a 7 t) - n).toInt < (p).toInt := tc_gt h10
                      refine he_ret ⟨0, 3, _, by decide, Or.inr ⟨pr_no ht hu (fun z => ?_), rfl, rfl⟩, rfl⟩ (by rfl) (by rfl) (by rfl)
                      obtain ⟨z1, z2, z3, z4, z5, -, z7, z8⟩ := z
                      have s1 : n.toInt ≤ (a 7 t).toInt → (a 7 t - n).toInt = (a 7 t).toInt - n.toInt := fun z => tc_sub z3 z
                      have s2 : n.toInt ≤ (a 7 u).toInt → (a 7 u - n).toInt = (a 7 u).toInt - n.toInt := fun z => tc_sub z3 z
                      have s1 := s1 (by omega)
                      have s2 := s2 (by omega)
                      omega
                  · refine he_s 2 (pc' := 131) (lc' := [(0, .ref 0), (1, .int (nI t)), (2, .int p), (3, .int (nI u)), (4, .int q), (5, .int n)]) (stk' := [.int 3, .ref 0]) (mem' := cm g l a b R) (by intro _ _ _; eq_refl) ?_
                    refine he_ivV (ha_deny (x := 3)) (by omega) (by rfl) (by rfl) (by rfl) (by rfl) (by rfl) (by rfl) ?_
                    have q0 : (0 : Int) ≤ (p).toInt := tc_ltF h3
                    have q1 : (0 : Int) ≤ (q).toInt := tc_ltF h4
                    have q2 : (0 : Int) ≤ (n).toInt := tc_ge h5
                    have q3 : (0 : Int) ≤ (a 7 t).toInt := tc_ltF h6
                    have q4 : (0 : Int) ≤ (a 7 u).toInt := tc_ge h7
                    have q6 : (a 7 t).toInt < (n).toInt := tc_gt h9
                    refine he_ret ⟨0, 3, _, by decide, Or.inr ⟨pr_no ht hu (fun z => ?_), rfl, rfl⟩, rfl⟩ (by rfl) (by rfl) (by rfl)
                    obtain ⟨z1, z2, z3, z4, z5, -, z7, z8⟩ := z
                    have s1 : n.toInt ≤ (a 7 t).toInt → (a 7 t - n).toInt = (a 7 t).toInt - n.toInt := fun z => tc_sub z3 z
                    have s2 : n.toInt ≤ (a 7 u).toInt → (a 7 u - n).toInt = (a 7 u).toInt - n.toInt := fun z => tc_sub z3 z
                    have s1 := s1 (by omega)
                    have s2 := s2 (by omega)
                    omega
            · refine he_s 2 (pc' := 54) (lc' := [(0, .ref 0), (1, .int (nI t)), (2, .int p), (3, .int (nI u)), (4, .int q), (5, .int n)]) (stk' := [.int 2, .ref 0]) (mem' := cm g l a b R) (by intro _ _ _; eq_refl) ?_
              refine he_ivV (ha_deny (x := 2)) (by omega) (by rfl) (by rfl) (by rfl) (by rfl) (by rfl) (by rfl) ?_
              have q0 : (0 : Int) ≤ (p).toInt := tc_ltF h3
              have q1 : (0 : Int) ≤ (q).toInt := tc_ltF h4
              have q2 : (0 : Int) ≤ (n).toInt := tc_ge h5
              have q3 : (a 7 t).toInt < 0 := tc_lt h6
              refine he_ret ⟨0, 2, _, by decide, Or.inr ⟨pr_no ht hu (fun z => ?_), rfl, rfl⟩, rfl⟩ (by rfl) (by rfl) (by rfl)
              obtain ⟨z1, z2, z3, z4, z5, -, z7, z8⟩ := z
              have s1 : n.toInt ≤ (a 7 t).toInt → (a 7 t - n).toInt = (a 7 t).toInt - n.toInt := fun z => tc_sub z3 z
              have s2 : n.toInt ≤ (a 7 u).toInt → (a 7 u - n).toInt = (a 7 u).toInt - n.toInt := fun z => tc_sub z3 z
              have s1 := s1 (by omega)
              have s2 := s2 (by omega)
              omega
        · refine he_s 2 (pc' := 30) (lc' := [(0, .ref 0), (1, .int (nI t)), (2, .int p), (3, .int (nI u)), (4, .int q), (5, .int n)]) (stk' := [.int 1, .ref 0]) (mem' := cm g l a b R) (by intro _ _ _; eq_refl) ?_
          refine he_ivV (ha_deny (x := 1)) (by omega) (by rfl) (by rfl) (by rfl) (by rfl) (by rfl) (by rfl) ?_
          have q0 : (0 : Int) ≤ (p).toInt := tc_ltF h3
          have q1 : (q).toInt < 0 := tc_lt h4
          refine he_ret ⟨0, 1, _, by decide, Or.inr ⟨pr_no ht hu (fun z => ?_), rfl, rfl⟩, rfl⟩ (by rfl) (by rfl) (by rfl)
          obtain ⟨z1, z2, z3, z4, z5, -, z7, z8⟩ := z
          have s1 : n.toInt ≤ (a 7 t).toInt → (a 7 t - n).toInt = (a 7 t).toInt - n.toInt := fun z => tc_sub z3 z
          have s2 : n.toInt ≤ (a 7 u).toInt → (a 7 u - n).toInt = (a 7 u).toInt - n.toInt := fun z => tc_sub z3 z
          have s1 := s1 (by omega)
          have s2 := s2 (by omega)
          omega
      · refine he_s 2 (pc' := 30) (lc' := [(0, .ref 0), (1, .int (nI t)), (2, .int p), (3, .int (nI u)), (4, .int q), (5, .int n)]) (stk' := [.int 1, .ref 0]) (mem' := cm g l a b R) (by intro _ _ _; eq_refl) ?_
        refine he_ivV (ha_deny (x := 1)) (by omega) (by rfl) (by rfl) (by rfl) (by rfl) (by rfl) (by rfl) ?_
        have q0 : (p).toInt < 0 := tc_lt h3
        refine he_ret ⟨0, 1, _, by decide, Or.inr ⟨pr_no ht hu (fun z => ?_), rfl, rfl⟩, rfl⟩ (by rfl) (by rfl) (by rfl)
        obtain ⟨z1, z2, z3, z4, z5, -, z7, z8⟩ := z
        have s1 : n.toInt ≤ (a 7 t).toInt → (a 7 t - n).toInt = (a 7 t).toInt - n.toInt := fun z => tc_sub z3 z
        have s2 : n.toInt ≤ (a 7 u).toInt → (a 7 u - n).toInt = (a 7 u).toInt - n.toInt := fun z => tc_sub z3 z
        have s1 := s1 (by omega)
        have s2 := s2 (by omega)
        omega
end CT
