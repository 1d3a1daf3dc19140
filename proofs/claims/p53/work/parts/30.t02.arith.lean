/-! ===== tk: comparisons ===== -/
def tk_neO (w : tk_W) (a b : tk_V) : List tk_W := match tk_iv w.1 a, tk_iv w.1 b with
  | some I, some J => if a.2 = b.2 then [] else if J.1 = J.2 then ((tk_cut w.1 a I.1 (J.1 - 1)).toList ++ (tk_cut w.1 a (J.1 + 1) I.2).toList).map (fun e => (e, w.2)) else if I.1 = I.2 then ((tk_cut w.1 b J.1 (I.1 - 1)).toList ++ (tk_cut w.1 b (I.1 + 1) J.2).toList).map (fun e => (e, w.2)) else [w]
  | _, _ => [w]
def tk_ne (w : tk_W) (a b : tk_V) : List tk_W := if tk_le w.1 w.2 a b 0 = true then (if tk_le w.1 w.2 b a 0 = true then [] else (tk_add w a b 1).toList) else if tk_le w.1 w.2 b a 0 = true then (tk_add w b a 1).toList else tk_neO w a b
def tk_lt (w : tk_W) (a b : tk_V) : List tk_W := if tk_le w.1 w.2 b a 0 = true then [] else (tk_add w a b 1).toList
def tk_lq (w : tk_W) (a b : tk_V) : List tk_W := if tk_le w.1 w.2 b a 1 = true then [] else (tk_add w a b 0).toList
def tk_eq (w : tk_W) (a b : tk_V) : List tk_W := if tk_le w.1 w.2 b a 1 = true then [] else if tk_le w.1 w.2 a b 1 = true then [] else ((tk_add w a b 0).bind (fun w => tk_add w b a 0)).toList
def tk_cond (c : ClassFile.Cond) (w : tk_W) (a b : tk_V) : List tk_W := match c with
  | .lt => tk_lt w a b
  | .ge => tk_lq w b a
  | .gt => tk_lt w b a
  | .le => tk_lq w a b
  | .eq => tk_eq w a b
  | .ne => tk_ne w a b
def tk_holds (c : ClassFile.Cond) (x y : Int) : Prop := match c with
  | .eq => x = y
  | .ne => ¬ x = y
  | .lt => x < y
  | .ge => y ≤ x
  | .gt => y < x
  | .le => x ≤ y
theorem tk_toL {α : Type} {o : Option α} {a : α} (h : o = some a) : a ∈ o.toList := by rw [h]; exact List.mem_singleton.mpr rfl
theorem tk_lt_ok {w : tk_W} {vals : List Int} {a b : tk_V} {x y : Int} (hH : tk_H w vals) (ha : tk_num vals a = some x) (hb : tk_num vals b = some y) (h : x < y) : ∃ w' ∈ tk_lt w a b, tk_H w' vals := by
  unfold tk_lt
  split
  · next hc => have := tk_le_ok hH.1 hH.2 hb ha hc; omega
  · obtain ⟨w', h1, h2⟩ := tk_add_ok (d := 1) hH ha hb (by omega)
    exact ⟨w', tk_toL h1, h2⟩
theorem tk_lq_ok {w : tk_W} {vals : List Int} {a b : tk_V} {x y : Int} (hH : tk_H w vals) (ha : tk_num vals a = some x) (hb : tk_num vals b = some y) (h : x ≤ y) : ∃ w' ∈ tk_lq w a b, tk_H w' vals := by
  unfold tk_lq
  split
  · next hc => have := tk_le_ok hH.1 hH.2 hb ha hc; omega
  · obtain ⟨w', h1, h2⟩ := tk_add_ok (d := 0) hH ha hb (by omega)
    exact ⟨w', tk_toL h1, h2⟩
theorem tk_eq_ok {w : tk_W} {vals : List Int} {a b : tk_V} {x y : Int} (hH : tk_H w vals) (ha : tk_num vals a = some x) (hb : tk_num vals b = some y) (h : x = y) : ∃ w' ∈ tk_eq w a b, tk_H w' vals := by
  unfold tk_eq
  split
  · next hc => have := tk_le_ok hH.1 hH.2 hb ha hc; omega
  · split
    · next hc => have := tk_le_ok hH.1 hH.2 ha hb hc; omega
    · obtain ⟨w1, h1, h2⟩ := tk_add_ok (d := 0) hH ha hb (by omega)
      obtain ⟨w2, h3, h4⟩ := tk_add_ok (d := 0) h2 hb ha (by omega)
      exact ⟨w2, tk_toL (by rw [h1]; exact h3), h4⟩
theorem tk_neO_ok {w : tk_W} {vals : List Int} {a b : tk_V} {x y : Int} (hH : tk_H w vals) (ha : tk_num vals a = some x) (hb : tk_num vals b = some y) (h : ¬ x = y) : ∃ w' ∈ tk_neO w a b, tk_H w' vals := by
  unfold tk_neO
  split
  · next I J hI hJ =>
    have p1 := tk_iv_ok hH.1 ha hI
    have p2 := tk_iv_ok hH.1 hb hJ
    split
    · next e =>
      have : tk_num vals a = tk_num vals b := by unfold tk_num; rw [e]
      rw [ha, hb] at this
      exact absurd (Option.some.inj this) h
    · split
      · next e =>
        rcases Int.lt_or_gt_of_ne h with g | g
        · obtain ⟨e1, h1, h2⟩ := tk_cut_ok (lo := I.1) (hi := J.1 - 1) hH.1 ha (by omega) (by omega)
          exact ⟨(e1, w.2), List.mem_map.mpr ⟨e1, List.mem_append_left _ (tk_toL h1), rfl⟩, h2, hH.2⟩
        · obtain ⟨e1, h1, h2⟩ := tk_cut_ok (lo := J.1 + 1) (hi := I.2) hH.1 ha (by omega) (by omega)
          exact ⟨(e1, w.2), List.mem_map.mpr ⟨e1, List.mem_append_right _ (tk_toL h1), rfl⟩, h2, hH.2⟩
      · split
        · next e =>
          rcases Int.lt_or_gt_of_ne h with g | g
          · obtain ⟨e1, h1, h2⟩ := tk_cut_ok (lo := I.1 + 1) (hi := J.2) hH.1 hb (by omega) (by omega)
            exact ⟨(e1, w.2), List.mem_map.mpr ⟨e1, List.mem_append_right _ (tk_toL h1), rfl⟩, h2, hH.2⟩
          · obtain ⟨e1, h1, h2⟩ := tk_cut_ok (lo := J.1) (hi := I.1 - 1) hH.1 hb (by omega) (by omega)
            exact ⟨(e1, w.2), List.mem_map.mpr ⟨e1, List.mem_append_left _ (tk_toL h1), rfl⟩, h2, hH.2⟩
        · exact ⟨w, List.mem_singleton.mpr rfl, hH⟩
  · exact ⟨w, List.mem_singleton.mpr rfl, hH⟩
theorem tk_ne_ok {w : tk_W} {vals : List Int} {a b : tk_V} {x y : Int} (hH : tk_H w vals) (ha : tk_num vals a = some x) (hb : tk_num vals b = some y) (h : ¬ x = y) : ∃ w' ∈ tk_ne w a b, tk_H w' vals := by
  unfold tk_ne
  split
  · next h1 =>
    have := tk_le_ok hH.1 hH.2 ha hb h1
    split
    · next h2 =>
      have := tk_le_ok hH.1 hH.2 hb ha h2
      omega
    · obtain ⟨w', e, hw⟩ := tk_add_ok hH ha hb (d := 1) (by omega)
      exact ⟨w', tk_toL e, hw⟩
  · split
    · next h2 =>
      have := tk_le_ok hH.1 hH.2 hb ha h2
      obtain ⟨w', e, hw⟩ := tk_add_ok hH hb ha (d := 1) (by omega)
      exact ⟨w', tk_toL e, hw⟩
    · exact tk_neO_ok hH ha hb h
theorem tk_cond_ok (c : ClassFile.Cond) {w : tk_W} {vals : List Int} {a b : tk_V} {x y : Int} (hH : tk_H w vals) (ha : tk_num vals a = some x) (hb : tk_num vals b = some y) (h : tk_holds c x y) : ∃ w' ∈ tk_cond c w a b, tk_H w' vals := by
  cases c <;> dsimp only [tk_holds] at h <;> dsimp only [tk_cond]
  · exact tk_eq_ok hH ha hb h
  · exact tk_ne_ok hH ha hb h
  · exact tk_lt_ok hH ha hb h
  · exact tk_lq_ok hH hb ha h
  · exact tk_lt_ok hH hb ha h
  · exact tk_lq_ok hH ha hb h
theorem tk_not_ok {c : ClassFile.Cond} {x y : Int} (h : ¬ tk_holds c x y) : tk_holds (rk_not c) x y := by
  cases c <;> dsimp only [tk_holds, rk_not] at h ⊢ <;> omega
/-! ===== tk: sums, differences, products ===== -/
def tk_rng (k : Nat) : tk_I := if k = 0 then (-2147483648, 2147483647) else (-9223372036854775808, 9223372036854775807)
def tk_fit (k : Nat) (K : tk_I) : Bool := decide ((tk_rng k).1 ≤ K.1) && decide (K.2 ≤ (tk_rng k).2)
def tk_wrap (k : Nat) (x : Int) : Int := if k = 0 then x.bmod 4294967296 else x.bmod 18446744073709551616
theorem tk_wrap_in (k : Nat) (x : Int) : (tk_rng k).1 ≤ tk_wrap k x ∧ tk_wrap k x ≤ (tk_rng k).2 := by
  unfold tk_wrap tk_rng
  split
  · have h1 := Int.le_bmod (x := x) (m := 4294967296) (by decide)
    have h2 := Int.bmod_lt (x := x) (m := 4294967296) (by decide)
    dsimp only
    omega
  · have h1 := Int.le_bmod (x := x) (m := 18446744073709551616) (by decide)
    have h2 := Int.bmod_lt (x := x) (m := 18446744073709551616) (by decide)
    dsimp only
    omega
theorem tk_wrap_id {k : Nat} {x : Int} {K : tk_I} (hf : tk_fit k K = true) (h1 : K.1 ≤ x) (h2 : x ≤ K.2) : tk_wrap k x = x := by
  unfold tk_fit tk_rng at hf
  rw [Bool.and_eq_true, decide_eq_true_eq, decide_eq_true_eq] at hf
  unfold tk_wrap
  split
  · next e =>
    rw [if_pos e] at hf
    dsimp only at hf
    apply Int.bmod_eq_of_le <;> omega
  · next e =>
    rw [if_neg e] at hf
    dsimp only at hf
    apply Int.bmod_eq_of_le <;> omega
abbrev tk_VE : Type := tk_V × List tk_I
/-- a result: its kind, its number -/
def tk_is (k : Nat) (vals : List Int) (q : tk_VE) (z : Int) : Prop := q.1.1 = k ∧ ∃ l, tk_E q.2 (vals ++ l) ∧ tk_num (vals ++ l) q.1 = some z
theorem tk_is_new {env : List tk_I} {vals : List Int} {I : tk_I} {x : Int} (k : Nat) (hE : tk_E env vals) (h1 : I.1 ≤ x) (h2 : x ≤ I.2) : tk_is k vals (tk_new env k I) x := tk_new_ok k hE h1 h2
theorem tk_is_old {env : List tk_I} {vals : List Int} {a : tk_V} {x : Int} (k : Nat) (hE : tk_E env vals) (h1 : a.1 = k) (h2 : tk_num vals a = some x) : tk_is k vals (a, env) x := ⟨h1, [], by simpa using hE, by simpa using h2⟩
def tk_sh (k : Nat) (a : tk_V) (c : Int) : tk_V := (k, a.2.1, a.2.2.1, a.2.2.2 + c)
theorem tk_sh_ok {vals : List Int} {a : tk_V} {x : Int} (k : Nat) (c : Int) (h : tk_num vals a = some x) : tk_num vals (tk_sh k a c) = some (x + c) := by
  unfold tk_num tk_sh at *
  dsimp only at *
  split at h
  · cases h; rfl
  · next k e =>
    split at h
    · next z hz => cases h; congr 1; omega
    · cases h
theorem tk_lit {vals : List Int} {a : tk_V} {x : Int} (h : tk_num vals a = some x) (e : a.2.1 = 0) : x = a.2.2.2 := by
  unfold tk_num at h
  rw [e] at h
  exact (Option.some.inj h).symm
def tk_addv (k : Nat) (env : List tk_I) (a b : tk_V) : Option tk_VE := match tk_iv env a, tk_iv env b with
  | some I, some J => if a.2.1 = 0 ∧ b.2.1 = 0 then some ((k, 0, 0, tk_wrap k (a.2.2.2 + b.2.2.2)), env) else if tk_fit k (I.1 + J.1, I.2 + J.2) = true then (if b.2.1 = 0 then some (tk_sh k a b.2.2.2, env) else if a.2.1 = 0 then some (tk_sh k b a.2.2.2, env) else some (tk_new env k (I.1 + J.1, I.2 + J.2))) else some (tk_new env k (tk_rng k))
  | _, _ => none
theorem tk_addv_ok {k : Nat} {env : List tk_I} {vals : List Int} {a b : tk_V} {x y : Int} {q : tk_VE} (hE : tk_E env vals) (ha : tk_num vals a = some x) (hb : tk_num vals b = some y) (h : tk_addv k env a b = some q) : tk_is k vals q (tk_wrap k (x + y)) := by
  unfold tk_addv at h
  split at h
  · next I J hI hJ =>
    have p1 := tk_iv_ok hE ha hI
    have p2 := tk_iv_ok hE hb hJ
    split at h
    · next e =>
      cases h
      rw [tk_lit ha e.1, tk_lit hb e.2]
      exact tk_is_old k hE rfl rfl
    · split at h
      · next hf =>
        have hw : tk_wrap k (x + y) = x + y := tk_wrap_id hf (by dsimp only; omega) (by dsimp only; omega)
        rw [hw]
        split at h
        · next e => cases h; rw [tk_lit hb e]; exact tk_is_old k hE rfl (tk_sh_ok k _ ha)
        · split at h
          · next e => cases h; rw [tk_lit ha e, Int.add_comm]; exact tk_is_old k hE rfl (tk_sh_ok k _ hb)
          · cases h; exact tk_is_new k hE (by dsimp only; omega) (by dsimp only; omega)
      · cases h; exact tk_is_new k hE (tk_wrap_in k _).1 (tk_wrap_in k _).2
  · cases h
def tk_subv (k : Nat) (env : List tk_I) (a b : tk_V) : Option tk_VE := match tk_iv env a, tk_iv env b with
  | some I, some J => if a.2.1 = 0 ∧ b.2.1 = 0 then some ((k, 0, 0, tk_wrap k (a.2.2.2 - b.2.2.2)), env) else if tk_fit k (I.1 - J.2, I.2 - J.1) = true then (if b.2.1 = 0 then some (tk_sh k a (-b.2.2.2), env) else some (tk_new env k (I.1 - J.2, I.2 - J.1))) else some (tk_new env k (tk_rng k))
  | _, _ => none
theorem tk_subv_ok {k : Nat} {env : List tk_I} {vals : List Int} {a b : tk_V} {x y : Int} {q : tk_VE} (hE : tk_E env vals) (ha : tk_num vals a = some x) (hb : tk_num vals b = some y) (h : tk_subv k env a b = some q) : tk_is k vals q (tk_wrap k (x - y)) := by
  unfold tk_subv at h
  split at h
  · next I J hI hJ =>
    have p1 := tk_iv_ok hE ha hI
    have p2 := tk_iv_ok hE hb hJ
    split at h
    · next e =>
      cases h
      rw [tk_lit ha e.1, tk_lit hb e.2]
      exact tk_is_old k hE rfl rfl
    · split at h
      · next hf =>
        have hw : tk_wrap k (x - y) = x - y := tk_wrap_id hf (by dsimp only; omega) (by dsimp only; omega)
        rw [hw]
        split at h
        · next e => cases h; rw [tk_lit hb e]; exact tk_is_old k hE rfl (by rw [Int.sub_eq_add_neg]; exact tk_sh_ok k _ ha)
        · cases h; exact tk_is_new k hE (by dsimp only; omega) (by dsimp only; omega)
      · cases h; exact tk_is_new k hE (tk_wrap_in k _).1 (tk_wrap_in k _).2
  · cases h
def tk_mulI (I J : tk_I) : tk_I := (min (min (I.1 * J.1) (I.1 * J.2)) (min (I.2 * J.1) (I.2 * J.2)), max (max (I.1 * J.1) (I.1 * J.2)) (max (I.2 * J.1) (I.2 * J.2)))
theorem tk_mul1 {I : tk_I} {x : Int} (y : Int) (h1 : I.1 ≤ x) (h2 : x ≤ I.2) : min (I.1 * y) (I.2 * y) ≤ x * y ∧ x * y ≤ max (I.1 * y) (I.2 * y) := by
  by_cases hy : 0 ≤ y
  · have q1 := Int.mul_le_mul_of_nonneg_right h1 hy
    have q2 := Int.mul_le_mul_of_nonneg_right h2 hy
    omega
  · have hy' : y ≤ 0 := by omega
    have q1 := Int.mul_le_mul_of_nonpos_right h1 hy'
    have q2 := Int.mul_le_mul_of_nonpos_right h2 hy'
    omega
theorem tk_mulI_ok {I J : tk_I} {x y : Int} (h1 : I.1 ≤ x) (h2 : x ≤ I.2) (h3 : J.1 ≤ y) (h4 : y ≤ J.2) : (tk_mulI I J).1 ≤ x * y ∧ x * y ≤ (tk_mulI I J).2 := by
  have p := tk_mul1 y h1 h2
  have q1 := tk_mul1 I.1 h3 h4
  have q2 := tk_mul1 I.2 h3 h4
  rw [Int.mul_comm y I.1, Int.mul_comm J.1 I.1, Int.mul_comm J.2 I.1] at q1
  rw [Int.mul_comm y I.2, Int.mul_comm J.1 I.2, Int.mul_comm J.2 I.2] at q2
  unfold tk_mulI
  dsimp only
  omega
def tk_ml (k : Nat) (a : tk_V) (c : Nat) : tk_V := (k, a.2.1, a.2.2.1 * c, a.2.2.2 * (c : Int))
theorem tk_ml_ok {vals : List Int} {a : tk_V} {x : Int} (k c : Nat) (h : tk_num vals a = some x) : tk_num vals (tk_ml k a c) = some (x * (c : Int)) := by
  unfold tk_num tk_ml at *
  dsimp only at *
  split at h
  · cases h; rfl
  · next k e =>
    split at h
    · next z hz =>
      cases h
      congr 1
      rw [Int.add_mul, Int.natCast_mul, Int.mul_right_comm]
    · cases h
def tk_mulv (k : Nat) (env : List tk_I) (a b : tk_V) : Option tk_VE := match tk_iv env a, tk_iv env b with
  | some I, some J => if a.2.1 = 0 ∧ b.2.1 = 0 then some ((k, 0, 0, tk_wrap k (a.2.2.2 * b.2.2.2)), env) else if tk_fit k (tk_mulI I J) = true then (if b.2.1 = 0 ∧ 0 < b.2.2.2 then some (tk_ml k a b.2.2.2.toNat, env) else if a.2.1 = 0 ∧ 0 < a.2.2.2 then some (tk_ml k b a.2.2.2.toNat, env) else some (tk_new env k (tk_mulI I J))) else some (tk_new env k (tk_rng k))
  | _, _ => none
theorem tk_mulv_ok {k : Nat} {env : List tk_I} {vals : List Int} {a b : tk_V} {x y : Int} {q : tk_VE} (hE : tk_E env vals) (ha : tk_num vals a = some x) (hb : tk_num vals b = some y) (h : tk_mulv k env a b = some q) : tk_is k vals q (tk_wrap k (x * y)) := by
  unfold tk_mulv at h
  split at h
  · next I J hI hJ =>
    have p1 := tk_iv_ok hE ha hI
    have p2 := tk_iv_ok hE hb hJ
    split at h
    · next e =>
      cases h
      rw [tk_lit ha e.1, tk_lit hb e.2]
      exact tk_is_old k hE rfl rfl
    · split at h
      · next hf =>
        have hm := tk_mulI_ok p1.1 p1.2 p2.1 p2.2
        have hw : tk_wrap k (x * y) = x * y := tk_wrap_id hf hm.1 hm.2
        rw [hw]
        split at h
        · next e =>
          cases h
          have := tk_ml_ok k b.2.2.2.toNat ha
          rw [show ((b.2.2.2.toNat : Nat) : Int) = y from by rw [tk_lit hb e.1]; omega] at this
          exact tk_is_old k hE rfl this
        · split at h
          · next e =>
            cases h
            have := tk_ml_ok k a.2.2.2.toNat hb
            rw [show ((a.2.2.2.toNat : Nat) : Int) = x from by rw [tk_lit ha e.1]; omega, Int.mul_comm] at this
            exact tk_is_old k hE rfl this
          · cases h; exact tk_is_new k hE hm.1 hm.2
      · cases h; exact tk_is_new k hE (tk_wrap_in k _).1 (tk_wrap_in k _).2
  · cases h
