section MG3_0
/-! ===== tk: a typed checker over bytecode: values are numbers: kind (0 int, 1 long, 2 a reference, else null), symbol (0: none), how often, how much ===== -/
abbrev tk_V : Type := Nat × Nat × Nat × Int
abbrev tk_I : Type := Int × Int
/-- vals[i] ≤ vals[j] + c -/
abbrev tk_Q : Type := Nat × Nat × Int
def tk_num (vals : List Int) (a : tk_V) : Option Int := match a.2.1 with
  | 0 => some a.2.2.2
  | k + 1 => match vals[k]? with
    | some z => some ((a.2.2.1 : Int) * z + a.2.2.2)
    | none => none
theorem tk_num_grow {vals : List Int} {a : tk_V} {x : Int} (l : List Int) (h : tk_num vals a = some x) : tk_num (vals ++ l) a = some x := by
  unfold tk_num at h ⊢
  split at h
  · exact h
  · next k =>
    split at h
    · next z hz =>
      rw [List.getElem?_append_left (List.getElem?_eq_some_iff.mp hz).1, hz]
      exact h
    · cases h
def tk_g (vals : List Int) (rads : List Nat) (a : tk_V) (v : Value) : Prop := match a.1 with
  | 0 => ∃ x : Int32, v = .int x ∧ tk_num vals a = some x.toInt
  | 1 => ∃ x : Int64, v = .long x ∧ tk_num vals a = some x.toInt
  | 2 => ∃ x : Nat, rads[a.2.1]? = some x ∧ v = .ref x
  | _ => v = .null
theorem tk_g_grow {vals : List Int} {rads : List Nat} {a : tk_V} {v : Value} (l : List Int) (r : List Nat) (h : tk_g vals rads a v) : tk_g (vals ++ l) (rads ++ r) a v := by
  unfold tk_g at h ⊢
  split at h
  · obtain ⟨x, e, h1⟩ := h
    exact ⟨x, e, tk_num_grow l h1⟩
  · obtain ⟨x, e, h1⟩ := h
    exact ⟨x, e, tk_num_grow l h1⟩
  · obtain ⟨x, h1, e⟩ := h
    exact ⟨x, by rw [List.getElem?_append_left (List.getElem?_eq_some_iff.mp h1).1]; exact h1, e⟩
  · exact h
def tk_E (env : List tk_I) (vals : List Int) : Prop := rk_A2 (fun (I : tk_I) (x : Int) => I.1 ≤ x ∧ x ≤ I.2) env vals
def tk_C (cs : List tk_Q) (vals : List Int) : Prop := ∀ q ∈ cs, ∃ x y : Int, vals[q.1]? = some x ∧ vals[q.2.1]? = some y ∧ x ≤ y + q.2.2
theorem tk_C_grow {cs : List tk_Q} {vals : List Int} (l : List Int) (h : tk_C cs vals) : tk_C cs (vals ++ l) := by
  intro q hq
  obtain ⟨x, y, h1, h2, h3⟩ := h q hq
  exact ⟨x, y, by rw [List.getElem?_append_left (List.getElem?_eq_some_iff.mp h1).1]; exact h1, by rw [List.getElem?_append_left (List.getElem?_eq_some_iff.mp h2).1]; exact h2, h3⟩
/-- a difference by a chain of differences -/
def tk_ch (cs : List tk_Q) : Nat → Nat → Nat → Int → Bool
  | 0, _, _, _ => false
  | n + 1, i, j, B => cs.any (fun q => Nat.beq q.1 i && ((Nat.beq q.2.1 j && decide (q.2.2 ≤ B)) || tk_ch cs n q.2.1 j (B - q.2.2)))
theorem tk_ch_ok {cs : List tk_Q} {vals : List Int} (hC : tk_C cs vals) : ∀ (n i j : Nat) (B x y : Int), vals[i]? = some x → vals[j]? = some y → tk_ch cs n i j B = true → x ≤ y + B := by
  intro n
  induction n with
  | zero => intro i j B x y _ _ h; cases h
  | succ n ih =>
    intro i j B x y hx hy h
    unfold tk_ch at h
    obtain ⟨q, hq, h⟩ := List.any_eq_true.mp h
    rw [Bool.and_eq_true, Bool.or_eq_true, Bool.and_eq_true, decide_eq_true_eq] at h
    obtain ⟨h1, h2⟩ := h
    have e1 := Nat.eq_of_beq_eq_true h1
    obtain ⟨x', y', g1, g2, g3⟩ := hC q hq
    rw [e1, hx] at g1
    cases g1
    rcases h2 with ⟨h2, h3⟩ | h2
    · rw [Nat.eq_of_beq_eq_true h2, hy] at g2
      cases g2
      omega
    · have := ih q.2.1 j (B - q.2.2) y' y g2 hy h2
      omega
def tk_iv (env : List tk_I) (a : tk_V) : Option tk_I := match a.2.1 with
  | 0 => some (a.2.2.2, a.2.2.2)
  | k + 1 => match env[k]? with
    | some I => some ((a.2.2.1 : Int) * I.1 + a.2.2.2, (a.2.2.1 : Int) * I.2 + a.2.2.2)
    | none => none
theorem tk_iv_ok {env : List tk_I} {vals : List Int} {a : tk_V} {x : Int} {I : tk_I} (hE : tk_E env vals) (h : tk_num vals a = some x) (hi : tk_iv env a = some I) : I.1 ≤ x ∧ x ≤ I.2 := by
  unfold tk_num at h
  unfold tk_iv at hi
  split at h
  · next e =>
    rw [e] at hi
    cases h; cases hi
    exact ⟨Int.le_refl _, Int.le_refl _⟩
  · next k e =>
    rw [e] at hi
    dsimp only at hi
    split at h
    · next z hz =>
      cases h
      split at hi
      · next J hJ =>
        cases hi
        obtain ⟨z', hz', h1, h2⟩ := hE.get hJ
        rw [hz] at hz'
        cases hz'
        have hm : (0 : Int) ≤ (a.2.2.1 : Int) := Int.natCast_nonneg _
        have q1 := Int.mul_le_mul_of_nonneg_left h1 hm
        have q2 := Int.mul_le_mul_of_nonneg_left h2 hm
        exact ⟨Int.add_le_add_right q1 _, Int.add_le_add_right q2 _⟩
      · cases hi
    · cases h
theorem tk_iv_some {env : List tk_I} {vals : List Int} {a : tk_V} {x : Int} (hE : tk_E env vals) (h : tk_num vals a = some x) : ∃ I, tk_iv env a = some I := by
  unfold tk_num at h
  unfold tk_iv
  split at h
  · exact ⟨_, rfl⟩
  · next k e =>
    split at h
    · next z hz =>
      obtain ⟨J, hJ, -⟩ := hE.getR hz
      rw [hJ]
      exact ⟨_, rfl⟩
    · cases h
/-- a number of which the bounds are known: a literal, or a new symbol -/
def tk_new (env : List tk_I) (k : Nat) (I : tk_I) : tk_V × List tk_I := if I.1 = I.2 then ((k, 0, 0, I.1), env) else ((k, env.length + 1, 1, 0), env ++ [I])
theorem tk_new_ok {env : List tk_I} {vals : List Int} {I : tk_I} {x : Int} (k : Nat) (hE : tk_E env vals) (h1 : I.1 ≤ x) (h2 : x ≤ I.2) : (tk_new env k I).1.1 = k ∧ ∃ l, tk_E (tk_new env k I).2 (vals ++ l) ∧ tk_num (vals ++ l) (tk_new env k I).1 = some x := by
  unfold tk_new
  split
  · next e =>
    refine ⟨rfl, [], by simpa using hE, ?_⟩
    show some I.1 = some x
    rw [show I.1 = x from by omega]
  · refine ⟨rfl, [x], rk_A2.push hE ⟨h1, h2⟩, ?_⟩
    show (match (vals ++ [x])[env.length]? with
      | some z => some (((1 : Nat) : Int) * z + 0)
      | none => none) = some x
    have e : env.length = vals.length := hE.len
    rw [e, List.getElem?_append_right (Nat.le_refl _), Nat.sub_self]
    show some (((1 : Nat) : Int) * x + 0) = some x
    congr 1
    omega
/-- the bounds of a value are narrowed; none: that can't be -/
def tk_cut (env : List tk_I) (a : tk_V) (lo hi : Int) : Option (List tk_I) := match a.2.1 with
  | 0 => if lo ≤ a.2.2.2 ∧ a.2.2.2 ≤ hi then some env else none
  | k + 1 => match env[k]? with
    | some I => if 0 < a.2.2.1 then (if max I.1 (-((a.2.2.2 - lo) / (a.2.2.1 : Int))) ≤ min I.2 ((hi - a.2.2.2) / (a.2.2.1 : Int)) then some (env.set k (max I.1 (-((a.2.2.2 - lo) / (a.2.2.1 : Int))), min I.2 ((hi - a.2.2.2) / (a.2.2.1 : Int)))) else none) else some env
    | none => some env
theorem tk_cut_ok {env : List tk_I} {vals : List Int} {a : tk_V} {x lo hi : Int} (hE : tk_E env vals) (h : tk_num vals a = some x) (h1 : lo ≤ x) (h2 : x ≤ hi) : ∃ env', tk_cut env a lo hi = some env' ∧ tk_E env' vals := by
  unfold tk_num at h
  unfold tk_cut
  split at h
  · next e =>
    cases h
    exact ⟨env, if_pos ⟨h1, h2⟩, hE⟩
  · next k e =>
    split at h
    · next z hz =>
      cases h
      obtain ⟨I, hI, g1, g2⟩ := hE.getR hz
      rw [hI]
      dsimp only
      split
      · next hm =>
        have hm' : (0 : Int) < (a.2.2.1 : Int) := Int.natCast_pos.mpr hm
        have k1 : -((a.2.2.2 - lo) / (a.2.2.1 : Int)) ≤ z := by
          have : -z ≤ (a.2.2.2 - lo) / (a.2.2.1 : Int) := by
            rw [Int.le_ediv_iff_mul_le hm', Int.neg_mul, Int.mul_comm]
            omega
          omega
        have k2 : z ≤ (hi - a.2.2.2) / (a.2.2.1 : Int) := by
          rw [Int.le_ediv_iff_mul_le hm', Int.mul_comm]
          omega
        rw [if_pos (by omega)]
        exact ⟨_, rfl, rk_A2.setL (R := fun (I : tk_I) (x : Int) => I.1 ≤ x ∧ x ≤ I.2) ⟨by dsimp only; omega, by dsimp only; omega⟩ hE hz⟩
      · exact ⟨_, rfl, hE⟩
    · cases h
/-- a + d is b at most, surely -/
def tk_le (env : List tk_I) (cs : List tk_Q) (a b : tk_V) (d : Int) : Bool := (match tk_iv env a, tk_iv env b with
  | some I, some J => decide (I.2 + d ≤ J.1)
  | _, _ => false) || ((a.2.1 == b.2.1 && (a.2.2.1 == b.2.2.1 && (decide (0 < a.2.1) && decide (a.2.2.2 + d ≤ b.2.2.2)))) || (decide (0 < a.2.1) && (decide (0 < b.2.1) && (a.2.2.1 == 1 && (b.2.2.1 == 1 && tk_ch cs 4 (a.2.1 - 1) (b.2.1 - 1) (b.2.2.2 - a.2.2.2 - d))))))
theorem tk_sym {vals : List Int} {a : tk_V} {x : Int} (h : tk_num vals a = some x) (hs : 0 < a.2.1) : ∃ k z, a.2.1 = k + 1 ∧ vals[k]? = some z ∧ x = (a.2.2.1 : Int) * z + a.2.2.2 := by
  unfold tk_num at h
  split at h
  · next e => omega
  · next k e =>
    split at h
    · next z hz => cases h; exact ⟨k, z, e, hz, rfl⟩
    · cases h
theorem tk_le_ok {env : List tk_I} {cs : List tk_Q} {vals : List Int} {a b : tk_V} {x y d : Int} (hE : tk_E env vals) (hC : tk_C cs vals) (ha : tk_num vals a = some x) (hb : tk_num vals b = some y) (h : tk_le env cs a b d = true) : x + d ≤ y := by
  unfold tk_le at h
  rw [Bool.or_eq_true, Bool.or_eq_true] at h
  rcases h with h | h | h
  · split at h
    · next I J hI hJ =>
      have := tk_iv_ok hE ha hI
      have := tk_iv_ok hE hb hJ
      have := of_decide_eq_true h
      omega
    · cases h
  · simp only [Bool.and_eq_true, beq_iff_eq, decide_eq_true_eq] at h
    obtain ⟨h1, h2, h3, h4⟩ := h
    obtain ⟨k, z, e, hz, rfl⟩ := tk_sym ha h3
    obtain ⟨k', z', e', hz', rfl⟩ := tk_sym hb (by omega)
    have : k = k' := by omega
    subst this
    rw [hz] at hz'
    cases hz'
    rw [h2]
    omega
  · simp only [Bool.and_eq_true, beq_iff_eq, decide_eq_true_eq] at h
    obtain ⟨h1, h2, h3, h4, h5⟩ := h
    obtain ⟨k, z, e, hz, rfl⟩ := tk_sym ha h1
    obtain ⟨k', z', e', hz', rfl⟩ := tk_sym hb h2
    have := tk_ch_ok hC 4 _ _ _ z z' (by rw [e]; exact hz) (by rw [e']; exact hz') h5
    rw [h3, h4]
    omega
/-- what is known: bounds, and differences -/
abbrev tk_W : Type := List tk_I × List tk_Q
def tk_H (w : tk_W) (vals : List Int) : Prop := tk_E w.1 vals ∧ tk_C w.2 vals
/-- a + d ≤ b is known from now on -/
def tk_add (w : tk_W) (a b : tk_V) (d : Int) : Option tk_W := match tk_iv w.1 a, tk_iv w.1 b with
  | some I, some J => match tk_cut w.1 a I.1 (J.2 - d) with
    | some e1 => match tk_cut e1 b (I.1 + d) J.2 with
      | some e2 => if 0 < a.2.1 ∧ 0 < b.2.1 ∧ a.2.2.1 = 1 ∧ b.2.2.1 = 1 ∧ ¬ a.2.1 = b.2.1 then some (e2, (a.2.1 - 1, b.2.1 - 1, b.2.2.2 - a.2.2.2 - d) :: w.2) else some (e2, w.2)
      | none => none
    | none => none
  | _, _ => some w
theorem tk_add_ok {w : tk_W} {vals : List Int} {a b : tk_V} {x y d : Int} (hH : tk_H w vals) (ha : tk_num vals a = some x) (hb : tk_num vals b = some y) (h : x + d ≤ y) : ∃ w', tk_add w a b d = some w' ∧ tk_H w' vals := by
  obtain ⟨hE, hC⟩ := hH
  obtain ⟨I, hI⟩ := tk_iv_some hE ha
  obtain ⟨J, hJ⟩ := tk_iv_some hE hb
  have p1 := tk_iv_ok hE ha hI
  have p2 := tk_iv_ok hE hb hJ
  obtain ⟨e1, q1, r1⟩ := tk_cut_ok (lo := I.1) (hi := J.2 - d) hE ha (by omega) (by omega)
  obtain ⟨e2, q2, r2⟩ := tk_cut_ok (lo := I.1 + d) (hi := J.2) r1 hb (by omega) (by omega)
  unfold tk_add
  rw [hI, hJ]
  dsimp only
  rw [q1]
  dsimp only
  rw [q2]
  dsimp only
  split
  · next hc =>
    obtain ⟨c1, c2, c3, c4, -⟩ := hc
    refine ⟨_, rfl, r2, ?_⟩
    intro q hq
    rcases List.mem_cons.mp hq with rfl | hq
    · obtain ⟨k, z, e, hz, rfl⟩ := tk_sym ha c1
      obtain ⟨k', z', e', hz', rfl⟩ := tk_sym hb c2
      refine ⟨z, z', by dsimp only; rw [e]; exact hz, by dsimp only; rw [e']; exact hz', ?_⟩
      rw [c3, c4] at h
      dsimp only
      omega
    · exact hC q hq
  · exact ⟨_, rfl, r2, hC⟩
end MG3_0
section MG3_1
/-! ===== tk: comparisons ===== -/
def tk_neO (w : tk_W) (a b : tk_V) : List tk_W := match tk_iv w.1 a, tk_iv w.1 b with
  | some I, some J => if a.2 = b.2 then [] else if J.1 = J.2 then ((tk_cut w.1 a I.1 (J.1 - 1)).toList ++ (tk_cut w.1 a (J.1 + 1) I.2).toList).map (fun e => (e, w.2)) else if I.1 = I.2 then ((tk_cut w.1 b J.1 (I.1 - 1)).toList ++ (tk_cut w.1 b (I.1 + 1) J.2).toList).map (fun e => (e, w.2)) else [w]
  | _, _ => [w]
def tk_ne (w : tk_W) (a b : tk_V) : List tk_W := if tk_le w.1 w.2 a b 0 = true then (if tk_le w.1 w.2 b a 0 = true then [] else (tk_add w a b 1).toList) else if tk_le w.1 w.2 b a 0 = true then (tk_add w b a 1).toList else tk_neO w a b
def tk_lt (w : tk_W) (a b : tk_V) : List tk_W := if tk_le w.1 w.2 b a 0 = true then [] else (tk_add w a b 1).toList
def tk_lq (w : tk_W) (a b : tk_V) : List tk_W := if tk_le w.1 w.2 b a 1 = true then [] else (tk_add w a b 0).toList
def tk_eq (w : tk_W) (a b : tk_V) : List tk_W := if tk_le w.1 w.2 b a 1 = true then [] else if tk_le w.1 w.2 a b 1 = true then [] else ((tk_add w a b 0).bind (fun w => tk_add w b a 0)).toList
def tk_cond (c : ClassFile.Cond) (w : tk_W) (a b : tk_V) : List tk_W := match c with
  | .lt => tk_lt w a b
  | .ge => tk_lq w b a
  | .gt => tk_lt w b a
  | .le => tk_lq w a b
  | .eq => tk_eq w a b
  | .ne => tk_ne w a b
def tk_holds (c : ClassFile.Cond) (x y : Int) : Prop := match c with
  | .eq => x = y
  | .ne => ¬ x = y
  | .lt => x < y
  | .ge => y ≤ x
  | .gt => y < x
  | .le => x ≤ y
theorem tk_toL {α : Type} {o : Option α} {a : α} (h : o = some a) : a ∈ o.toList := by rw [h]; exact List.mem_singleton.mpr rfl
theorem tk_lt_ok {w : tk_W} {vals : List Int} {a b : tk_V} {x y : Int} (hH : tk_H w vals) (ha : tk_num vals a = some x) (hb : tk_num vals b = some y) (h : x < y) : ∃ w' ∈ tk_lt w a b, tk_H w' vals := by
  unfold tk_lt
  split
  · next hc => have := tk_le_ok hH.1 hH.2 hb ha hc; omega
  · obtain ⟨w', h1, h2⟩ := tk_add_ok (d := 1) hH ha hb (by omega)
    exact ⟨w', tk_toL h1, h2⟩
theorem tk_lq_ok {w : tk_W} {vals : List Int} {a b : tk_V} {x y : Int} (hH : tk_H w vals) (ha : tk_num vals a = some x) (hb : tk_num vals b = some y) (h : x ≤ y) : ∃ w' ∈ tk_lq w a b, tk_H w' vals := by
  unfold tk_lq
  split
  · next hc => have := tk_le_ok hH.1 hH.2 hb ha hc; omega
  · obtain ⟨w', h1, h2⟩ := tk_add_ok (d := 0) hH ha hb (by omega)
    exact ⟨w', tk_toL h1, h2⟩
theorem tk_eq_ok {w : tk_W} {vals : List Int} {a b : tk_V} {x y : Int} (hH : tk_H w vals) (ha : tk_num vals a = some x) (hb : tk_num vals b = some y) (h : x = y) : ∃ w' ∈ tk_eq w a b, tk_H w' vals := by
  unfold tk_eq
  split
  · next hc => have := tk_le_ok hH.1 hH.2 hb ha hc; omega
  · split
    · next hc => have := tk_le_ok hH.1 hH.2 ha hb hc; omega
    · obtain ⟨w1, h1, h2⟩ := tk_add_ok (d := 0) hH ha hb (by omega)
      obtain ⟨w2, h3, h4⟩ := tk_add_ok (d := 0) h2 hb ha (by omega)
      exact ⟨w2, tk_toL (by rw [h1]; exact h3), h4⟩
theorem tk_neO_ok {w : tk_W} {vals : List Int} {a b : tk_V} {x y : Int} (hH : tk_H w vals) (ha : tk_num vals a = some x) (hb : tk_num vals b = some y) (h : ¬ x = y) : ∃ w' ∈ tk_neO w a b, tk_H w' vals := by
  unfold tk_neO
  split
  · next I J hI hJ =>
    have p1 := tk_iv_ok hH.1 ha hI
    have p2 := tk_iv_ok hH.1 hb hJ
    split
    · next e =>
      have : tk_num vals a = tk_num vals b := by unfold tk_num; rw [e]
      rw [ha, hb] at this
      exact absurd (Option.some.inj this) h
    · split
      · next e =>
        rcases Int.lt_or_gt_of_ne h with g | g
        · obtain ⟨e1, h1, h2⟩ := tk_cut_ok (lo := I.1) (hi := J.1 - 1) hH.1 ha (by omega) (by omega)
          exact ⟨(e1, w.2), List.mem_map.mpr ⟨e1, List.mem_append_left _ (tk_toL h1), rfl⟩, h2, hH.2⟩
        · obtain ⟨e1, h1, h2⟩ := tk_cut_ok (lo := J.1 + 1) (hi := I.2) hH.1 ha (by omega) (by omega)
          exact ⟨(e1, w.2), List.mem_map.mpr ⟨e1, List.mem_append_right _ (tk_toL h1), rfl⟩, h2, hH.2⟩
      · split
        · next e =>
          rcases Int.lt_or_gt_of_ne h with g | g
          · obtain ⟨e1, h1, h2⟩ := tk_cut_ok (lo := I.1 + 1) (hi := J.2) hH.1 hb (by omega) (by omega)
            exact ⟨(e1, w.2), List.mem_map.mpr ⟨e1, List.mem_append_right _ (tk_toL h1), rfl⟩, h2, hH.2⟩
          · obtain ⟨e1, h1, h2⟩ := tk_cut_ok (lo := J.1) (hi := I.1 - 1) hH.1 hb (by omega) (by omega)
            exact ⟨(e1, w.2), List.mem_map.mpr ⟨e1, List.mem_append_left _ (tk_toL h1), rfl⟩, h2, hH.2⟩
        · exact ⟨w, List.mem_singleton.mpr rfl, hH⟩
  · exact ⟨w, List.mem_singleton.mpr rfl, hH⟩
theorem tk_ne_ok {w : tk_W} {vals : List Int} {a b : tk_V} {x y : Int} (hH : tk_H w vals) (ha : tk_num vals a = some x) (hb : tk_num vals b = some y) (h : ¬ x = y) : ∃ w' ∈ tk_ne w a b, tk_H w' vals := by
  unfold tk_ne
  split
  · next h1 =>
    have := tk_le_ok hH.1 hH.2 ha hb h1
    split
    · next h2 =>
      have := tk_le_ok hH.1 hH.2 hb ha h2
      omega
    · obtain ⟨w', e, hw⟩ := tk_add_ok hH ha hb (d := 1) (by omega)
      exact ⟨w', tk_toL e, hw⟩
  · split
    · next h2 =>
      have := tk_le_ok hH.1 hH.2 hb ha h2
      obtain ⟨w', e, hw⟩ := tk_add_ok hH hb ha (d := 1) (by omega)
      exact ⟨w', tk_toL e, hw⟩
    · exact tk_neO_ok hH ha hb h
theorem tk_cond_ok (c : ClassFile.Cond) {w : tk_W} {vals : List Int} {a b : tk_V} {x y : Int} (hH : tk_H w vals) (ha : tk_num vals a = some x) (hb : tk_num vals b = some y) (h : tk_holds c x y) : ∃ w' ∈ tk_cond c w a b, tk_H w' vals := by
  cases c <;> dsimp only [tk_holds] at h <;> dsimp only [tk_cond]
  · exact tk_eq_ok hH ha hb h
  · exact tk_ne_ok hH ha hb h
  · exact tk_lt_ok hH ha hb h
  · exact tk_lq_ok hH hb ha h
  · exact tk_lt_ok hH hb ha h
  · exact tk_lq_ok hH ha hb h
theorem tk_not_ok {c : ClassFile.Cond} {x y : Int} (h : ¬ tk_holds c x y) : tk_holds (rk_not c) x y := by
  cases c <;> dsimp only [tk_holds, rk_not] at h ⊢ <;> omega
/-! ===== tk: sums, differences, products ===== -/
def tk_rng (k : Nat) : tk_I := if k = 0 then (-2147483648, 2147483647) else (-9223372036854775808, 9223372036854775807)
def tk_fit (k : Nat) (K : tk_I) : Bool := decide ((tk_rng k).1 ≤ K.1) && decide (K.2 ≤ (tk_rng k).2)
def tk_wrap (k : Nat) (x : Int) : Int := if k = 0 then x.bmod 4294967296 else x.bmod 18446744073709551616
theorem tk_wrap_in (k : Nat) (x : Int) : (tk_rng k).1 ≤ tk_wrap k x ∧ tk_wrap k x ≤ (tk_rng k).2 := by
  unfold tk_wrap tk_rng
  split
  · have h1 := Int.le_bmod (x := x) (m := 4294967296) (by decide)
    have h2 := Int.bmod_lt (x := x) (m := 4294967296) (by decide)
    dsimp only
    omega
  · have h1 := Int.le_bmod (x := x) (m := 18446744073709551616) (by decide)
    have h2 := Int.bmod_lt (x := x) (m := 18446744073709551616) (by decide)
    dsimp only
    omega
theorem tk_wrap_id {k : Nat} {x : Int} {K : tk_I} (hf : tk_fit k K = true) (h1 : K.1 ≤ x) (h2 : x ≤ K.2) : tk_wrap k x = x := by
  unfold tk_fit tk_rng at hf
  rw [Bool.and_eq_true, decide_eq_true_eq, decide_eq_true_eq] at hf
  unfold tk_wrap
  split
  · next e =>
    rw [if_pos e] at hf
    dsimp only at hf
    apply Int.bmod_eq_of_le <;> omega
  · next e =>
    rw [if_neg e] at hf
    dsimp only at hf
    apply Int.bmod_eq_of_le <;> omega
abbrev tk_VE : Type := tk_V × List tk_I
/-- a result: its kind, its number -/
def tk_is (k : Nat) (vals : List Int) (q : tk_VE) (z : Int) : Prop := q.1.1 = k ∧ ∃ l, tk_E q.2 (vals ++ l) ∧ tk_num (vals ++ l) q.1 = some z
theorem tk_is_new {env : List tk_I} {vals : List Int} {I : tk_I} {x : Int} (k : Nat) (hE : tk_E env vals) (h1 : I.1 ≤ x) (h2 : x ≤ I.2) : tk_is k vals (tk_new env k I) x := tk_new_ok k hE h1 h2
theorem tk_is_old {env : List tk_I} {vals : List Int} {a : tk_V} {x : Int} (k : Nat) (hE : tk_E env vals) (h1 : a.1 = k) (h2 : tk_num vals a = some x) : tk_is k vals (a, env) x := ⟨h1, [], by simpa using hE, by simpa using h2⟩
def tk_sh (k : Nat) (a : tk_V) (c : Int) : tk_V := (k, a.2.1, a.2.2.1, a.2.2.2 + c)
theorem tk_sh_ok {vals : List Int} {a : tk_V} {x : Int} (k : Nat) (c : Int) (h : tk_num vals a = some x) : tk_num vals (tk_sh k a c) = some (x + c) := by
  unfold tk_num tk_sh at *
  dsimp only at *
  split at h
  · cases h; rfl
  · next k e =>
    split at h
    · next z hz => cases h; congr 1; omega
    · cases h
theorem tk_lit {vals : List Int} {a : tk_V} {x : Int} (h : tk_num vals a = some x) (e : a.2.1 = 0) : x = a.2.2.2 := by
  unfold tk_num at h
  rw [e] at h
  exact (Option.some.inj h).symm
def tk_addv (k : Nat) (env : List tk_I) (a b : tk_V) : Option tk_VE := match tk_iv env a, tk_iv env b with
  | some I, some J => if a.2.1 = 0 ∧ b.2.1 = 0 then some ((k, 0, 0, tk_wrap k (a.2.2.2 + b.2.2.2)), env) else if tk_fit k (I.1 + J.1, I.2 + J.2) = true then (if b.2.1 = 0 then some (tk_sh k a b.2.2.2, env) else if a.2.1 = 0 then some (tk_sh k b a.2.2.2, env) else some (tk_new env k (I.1 + J.1, I.2 + J.2))) else some (tk_new env k (tk_rng k))
  | _, _ => none
theorem tk_addv_ok {k : Nat} {env : List tk_I} {vals : List Int} {a b : tk_V} {x y : Int} {q : tk_VE} (hE : tk_E env vals) (ha : tk_num vals a = some x) (hb : tk_num vals b = some y) (h : tk_addv k env a b = some q) : tk_is k vals q (tk_wrap k (x + y)) := by
  unfold tk_addv at h
  split at h
  · next I J hI hJ =>
    have p1 := tk_iv_ok hE ha hI
    have p2 := tk_iv_ok hE hb hJ
    split at h
    · next e =>
      cases h
      rw [tk_lit ha e.1, tk_lit hb e.2]
      exact tk_is_old k hE rfl rfl
    · split at h
      · next hf =>
        have hw : tk_wrap k (x + y) = x + y := tk_wrap_id hf (by dsimp only; omega) (by dsimp only; omega)
        rw [hw]
        split at h
        · next e => cases h; rw [tk_lit hb e]; exact tk_is_old k hE rfl (tk_sh_ok k _ ha)
        · split at h
          · next e => cases h; rw [tk_lit ha e, Int.add_comm]; exact tk_is_old k hE rfl (tk_sh_ok k _ hb)
          · cases h; exact tk_is_new k hE (by dsimp only; omega) (by dsimp only; omega)
      · cases h; exact tk_is_new k hE (tk_wrap_in k _).1 (tk_wrap_in k _).2
  · cases h
def tk_subv (k : Nat) (env : List tk_I) (a b : tk_V) : Option tk_VE := match tk_iv env a, tk_iv env b with
  | some I, some J => if a.2.1 = 0 ∧ b.2.1 = 0 then some ((k, 0, 0, tk_wrap k (a.2.2.2 - b.2.2.2)), env) else if tk_fit k (I.1 - J.2, I.2 - J.1) = true then (if b.2.1 = 0 then some (tk_sh k a (-b.2.2.2), env) else some (tk_new env k (I.1 - J.2, I.2 - J.1))) else some (tk_new env k (tk_rng k))
  | _, _ => none
theorem tk_subv_ok {k : Nat} {env : List tk_I} {vals : List Int} {a b : tk_V} {x y : Int} {q : tk_VE} (hE : tk_E env vals) (ha : tk_num vals a = some x) (hb : tk_num vals b = some y) (h : tk_subv k env a b = some q) : tk_is k vals q (tk_wrap k (x - y)) := by
  unfold tk_subv at h
  split at h
  · next I J hI hJ =>
    have p1 := tk_iv_ok hE ha hI
    have p2 := tk_iv_ok hE hb hJ
    split at h
    · next e =>
      cases h
      rw [tk_lit ha e.1, tk_lit hb e.2]
      exact tk_is_old k hE rfl rfl
    · split at h
      · next hf =>
        have hw : tk_wrap k (x - y) = x - y := tk_wrap_id hf (by dsimp only; omega) (by dsimp only; omega)
        rw [hw]
        split at h
        · next e => cases h; rw [tk_lit hb e]; exact tk_is_old k hE rfl (by rw [Int.sub_eq_add_neg]; exact tk_sh_ok k _ ha)
        · cases h; exact tk_is_new k hE (by dsimp only; omega) (by dsimp only; omega)
      · cases h; exact tk_is_new k hE (tk_wrap_in k _).1 (tk_wrap_in k _).2
  · cases h
def tk_mulI (I J : tk_I) : tk_I := (min (min (I.1 * J.1) (I.1 * J.2)) (min (I.2 * J.1) (I.2 * J.2)), max (max (I.1 * J.1) (I.1 * J.2)) (max (I.2 * J.1) (I.2 * J.2)))
theorem tk_mul1 {I : tk_I} {x : Int} (y : Int) (h1 : I.1 ≤ x) (h2 : x ≤ I.2) : min (I.1 * y) (I.2 * y) ≤ x * y ∧ x * y ≤ max (I.1 * y) (I.2 * y) := by
  by_cases hy : 0 ≤ y
  · have q1 := Int.mul_le_mul_of_nonneg_right h1 hy
    have q2 := Int.mul_le_mul_of_nonneg_right h2 hy
    omega
  · have hy' : y ≤ 0 := by omega
    have q1 := Int.mul_le_mul_of_nonpos_right h1 hy'
    have q2 := Int.mul_le_mul_of_nonpos_right h2 hy'
    omega
theorem tk_mulI_ok {I J : tk_I} {x y : Int} (h1 : I.1 ≤ x) (h2 : x ≤ I.2) (h3 : J.1 ≤ y) (h4 : y ≤ J.2) : (tk_mulI I J).1 ≤ x * y ∧ x * y ≤ (tk_mulI I J).2 := by
  have p := tk_mul1 y h1 h2
  have q1 := tk_mul1 I.1 h3 h4
  have q2 := tk_mul1 I.2 h3 h4
  rw [Int.mul_comm y I.1, Int.mul_comm J.1 I.1, Int.mul_comm J.2 I.1] at q1
  rw [Int.mul_comm y I.2, Int.mul_comm J.1 I.2, Int.mul_comm J.2 I.2] at q2
  unfold tk_mulI
  dsimp only
  omega
def tk_ml (k : Nat) (a : tk_V) (c : Nat) : tk_V := (k, a.2.1, a.2.2.1 * c, a.2.2.2 * (c : Int))
theorem tk_ml_ok {vals : List Int} {a : tk_V} {x : Int} (k c : Nat) (h : tk_num vals a = some x) : tk_num vals (tk_ml k a c) = some (x * (c : Int)) := by
  unfold tk_num tk_ml at *
  dsimp only at *
  split at h
  · cases h; rfl
  · next k e =>
    split at h
    · next z hz =>
      cases h
      congr 1
      rw [Int.add_mul, Int.natCast_mul, Int.mul_right_comm]
    · cases h
def tk_mulv (k : Nat) (env : List tk_I) (a b : tk_V) : Option tk_VE := match tk_iv env a, tk_iv env b with
  | some I, some J => if a.2.1 = 0 ∧ b.2.1 = 0 then some ((k, 0, 0, tk_wrap k (a.2.2.2 * b.2.2.2)), env) else if tk_fit k (tk_mulI I J) = true then (if b.2.1 = 0 ∧ 0 < b.2.2.2 then some (tk_ml k a b.2.2.2.toNat, env) else if a.2.1 = 0 ∧ 0 < a.2.2.2 then some (tk_ml k b a.2.2.2.toNat, env) else some (tk_new env k (tk_mulI I J))) else some (tk_new env k (tk_rng k))
  | _, _ => none
theorem tk_mulv_ok {k : Nat} {env : List tk_I} {vals : List Int} {a b : tk_V} {x y : Int} {q : tk_VE} (hE : tk_E env vals) (ha : tk_num vals a = some x) (hb : tk_num vals b = some y) (h : tk_mulv k env a b = some q) : tk_is k vals q (tk_wrap k (x * y)) := by
  unfold tk_mulv at h
  split at h
  · next I J hI hJ =>
    have p1 := tk_iv_ok hE ha hI
    have p2 := tk_iv_ok hE hb hJ
    split at h
    · next e =>
      cases h
      rw [tk_lit ha e.1, tk_lit hb e.2]
      exact tk_is_old k hE rfl rfl
    · split at h
      · next hf =>
        have hm := tk_mulI_ok p1.1 p1.2 p2.1 p2.2
        have hw : tk_wrap k (x * y) = x * y := tk_wrap_id hf hm.1 hm.2
        rw [hw]
        split at h
        · next e =>
          cases h
          have := tk_ml_ok k b.2.2.2.toNat ha
          rw [show ((b.2.2.2.toNat : Nat) : Int) = y from by rw [tk_lit hb e.1]; omega] at this
          exact tk_is_old k hE rfl this
        · split at h
          · next e =>
            cases h
            have := tk_ml_ok k a.2.2.2.toNat hb
            rw [show ((a.2.2.2.toNat : Nat) : Int) = x from by rw [tk_lit ha e.1]; omega, Int.mul_comm] at this
            exact tk_is_old k hE rfl this
          · cases h; exact tk_is_new k hE hm.1 hm.2
      · cases h; exact tk_is_new k hE (tk_wrap_in k _).1 (tk_wrap_in k _).2
  · cases h
end MG3_1
