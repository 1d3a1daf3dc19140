section MH28_0
/-! ===== tk: the other operations on ints ===== -/
def tk_Gand (I J : tk_I) : tk_I := if 0 ≤ I.1 ∧ 0 ≤ J.1 then (0, min I.2 J.2) else rk_iand I J
theorem tk_s_and : rk_sound2 (fun x y => x &&& y) tk_Gand := by
  intro x y I J h1 h2 h3 h4
  unfold tk_Gand
  split
  · next h =>
    have e : (x &&& y).toBitVec.toNat = x.toBitVec.toNat &&& y.toBitVec.toNat := by
      rw [Int32.toBitVec_and, BitVec.toNat_and]
    have l1 : x.toBitVec.toNat &&& y.toBitVec.toNat ≤ x.toBitVec.toNat := Nat.and_le_left
    have l2 : x.toBitVec.toNat &&& y.toBitVec.toNat ≤ y.toBitVec.toNat := Nat.and_le_right
    obtain ⟨a1, a2⟩ := rk_nn (x := x) (by omega)
    obtain ⟨b1, b2⟩ := rk_nn (x := y) (by omega)
    have := rk_of_small (x := x &&& y) (by omega)
    dsimp only
    omega
  · exact rk_s_and x y I J h1 h2 h3 h4
/-- the power of two above -/
def tk_up (n : Int) : Nat := 2 ^ (n.toNat.log2 + 1)
theorem tk_up_ok {x : Int32} {n : Int} (h0 : 0 ≤ x.toInt) (h : x.toInt ≤ n) : x.toBitVec.toNat < tk_up n := by
  obtain ⟨a1, a2⟩ := rk_nn (x := x) h0
  exact Nat.lt_of_le_of_lt (by omega : x.toBitVec.toNat ≤ n.toNat) Nat.lt_log2_self
def tk_Gor (I J : tk_I) : tk_I := if 0 ≤ I.1 ∧ 0 ≤ J.1 ∧ tk_up (max I.2 J.2) ≤ 2147483648 then (0, (tk_up (max I.2 J.2) : Int) - 1) else rk_full
theorem tk_s_or : rk_sound2 (fun x y => x ||| y) tk_Gor := by
  intro x y I J h1 h2 h3 h4
  unfold tk_Gor
  split
  · next h =>
    have e : (x ||| y).toBitVec.toNat = x.toBitVec.toNat ||| y.toBitVec.toNat := by
      rw [Int32.toBitVec_or, BitVec.toNat_or]
    have p1 := tk_up_ok (x := x) (n := max I.2 J.2) (by omega) (by omega)
    have p2 := tk_up_ok (x := y) (n := max I.2 J.2) (by omega) (by omega)
    have p3 : x.toBitVec.toNat ||| y.toBitVec.toNat < tk_up (max I.2 J.2) := Nat.or_lt_two_pow p1 p2
    have := rk_of_small (x := x ||| y) (by omega)
    dsimp only
    omega
  · exact rk_full_ok _
theorem tk_s_xor : rk_sound2 (fun x y => x ^^^ y) tk_Gor := by
  intro x y I J h1 h2 h3 h4
  unfold tk_Gor
  split
  · next h =>
    have e : (x ^^^ y).toBitVec.toNat = x.toBitVec.toNat ^^^ y.toBitVec.toNat := by
      rw [Int32.toBitVec_xor, BitVec.toNat_xor]
    have p1 := tk_up_ok (x := x) (n := max I.2 J.2) (by omega) (by omega)
    have p2 := tk_up_ok (x := y) (n := max I.2 J.2) (by omega) (by omega)
    have p3 : x.toBitVec.toNat ^^^ y.toBitVec.toNat < tk_up (max I.2 J.2) := Nat.xor_lt_two_pow p1 p2
    have := rk_of_small (x := x ^^^ y) (by omega)
    dsimp only
    omega
  · exact rk_full_ok _
def tk_Gshr (I J : tk_I) : tk_I := if 0 ≤ I.1 then (0, I.2) else rk_full
theorem tk_s_shr : rk_sound2 (fun x y => x >>> (y &&& 31)) tk_Gshr := by
  intro x y I J h1 h2 h3 h4
  unfold tk_Gshr
  split
  · next h =>
    have hx : 0 ≤ x.toInt := by omega
    dsimp only
    rw [pk_shr x (y &&& 31) _ rfl, Int.shiftRight_eq_div_pow]
    exact ⟨Int.ediv_nonneg hx (Int.natCast_nonneg _), Int.le_trans (Int.ediv_le_self _ hx) h2⟩
  · exact rk_full_ok _
theorem tk_s_ushr : rk_sound2 (fun x y => (x.toUInt32 >>> (y.toUInt32 &&& Int32.toUInt32 31)).toInt32) tk_Gshr := by
  intro x y I J h1 h2 h3 h4
  unfold tk_Gshr
  split
  · next h =>
    obtain ⟨a1, a2⟩ := rk_nn (x := x) (by omega)
    have e := pk_ushr x y _ rfl
    have l := Nat.div_le_self x.toBitVec.toNat (2 ^ ((y.toUInt32 &&& Int32.toUInt32 31).toBitVec % 32).toNat)
    have := rk_of_small (x := (x.toUInt32 >>> (y.toUInt32 &&& Int32.toUInt32 31)).toInt32) (by omega)
    dsimp only
    omega
  · exact rk_full_ok _
theorem tk_smod : ∀ k, k < 32 → ((nI k &&& 31).toBitVec.smod 32).toNat = k := by decide +kernel
def tk_Gshl (I J : tk_I) : tk_I := if 0 ≤ I.1 ∧ 0 ≤ J.1 ∧ J.2 < 31 ∧ I.2.toNat * 2 ^ J.2.toNat < 2147483648 then (0, ((I.2.toNat * 2 ^ J.2.toNat : Nat) : Int)) else rk_full
theorem tk_s_shl : rk_sound2 (fun x y => x <<< (y &&& 31)) tk_Gshl := by
  intro x y I J h1 h2 h3 h4
  unfold tk_Gshl
  split
  · next h =>
    obtain ⟨a1, a2⟩ := rk_nn (x := x) (by omega)
    obtain ⟨k, hk, rfl⟩ := nI_of (x := y) (by rw [Int32.lt_iff_toInt_lt, Int32.toInt_zero]; omega)
    rw [nI_toInt hk] at h3 h4
    have e := pk_shl x (nI k &&& 31) k (tk_smod k (by omega))
    have q1 : 2 ^ k ≤ 2 ^ J.2.toNat := Nat.pow_le_pow_right (by decide) (by omega)
    have q2 : x.toBitVec.toNat * 2 ^ k ≤ I.2.toNat * 2 ^ J.2.toNat := Nat.mul_le_mul (by omega) q1
    rw [Nat.mod_eq_of_lt (by omega)] at e
    have := rk_of_small (x := x <<< (nI k &&& 31)) (by omega)
    dsimp only
    omega
  · exact rk_full_ok _
def tk_Gdiv (I J : tk_I) : tk_I := if 0 ≤ I.1 ∧ 0 < J.1 then (0, I.2 / J.1) else rk_full
theorem tk_s_div : rk_sound2 (fun x y => x / y) tk_Gdiv := by
  intro x y I J h1 h2 h3 h4
  unfold tk_Gdiv
  split
  · next h =>
    obtain ⟨a, ha, rfl⟩ := nI_of (x := x) (by rw [Int32.lt_iff_toInt_lt, Int32.toInt_zero]; omega)
    obtain ⟨d, hd, rfl⟩ := nI_of (x := y) (by rw [Int32.lt_iff_toInt_lt, Int32.toInt_zero]; omega)
    rw [nI_toInt hd] at h3 h4
    rw [nI_toInt ha] at h1 h2
    dsimp only
    rw [pk_div ha (by omega) hd, nI_toInt (Nat.lt_of_le_of_lt (Nat.div_le_self _ _) ha)]
    refine ⟨Int.natCast_nonneg _, ?_⟩
    rw [Int.le_ediv_iff_mul_le (by omega)]
    have g1 : ((a / d : Nat) : Int) * J.1 ≤ ((a / d : Nat) : Int) * (d : Int) := Int.mul_le_mul_of_nonneg_left h3 (Int.natCast_nonneg _)
    have g2 : ((a / d : Nat) : Int) * (d : Int) ≤ (a : Int) := by
      rw [← Int.natCast_mul]
      exact Int.ofNat_le.mpr (Nat.div_mul_le_self a d)
    omega
  · exact rk_full_ok _
def tk_Grem (I J : tk_I) : tk_I := if 0 ≤ I.1 ∧ 0 < J.1 then (0, min I.2 (J.2 - 1)) else rk_full
theorem tk_s_rem : rk_sound2 (fun x y => x - x / y * y) tk_Grem := by
  intro x y I J h1 h2 h3 h4
  unfold tk_Grem
  split
  · next h =>
    obtain ⟨a, ha, rfl⟩ := nI_of (x := x) (by rw [Int32.lt_iff_toInt_lt, Int32.toInt_zero]; omega)
    obtain ⟨d, hd, rfl⟩ := nI_of (x := y) (by rw [Int32.lt_iff_toInt_lt, Int32.toInt_zero]; omega)
    rw [nI_toInt hd] at h3 h4
    rw [nI_toInt ha] at h1 h2
    have h0 : 0 < d := by omega
    dsimp only
    rw [pk_rem ha h0 hd]
    have := Nat.mod_lt a h0
    have := Nat.mod_le a d
    rw [nI_toInt (by omega)]
    omega
  · exact rk_full_ok _
/-- two ints, an int -/
def tk_op2 (f : Int32 → Int32 → Int32) (G : tk_I → tk_I → tk_I) (env : List tk_I) (a b : tk_V) : Option tk_VE := if a.2.1 = 0 ∧ b.2.1 = 0 then some ((0, 0, 0, (f (Int32.ofInt a.2.2.2) (Int32.ofInt b.2.2.2)).toInt), env) else match tk_iv env a, tk_iv env b with
  | some I, some J => some (tk_new env 0 (G I J))
  | _, _ => none
theorem tk_op2_ok {f : Int32 → Int32 → Int32} {G : tk_I → tk_I → tk_I} (hs : rk_sound2 f G) {env : List tk_I} {vals : List Int} {a b : tk_V} {x y : Int32} {q : tk_VE} (hE : tk_E env vals) (ha : tk_num vals a = some x.toInt) (hb : tk_num vals b = some y.toInt) (h : tk_op2 f G env a b = some q) : tk_is 0 vals q (f x y).toInt := by
  unfold tk_op2 at h
  split at h
  · next e =>
    cases h
    rw [← tk_lit ha e.1, ← tk_lit hb e.2, Int32.ofInt_toInt, Int32.ofInt_toInt]
    exact tk_is_old 0 hE rfl rfl
  · split at h
    · next I J hI hJ =>
      cases h
      have p1 := tk_iv_ok hE ha hI
      have p2 := tk_iv_ok hE hb hJ
      have := hs x y I J p1.1 p1.2 p2.1 p2.2
      exact tk_is_new 0 hE this.1 this.2
    · cases h
/-- one int, an int -/
def tk_op1 (f : Int32 → Int32) (G : tk_I → tk_I) (env : List tk_I) (a : tk_V) : Option tk_VE := if a.2.1 = 0 then some ((0, 0, 0, (f (Int32.ofInt a.2.2.2)).toInt), env) else match tk_iv env a with
  | some I => some (tk_new env 0 (G I))
  | none => none
theorem tk_op1_ok {f : Int32 → Int32} {G : tk_I → tk_I} (hs : ∀ (x : Int32) (I : tk_I), I.1 ≤ x.toInt → x.toInt ≤ I.2 → (G I).1 ≤ (f x).toInt ∧ (f x).toInt ≤ (G I).2) {env : List tk_I} {vals : List Int} {a : tk_V} {x : Int32} {q : tk_VE} (hE : tk_E env vals) (ha : tk_num vals a = some x.toInt) (h : tk_op1 f G env a = some q) : tk_is 0 vals q (f x).toInt := by
  unfold tk_op1 at h
  split at h
  · next e =>
    cases h
    rw [← tk_lit ha e, Int32.ofInt_toInt]
    exact tk_is_old 0 hE rfl rfl
  · split at h
    · next I hI =>
      cases h
      have p1 := tk_iv_ok hE ha hI
      have := hs x I p1.1 p1.2
      exact tk_is_new 0 hE this.1 this.2
    · cases h
def tk_Gneg (I : tk_I) : tk_I := if -2147483648 < I.1 then (-I.2, -I.1) else rk_full
theorem tk_s_neg (x : Int32) (I : tk_I) (h1 : I.1 ≤ x.toInt) (h2 : x.toInt ≤ I.2) : (tk_Gneg I).1 ≤ (-x).toInt ∧ (-x).toInt ≤ (tk_Gneg I).2 := by
  unfold tk_Gneg
  split
  · next h =>
    obtain ⟨f1, f2⟩ := rk_full_ok x
    dsimp only [rk_full] at f1 f2
    have e : (-x).toInt = -x.toInt := by
      rw [Int32.toInt_neg]
      apply Int.bmod_eq_of_le <;> omega
    dsimp only
    omega
  · exact rk_full_ok _
/-- two longs, a long of which nothing is known -/
def tk_lop (f : Int64 → Int64 → Int64) (env : List tk_I) (a b : tk_V) : tk_VE := if a.2.1 = 0 ∧ b.2.1 = 0 then ((1, 0, 0, (f (Int64.ofInt a.2.2.2) (Int64.ofInt b.2.2.2)).toInt), env) else tk_new env 1 (tk_rng 1)
theorem tk_lrng (x : Int64) : (tk_rng 1).1 ≤ x.toInt ∧ x.toInt ≤ (tk_rng 1).2 := by
  have h1 := Int64.le_toInt x
  have h2 := Int64.toInt_le x
  exact ⟨h1, h2⟩
theorem tk_lop_ok {f : Int64 → Int64 → Int64} {env : List tk_I} {vals : List Int} {a b : tk_V} {x y : Int64} (hE : tk_E env vals) (ha : tk_num vals a = some x.toInt) (hb : tk_num vals b = some y.toInt) : tk_is 1 vals (tk_lop f env a b) (f x y).toInt := by
  unfold tk_lop
  split
  · next e =>
    rw [← tk_lit ha e.1, ← tk_lit hb e.2, Int64.ofInt_toInt, Int64.ofInt_toInt]
    exact tk_is_old 1 hE rfl rfl
  · exact tk_is_new 1 hE (tk_lrng _).1 (tk_lrng _).2
end MH28_0
section MH28_1
/-! ===== tk: a state: locals, stack, what is known of the numbers, types of the references, facts of the heap ===== -/
abbrev tk_FA : Type := List (Nat × tk_V × tk_V)
abbrev tk_S : Type := List (Nat × tk_V) × List tk_V × tk_W × List Nat × tk_FA
abbrev tk_R : Type := Option (List (Nat × tk_S))
abbrev tk_Fn : Type := tk_S → tk_R
abbrev tk_Hr : Type := List Int → List Nat → Heap → List Loc → List Nat → tk_FA → Prop
abbrev tk_Lo (vals : List Int) (rads : List Nat) (lo : List (Nat × tk_V)) (lc : List (Nat × Value)) : Prop := rk_A2 (fun (q : Nat × tk_V) (r : Nat × Value) => q.1 = r.1 ∧ tk_g vals rads q.2 r.2) lo lc
theorem tk_Lo.grow {vals : List Int} {rads : List Nat} {lo : List (Nat × tk_V)} {lc : List (Nat × Value)} (h : tk_Lo vals rads lo lc) (l : List Int) (r : List Nat) : tk_Lo (vals ++ l) (rads ++ r) lo lc := rk_A2.mono (fun _ _ q => ⟨q.1, tk_g_grow l r q.2⟩) h
theorem tk_skG {vals : List Int} {rads : List Nat} {sk : List tk_V} {stk : List Value} (h : rk_A2 (tk_g vals rads) sk stk) (l : List Int) (r : List Nat) : rk_A2 (tk_g (vals ++ l) (rads ++ r)) sk stk := rk_A2.mono (fun _ _ q => tk_g_grow l r q) h
/-- the heap's part may know of more numbers and references than there were -/
def tk_gr (Hr : tk_Hr) : Prop := ∀ vals l rads H locs rf fa, Hr vals rads H locs rf fa → Hr (vals ++ l) rads H locs rf fa
def tk_St (K : rk_K) (nL : Nat) (Hr : tk_Hr) (pc : Nat) (st : tk_S) : Prop :=
  ∀ (vals : List Int) (rads : List Nat) (H : Heap) (locs : List Loc) (ls : Array Slot) (stk : List Value) (lc : List (Nat × Value)), tk_H st.2.2.1 vals → Hr vals rads H locs st.2.2.2.1 st.2.2.2.2 → lv_has ls nL lc → tk_Lo vals rads st.1 lc → rk_A2 (tk_g vals rads) st.2.1 stk → K pc ls stk H locs 0 0
def tk_ld : List (Nat × tk_V) → Nat → Option tk_V
  | [], _ => none
  | q :: r, i => cond (Nat.beq q.1 i) (some q.2) (tk_ld r i)
theorem tk_ld_ok {vals : List Int} {rads : List Nat} {i : Nat} {a : tk_V} : ∀ {lo : List (Nat × tk_V)} {lc : List (Nat × Value)}, tk_Lo vals rads lo lc → tk_ld lo i = some a → ∃ v, (i, v) ∈ lc ∧ tk_g vals rads a v := by
  intro lo
  induction lo with
  | nil => intro lc _ h; cases h
  | cons q lo ih =>
    intro lc hL h
    obtain ⟨r, k, rfl, h1, h2⟩ := hL.cons
    unfold tk_ld at h
    cases hb : Nat.beq q.1 i with
    | true =>
      rw [hb] at h
      obtain rfl := Option.some.inj (show some q.2 = some a from h)
      exact ⟨r.2, by rw [← Nat.eq_of_beq_eq_true hb, h1.1]; exact List.mem_cons_self, h1.2⟩
    | false =>
      rw [hb] at h
      obtain ⟨v, hv, hg⟩ := ih h2 h
      exact ⟨v, List.mem_cons_of_mem _ hv, hg⟩
def tk_cat (a : tk_V) : Nat := if a.1 = 1 then 2 else 1
theorem tk_cat_ok {vals : List Int} {rads : List Nat} {a : tk_V} {v : Value} (h : tk_g vals rads a v) : tk_cat a = v.category := by
  unfold tk_g at h
  unfold tk_cat
  split at h
  · next e => obtain ⟨x, rfl, -⟩ := h; rw [e]; rfl
  · next e => obtain ⟨x, rfl, -⟩ := h; rw [e]; rfl
  · next e => obtain ⟨x, -, rfl⟩ := h; rw [e]; rfl
  · next h0 h1 h2 => subst h; rw [if_neg h1]; rfl
def tk_st1 (lo : List (Nat × tk_V)) (i : Nat) (a : tk_V) : List (Nat × tk_V) := (i, a) :: lo.filter (fun q => !(q.1 == i) && !(q.1 + 1 == i && tk_cat q.2 == 2))
def tk_st2 (lo : List (Nat × tk_V)) (i : Nat) (a : tk_V) : List (Nat × tk_V) := (i, a) :: lo.filter (fun q => !(q.1 == i) && (!(q.1 == i + 1) && !(q.1 + 1 == i && tk_cat q.2 == 2)))
theorem tk_st1_ok {vals : List Int} {rads : List Nat} {lo : List (Nat × tk_V)} {lc : List (Nat × Value)} {i : Nat} {a : tk_V} {v : Value} (hL : tk_Lo vals rads lo lc) (hg : tk_g vals rads a v) : tk_Lo vals rads (tk_st1 lo i a) ((i, v) :: lc.filter (fun q => !(q.1 == i) && !(q.1 + 1 == i && q.2.category == 2))) :=
  ⟨⟨rfl, hg⟩, rk_A2.filter (fun q r h => by rw [h.1, tk_cat_ok h.2]) hL⟩
theorem tk_st2_ok {vals : List Int} {rads : List Nat} {lo : List (Nat × tk_V)} {lc : List (Nat × Value)} {i : Nat} {a : tk_V} {v : Value} (hL : tk_Lo vals rads lo lc) (hg : tk_g vals rads a v) : tk_Lo vals rads (tk_st2 lo i a) ((i, v) :: lc.filter (fun q => !(q.1 == i) && (!(q.1 == i + 1) && !(q.1 + 1 == i && q.2.category == 2)))) :=
  ⟨⟨rfl, hg⟩, rk_A2.filter (fun q r h => by rw [h.1, tk_cat_ok h.2]) hL⟩
/-- a number of one value is its literal -/
def tk_nm (env : List tk_I) (a : tk_V) : tk_V := if a.1 ≤ 1 then (match tk_iv env a with
  | some I => if I.1 = I.2 then (a.1, 0, 0, I.1) else a
  | none => a) else a
theorem tk_nm_ok {env : List tk_I} {vals : List Int} {rads : List Nat} {a : tk_V} {v : Value} (hE : tk_E env vals) (h : tk_g vals rads a v) : tk_g vals rads (tk_nm env a) v := by
  unfold tk_nm
  split
  · next hk =>
    split
    · next I hI =>
      split
      · next e =>
        have hc : a.1 = 0 ∨ a.1 = 1 := by omega
        unfold tk_g at h ⊢
        rcases hc with hc | hc <;> rw [hc] at h ⊢ <;> dsimp only at h ⊢ <;> obtain ⟨x, rfl, hx⟩ := h
        · have := tk_iv_ok hE hx hI
          exact ⟨x, rfl, by show some I.1 = some x.toInt; rw [show I.1 = x.toInt from by omega]⟩
        · have := tk_iv_ok hE hx hI
          exact ⟨x, rfl, by show some I.1 = some x.toInt; rw [show I.1 = x.toInt from by omega]⟩
      · exact h
    · exact h
  · exact h
theorem tk_g0 {vals : List Int} {rads : List Nat} {a : tk_V} {v : Value} (h : tk_g vals rads a v) (e : a.1 = 0) : ∃ x : Int32, v = .int x ∧ tk_num vals a = some x.toInt := by
  unfold tk_g at h
  rw [e] at h
  exact h
theorem tk_g1 {vals : List Int} {rads : List Nat} {a : tk_V} {v : Value} (h : tk_g vals rads a v) (e : a.1 = 1) : ∃ x : Int64, v = .long x ∧ tk_num vals a = some x.toInt := by
  unfold tk_g at h
  rw [e] at h
  exact h
theorem tk_g2 {vals : List Int} {rads : List Nat} {a : tk_V} {v : Value} (h : tk_g vals rads a v) (e : a.1 = 2) : ∃ x : Nat, rads[a.2.1]? = some x ∧ v = .ref x := by
  unfold tk_g at h
  rw [e] at h
  exact h
theorem tk_gi {vals : List Int} {rads : List Nat} {a : tk_V} {x : Int32} (e : a.1 = 0) (h : tk_num vals a = some x.toInt) : tk_g vals rads a (.int x) := by
  unfold tk_g
  rw [e]
  exact ⟨x, rfl, h⟩
theorem tk_gl {vals : List Int} {rads : List Nat} {a : tk_V} {x : Int64} (e : a.1 = 1) (h : tk_num vals a = some x.toInt) : tk_g vals rads a (.long x) := by
  unfold tk_g
  rw [e]
  exact ⟨x, rfl, h⟩
/-! ===== tk: the steps that look at no cell, each a function of its own ===== -/
def tk_f_push (pc : Nat) (a : tk_V) : tk_Fn := fun st => some [(pc, (st.1, a :: st.2.1, st.2.2))]
def tk_f_ld (pc i : Nat) (k : Nat) : tk_Fn := fun st => match tk_ld st.1 i with
  | some a => if a.1 = k then some [(pc, (st.1, tk_nm st.2.2.1.1 a :: st.2.1, st.2.2))] else none
  | none => none
def tk_f_st (nL pc i k : Nat) : tk_Fn := fun st => match st.2.1 with
  | a :: r => if a.1 = k ∧ i < nL ∧ ¬ k = 1 then some [(pc, (tk_st1 st.1 i a, r, st.2.2))] else none
  | _ => none
def tk_f_st2 (nL pc i : Nat) : tk_Fn := fun st => match st.2.1 with
  | a :: r => if a.1 = 1 ∧ i + 1 < nL then some [(pc, (tk_st2 st.1 i a, r, st.2.2))] else none
  | _ => none
def tk_f_inc (nL pc i : Nat) (n : Int) : tk_Fn := fun st => match tk_ld st.1 i with
  | some a => if a.1 = 0 ∧ i < nL then (match tk_addv 0 st.2.2.1.1 a (0, 0, 0, (Int32.ofInt n).toInt) with
    | some q => some [(pc, (tk_st1 st.1 i q.1, st.2.1, (q.2, st.2.2.1.2), st.2.2.2))]
    | none => none) else none
  | none => none
/-- two numbers of one kind, a number -/
def tk_f_b (k pc : Nat) (op : List tk_I → tk_V → tk_V → Option tk_VE) : tk_Fn := fun st => match st.2.1 with
  | b :: a :: r => if a.1 = k ∧ b.1 = k then (match op st.2.2.1.1 a b with
    | some q => some [(pc, (st.1, q.1 :: r, (q.2, st.2.2.1.2), st.2.2.2))]
    | none => none) else none
  | _ => none
def tk_f_u (k pc : Nat) (op : List tk_I → tk_V → Option tk_VE) : tk_Fn := fun st => match st.2.1 with
  | a :: r => if a.1 = k then (match op st.2.2.1.1 a with
    | some q => some [(pc, (st.1, q.1 :: r, (q.2, st.2.2.1.2), st.2.2.2))]
    | none => none) else none
  | _ => none
/-- a divisor that is not 0 -/
def tk_nz (env : List tk_I) (b : tk_V) : Bool := match tk_iv env b with
  | some J => decide (0 < J.1) || decide (J.2 < 0)
  | none => false
theorem tk_nz_ok {env : List tk_I} {vals : List Int} {b : tk_V} {y : Int} (hE : tk_E env vals) (hb : tk_num vals b = some y) (h : tk_nz env b = true) : ¬ y = 0 := by
  unfold tk_nz at h
  split at h
  · next J hJ =>
    have := tk_iv_ok hE hb hJ
    rw [Bool.or_eq_true, decide_eq_true_eq, decide_eq_true_eq] at h
    omega
  · cases h
def tk_dv (op : List tk_I → tk_V → tk_V → Option tk_VE) (env : List tk_I) (a b : tk_V) : Option tk_VE := if tk_nz env b = true then op env a b else none
def tk_f_dup (pc : Nat) : tk_Fn := fun st => match st.2.1 with
  | a :: r => if tk_cat a = 1 then some [(pc, (st.1, a :: a :: r, st.2.2))] else none
  | _ => none
def tk_f_dup2 (pc : Nat) : tk_Fn := fun st => match st.2.1 with
  | a :: b :: r => if tk_cat a = 1 ∧ tk_cat b = 1 then some [(pc, (st.1, a :: b :: a :: b :: r, st.2.2))] else if tk_cat a = 2 then some [(pc, (st.1, a :: a :: b :: r, st.2.2))] else none
  | _ => none
def tk_f_pop (pc k : Nat) : tk_Fn := fun st => match st.2.1 with
  | a :: r => if tk_cat a = k then some [(pc, (st.1, r, st.2.2))] else none
  | _ => none
def tk_ws (pc : Nat) (lo : List (Nat × tk_V)) (sk : List tk_V) (rest : List Nat × tk_FA) (l : List tk_W) : List (Nat × tk_S) := l.map (fun w => (pc, (lo, sk, w, rest)))
def tk_f_if (c : ClassFile.Cond) (pc : Nat) (off : Int) : tk_Fn := fun st => match st.2.1 with
  | b :: a :: r => if a.1 = 0 ∧ b.1 = 0 ∧ 0 ≤ (pc : Int) + off then some (tk_ws ((pc : Int) + off).toNat st.1 r st.2.2.2 (tk_cond c st.2.2.1 a b) ++ tk_ws (pc + 3) st.1 r st.2.2.2 (tk_cond (rk_not c) st.2.2.1 a b)) else none
  | _ => none
def tk_f_if0 (c : ClassFile.Cond) (pc : Nat) (off : Int) : tk_Fn := fun st => match st.2.1 with
  | a :: r => if a.1 = 0 ∧ 0 ≤ (pc : Int) + off then some (tk_ws ((pc : Int) + off).toNat st.1 r st.2.2.2 (tk_cond c st.2.2.1 a (0, 0, 0, 0)) ++ tk_ws (pc + 3) st.1 r st.2.2.2 (tk_cond (rk_not c) st.2.2.1 a (0, 0, 0, 0))) else none
  | _ => none
def tk_f_goto (pc : Nat) (off : Int) : tk_Fn := fun st => if 0 ≤ (pc : Int) + off then some [(((pc : Int) + off).toNat, st)] else none
def tk_f_i2l (pc : Nat) : tk_Fn := fun st => match st.2.1 with
  | a :: r => if a.1 = 0 then some [(pc, (st.1, (1, a.2) :: r, st.2.2))] else none
  | _ => none
def tk_l2i (env : List tk_I) (a : tk_V) : Option tk_VE := match tk_iv env a with
  | some I => if tk_fit 0 I = true then some ((0, a.2), env) else some (tk_new env 0 (tk_rng 0))
  | none => none
def tk_f_lcmp (pc : Nat) : tk_Fn := fun st => match st.2.1 with
  | b :: a :: r => if a.1 = 1 ∧ b.1 = 1 then some (tk_ws pc st.1 ((0, 0, 0, 1) :: r) st.2.2.2 (tk_lt st.2.2.1 b a) ++ (tk_ws pc st.1 ((0, 0, 0, 0) :: r) st.2.2.2 (tk_eq st.2.2.1 a b) ++ tk_ws pc st.1 ((0, 0, 0, -1) :: r) st.2.2.2 (tk_lt st.2.2.1 a b))) else none
  | _ => none
end MH28_1
section MH28_2
theorem tk_nosome {α : Type} {x : α} (h : (none : Option α) = some x) : False := by cases h
/-! ===== tk: which function an instruction is (no cells) ===== -/
/-- a long and an int, a long of which nothing is known -/
def tk_lsh (f : Int64 → Int32 → Int64) (env : List tk_I) (a b : tk_V) : tk_VE := if a.2.1 = 0 ∧ b.2.1 = 0 then ((1, 0, 0, (f (Int64.ofInt a.2.2.2) (Int32.ofInt b.2.2.2)).toInt), env) else tk_new env 1 (tk_rng 1)
theorem tk_lsh_ok {f : Int64 → Int32 → Int64} {env : List tk_I} {vals : List Int} {a b : tk_V} {x : Int64} {y : Int32} (hE : tk_E env vals) (ha : tk_num vals a = some x.toInt) (hb : tk_num vals b = some y.toInt) : tk_is 1 vals (tk_lsh f env a b) (f x y).toInt := by
  unfold tk_lsh
  split
  · next e =>
    rw [← tk_lit ha e.1, ← tk_lit hb e.2, Int64.ofInt_toInt, Int32.ofInt_toInt]
    exact tk_is_old 1 hE rfl rfl
  · exact tk_is_new 1 hE (tk_lrng _).1 (tk_lrng _).2
def tk_f_sh (pc : Nat) (op : List tk_I → tk_V → tk_V → tk_VE) : tk_Fn := fun st => match st.2.1 with
  | b :: a :: r => if a.1 = 1 ∧ b.1 = 0 then some [(pc, (st.1, (op st.2.2.1.1 a b).1 :: r, ((op st.2.2.1.1 a b).2, st.2.2.1.2), st.2.2.2))] else none
  | _ => none
def tk_Gi2b (_ : tk_I) : tk_I := (-128, 127)
def tk_Gi2s (_ : tk_I) : tk_I := (-32768, 32767)
theorem tk_w_add (x y : Int32) : (x + y).toInt = tk_wrap 0 (x.toInt + y.toInt) := Int32.toInt_add x y
theorem tk_w_sub (x y : Int32) : (x - y).toInt = tk_wrap 0 (x.toInt - y.toInt) := Int32.toInt_sub x y
theorem tk_w_mul (x y : Int32) : (x * y).toInt = tk_wrap 0 (x.toInt * y.toInt) := Int32.toInt_mul x y
theorem tk_w_addL (x y : Int64) : (x + y).toInt = tk_wrap 1 (x.toInt + y.toInt) := Int64.toInt_add x y
theorem tk_w_subL (x y : Int64) : (x - y).toInt = tk_wrap 1 (x.toInt - y.toInt) := Int64.toInt_sub x y
theorem tk_w_mulL (x y : Int64) : (x * y).toInt = tk_wrap 1 (x.toInt * y.toInt) := Int64.toInt_mul x y
theorem tk_b_inv {k pc : Nat} {op : List tk_I → tk_V → tk_V → Option tk_VE} {st : tk_S} {res : List (Nat × tk_S)} {vals : List Int} {rads : List Nat} {stk : List Value} (h : tk_f_b k pc op st = some res) (hS : rk_A2 (tk_g vals rads) st.2.1 stk) : ∃ a b r q va vb rest, stk = vb :: va :: rest ∧ a.1 = k ∧ b.1 = k ∧ tk_g vals rads a va ∧ tk_g vals rads b vb ∧ rk_A2 (tk_g vals rads) r rest ∧ op st.2.2.1.1 a b = some q ∧ res = [(pc, (st.1, q.1 :: r, (q.2, st.2.2.1.2), st.2.2.2))] := by
  unfold tk_f_b at h
  split at h
  · next b a r e =>
    split at h
    · next hk =>
      split at h
      · next q hq =>
        cases h
        rw [e] at hS
        obtain ⟨vb, k1, rfl, gb, hS1⟩ := hS.cons
        obtain ⟨va, k2, rfl, ga, hS2⟩ := hS1.cons
        exact ⟨a, b, r, q, va, vb, k2, rfl, hk.1, hk.2, ga, gb, hS2, hq, rfl⟩
      · cases h
    · cases h
  · cases h
theorem tk_u_inv {k pc : Nat} {op : List tk_I → tk_V → Option tk_VE} {st : tk_S} {res : List (Nat × tk_S)} {vals : List Int} {rads : List Nat} {stk : List Value} (h : tk_f_u k pc op st = some res) (hS : rk_A2 (tk_g vals rads) st.2.1 stk) : ∃ a r q va rest, stk = va :: rest ∧ a.1 = k ∧ tk_g vals rads a va ∧ rk_A2 (tk_g vals rads) r rest ∧ op st.2.2.1.1 a = some q ∧ res = [(pc, (st.1, q.1 :: r, (q.2, st.2.2.1.2), st.2.2.2))] := by
  unfold tk_f_u at h
  split at h
  · next a r e =>
    split at h
    · next hk =>
      split at h
      · next q hq =>
        cases h
        rw [e] at hS
        obtain ⟨va, k2, rfl, ga, hS2⟩ := hS.cons
        exact ⟨a, r, q, va, k2, rfl, hk, ga, hS2, hq, rfl⟩
      · cases h
    · cases h
  · cases h
theorem tk_sh_inv {pc : Nat} {op : List tk_I → tk_V → tk_V → tk_VE} {st : tk_S} {res : List (Nat × tk_S)} {vals : List Int} {rads : List Nat} {stk : List Value} (h : tk_f_sh pc op st = some res) (hS : rk_A2 (tk_g vals rads) st.2.1 stk) : ∃ a b r va vb rest, stk = vb :: va :: rest ∧ a.1 = 1 ∧ b.1 = 0 ∧ tk_g vals rads a va ∧ tk_g vals rads b vb ∧ rk_A2 (tk_g vals rads) r rest ∧ res = [(pc, (st.1, (op st.2.2.1.1 a b).1 :: r, ((op st.2.2.1.1 a b).2, st.2.2.1.2), st.2.2.2))] := by
  unfold tk_f_sh at h
  split at h
  · next b a r e =>
    split at h
    · next hk =>
      cases h
      rw [e] at hS
      obtain ⟨vb, k1, rfl, gb, hS1⟩ := hS.cons
      obtain ⟨va, k2, rfl, ga, hS2⟩ := hS1.cons
      exact ⟨a, b, r, va, vb, k2, rfl, hk.1, hk.2, ga, gb, hS2, rfl⟩
    · cases h
  · cases h
theorem tk_dv_inv {op : List tk_I → tk_V → tk_V → Option tk_VE} {env : List tk_I} {a b : tk_V} {q : tk_VE} (h : tk_dv op env a b = some q) : tk_nz env b = true ∧ op env a b = some q := by
  unfold tk_dv at h
  split at h
  · next e => exact ⟨e, h⟩
  · cases h
section TKP
variable {K : rk_K} {nL : Nat} {Hr : tk_Hr}
theorem tk_finI (hgr : tk_gr Hr) {pc : Nat} {lo : List (Nat × tk_V)} {r : List tk_V} {q : tk_VE} {cs : List tk_Q} {rest : List Nat × tk_FA} {vals : List Int} {rads : List Nat} {H : Heap} {locs : List Loc} {ls : Array Slot} {stk : List Value} {lc : List (Nat × Value)} {x : Int32} (kk : ∀ z ∈ [(pc, ((lo, q.1 :: r, (q.2, cs), rest) : tk_S))], tk_St K nL Hr z.1 z.2) (hq : tk_is 0 vals q x.toInt) (hC : tk_C cs vals) (hR : Hr vals rads H locs rest.1 rest.2) (hl : lv_has ls nL lc) (hL : tk_Lo vals rads lo lc) (hS : rk_A2 (tk_g vals rads) r stk) : K pc ls (.int x :: stk) H locs 0 0 := by
  obtain ⟨hk, l, hE, hn⟩ := hq
  have hL' := hL.grow l []
  have hS' := tk_skG hS l []
  rw [List.append_nil] at hL' hS'
  exact kk _ (List.mem_singleton.mpr rfl) (vals ++ l) rads H locs ls _ lc ⟨hE, tk_C_grow l hC⟩ (hgr _ l _ _ _ _ _ hR) hl hL' ⟨tk_gi hk hn, hS'⟩
theorem tk_finL (hgr : tk_gr Hr) {pc : Nat} {lo : List (Nat × tk_V)} {r : List tk_V} {q : tk_VE} {cs : List tk_Q} {rest : List Nat × tk_FA} {vals : List Int} {rads : List Nat} {H : Heap} {locs : List Loc} {ls : Array Slot} {stk : List Value} {lc : List (Nat × Value)} {x : Int64} (kk : ∀ z ∈ [(pc, ((lo, q.1 :: r, (q.2, cs), rest) : tk_S))], tk_St K nL Hr z.1 z.2) (hq : tk_is 1 vals q x.toInt) (hC : tk_C cs vals) (hR : Hr vals rads H locs rest.1 rest.2) (hl : lv_has ls nL lc) (hL : tk_Lo vals rads lo lc) (hS : rk_A2 (tk_g vals rads) r stk) : K pc ls (.long x :: stk) H locs 0 0 := by
  obtain ⟨hk, l, hE, hn⟩ := hq
  have hL' := hL.grow l []
  have hS' := tk_skG hS l []
  rw [List.append_nil] at hL' hS'
  exact kk _ (List.mem_singleton.mpr rfl) (vals ++ l) rads H locs ls _ lc ⟨hE, tk_C_grow l hC⟩ (hgr _ l _ _ _ _ _ hR) hl hL' ⟨tk_gl hk hn, hS'⟩
theorem tk_ws_ok {pc : Nat} {lo : List (Nat × tk_V)} {sk : List tk_V} {rest : List Nat × tk_FA} {ws : List tk_W} {w : tk_W} {res : List (Nat × tk_S)} (hw : w ∈ ws) (hin : ∀ z ∈ tk_ws pc lo sk rest ws, z ∈ res) (kk : ∀ z ∈ res, tk_St K nL Hr z.1 z.2) : tk_St K nL Hr pc (lo, sk, w, rest) := kk _ (hin _ (List.mem_map.mpr ⟨w, hw, rfl⟩))
end TKP
def tk_pf (nL pc : Nat) (ins : Instr) : Option tk_Fn := match ins with
  | .iconst n => some (tk_f_push (pc + 1) (0, 0, 0, (Int32.ofInt n).toInt))
  | .bipush n => some (tk_f_push (pc + 2) (0, 0, 0, ((Int8.ofInt n).toInt32).toInt))
  | .sipush n => some (tk_f_push (pc + 3) (0, 0, 0, ((Int16.ofInt n).toInt32).toInt))
  | .lconst n => some (tk_f_push (pc + 1) (1, 0, 0, (Int64.ofNat (n : Nat)).toInt))
  | .aconst_null => some (tk_f_push (pc + 1) (3, 0, 0, 0))
  | .iload_n k => some (tk_f_ld (pc + 1) k 0)
  | .iload k => some (tk_f_ld (pc + 2) k 0)
  | .lload_n k => some (tk_f_ld (pc + 1) k 1)
  | .lload k => some (tk_f_ld (pc + 2) k 1)
  | .aload_n k => some (tk_f_ld (pc + 1) k 2)
  | .aload k => some (tk_f_ld (pc + 2) k 2)
  | .istore_n k => some (tk_f_st nL (pc + 1) k 0)
  | .istore k => some (tk_f_st nL (pc + 2) k 0)
  | .lstore_n k => some (tk_f_st2 nL (pc + 1) k)
  | .lstore k => some (tk_f_st2 nL (pc + 2) k)
  | .astore_n k => some (tk_f_st nL (pc + 1) k 2)
  | .astore k => some (tk_f_st nL (pc + 2) k 2)
  | .iinc i n => some (tk_f_inc nL (pc + 3) i n)
  | .dup => some (tk_f_dup (pc + 1))
  | .dup2 => some (tk_f_dup2 (pc + 1))
  | .pop => some (tk_f_pop (pc + 1) 1)
  | .pop2 => some (tk_f_pop (pc + 1) 2)
  | .iadd => some (tk_f_b 0 (pc + 1) (tk_addv 0))
  | .isub => some (tk_f_b 0 (pc + 1) (tk_subv 0))
  | .imul => some (tk_f_b 0 (pc + 1) (tk_mulv 0))
  | .iand => some (tk_f_b 0 (pc + 1) (tk_op2 (fun x y => x &&& y) tk_Gand))
  | .ior => some (tk_f_b 0 (pc + 1) (tk_op2 (fun x y => x ||| y) tk_Gor))
  | .ixor => some (tk_f_b 0 (pc + 1) (tk_op2 (fun x y => x ^^^ y) tk_Gor))
  | .ishl => some (tk_f_b 0 (pc + 1) (tk_op2 (fun x y => x <<< (y &&& 31)) tk_Gshl))
  | .ishr => some (tk_f_b 0 (pc + 1) (tk_op2 (fun x y => x >>> (y &&& 31)) tk_Gshr))
  | .iushr => some (tk_f_b 0 (pc + 1) (tk_op2 (fun x y => (x.toUInt32 >>> (y.toUInt32 &&& Int32.toUInt32 31)).toInt32) tk_Gshr))
  | .idiv => some (tk_f_b 0 (pc + 1) (tk_dv (tk_op2 (fun x y => x / y) tk_Gdiv)))
  | .irem => some (tk_f_b 0 (pc + 1) (tk_dv (tk_op2 (fun x y => x - x / y * y) tk_Grem)))
  | .ineg => some (tk_f_u 0 (pc + 1) (tk_op1 (fun x => -x) tk_Gneg))
  | .i2b => some (tk_f_u 0 (pc + 1) (tk_op1 (fun x => x.toInt8.toInt32) tk_Gi2b))
  | .i2s => some (tk_f_u 0 (pc + 1) (tk_op1 (fun x => x.toInt16.toInt32) tk_Gi2s))
  | .i2l => some (tk_f_i2l (pc + 1))
  | .l2i => some (tk_f_u 1 (pc + 1) tk_l2i)
  | .ladd => some (tk_f_b 1 (pc + 1) (tk_addv 1))
  | .lsub => some (tk_f_b 1 (pc + 1) (tk_subv 1))
  | .lmul => some (tk_f_b 1 (pc + 1) (tk_mulv 1))
  | .land => some (tk_f_b 1 (pc + 1) (fun env a b => some (tk_lop (fun x y => x &&& y) env a b)))
  | .lor => some (tk_f_b 1 (pc + 1) (fun env a b => some (tk_lop (fun x y => x ||| y) env a b)))
  | .lxor => some (tk_f_b 1 (pc + 1) (fun env a b => some (tk_lop (fun x y => x ^^^ y) env a b)))
  | .ldiv => some (tk_f_b 1 (pc + 1) (tk_dv (fun env a b => some (tk_lop (fun x y => x / y) env a b))))
  | .lrem => some (tk_f_b 1 (pc + 1) (tk_dv (fun env a b => some (tk_lop (fun x y => x - x / y * y) env a b))))
  | .lshl => some (tk_f_sh (pc + 1) (tk_lsh (fun x y => x <<< (y.toInt64 &&& 63))))
  | .lshr => some (tk_f_sh (pc + 1) (tk_lsh (fun x y => x >>> (y.toInt64 &&& 63))))
  | .lushr => some (tk_f_sh (pc + 1) (tk_lsh (fun x y => (x.toUInt64 >>> (y.toInt64.toUInt64 &&& Int64.toUInt64 63)).toInt64)))
  | .lcmp => some (tk_f_lcmp (pc + 1))
  | .ifCond c off => some (tk_f_if0 c pc off)
  | .if_icmp c off => some (tk_f_if c pc off)
  | .goto off => some (tk_f_goto pc off)
  | _ => none
section TKQ
variable {p : Program} {l : Launch} {e : Env} {R : Room} {s : State} {m : MethodId} {args : Array Value} {below : List Frame} {meth : Method} {c : Code} {Q : State → Prop} {cc : ByteArray} {nL : Nat} {Hr : tk_Hr}
set_option maxHeartbeats 8000000 in
theorem tk_pf_ok (hx : p.tables.exec = Jvm.exec) (hb : c.code = cc) (hgr : tk_gr Hr) {pc : Nat} {ins : Instr} {len : Nat} {F : tk_Fn} {st : tk_S} {res : List (Nat × tk_S)} (hdg : decode cc pc = .ok (ins, len)) (hlen : rk_len ins len = true) (h : tk_pf nL pc ins = some F) (hF : F st = some res) (kk : ∀ q ∈ res, tk_St (rk_KW p l e R s m args below meth c Q) nL Hr q.1 q.2) : tk_St (rk_KW p l e R s m args below meth c Q) nL Hr pc st := by
  obtain ⟨lo, sk, w, rest⟩ := st
  intro vals rads H locs ls stk lc hH hR hl hL hS
  dsimp only at hH hR hL hS
  cases ins
  case iconst n =>
    simp [rk_len] at hlen; subst hlen
    obtain rfl := Option.some.inj h
    obtain rfl := Option.some.inj hF
    refine lv_iconst (v := Int32.ofInt n) hx hb hdg rfl ?_
    exact kk _ (List.mem_singleton.mpr rfl) vals rads H locs ls _ lc hH hR hl hL ⟨tk_gi rfl rfl, hS⟩
  case bipush n =>
    simp [rk_len] at hlen; subst hlen
    obtain rfl := Option.some.inj h
    obtain rfl := Option.some.inj hF
    refine lv_bipush (v := (Int8.ofInt n).toInt32) hx hb hdg rfl ?_
    exact kk _ (List.mem_singleton.mpr rfl) vals rads H locs ls _ lc hH hR hl hL ⟨tk_gi rfl rfl, hS⟩
  case sipush n =>
    simp [rk_len] at hlen; subst hlen
    obtain rfl := Option.some.inj h
    obtain rfl := Option.some.inj hF
    refine lv_sipush (v := (Int16.ofInt n).toInt32) hx hb hdg rfl ?_
    exact kk _ (List.mem_singleton.mpr rfl) vals rads H locs ls _ lc hH hR hl hL ⟨tk_gi rfl rfl, hS⟩
  case lconst n =>
    simp [rk_len] at hlen; subst hlen
    obtain rfl := Option.some.inj h
    obtain rfl := Option.some.inj hF
    refine lv_lconst (v := Int64.ofNat (n : Nat)) hx hb hdg rfl ?_
    exact kk _ (List.mem_singleton.mpr rfl) vals rads H locs ls _ lc hH hR hl hL ⟨tk_gl rfl rfl, hS⟩
  case aconst_null =>
    simp [rk_len] at hlen; subst hlen
    obtain rfl := Option.some.inj h
    obtain rfl := Option.some.inj hF
    refine lv_null hx hb hdg ?_
    exact kk _ (List.mem_singleton.mpr rfl) vals rads H locs ls _ lc hH hR hl hL ⟨(show tk_g vals rads (3, 0, 0, 0) .null from rfl), hS⟩
  case iload_n k =>
    simp [rk_len] at hlen; subst hlen
    obtain rfl := Option.some.inj h
    unfold tk_f_ld at hF
    split at hF
    · next a ha =>
      split at hF
      · next hk =>
        cases hF
        obtain ⟨v, hv, hg⟩ := tk_ld_ok hL ha
        obtain ⟨x, rfl, -⟩ := tk_g0 hg hk
        refine lv_iload_n hx hb hdg rfl (hl.2.2 _ hv) ?_
        exact kk _ (List.mem_singleton.mpr rfl) vals rads H locs ls _ lc hH hR hl hL ⟨tk_nm_ok hH.1 hg, hS⟩
      · cases hF
    · cases hF
  case iload k =>
    simp [rk_len] at hlen; subst hlen
    obtain rfl := Option.some.inj h
    unfold tk_f_ld at hF
    split at hF
    · next a ha =>
      split at hF
      · next hk =>
        cases hF
        obtain ⟨v, hv, hg⟩ := tk_ld_ok hL ha
        obtain ⟨x, rfl, -⟩ := tk_g0 hg hk
        refine lv_iload hx hb hdg (hl.2.2 _ hv) ?_
        exact kk _ (List.mem_singleton.mpr rfl) vals rads H locs ls _ lc hH hR hl hL ⟨tk_nm_ok hH.1 hg, hS⟩
      · cases hF
    · cases hF
  case lload_n k =>
    simp [rk_len] at hlen; subst hlen
    obtain rfl := Option.some.inj h
    unfold tk_f_ld at hF
    split at hF
    · next a ha =>
      split at hF
      · next hk =>
        cases hF
        obtain ⟨v, hv, hg⟩ := tk_ld_ok hL ha
        obtain ⟨x, rfl, -⟩ := tk_g1 hg hk
        refine lv_lload_n hx hb hdg rfl (hl.2.2 _ hv) ?_
        exact kk _ (List.mem_singleton.mpr rfl) vals rads H locs ls _ lc hH hR hl hL ⟨tk_nm_ok hH.1 hg, hS⟩
      · cases hF
    · cases hF
  case lload k =>
    simp [rk_len] at hlen; subst hlen
    obtain rfl := Option.some.inj h
    unfold tk_f_ld at hF
    split at hF
    · next a ha =>
      split at hF
      · next hk =>
        cases hF
        obtain ⟨v, hv, hg⟩ := tk_ld_ok hL ha
        obtain ⟨x, rfl, -⟩ := tk_g1 hg hk
        refine lv_lload hx hb hdg (hl.2.2 _ hv) ?_
        exact kk _ (List.mem_singleton.mpr rfl) vals rads H locs ls _ lc hH hR hl hL ⟨tk_nm_ok hH.1 hg, hS⟩
      · cases hF
    · cases hF
  case aload_n k =>
    simp [rk_len] at hlen; subst hlen
    obtain rfl := Option.some.inj h
    unfold tk_f_ld at hF
    split at hF
    · next a ha =>
      split at hF
      · next hk =>
        cases hF
        obtain ⟨v, hv, hg⟩ := tk_ld_ok hL ha
        obtain ⟨x, -, rfl⟩ := tk_g2 hg hk
        refine lv_aload_n hx hb hdg rfl (hl.2.2 _ hv) ?_
        exact kk _ (List.mem_singleton.mpr rfl) vals rads H locs ls _ lc hH hR hl hL ⟨tk_nm_ok hH.1 hg, hS⟩
      · cases hF
    · cases hF
  case aload k =>
    simp [rk_len] at hlen; subst hlen
    obtain rfl := Option.some.inj h
    unfold tk_f_ld at hF
    split at hF
    · next a ha =>
      split at hF
      · next hk =>
        cases hF
        obtain ⟨v, hv, hg⟩ := tk_ld_ok hL ha
        obtain ⟨x, -, rfl⟩ := tk_g2 hg hk
        refine lv_aload hx hb hdg (hl.2.2 _ hv) ?_
        exact kk _ (List.mem_singleton.mpr rfl) vals rads H locs ls _ lc hH hR hl hL ⟨tk_nm_ok hH.1 hg, hS⟩
      · cases hF
    · cases hF
  case istore_n k =>
    simp [rk_len] at hlen; subst hlen
    obtain rfl := Option.some.inj h
    unfold tk_f_st at hF
    split at hF
    · next a r e1 =>
      dsimp only at e1
      subst e1
      split at hF
      · next hk =>
        cases hF
        obtain ⟨v, k1, rfl, hg, hS1⟩ := hS.cons
        obtain ⟨x, rfl, -⟩ := tk_g0 hg hk.1
        refine lv_istore_n hx hb hdg rfl hl hk.2.1 rfl (fun ls' hl' => ?_)
        exact kk _ (List.mem_singleton.mpr rfl) vals rads H locs ls' _ _ hH hR hl' (tk_st1_ok hL hg) hS1
      · cases hF
    · cases hF
  case istore k =>
    simp [rk_len] at hlen; subst hlen
    obtain rfl := Option.some.inj h
    unfold tk_f_st at hF
    split at hF
    · next a r e1 =>
      dsimp only at e1
      subst e1
      split at hF
      · next hk =>
        cases hF
        obtain ⟨v, k1, rfl, hg, hS1⟩ := hS.cons
        obtain ⟨x, rfl, -⟩ := tk_g0 hg hk.1
        refine lv_istore hx hb hdg hl hk.2.1 rfl (fun ls' hl' => ?_)
        exact kk _ (List.mem_singleton.mpr rfl) vals rads H locs ls' _ _ hH hR hl' (tk_st1_ok hL hg) hS1
      · cases hF
    · cases hF
  case astore_n k =>
    simp [rk_len] at hlen; subst hlen
    obtain rfl := Option.some.inj h
    unfold tk_f_st at hF
    split at hF
    · next a r e1 =>
      dsimp only at e1
      subst e1
      split at hF
      · next hk =>
        cases hF
        obtain ⟨v, k1, rfl, hg, hS1⟩ := hS.cons
        obtain ⟨x, -, rfl⟩ := tk_g2 hg hk.1
        refine lv_astore_n hx hb hdg rfl hl hk.2.1 rfl (fun ls' hl' => ?_)
        exact kk _ (List.mem_singleton.mpr rfl) vals rads H locs ls' _ _ hH hR hl' (tk_st1_ok hL hg) hS1
      · cases hF
    · cases hF
  case astore k =>
    simp [rk_len] at hlen; subst hlen
    obtain rfl := Option.some.inj h
    unfold tk_f_st at hF
    split at hF
    · next a r e1 =>
      dsimp only at e1
      subst e1
      split at hF
      · next hk =>
        cases hF
        obtain ⟨v, k1, rfl, hg, hS1⟩ := hS.cons
        obtain ⟨x, -, rfl⟩ := tk_g2 hg hk.1
        refine lv_astore hx hb hdg hl hk.2.1 rfl (fun ls' hl' => ?_)
        exact kk _ (List.mem_singleton.mpr rfl) vals rads H locs ls' _ _ hH hR hl' (tk_st1_ok hL hg) hS1
      · cases hF
    · cases hF
  case lstore_n k =>
    simp [rk_len] at hlen; subst hlen
    obtain rfl := Option.some.inj h
    unfold tk_f_st2 at hF
    split at hF
    · next a r e1 =>
      dsimp only at e1
      subst e1
      split at hF
      · next hk =>
        cases hF
        obtain ⟨v, k1, rfl, hg, hS1⟩ := hS.cons
        obtain ⟨x, rfl, -⟩ := tk_g1 hg hk.1
        refine lv_lstore_n hx hb hdg rfl hl hk.2 rfl (fun ls' hl' => ?_)
        exact kk _ (List.mem_singleton.mpr rfl) vals rads H locs ls' _ _ hH hR hl' (tk_st2_ok hL hg) hS1
      · cases hF
    · cases hF
  case lstore k =>
    simp [rk_len] at hlen; subst hlen
    obtain rfl := Option.some.inj h
    unfold tk_f_st2 at hF
    split at hF
    · next a r e1 =>
      dsimp only at e1
      subst e1
      split at hF
      · next hk =>
        cases hF
        obtain ⟨v, k1, rfl, hg, hS1⟩ := hS.cons
        obtain ⟨x, rfl, -⟩ := tk_g1 hg hk.1
        refine lv_lstore hx hb hdg hl hk.2 rfl (fun ls' hl' => ?_)
        exact kk _ (List.mem_singleton.mpr rfl) vals rads H locs ls' _ _ hH hR hl' (tk_st2_ok hL hg) hS1
      · cases hF
    · cases hF
  case iinc i n =>
    simp [rk_len] at hlen; subst hlen
    obtain rfl := Option.some.inj h
    unfold tk_f_inc at hF
    split at hF
    · next a ha =>
      split at hF
      · next hk =>
        split at hF
        · next q hq =>
          cases hF
          obtain ⟨v, hv, hg⟩ := tk_ld_ok hL ha
          obtain ⟨x, rfl, hx1⟩ := tk_g0 hg hk.1
          obtain ⟨k1, l1, hE1, hn1⟩ := tk_addv_ok hH.1 hx1 (show tk_num vals (0, 0, 0, (Int32.ofInt n).toInt) = some (Int32.ofInt n).toInt from rfl) hq
          rw [← tk_w_add] at hn1
          obtain ⟨kq, hkq⟩ := List.getElem?_of_mem hv
          have hL' := hL.grow l1 []
          have hS' := tk_skG hS l1 []
          rw [List.append_nil] at hL' hS'
          refine lv_iinc hx hb hdg hl hkq rfl hk.2 rfl (fun ls' hl' => ?_)
          exact kk _ (List.mem_singleton.mpr rfl) (vals ++ l1) rads H locs ls' _ _ ⟨hE1, tk_C_grow l1 hH.2⟩ (hgr _ l1 _ _ _ _ _ hR) hl' (tk_st1_ok hL' (tk_gi k1 hn1)) hS'
        · cases hF
      · cases hF
    · cases hF
  case dup =>
    simp [rk_len] at hlen; subst hlen
    obtain rfl := Option.some.inj h
    unfold tk_f_dup at hF
    split at hF
    · next a r e1 =>
      dsimp only at e1
      subst e1
      split at hF
      · next hk =>
        cases hF
        obtain ⟨v, k1, rfl, hg, hS1⟩ := hS.cons
        refine lv_dup hx hb hdg (by rw [← tk_cat_ok hg]; exact hk) ?_
        exact kk _ (List.mem_singleton.mpr rfl) vals rads H locs ls _ lc hH hR hl hL ⟨hg, hg, hS1⟩
      · cases hF
    · cases hF
  case dup2 =>
    simp [rk_len] at hlen; subst hlen
    obtain rfl := Option.some.inj h
    unfold tk_f_dup2 at hF
    split at hF
    · next a b r e1 =>
      dsimp only at e1
      subst e1
      obtain ⟨v, k1, rfl, hg, hS1⟩ := hS.cons
      obtain ⟨v2, k2, rfl, hg2, hS2⟩ := hS1.cons
      split at hF
      · next hc =>
        cases hF
        refine lv_dup2_11 hx hb hdg (by rw [← tk_cat_ok hg]; exact hc.1) (by rw [← tk_cat_ok hg2]; exact hc.2) ?_
        exact kk _ (List.mem_singleton.mpr rfl) vals rads H locs ls _ lc hH hR hl hL ⟨hg, hg2, hg, hg2, hS2⟩
      · split at hF
        · next hc =>
          cases hF
          refine lv_dup2_2 hx hb hdg (by rw [← tk_cat_ok hg]; exact hc) ?_
          exact kk _ (List.mem_singleton.mpr rfl) vals rads H locs ls _ lc hH hR hl hL ⟨hg, hg, hg2, hS2⟩
        · cases hF
    · cases hF
  case pop =>
    simp [rk_len] at hlen; subst hlen
    obtain rfl := Option.some.inj h
    unfold tk_f_pop at hF
    split at hF
    · next a r e1 =>
      dsimp only at e1
      subst e1
      split at hF
      · next hk =>
        cases hF
        obtain ⟨v, k1, rfl, hg, hS1⟩ := hS.cons
        refine lv_pop hx hb hdg (by rw [← tk_cat_ok hg]; exact hk) ?_
        exact kk _ (List.mem_singleton.mpr rfl) vals rads H locs ls _ lc hH hR hl hL hS1
      · cases hF
    · cases hF
  case pop2 =>
    simp [rk_len] at hlen; subst hlen
    obtain rfl := Option.some.inj h
    unfold tk_f_pop at hF
    split at hF
    · next a r e1 =>
      dsimp only at e1
      subst e1
      split at hF
      · next hk =>
        cases hF
        obtain ⟨v, k1, rfl, hg, hS1⟩ := hS.cons
        refine lv_pop2_2 hx hb hdg (by rw [← tk_cat_ok hg]; exact hk) ?_
        exact kk _ (List.mem_singleton.mpr rfl) vals rads H locs ls _ lc hH hR hl hL hS1
      · cases hF
    · cases hF
  case iadd =>
    simp [rk_len] at hlen; subst hlen
    obtain rfl := Option.some.inj h
    obtain ⟨a, b, r, q, va, vb, rest2, rfl, ka, kb, ga, gb, hS2, hq, rfl⟩ := tk_b_inv hF hS
    obtain ⟨x, rfl, hx1⟩ := tk_g0 ga ka
    obtain ⟨y, rfl, hy1⟩ := tk_g0 gb kb
    refine lv_iadd hx hb hdg ?_
    exact tk_finI hgr kk (by rw [tk_w_add]; exact tk_addv_ok hH.1 hx1 hy1 hq) hH.2 hR hl hL hS2
  case isub =>
    simp [rk_len] at hlen; subst hlen
    obtain rfl := Option.some.inj h
    obtain ⟨a, b, r, q, va, vb, rest2, rfl, ka, kb, ga, gb, hS2, hq, rfl⟩ := tk_b_inv hF hS
    obtain ⟨x, rfl, hx1⟩ := tk_g0 ga ka
    obtain ⟨y, rfl, hy1⟩ := tk_g0 gb kb
    refine lv_isub hx hb hdg ?_
    exact tk_finI hgr kk (by rw [tk_w_sub]; exact tk_subv_ok hH.1 hx1 hy1 hq) hH.2 hR hl hL hS2
  case imul =>
    simp [rk_len] at hlen; subst hlen
    obtain rfl := Option.some.inj h
    obtain ⟨a, b, r, q, va, vb, rest2, rfl, ka, kb, ga, gb, hS2, hq, rfl⟩ := tk_b_inv hF hS
    obtain ⟨x, rfl, hx1⟩ := tk_g0 ga ka
    obtain ⟨y, rfl, hy1⟩ := tk_g0 gb kb
    refine lv_imul hx hb hdg ?_
    exact tk_finI hgr kk (by rw [tk_w_mul]; exact tk_mulv_ok hH.1 hx1 hy1 hq) hH.2 hR hl hL hS2
  case iand =>
    simp [rk_len] at hlen; subst hlen
    obtain rfl := Option.some.inj h
    obtain ⟨a, b, r, q, va, vb, rest2, rfl, ka, kb, ga, gb, hS2, hq, rfl⟩ := tk_b_inv hF hS
    obtain ⟨x, rfl, hx1⟩ := tk_g0 ga ka
    obtain ⟨y, rfl, hy1⟩ := tk_g0 gb kb
    refine lv_iand hx hb hdg  ?_
    exact tk_finI hgr kk (tk_op2_ok tk_s_and hH.1 hx1 hy1 hq) hH.2 hR hl hL hS2
  case ior =>
    simp [rk_len] at hlen; subst hlen
    obtain rfl := Option.some.inj h
    obtain ⟨a, b, r, q, va, vb, rest2, rfl, ka, kb, ga, gb, hS2, hq, rfl⟩ := tk_b_inv hF hS
    obtain ⟨x, rfl, hx1⟩ := tk_g0 ga ka
    obtain ⟨y, rfl, hy1⟩ := tk_g0 gb kb
    refine lv_ior hx hb hdg  ?_
    exact tk_finI hgr kk (tk_op2_ok tk_s_or hH.1 hx1 hy1 hq) hH.2 hR hl hL hS2
  case ixor =>
    simp [rk_len] at hlen; subst hlen
    obtain rfl := Option.some.inj h
    obtain ⟨a, b, r, q, va, vb, rest2, rfl, ka, kb, ga, gb, hS2, hq, rfl⟩ := tk_b_inv hF hS
    obtain ⟨x, rfl, hx1⟩ := tk_g0 ga ka
    obtain ⟨y, rfl, hy1⟩ := tk_g0 gb kb
    refine lv_ixor hx hb hdg  ?_
    exact tk_finI hgr kk (tk_op2_ok tk_s_xor hH.1 hx1 hy1 hq) hH.2 hR hl hL hS2
  case ishl =>
    simp [rk_len] at hlen; subst hlen
    obtain rfl := Option.some.inj h
    obtain ⟨a, b, r, q, va, vb, rest2, rfl, ka, kb, ga, gb, hS2, hq, rfl⟩ := tk_b_inv hF hS
    obtain ⟨x, rfl, hx1⟩ := tk_g0 ga ka
    obtain ⟨y, rfl, hy1⟩ := tk_g0 gb kb
    refine lv_ishl hx hb hdg  ?_
    exact tk_finI hgr kk (tk_op2_ok tk_s_shl hH.1 hx1 hy1 hq) hH.2 hR hl hL hS2
  case ishr =>
    simp [rk_len] at hlen; subst hlen
    obtain rfl := Option.some.inj h
    obtain ⟨a, b, r, q, va, vb, rest2, rfl, ka, kb, ga, gb, hS2, hq, rfl⟩ := tk_b_inv hF hS
    obtain ⟨x, rfl, hx1⟩ := tk_g0 ga ka
    obtain ⟨y, rfl, hy1⟩ := tk_g0 gb kb
    refine lv_ishr hx hb hdg  ?_
    exact tk_finI hgr kk (tk_op2_ok tk_s_shr hH.1 hx1 hy1 hq) hH.2 hR hl hL hS2
  case iushr =>
    simp [rk_len] at hlen; subst hlen
    obtain rfl := Option.some.inj h
    obtain ⟨a, b, r, q, va, vb, rest2, rfl, ka, kb, ga, gb, hS2, hq, rfl⟩ := tk_b_inv hF hS
    obtain ⟨x, rfl, hx1⟩ := tk_g0 ga ka
    obtain ⟨y, rfl, hy1⟩ := tk_g0 gb kb
    refine lv_iushr hx hb hdg rfl ?_
    exact tk_finI hgr kk (tk_op2_ok tk_s_ushr hH.1 hx1 hy1 hq) hH.2 hR hl hL hS2
  case idiv =>
    simp [rk_len] at hlen; subst hlen
    obtain rfl := Option.some.inj h
    obtain ⟨a, b, r, q, va, vb, rest2, rfl, ka, kb, ga, gb, hS2, hq, rfl⟩ := tk_b_inv hF hS
    obtain ⟨x, rfl, hx1⟩ := tk_g0 ga ka
    obtain ⟨y, rfl, hy1⟩ := tk_g0 gb kb
    obtain ⟨hz, hq⟩ := tk_dv_inv hq
    have hne : ¬ y = 0 := fun z => tk_nz_ok hH.1 hy1 hz (by rw [z]; rfl)
    refine lv_idiv hx hb hdg hne ?_
    exact tk_finI hgr kk (tk_op2_ok tk_s_div hH.1 hx1 hy1 hq) hH.2 hR hl hL hS2
  case irem =>
    simp [rk_len] at hlen; subst hlen
    obtain rfl := Option.some.inj h
    obtain ⟨a, b, r, q, va, vb, rest2, rfl, ka, kb, ga, gb, hS2, hq, rfl⟩ := tk_b_inv hF hS
    obtain ⟨x, rfl, hx1⟩ := tk_g0 ga ka
    obtain ⟨y, rfl, hy1⟩ := tk_g0 gb kb
    obtain ⟨hz, hq⟩ := tk_dv_inv hq
    have hne : ¬ y = 0 := fun z => tk_nz_ok hH.1 hy1 hz (by rw [z]; rfl)
    refine lv_irem hx hb hdg hne ?_
    exact tk_finI hgr kk (tk_op2_ok tk_s_rem hH.1 hx1 hy1 hq) hH.2 hR hl hL hS2
  case ineg =>
    simp [rk_len] at hlen; subst hlen
    obtain rfl := Option.some.inj h
    obtain ⟨a, r, q, va, rest2, rfl, ka, ga, hS2, hq, rfl⟩ := tk_u_inv hF hS
    obtain ⟨x, rfl, hx1⟩ := tk_g0 ga ka
    refine lv_ineg hx hb hdg ?_
    exact tk_finI hgr kk (tk_op1_ok tk_s_neg hH.1 hx1 hq) hH.2 hR hl hL hS2
  case i2b =>
    simp [rk_len] at hlen; subst hlen
    obtain rfl := Option.some.inj h
    obtain ⟨a, r, q, va, rest2, rfl, ka, ga, hS2, hq, rfl⟩ := tk_u_inv hF hS
    obtain ⟨x, rfl, hx1⟩ := tk_g0 ga ka
    refine lv_i2b hx hb hdg rfl ?_
    exact tk_finI hgr kk (tk_op1_ok (fun x _ _ _ => rk_s_i2b x) hH.1 hx1 hq) hH.2 hR hl hL hS2
  case i2s =>
    simp [rk_len] at hlen; subst hlen
    obtain rfl := Option.some.inj h
    obtain ⟨a, r, q, va, rest2, rfl, ka, ga, hS2, hq, rfl⟩ := tk_u_inv hF hS
    obtain ⟨x, rfl, hx1⟩ := tk_g0 ga ka
    refine lv_i2s hx hb hdg rfl ?_
    exact tk_finI hgr kk (tk_op1_ok (fun x _ _ _ => rk_s_i2s x) hH.1 hx1 hq) hH.2 hR hl hL hS2
  case i2l =>
    simp [rk_len] at hlen; subst hlen
    obtain rfl := Option.some.inj h
    unfold tk_f_i2l at hF
    split at hF
    · next a r e1 =>
      dsimp only at e1
      subst e1
      split at hF
      · next hk =>
        cases hF
        obtain ⟨v, k1, rfl, hg, hS1⟩ := hS.cons
        obtain ⟨x, rfl, hx1⟩ := tk_g0 hg hk
        refine lv_i2l hx hb hdg rfl ?_
        exact kk _ (List.mem_singleton.mpr rfl) vals rads H locs ls _ lc hH hR hl hL ⟨tk_gl rfl (by rw [Int32.toInt_toInt64]; exact hx1), hS1⟩
      · cases hF
    · cases hF
  case l2i =>
    simp [rk_len] at hlen; subst hlen
    obtain rfl := Option.some.inj h
    obtain ⟨a, r, q, va, rest2, rfl, ka, ga, hS2, hq, rfl⟩ := tk_u_inv hF hS
    obtain ⟨x, rfl, hx1⟩ := tk_g1 ga ka
    refine lv_l2i hx hb hdg rfl ?_
    refine tk_finI hgr kk ?_ hH.2 hR hl hL hS2
    unfold tk_l2i at hq
    split at hq
    · next I hI =>
      have b1 := tk_iv_ok hH.1 hx1 hI
      rw [Int64.toInt_toInt32]
      split at hq
      · next hf =>
        cases hq
        have e1 : x.toInt.bmod (2 ^ 32) = x.toInt := tk_wrap_id (k := 0) hf b1.1 b1.2
        rw [e1]
        exact tk_is_old 0 hH.1 rfl hx1
      · cases hq
        exact tk_is_new 0 hH.1 (tk_wrap_in 0 _).1 (tk_wrap_in 0 _).2
    · cases hq
  case ladd =>
    simp [rk_len] at hlen; subst hlen
    obtain rfl := Option.some.inj h
    obtain ⟨a, b, r, q, va, vb, rest2, rfl, ka, kb, ga, gb, hS2, hq, rfl⟩ := tk_b_inv hF hS
    obtain ⟨x, rfl, hx1⟩ := tk_g1 ga ka
    obtain ⟨y, rfl, hy1⟩ := tk_g1 gb kb
    refine lv_ladd hx hb hdg ?_
    exact tk_finL hgr kk (by rw [tk_w_addL]; exact tk_addv_ok hH.1 hx1 hy1 hq) hH.2 hR hl hL hS2
  case lsub =>
    simp [rk_len] at hlen; subst hlen
    obtain rfl := Option.some.inj h
    obtain ⟨a, b, r, q, va, vb, rest2, rfl, ka, kb, ga, gb, hS2, hq, rfl⟩ := tk_b_inv hF hS
    obtain ⟨x, rfl, hx1⟩ := tk_g1 ga ka
    obtain ⟨y, rfl, hy1⟩ := tk_g1 gb kb
    refine lv_lsub hx hb hdg ?_
    exact tk_finL hgr kk (by rw [tk_w_subL]; exact tk_subv_ok hH.1 hx1 hy1 hq) hH.2 hR hl hL hS2
  case lmul =>
    simp [rk_len] at hlen; subst hlen
    obtain rfl := Option.some.inj h
    obtain ⟨a, b, r, q, va, vb, rest2, rfl, ka, kb, ga, gb, hS2, hq, rfl⟩ := tk_b_inv hF hS
    obtain ⟨x, rfl, hx1⟩ := tk_g1 ga ka
    obtain ⟨y, rfl, hy1⟩ := tk_g1 gb kb
    refine lv_lmul hx hb hdg ?_
    exact tk_finL hgr kk (by rw [tk_w_mulL]; exact tk_mulv_ok hH.1 hx1 hy1 hq) hH.2 hR hl hL hS2
  case land =>
    simp [rk_len] at hlen; subst hlen
    obtain rfl := Option.some.inj h
    obtain ⟨a, b, r, q, va, vb, rest2, rfl, ka, kb, ga, gb, hS2, hq, rfl⟩ := tk_b_inv hF hS
    obtain ⟨x, rfl, hx1⟩ := tk_g1 ga ka
    obtain ⟨y, rfl, hy1⟩ := tk_g1 gb kb
    cases hq
    refine lv_land hx hb hdg ?_
    exact tk_finL hgr kk (tk_lop_ok (f := fun x y => x &&& y) hH.1 hx1 hy1) hH.2 hR hl hL hS2
  case lor =>
    simp [rk_len] at hlen; subst hlen
    obtain rfl := Option.some.inj h
    obtain ⟨a, b, r, q, va, vb, rest2, rfl, ka, kb, ga, gb, hS2, hq, rfl⟩ := tk_b_inv hF hS
    obtain ⟨x, rfl, hx1⟩ := tk_g1 ga ka
    obtain ⟨y, rfl, hy1⟩ := tk_g1 gb kb
    cases hq
    refine lv_lor hx hb hdg ?_
    exact tk_finL hgr kk (tk_lop_ok (f := fun x y => x ||| y) hH.1 hx1 hy1) hH.2 hR hl hL hS2
  case lxor =>
    simp [rk_len] at hlen; subst hlen
    obtain rfl := Option.some.inj h
    obtain ⟨a, b, r, q, va, vb, rest2, rfl, ka, kb, ga, gb, hS2, hq, rfl⟩ := tk_b_inv hF hS
    obtain ⟨x, rfl, hx1⟩ := tk_g1 ga ka
    obtain ⟨y, rfl, hy1⟩ := tk_g1 gb kb
    cases hq
    refine lv_lxor hx hb hdg ?_
    exact tk_finL hgr kk (tk_lop_ok (f := fun x y => x ^^^ y) hH.1 hx1 hy1) hH.2 hR hl hL hS2
  case ldiv =>
    simp [rk_len] at hlen; subst hlen
    obtain rfl := Option.some.inj h
    obtain ⟨a, b, r, q, va, vb, rest2, rfl, ka, kb, ga, gb, hS2, hq, rfl⟩ := tk_b_inv hF hS
    obtain ⟨x, rfl, hx1⟩ := tk_g1 ga ka
    obtain ⟨y, rfl, hy1⟩ := tk_g1 gb kb
    obtain ⟨hz, hq⟩ := tk_dv_inv hq
    cases hq
    have hne : ¬ y = 0 := fun z => tk_nz_ok hH.1 hy1 hz (by rw [z]; rfl)
    refine lv_ldiv hx hb hdg hne ?_
    exact tk_finL hgr kk (tk_lop_ok (f := fun x y => x / y) hH.1 hx1 hy1) hH.2 hR hl hL hS2
  case lrem =>
    simp [rk_len] at hlen; subst hlen
    obtain rfl := Option.some.inj h
    obtain ⟨a, b, r, q, va, vb, rest2, rfl, ka, kb, ga, gb, hS2, hq, rfl⟩ := tk_b_inv hF hS
    obtain ⟨x, rfl, hx1⟩ := tk_g1 ga ka
    obtain ⟨y, rfl, hy1⟩ := tk_g1 gb kb
    obtain ⟨hz, hq⟩ := tk_dv_inv hq
    cases hq
    have hne : ¬ y = 0 := fun z => tk_nz_ok hH.1 hy1 hz (by rw [z]; rfl)
    refine lv_lrem hx hb hdg hne ?_
    exact tk_finL hgr kk (tk_lop_ok (f := fun x y => x - x / y * y) hH.1 hx1 hy1) hH.2 hR hl hL hS2
  case lshl =>
    simp [rk_len] at hlen; subst hlen
    obtain rfl := Option.some.inj h
    obtain ⟨a, b, r, va, vb, rest2, rfl, ka, kb, ga, gb, hS2, rfl⟩ := tk_sh_inv hF hS
    obtain ⟨x, rfl, hx1⟩ := tk_g1 ga ka
    obtain ⟨y, rfl, hy1⟩ := tk_g0 gb kb
    refine lv_lshl hx hb hdg rfl ?_
    exact tk_finL hgr kk (tk_lsh_ok (f := fun x y => x <<< (y.toInt64 &&& 63)) hH.1 hx1 hy1) hH.2 hR hl hL hS2
  case lshr =>
    simp [rk_len] at hlen; subst hlen
    obtain rfl := Option.some.inj h
    obtain ⟨a, b, r, va, vb, rest2, rfl, ka, kb, ga, gb, hS2, rfl⟩ := tk_sh_inv hF hS
    obtain ⟨x, rfl, hx1⟩ := tk_g1 ga ka
    obtain ⟨y, rfl, hy1⟩ := tk_g0 gb kb
    refine lv_lshr hx hb hdg rfl ?_
    exact tk_finL hgr kk (tk_lsh_ok (f := fun x y => x >>> (y.toInt64 &&& 63)) hH.1 hx1 hy1) hH.2 hR hl hL hS2
  case lushr =>
    simp [rk_len] at hlen; subst hlen
    obtain rfl := Option.some.inj h
    obtain ⟨a, b, r, va, vb, rest2, rfl, ka, kb, ga, gb, hS2, rfl⟩ := tk_sh_inv hF hS
    obtain ⟨x, rfl, hx1⟩ := tk_g1 ga ka
    obtain ⟨y, rfl, hy1⟩ := tk_g0 gb kb
    refine lv_lushr hx hb hdg rfl ?_
    exact tk_finL hgr kk (tk_lsh_ok (f := fun x y => (x.toUInt64 >>> (y.toInt64.toUInt64 &&& Int64.toUInt64 63)).toInt64) hH.1 hx1 hy1) hH.2 hR hl hL hS2
  case lcmp =>
    simp [rk_len] at hlen; subst hlen
    obtain rfl := Option.some.inj h
    unfold tk_f_lcmp at hF
    split at hF
    · next b a r e1 =>
      dsimp only at e1
      subst e1
      split at hF
      · next hk =>
        cases hF
        obtain ⟨vb, k1, rfl, gb, hS1⟩ := hS.cons
        obtain ⟨va, k2, rfl, ga, hS2⟩ := hS1.cons
        obtain ⟨x, rfl, hx1⟩ := tk_g1 ga hk.1
        obtain ⟨y, rfl, hy1⟩ := tk_g1 gb hk.2
        refine W.lcmp hx hb hdg ?_
        rcases rk_lgc x y with ⟨e1, e2⟩ | ⟨e1, e2⟩ | ⟨e1, e2⟩ <;> rw [e1]
        · obtain ⟨w', h1, h2⟩ := tk_lt_ok hH hy1 hx1 e2
          exact tk_ws_ok h1 (fun z hz => List.mem_append_left _ hz) kk vals rads H locs ls _ lc h2 hR hl hL ⟨tk_gi rfl rfl, hS2⟩
        · obtain ⟨w', h1, h2⟩ := tk_eq_ok hH hx1 hy1 e2
          exact tk_ws_ok h1 (fun z hz => List.mem_append_right _ (List.mem_append_left _ hz)) kk vals rads H locs ls _ lc h2 hR hl hL ⟨tk_gi rfl rfl, hS2⟩
        · obtain ⟨w', h1, h2⟩ := tk_lt_ok hH hx1 hy1 e2
          exact tk_ws_ok h1 (fun z hz => List.mem_append_right _ (List.mem_append_right _ hz)) kk vals rads H locs ls _ lc h2 hR hl hL ⟨tk_gi rfl rfl, hS2⟩
      · cases hF
    · cases hF
  case ifCond cd off =>
    simp [rk_len] at hlen; subst hlen
    obtain rfl := Option.some.inj h
    unfold tk_f_if0 at hF
    split at hF
    · next a r e1 =>
      dsimp only at e1
      subst e1
      split at hF
      · next hk =>
        cases hF
        obtain ⟨va, k2, rfl, ga, hS2⟩ := hS.cons
        obtain ⟨x, rfl, hx1⟩ := tk_g0 ga hk.1
        have hy1 : tk_num vals (0, 0, 0, 0) = some (0 : Int32).toInt := rfl
        have hpos := hk.2
        have key : (tk_holds cd x.toInt (0 : Int32).toInt → rk_KW p l e R s m args below meth c Q ((pc : Int) + off).toNat ls k2 H locs 0 0) ∧ (¬ tk_holds cd x.toInt (0 : Int32).toInt → rk_KW p l e R s m args below meth c Q (pc + 3) ls k2 H locs 0 0) := by
          refine ⟨fun hh => ?_, fun hh => ?_⟩
          · obtain ⟨w', h1, h2⟩ := tk_cond_ok cd hH hx1 hy1 hh
            exact tk_ws_ok h1 (fun z hz => List.mem_append_left _ hz) kk vals rads H locs ls _ lc h2 hR hl hL hS2
          · obtain ⟨w', h1, h2⟩ := tk_cond_ok (rk_not cd) hH hx1 hy1 (tk_not_ok hh)
            exact tk_ws_ok h1 (fun z hz => List.mem_append_right _ hz) kk vals rads H locs ls _ lc h2 hR hl hL hS2
        have ht : (pc : Int) + off = ((((pc : Int) + off).toNat : Nat) : Int) := by omega
        obtain ⟨k1, k2⟩ := key
        cases cd
        case eq => exact lv_if_eq hx hb hdg ht (fun q => k1 (Int32.toInt_inj.mpr q)) (fun q => k2 (fun z => q (Int32.toInt_inj.mp z)))
        case ne => exact lv_if_ne hx hb hdg ht (fun q => k1 (fun z => q (Int32.toInt_inj.mp z))) (fun q => k2 (fun z => z (Int32.toInt_inj.mpr q)))
        case lt => exact lv_if_lt hx hb hdg ht (fun q => k1 (Int32.lt_iff_toInt_lt.mp q)) (fun q => k2 (fun z => q (Int32.lt_iff_toInt_lt.mpr z)))
        case ge => exact lv_if_ge hx hb hdg ht (fun q => k1 (Int32.le_iff_toInt_le.mp q)) (fun q => k2 (fun z => q (Int32.le_iff_toInt_le.mpr z)))
        case gt => exact lv_if_gt hx hb hdg ht (fun q => k1 (Int32.lt_iff_toInt_lt.mp q)) (fun q => k2 (fun z => q (Int32.lt_iff_toInt_lt.mpr z)))
        case le => exact lv_if_le hx hb hdg ht (fun q => k1 (Int32.le_iff_toInt_le.mp q)) (fun q => k2 (fun z => q (Int32.le_iff_toInt_le.mpr z)))
      · cases hF
    · cases hF
  case if_icmp cd off =>
    simp [rk_len] at hlen; subst hlen
    obtain rfl := Option.some.inj h
    unfold tk_f_if at hF
    split at hF
    · next b a r e1 =>
      dsimp only at e1
      subst e1
      split at hF
      · next hk =>
        cases hF
        obtain ⟨vb, k1, rfl, gb, hS1⟩ := hS.cons
        obtain ⟨va, k2, rfl, ga, hS2⟩ := hS1.cons
        obtain ⟨x, rfl, hx1⟩ := tk_g0 ga hk.1
        obtain ⟨y, rfl, hy1⟩ := tk_g0 gb hk.2.1
        have hpos := hk.2.2
        have key : (tk_holds cd x.toInt y.toInt → rk_KW p l e R s m args below meth c Q ((pc : Int) + off).toNat ls k2 H locs 0 0) ∧ (¬ tk_holds cd x.toInt y.toInt → rk_KW p l e R s m args below meth c Q (pc + 3) ls k2 H locs 0 0) := by
          refine ⟨fun hh => ?_, fun hh => ?_⟩
          · obtain ⟨w', h1, h2⟩ := tk_cond_ok cd hH hx1 hy1 hh
            exact tk_ws_ok h1 (fun z hz => List.mem_append_left _ hz) kk vals rads H locs ls _ lc h2 hR hl hL hS2
          · obtain ⟨w', h1, h2⟩ := tk_cond_ok (rk_not cd) hH hx1 hy1 (tk_not_ok hh)
            exact tk_ws_ok h1 (fun z hz => List.mem_append_right _ hz) kk vals rads H locs ls _ lc h2 hR hl hL hS2
        have ht : (pc : Int) + off = ((((pc : Int) + off).toNat : Nat) : Int) := by omega
        obtain ⟨k1, k2⟩ := key
        cases cd
        case eq => exact lv_icmp_eq hx hb hdg ht (fun q => k1 (Int32.toInt_inj.mpr q)) (fun q => k2 (fun z => q (Int32.toInt_inj.mp z)))
        case ne => exact lv_icmp_ne hx hb hdg ht (fun q => k1 (fun z => q (Int32.toInt_inj.mp z))) (fun q => k2 (fun z => z (Int32.toInt_inj.mpr q)))
        case lt => exact lv_icmp_lt hx hb hdg ht (fun q => k1 (Int32.lt_iff_toInt_lt.mp q)) (fun q => k2 (fun z => q (Int32.lt_iff_toInt_lt.mpr z)))
        case ge => exact lv_icmp_ge hx hb hdg ht (fun q => k1 (Int32.le_iff_toInt_le.mp q)) (fun q => k2 (fun z => q (Int32.le_iff_toInt_le.mpr z)))
        case gt => exact lv_icmp_gt hx hb hdg ht (fun q => k1 (Int32.lt_iff_toInt_lt.mp q)) (fun q => k2 (fun z => q (Int32.lt_iff_toInt_lt.mpr z)))
        case le => exact lv_icmp_le hx hb hdg ht (fun q => k1 (Int32.le_iff_toInt_le.mp q)) (fun q => k2 (fun z => q (Int32.le_iff_toInt_le.mpr z)))
      · cases hF
    · cases hF
  case goto off =>
    simp [rk_len] at hlen; subst hlen
    obtain rfl := Option.some.inj h
    unfold tk_f_goto at hF
    split at hF
    · next hpc =>
      cases hF
      exact lv_goto (tgt := ((pc : Int) + off).toNat) hx hb hdg (by omega) (kk _ (List.mem_singleton.mpr rfl) vals rads H locs ls _ lc hH hR hl hL hS)
    · cases hF
  all_goals exact (tk_nosome (show (none : Option tk_Fn) = some F from h)).elim
end TKQ
end MH28_2
section MH28_3
/-! ===== tk: the heap by types: each cell has a type by its place; a type says what a field, an element may be ===== -/
/-- 6 a long within of which facts are kept; 0 an int within, 1 a long within, 2 a reference of a type, 3 an int within what its place says, 4 and 5 an int, a long within, of which more may be known: it is never written -/
abbrev tk_F : Type := Nat × Int × Int
abbrev tk_TY : Type := (Nat × List tk_F) ⊕ (FieldType × Nat × tk_F)
/-- the types; what a place of kind 3 may be; the regions of a type's places; places that no step may write; but where this allows it -/
abbrev tk_TT : Type := List tk_TY × (Nat → Nat → tk_I) × (Nat → Option (Nat → Nat)) × List (Nat × Nat) × (tk_S → Nat → Nat → tk_V → tk_V → Bool)
def tk_rg (TY : tk_TT) (t i : Nat) : Nat := match TY.2.2.1 t with
  | none => 0
  | some g => g i
def tk_ty (ads tw : List Nat) (t y : Nat) : Prop := ∃ j : Nat, ads[j]? = some y ∧ tw[j]? = some t
def tk_fv (ro : Nat → Nat → Int → Prop) (reg : Nat → Nat → tk_I) (ads tw : List Nat) (t i : Nat) (f : tk_F) (v : Value) : Prop := match f.1 with
  | 0 => ∃ x : Int32, v = .int x ∧ f.2.1 ≤ x.toInt ∧ x.toInt ≤ f.2.2
  | 1 => ∃ x : Int64, v = .long x ∧ f.2.1 ≤ x.toInt ∧ x.toInt ≤ f.2.2
  | 2 => ∃ y : Nat, v = .ref y ∧ tk_ty ads tw (f.2.1.toNat + i * f.2.2.toNat) y
  | 3 => ∃ x : Int32, v = .int x ∧ (reg f.2.1.toNat i).1 ≤ x.toInt ∧ x.toInt ≤ (reg f.2.1.toNat i).2
  | 4 => ∃ x : Int32, v = .int x ∧ f.2.1 ≤ x.toInt ∧ x.toInt ≤ f.2.2 ∧ ro t i x.toInt
  | 5 => ∃ x : Int64, v = .long x ∧ f.2.1 ≤ x.toInt ∧ x.toInt ≤ f.2.2 ∧ ro t i x.toInt
  | 6 => ∃ x : Int64, v = .long x ∧ f.2.1 ≤ x.toInt ∧ x.toInt ≤ f.2.2
  | _ => False
def tk_ar (ro : Nat → Nat → Int → Prop) (reg : Nat → Nat → tk_I) (ads tw : List Nat) (t : Nat) (q : FieldType × Nat × tk_F) (cA : ClassId) (e : va_E) : Prop := match q.1 with
  | .int => ∃ f : Nat → Int32, e = .inl (cA, q.2.1, .inl f) ∧ ∀ i, i < q.2.1 → tk_fv ro reg ads tw t i q.2.2 (.int (f i))
  | .byte => ∃ f : Nat → Int32, e = .inl (cA, q.2.1, .inl f) ∧ ∀ i, i < q.2.1 → tk_fv ro reg ads tw t i q.2.2 (.int (f i))
  | .long => ∃ f : Nat → Int64, e = .inl (cA, q.2.1, .inr (.inl f)) ∧ ∀ i, i < q.2.1 → tk_fv ro reg ads tw t i q.2.2 (.long (f i))
  | .object _ => ∃ f : Nat → Option Nat, e = .inl (cA, q.2.1, .inr (.inr (.inr (.inr f)))) ∧ ∀ i, i < q.2.1 → tk_fv ro reg ads tw t i q.2.2 (va_rf (f i))
  | .array _ => ∃ f : Nat → Option Nat, e = .inl (cA, q.2.1, .inr (.inr (.inr (.inr f)))) ∧ ∀ i, i < q.2.1 → tk_fv ro reg ads tw t i q.2.2 (va_rf (f i))
  | _ => False
def tk_cl (TY : tk_TT) (ro : Nat → Nat → Int → Prop) (ads tw : List Nat) (U : State) (t : Nat) (e : va_E) : Prop := match TY.1[t]? with
  | some (.inl o) => ∃ vs : List Value, e = .inr (o.1, vs) ∧ vs.length = o.2.length ∧ ∀ (i : Nat) (f : tk_F) (v : Value), o.2[i]? = some f → vs[i]? = some v → tk_fv ro TY.2.1 ads tw t i f v
  | some (.inr q) => ∃ cA, ArrOfT U cA q.1 ∧ va_RA U cA q.1 ∧ tk_ar ro TY.2.1 ads tw t q cA e
  | none => True
/-- what stands at a place of a cell -/
def tk_el (z : vp_A) (i : Nat) : Value := match z.2 with
  | .inl f => .int (f i)
  | .inr (.inl f) => .long (f i)
  | .inr (.inr (.inr (.inr f))) => va_rf (f i)
  | _ => .null
def tk_pos (e : va_E) (i : Nat) : Option Value := match e with
  | .inr (_, vs) => vs[i]?
  | .inl (_, z) => if i < z.1 then some (tk_el z i) else none
/-- a fact: a place of a reference's cell holds a value -/
def tk_fk (vals : List Int) (rads : List Nat) (ws : va_W) (q : Nat × tk_V × tk_V) : Prop := ∃ (y j i : Nat) (e : va_E) (v : Value), rads[q.1]? = some y ∧ tk_num vals q.2.1 = some (i : Int) ∧ ws[j]? = some (y, e) ∧ tk_pos e i = some v ∧ tk_g vals rads q.2.2 v
theorem tk_fk_grow {vals : List Int} {rads : List Nat} {ws : va_W} {q : Nat × tk_V × tk_V} (l : List Int) (r : List Nat) (h : tk_fk vals rads ws q) : tk_fk (vals ++ l) (rads ++ r) ws q := by
  obtain ⟨y, j, i, e, v, h1, h2, h3, h4, h5⟩ := h
  exact ⟨y, j, i, e, v, by rw [List.getElem?_append_left (List.getElem?_eq_some_iff.mp h1).1]; exact h1, tk_num_grow l h2, h3, h4, tk_g_grow l r h5⟩
/-- but for the named places all cells are as they were -/
def tk_un (TY : tk_TT) (mods : List (Nat × Nat)) (tw : List Nat) (ws ws' : va_W) : Prop := ∀ (j y : Nat) (e : va_E), ws[j]? = some (y, e) → ∃ e' : va_E, ws'[j]? = some (y, e') ∧ (∀ i t : Nat, tw[j]? = some t → ¬ (t, tk_rg TY t i) ∈ mods → tk_pos e' i = tk_pos e i) ∧ ∀ t : Nat, tw[j]? = some t → (∀ i, ¬ (t, tk_rg TY t i) ∈ mods) → e' = e
theorem tk_un_rf (TY : tk_TT) (mods : List (Nat × Nat)) (tw : List Nat) (ws : va_W) : tk_un TY mods tw ws ws := fun _ _ e h => ⟨e, h, fun _ _ _ _ => rfl, fun _ _ _ => rfl⟩
theorem tk_un_tr {TY : tk_TT} {m1 m2 : List (Nat × Nat)} {tw : List Nat} {ws w1 w2 : va_W} (h : tk_un TY m1 tw ws w1) (h2 : tk_un TY m2 tw w1 w2) (hs : ∀ z ∈ m2, z ∈ m1) : tk_un TY m1 tw ws w2 := by
  intro j y e hj
  obtain ⟨v1, g1, g2, g5⟩ := h j y e hj
  obtain ⟨v2, g3, g4, g6⟩ := h2 j y v1 g1
  exact ⟨v2, g3, fun k t ht hn => (g4 k t ht (fun z => hn (hs _ z))).trans (g2 k t ht hn), fun t ht hn => (g6 t ht (fun i z => hn i (hs _ z))).trans (g5 t ht hn)⟩
theorem tk_un_set {TY : tk_TT} {mods : List (Nat × Nat)} {tw : List Nat} {ws : va_W} {j x t : Nat} {e e' : va_E} (hw : ws[j]? = some (x, e)) (hj : tw[j]? = some t) (h : ∀ i, ¬ (t, tk_rg TY t i) ∈ mods → tk_pos e' i = tk_pos e i) (hs : ∃ i, (t, tk_rg TY t i) ∈ mods) : tk_un TY mods tw ws (ws.set j (x, e')) := by
  intro j' y e2 hj'
  by_cases ej : j = j'
  · subst ej
    rw [hw] at hj'
    cases hj'
    refine ⟨e', List.getElem?_set_self (List.getElem?_eq_some_iff.mp hw).1, fun i t' ht' hn => ?_, fun t' ht' hn => ?_⟩
    · rw [hj] at ht'
      cases ht'
      exact h i hn
    · rw [hj] at ht'
      cases ht'
      obtain ⟨i, hi⟩ := hs
      exact absurd hi (hn i)
  · exact ⟨e2, by rw [List.getElem?_set_ne ej]; exact hj', fun _ _ _ _ => rfl, fun _ _ _ => rfl⟩
/-- X holds on: steps write no place that it speaks of -/
def tk_ux (TY : tk_TT) (X : va_W → Prop) (mods : List (Nat × Nat)) (tw : List Nat) (ws ws' : va_W) : Prop := tk_un TY mods tw ws ws' ∧ X ws'
def tk_xs (TY : tk_TT) (X : va_W → Prop) (ads tw : List Nat) : Prop := (∀ (m : List (Nat × Nat)) (ws ws' : va_W), ws'.map Prod.fst = ws.map Prod.fst → (∀ z ∈ m, ¬ z ∈ TY.2.2.2.1) → tk_un TY m tw ws ws' → X ws → X ws') ∧ ∀ (st : tk_S) (t r i x j : Nat) (key v : tk_V) (e e' : va_E) (u : Value) (vals : List Int) (rads : List Nat) (ws : va_W) (A : Nat → Prop), TY.2.2.2.2 st t r key v = true → tk_H st.2.2.1 vals → rk_A2 (fun t y => tk_ty ads tw t y) st.2.2.2.1 rads → (∀ z ∈ st.2.2.2.2, tk_fk vals rads ws z) → va_D A ws → ws.map Prod.fst = ads → rads[r]? = some x → tk_num vals key = some (i : Int) → ws[j]? = some (x, e) → tw[j]? = some t → tk_g vals rads v u → tk_pos e' i = some u → (∀ i', ¬ i' = i → tk_pos e' i' = tk_pos e i') → X ws → X (ws.set j (x, e'))
def tk_in (l : List (Nat × Nat)) (t r : Nat) : Bool := l.any (fun z => Nat.beq z.1 t && Nat.beq z.2 r)
theorem tk_in_ok {l : List (Nat × Nat)} {t r : Nat} : tk_in l t r = true ↔ (t, r) ∈ l := by
  unfold tk_in
  rw [List.any_eq_true]
  constructor
  · rintro ⟨z, z1, z2⟩
    rw [Bool.and_eq_true] at z2
    have e1 : z = (t, r) := Prod.ext (Nat.eq_of_beq_eq_true z2.1) (Nat.eq_of_beq_eq_true z2.2)
    rw [← e1]
    exact z1
  · intro h
    exact ⟨_, h, by simp⟩
/-- a place may be written -/
def tk_mw (TY : tk_TT) (mods : List (Nat × Nat)) (t r : Nat) : Bool := tk_in mods t r && !(tk_in TY.2.2.2.1 t r)
theorem tk_ux_set {TY : tk_TT} {X : va_W → Prop} {mods : List (Nat × Nat)} {ads tw : List Nat} (hXs : tk_xs TY X ads tw) {ws0 ws : va_W} {j x t r : Nat} {e e' : va_E} (hu : tk_ux TY X mods tw ws0 ws) (hw : ws[j]? = some (x, e)) (hj : tw[j]? = some t) (hm : tk_mw TY mods t r = true) (h : ∀ i, ¬ tk_rg TY t i = r → tk_pos e' i = tk_pos e i) (hr : ∃ i, tk_rg TY t i = r) : tk_ux TY X mods tw ws0 (ws.set j (x, e')) := by
  unfold tk_mw at hm
  rw [Bool.and_eq_true] at hm
  have h1 := tk_in_ok.mp hm.1
  have h2 : ¬ (t, r) ∈ TY.2.2.2.1 := fun z => by rw [tk_in_ok.mpr z] at hm; cases hm.2
  have hone : tk_un TY [(t, r)] tw ws (ws.set j (x, e')) := tk_un_set hw hj (fun i hn => h i (fun z => hn (by rw [z]; exact List.mem_singleton.mpr rfl))) (by
    obtain ⟨i, hi⟩ := hr
    exact ⟨i, by rw [hi]; exact List.mem_singleton.mpr rfl⟩)
  exact ⟨tk_un_tr hu.1 hone (fun z hz => by rw [List.mem_singleton.mp hz]; exact h1), hXs.1 _ _ _ (rk_map_set hw) (fun z hz => by rw [List.mem_singleton.mp hz]; exact h2) hone hu.2⟩
def tk_hr (mods : List (Nat × Nat)) (ws0 : va_W) (TY : tk_TT) (ro : Nat → Nat → Int → Prop) (X : va_W → Prop) (ads tw : List Nat) (s : State) (D : va_G) (cl : List vw_C) (Ad : Nat → Prop) (vals0 : List Int) (rads0 : List Nat) : tk_Hr := fun vals rads H locs rf fa =>
  (∃ l, vals = vals0 ++ l) ∧ (∃ l, rads = rads0 ++ l) ∧ rk_A2 (fun t y => tk_ty ads tw t y) rf rads ∧ ∃ ws : va_W, ws.map Prod.fst = ads ∧ rk_A2 (fun t (q : Nat × va_E) => tk_cl TY ro ads tw s t q.2) tw ws ∧ va_P D cl ws H ∧ va_D Ad ws ∧ va_S Ad s.heap H locs ∧ tk_ux TY X mods tw ws0 ws ∧ ∀ q ∈ fa, tk_fk vals rads ws q
theorem tk_hr_gr {mods : List (Nat × Nat)} {ws0 : va_W} {TY : tk_TT} {ro : Nat → Nat → Int → Prop} {X : va_W → Prop} {ads tw : List Nat} {s : State} {D : va_G} {cl : List vw_C} {Ad : Nat → Prop} {vals0 : List Int} {rads0 : List Nat} : tk_gr (tk_hr mods ws0 TY ro X ads tw s D cl Ad vals0 rads0) := by
  intro vals l rads H locs rf fa h
  obtain ⟨⟨k, h1⟩, h2, h3, ws, h4, h5, h6, h7, h8, hun, h9⟩ := h
  refine ⟨⟨k ++ l, by rw [h1, List.append_assoc]⟩, h2, h3, ws, h4, h5, h6, h7, h8, hun, fun q hq => ?_⟩
  have := tk_fk_grow l [] (h9 q hq)
  rw [List.append_nil] at this
  exact this
/-- a cell by its reference -/
theorem tk_cell {TY : tk_TT} {ro : Nat → Nat → Int → Prop} {ads tw : List Nat} {s : State} {ws : va_W} {t y : Nat} (h4 : ws.map Prod.fst = ads) (h5 : rk_A2 (fun t (q : Nat × va_E) => tk_cl TY ro ads tw s t q.2) tw ws) (h : tk_ty ads tw t y) : ∃ (j : Nat) (e : va_E), ws[j]? = some (y, e) ∧ tw[j]? = some t ∧ tk_cl TY ro ads tw s t e := by
  obtain ⟨j, h1, h2⟩ := h
  obtain ⟨q, g1, g2⟩ := h5.get h2
  rw [← h4, List.getElem?_map, g1] at h1
  cases h1
  exact ⟨j, q.2, g1, h2, g2⟩
/-- a field's place -/
def tk_ky (k : Nat) : tk_V := (0, 0, 0, (k : Int))
def tk_kq (a b : tk_V) : Bool := Nat.beq a.2.1 b.2.1 && (Nat.beq a.2.2.1 b.2.2.1 && decide (a.2.2.2 = b.2.2.2))
theorem tk_kq_ok {a b : tk_V} (h : tk_kq a b = true) (vals : List Int) : tk_num vals a = tk_num vals b := by
  unfold tk_kq at h
  rw [Bool.and_eq_true, Bool.and_eq_true] at h
  have h1 := Nat.eq_of_beq_eq_true h.1
  have h2 := Nat.eq_of_beq_eq_true h.2.1
  have h3 := of_decide_eq_true h.2.2
  unfold tk_num
  rw [h1, h2, h3]
def tk_fl : tk_FA → Nat → tk_V → Option tk_V
  | [], _, _ => none
  | q :: r, a, k => cond (Nat.beq q.1 a) (cond (tk_kq q.2.1 k) (some q.2.2) (tk_fl r a k)) (tk_fl r a k)
theorem tk_fl_mem {a : Nat} {k v : tk_V} : ∀ {fa : tk_FA}, tk_fl fa a k = some v → ∃ k', tk_kq k' k = true ∧ (a, k', v) ∈ fa := by
  intro fa
  induction fa with
  | nil => intro h; cases h
  | cons q r ih =>
    intro h
    unfold tk_fl at h
    cases h1 : Nat.beq q.1 a with
    | false => rw [h1] at h; obtain ⟨k', g1, g2⟩ := ih h; exact ⟨k', g1, List.mem_cons_of_mem _ g2⟩
    | true =>
      rw [h1] at h
      cases h2 : tk_kq q.2.1 k with
      | false => rw [h2] at h; obtain ⟨k', g1, g2⟩ := ih h; exact ⟨k', g1, List.mem_cons_of_mem _ g2⟩
      | true =>
        rw [h2] at h
        have e : q.2.2 = v := Option.some.inj (show some q.2.2 = some v from h)
        refine ⟨q.2.1, h2, ?_⟩
        rw [← Nat.eq_of_beq_eq_true h1, ← e]
        exact List.mem_cons_self
/-- a fact that is found: what stands there -/
theorem tk_fl_ok {vals : List Int} {rads : List Nat} {ws : va_W} {Ad : Nat → Prop} {fa : tk_FA} {a : Nat} {k v : tk_V} {x i j : Nat} {e : va_E} (h9 : ∀ z ∈ fa, tk_fk vals rads ws z) (h7 : va_D Ad ws) (h : tk_fl fa a k = some v) (hax : rads[a]? = some x) (hk : tk_num vals k = some (i : Int)) (hw : ws[j]? = some (x, e)) : ∃ u, tk_pos e i = some u ∧ tk_g vals rads v u := by
  obtain ⟨k', hk', hm⟩ := tk_fl_mem h
  obtain ⟨y, j', i', e', u, g1, g2, g3, g4, g5⟩ := h9 _ hm
  rw [hax] at g1
  obtain rfl := Option.some.inj g1
  dsimp only at g2
  rw [tk_kq_ok hk', hk] at g2
  have ei : i = i' := by
    have := Option.some.inj g2
    omega
  subst ei
  have hjj := h7.1 j j' _ _ hw g3 rfl
  subst hjj
  rw [hw] at g3
  cases g3
  exact ⟨u, g4, g5⟩
/-- what is loaded of a field, an element: a new value -/
def tk_nw (w : tk_W) (rf : List Nat) (f : tk_F) : Option (tk_V × tk_W × List Nat) := match f.1 with
  | 0 => some ((tk_new w.1 0 f.2).1, ((tk_new w.1 0 f.2).2, w.2), rf)
  | 1 => some ((tk_new w.1 1 f.2).1, ((tk_new w.1 1 f.2).2, w.2), rf)
  | 2 => cond (decide (f.2.2 = 0)) (some ((2, rf.length, 0, 0), w, rf ++ [f.2.1.toNat])) none
  | 4 => some ((tk_new w.1 0 f.2).1, ((tk_new w.1 0 f.2).2, w.2), rf)
  | 5 => some ((tk_new w.1 1 f.2).1, ((tk_new w.1 1 f.2).2, w.2), rf)
  | 6 => some ((tk_new w.1 1 f.2).1, ((tk_new w.1 1 f.2).2, w.2), rf)
  | _ => none
theorem tk_nw_ok {ro : Nat → Nat → Int → Prop} {reg : Nat → Nat → tk_I} {ads tw : List Nat} {w : tk_W} {rf : List Nat} {f : tk_F} {q : tk_V × tk_W × List Nat} {vals : List Int} {rads : List Nat} {t i : Nat} {v : Value} (hH : tk_H w vals) (h3 : rk_A2 (fun t y => tk_ty ads tw t y) rf rads) (hv : tk_fv ro reg ads tw t i f v) (h : tk_nw w rf f = some q) : ∃ l r, tk_H q.2.1 (vals ++ l) ∧ rk_A2 (fun t y => tk_ty ads tw t y) q.2.2 (rads ++ r) ∧ tk_g (vals ++ l) (rads ++ r) q.1 v := by
  have hI : ∀ (k : Nat) (x : Int) (v : Value), f.2.1 ≤ x → x ≤ f.2.2 → (∀ l, tk_num (vals ++ l) (tk_new w.1 k f.2).1 = some x → tk_g (vals ++ l) (rads ++ []) (tk_new w.1 k f.2).1 v) → ∃ l r, tk_H ((tk_new w.1 k f.2).2, w.2) (vals ++ l) ∧ rk_A2 (fun t y => tk_ty ads tw t y) rf (rads ++ r) ∧ tk_g (vals ++ l) (rads ++ r) (tk_new w.1 k f.2).1 v := by
    intro k x v h1 h2 h4
    obtain ⟨-, l, hE, hn⟩ := tk_new_ok k hH.1 h1 h2
    exact ⟨l, [], ⟨hE, tk_C_grow l hH.2⟩, by rw [List.append_nil]; exact h3, h4 l hn⟩
  unfold tk_nw at h
  unfold tk_fv at hv
  split at h
  · next e =>
    cases h
    rw [e] at hv
    obtain ⟨x, rfl, h1, h2⟩ := hv
    exact hI 0 x.toInt _ h1 h2 (fun l hn => tk_gi (tk_new_ok 0 hH.1 h1 h2).1 hn)
  · next e =>
    cases h
    rw [e] at hv
    obtain ⟨x, rfl, h1, h2⟩ := hv
    exact hI 1 x.toInt _ h1 h2 (fun l hn => tk_gl (tk_new_ok 1 hH.1 h1 h2).1 hn)
  · next e =>
    cases h0 : decide (f.2.2 = 0) with
    | false => rw [h0] at h; cases h
    | true =>
    rw [h0] at h
    cases h
    rw [e] at hv
    obtain ⟨y, rfl, h1⟩ := hv
    rw [of_decide_eq_true h0] at h1
    have h1 : tk_ty ads tw f.2.1.toNat y := by simpa using h1
    refine ⟨[], [y], by rw [List.append_nil]; exact hH, rk_A2.push h3 h1, ?_⟩
    show ∃ x : Nat, (rads ++ [y])[rf.length]? = some x ∧ Value.ref y = .ref x
    exact ⟨y, by rw [h3.len]; simp, rfl⟩
  · next e =>
    cases h
    rw [e] at hv
    obtain ⟨x, rfl, h1, h2, -⟩ := hv
    exact hI 0 x.toInt _ h1 h2 (fun l hn => tk_gi (tk_new_ok 0 hH.1 h1 h2).1 hn)
  · next e =>
    cases h
    rw [e] at hv
    obtain ⟨x, rfl, h1, h2, -⟩ := hv
    exact hI 1 x.toInt _ h1 h2 (fun l hn => tk_gl (tk_new_ok 1 hH.1 h1 h2).1 hn)
  · next e =>
    cases h
    rw [e] at hv
    obtain ⟨x, rfl, h1, h2⟩ := hv
    exact hI 1 x.toInt _ h1 h2 (fun l hn => tk_gl (tk_new_ok 1 hH.1 h1 h2).1 hn)
  · cases h
/-- getfield -/
def tk_f_get (TY : tk_TT) (pc kd ci k : Nat) : tk_Fn := fun st => match st.2.1 with
  | a :: r => if a.1 = 2 ∧ kd ≤ 2 then (match st.2.2.2.1[a.2.1]? with
    | some t => (match TY.1[t]? with
      | some (.inl o) => if ci = o.1 then (match tk_fl st.2.2.2.2 a.2.1 (tk_ky k) with
        | some v => some [(pc, (st.1, tk_nm st.2.2.1.1 v :: r, st.2.2))]
        | none => (match o.2[k]? with
          | some f => (match tk_nw st.2.2.1 st.2.2.2.1 f with
            | some q => some [(pc, (st.1, q.1 :: r, q.2.1, q.2.2, (a.2.1, tk_ky k, q.1) :: st.2.2.2.2))]
            | none => none)
          | none => none)) else none
      | _ => none)
    | none => none) else none
  | _ => none
section TKH
variable {p : Program} {l : Launch} {e : Env} {R : Room} {s : State} {m : MethodId} {args : Array Value} {below : List Frame} {meth : Method} {c : Code} {Q : State → Prop} {cc : ByteArray} {D : va_G} {cl : List vw_C} {Ad : Nat → Prop} {nL : Nat} {vals0 : List Int} {rads0 : List Nat}
variable {mods : List (Nat × Nat)} {ws0 : va_W} {tbl xw : List Jvm.Cond} {fty : rk_F} {cln : List String} {own : String} {lk : List (Nat × Nat × Nat × Nat)} {cs : List (Nat × Value)} {TY : tk_TT} {ro : Nat → Nat → Int → Prop} {X : va_W → Prop} {ads tw : List Nat}
set_option maxHeartbeats 4000000 in
theorem tk_get_ok (hx : p.tables.exec = Jvm.exec) (hb : c.code = cc) (hF : rk_Fr s m args meth D cl Ad tbl xw fty cln own lk cs) {pc idx kd ci k : Nat} {st : tk_S} {res : List (Nat × tk_S)} (hlk1 : rk_lk lk idx = some (kd, ci, k)) (hdg : decode cc pc = .ok (.getfield idx, 3)) (h : tk_f_get TY (pc + 3) kd ci k st = some res) (kk : ∀ q ∈ res, tk_St (rk_KW p l e R s m args below meth c Q) nL (tk_hr mods ws0 TY ro X ads tw s D cl Ad vals0 rads0) q.1 q.2) : tk_St (rk_KW p l e R s m args below meth c Q) nL (tk_hr mods ws0 TY ro X ads tw s D cl Ad vals0 rads0) pc st := by
  obtain ⟨hts, hxw, hown, hK, hA, hcl, hlk, hini, hac, hcs⟩ := hF
  obtain ⟨lo, sk, w, rf, fa⟩ := st
  intro vals rads H locs ls stk lc hH hR hl hL hS
  dsimp only at hH hR hL hS
  unfold tk_f_get at h
  split at h
  · next a r e1 =>
    dsimp only at e1
    subst e1
    split at h
    · next hk =>
      split at h
      · next t ht =>
        split at h
        · next o hT =>
          split at h
          · next hci =>
            dsimp only at ht
            obtain ⟨va, k1, rfl, hg, hS1⟩ := hS.cons
            obtain ⟨x, hax, rfl⟩ := tk_g2 hg hk.1
            obtain ⟨hv0, hr0, h3, ws, h4, h5, h6, h7, h8, hun, h9⟩ := id hR
            obtain ⟨x', hax', hty⟩ := h3.get ht
            rw [hax] at hax'
            cases hax'
            obtain ⟨j, e1, hw, hj, hc1⟩ := tk_cell h4 h5 hty
            unfold tk_cl at hc1
            rw [hT] at hc1
            obtain ⟨vs, rfl, hvl, hvs⟩ := hc1
            have fin : ∀ v, vs[k]? = some v → rk_KW p l e R s m args below meth c Q (pc + 3) ls (v :: k1) H locs 0 0 → rk_KW p l e R s m args below meth c Q pc ls (.ref x :: k1) H locs 0 0 := by
              intro v hv fin
              subst hci
              have hr := hlk _ (rk_lk_mem hlk1)
              rcases (show kd = 0 ∨ kd = 1 ∨ kd = 2 by omega) with rfl | rfl | rfl
              · obtain ⟨q, hq, hkN, hm⟩ := hr
                exact va_get (C := q.1) (T := q.2.1) (N := q.2.2) hx hb hts (hcl _ _ hq).1 hown hK h6 j hw hq k hkN (hts _ hm) (fun _ h9 => h9) hv hdg fin
              · obtain ⟨q, host, hq, hkN, hm⟩ := hr
                exact va_getN (C := q.1) (T := q.2.1) (N := q.2.2) hx hb hts (hcl _ _ hq).1 hown hK h6 j hw hq k hkN (va_Nw.use rfl (hxw _ hm)) (fun _ h9 => h9) hv hdg fin
              · obtain ⟨q, hq, hkN, hm, -⟩ := hr
                exact va_get (C := q.1) (T := q.2.1) (N := q.2.2) hx hb hts (hcl _ _ hq).1 hown hK h6 j hw hq k hkN (hts _ hm) (fun _ h9 => h9) hv hdg fin
            split at h
            · next v0 hv0' =>
              cases h
              obtain ⟨v, g3, g4⟩ := tk_fl_ok h9 h7 hv0' hax (i := k) rfl hw
              exact fin v g3 (kk _ (List.mem_singleton.mpr rfl) vals rads H locs ls _ lc hH hR hl hL ⟨tk_nm_ok hH.1 g4, hS1⟩)
            · split at h
              · next f hf =>
                split at h
                · next q hq =>
                  cases h
                  have hkl : k < vs.length := by rw [hvl]; exact (List.getElem?_eq_some_iff.mp hf).1
                  have hv : vs[k]? = some vs[k] := List.getElem?_eq_getElem hkl
                  obtain ⟨l1, r1, q1, q2, q3⟩ := tk_nw_ok hH h3 (hvs k f _ hf hv) hq
                  obtain ⟨kv, hv0⟩ := hv0
                  obtain ⟨kr, hr0⟩ := hr0
                  refine fin _ hv (kk _ (List.mem_singleton.mpr rfl) (vals ++ l1) (rads ++ r1) H locs ls _ lc q1 ⟨⟨kv ++ l1, by rw [hv0, List.append_assoc]⟩, ⟨kr ++ r1, by rw [hr0, List.append_assoc]⟩, q2, ws, h4, h5, h6, h7, h8, hun, fun z hz => ?_⟩ hl (hL.grow l1 r1) ⟨q3, tk_skG hS1 l1 r1⟩)
                  rcases List.mem_cons.mp hz with rfl | hz
                  · exact ⟨x, j, k, .inr (o.1, vs), vs[k], by rw [List.getElem?_append_left (List.getElem?_eq_some_iff.mp hax).1]; exact hax, rfl, hw, hv, q3⟩
                  · exact tk_fk_grow l1 r1 (h9 z hz)
                · cases h
              · cases h
          · cases h
        · cases h
      · cases h
    · cases h
  · cases h
end TKH
end MH28_3
