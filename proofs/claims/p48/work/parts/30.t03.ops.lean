/-! ===== tk: the other operations on ints ===== -/
def tk_Gand (I J : tk_I) : tk_I := if 0 ≤ I.1 ∧ 0 ≤ J.1 then (0, min I.2 J.2) else rk_iand I J
theorem tk_s_and : rk_sound2 (fun x y => x &&& y) tk_Gand := by
  intro x y I J h1 h2 h3 h4
  unfold tk_Gand
  split
  · next h =>
    have e : (x &&& y).toBitVec.toNat = x.toBitVec.toNat &&& y.toBitVec.toNat := by
      rw [Int32.toBitVec_and, BitVec.toNat_and]
    have l1 : x.toBitVec.toNat &&& y.toBitVec.toNat ≤ x.toBitVec.toNat := Nat.and_le_left
    have l2 : x.toBitVec.toNat &&& y.toBitVec.toNat ≤ y.toBitVec.toNat := Nat.and_le_right
    obtain ⟨a1, a2⟩ := rk_nn (x := x) (by omega)
    obtain ⟨b1, b2⟩ := rk_nn (x := y) (by omega)
    have := rk_of_small (x := x &&& y) (by omega)
    dsimp only
    omega
  · exact rk_s_and x y I J h1 h2 h3 h4
/-- the power of two above -/
def tk_up (n : Int) : Nat := 2 ^ (n.toNat.log2 + 1)
theorem tk_up_ok {x : Int32} {n : Int} (h0 : 0 ≤ x.toInt) (h : x.toInt ≤ n) : x.toBitVec.toNat < tk_up n := by
  obtain ⟨a1, a2⟩ := rk_nn (x := x) h0
  exact Nat.lt_of_le_of_lt (by omega : x.toBitVec.toNat ≤ n.toNat) Nat.lt_log2_self
def tk_Gor (I J : tk_I) : tk_I := if 0 ≤ I.1 ∧ 0 ≤ J.1 ∧ tk_up (max I.2 J.2) ≤ 2147483648 then (0, (tk_up (max I.2 J.2) : Int) - 1) else rk_full
theorem tk_s_or : rk_sound2 (fun x y => x ||| y) tk_Gor := by
  intro x y I J h1 h2 h3 h4
  unfold tk_Gor
  split
  · next h =>
    have e : (x ||| y).toBitVec.toNat = x.toBitVec.toNat ||| y.toBitVec.toNat := by
      rw [Int32.toBitVec_or, BitVec.toNat_or]
    have p1 := tk_up_ok (x := x) (n := max I.2 J.2) (by omega) (by omega)
    have p2 := tk_up_ok (x := y) (n := max I.2 J.2) (by omega) (by omega)
    have p3 : x.toBitVec.toNat ||| y.toBitVec.toNat < tk_up (max I.2 J.2) := Nat.or_lt_two_pow p1 p2
    have := rk_of_small (x := x ||| y) (by omega)
    dsimp only
    omega
  · exact rk_full_ok _
theorem tk_s_xor : rk_sound2 (fun x y => x ^^^ y) tk_Gor := by
  intro x y I J h1 h2 h3 h4
  unfold tk_Gor
  split
  · next h =>
    have e : (x ^^^ y).toBitVec.toNat = x.toBitVec.toNat ^^^ y.toBitVec.toNat := by
      rw [Int32.toBitVec_xor, BitVec.toNat_xor]
    have p1 := tk_up_ok (x := x) (n := max I.2 J.2) (by omega) (by omega)
    have p2 := tk_up_ok (x := y) (n := max I.2 J.2) (by omega) (by omega)
    have p3 : x.toBitVec.toNat ^^^ y.toBitVec.toNat < tk_up (max I.2 J.2) := Nat.xor_lt_two_pow p1 p2
    have := rk_of_small (x := x ^^^ y) (by omega)
    dsimp only
    omega
  · exact rk_full_ok _
def tk_Gshr (I J : tk_I) : tk_I := if 0 ≤ I.1 then (0, I.2) else rk_full
theorem tk_s_shr : rk_sound2 (fun x y => x >>> (y &&& 31)) tk_Gshr := by
  intro x y I J h1 h2 h3 h4
  unfold tk_Gshr
  split
  · next h =>
    have hx : 0 ≤ x.toInt := by omega
    dsimp only
    rw [pk_shr x (y &&& 31) _ rfl, Int.shiftRight_eq_div_pow]
    exact ⟨Int.ediv_nonneg hx (Int.natCast_nonneg _), Int.le_trans (Int.ediv_le_self _ hx) h2⟩
  · exact rk_full_ok _
theorem tk_s_ushr : rk_sound2 (fun x y => (x.toUInt32 >>> (y.toUInt32 &&& Int32.toUInt32 31)).toInt32) tk_Gshr := by
  intro x y I J h1 h2 h3 h4
  unfold tk_Gshr
  split
  · next h =>
    obtain ⟨a1, a2⟩ := rk_nn (x := x) (by omega)
    have e := pk_ushr x y _ rfl
    have l := Nat.div_le_self x.toBitVec.toNat (2 ^ ((y.toUInt32 &&& Int32.toUInt32 31).toBitVec % 32).toNat)
    have := rk_of_small (x := (x.toUInt32 >>> (y.toUInt32 &&& Int32.toUInt32 31)).toInt32) (by omega)
    dsimp only
    omega
  · exact rk_full_ok _
theorem tk_smod : ∀ k, k < 32 → ((nI k &&& 31).toBitVec.smod 32).toNat = k := by decide +kernel
def tk_Gshl (I J : tk_I) : tk_I := if 0 ≤ I.1 ∧ 0 ≤ J.1 ∧ J.2 < 31 ∧ I.2.toNat * 2 ^ J.2.toNat < 2147483648 then (0, ((I.2.toNat * 2 ^ J.2.toNat : Nat) : Int)) else rk_full
theorem tk_s_shl : rk_sound2 (fun x y => x <<< (y &&& 31)) tk_Gshl := by
  intro x y I J h1 h2 h3 h4
  unfold tk_Gshl
  split
  · next h =>
    obtain ⟨a1, a2⟩ := rk_nn (x := x) (by omega)
    obtain ⟨k, hk, rfl⟩ := nI_of (x := y) (by rw [Int32.lt_iff_toInt_lt, Int32.toInt_zero]; omega)
    rw [nI_toInt hk] at h3 h4
    have e := pk_shl x (nI k &&& 31) k (tk_smod k (by omega))
    have q1 : 2 ^ k ≤ 2 ^ J.2.toNat := Nat.pow_le_pow_right (by decide) (by omega)
    have q2 : x.toBitVec.toNat * 2 ^ k ≤ I.2.toNat * 2 ^ J.2.toNat := Nat.mul_le_mul (by omega) q1
    rw [Nat.mod_eq_of_lt (by omega)] at e
    have := rk_of_small (x := x <<< (nI k &&& 31)) (by omega)
    dsimp only
    omega
  · exact rk_full_ok _
def tk_Gdiv (I J : tk_I) : tk_I := if 0 ≤ I.1 ∧ 0 < J.1 then (0, I.2 / J.1) else rk_full
theorem tk_s_div : rk_sound2 (fun x y => x / y) tk_Gdiv := by
  intro x y I J h1 h2 h3 h4
  unfold tk_Gdiv
  split
  · next h =>
    obtain ⟨a, ha, rfl⟩ := nI_of (x := x) (by rw [Int32.lt_iff_toInt_lt, Int32.toInt_zero]; omega)
    obtain ⟨d, hd, rfl⟩ := nI_of (x := y) (by rw [Int32.lt_iff_toInt_lt, Int32.toInt_zero]; omega)
    rw [nI_toInt hd] at h3 h4
    rw [nI_toInt ha] at h1 h2
    dsimp only
    rw [pk_div ha (by omega) hd, nI_toInt (Nat.lt_of_le_of_lt (Nat.div_le_self _ _) ha)]
    refine ⟨Int.natCast_nonneg _, ?_⟩
    rw [Int.le_ediv_iff_mul_le (by omega)]
    have g1 : ((a / d : Nat) : Int) * J.1 ≤ ((a / d : Nat) : Int) * (d : Int) := Int.mul_le_mul_of_nonneg_left h3 (Int.natCast_nonneg _)
    have g2 : ((a / d : Nat) : Int) * (d : Int) ≤ (a : Int) := by
      rw [← Int.natCast_mul]
      exact Int.ofNat_le.mpr (Nat.div_mul_le_self a d)
    omega
  · exact rk_full_ok _
def tk_Grem (I J : tk_I) : tk_I := if 0 ≤ I.1 ∧ 0 < J.1 then (0, min I.2 (J.2 - 1)) else rk_full
theorem tk_s_rem : rk_sound2 (fun x y => x - x / y * y) tk_Grem := by
  intro x y I J h1 h2 h3 h4
  unfold tk_Grem
  split
  · next h =>
    obtain ⟨a, ha, rfl⟩ := nI_of (x := x) (by rw [Int32.lt_iff_toInt_lt, Int32.toInt_zero]; omega)
    obtain ⟨d, hd, rfl⟩ := nI_of (x := y) (by rw [Int32.lt_iff_toInt_lt, Int32.toInt_zero]; omega)
    rw [nI_toInt hd] at h3 h4
    rw [nI_toInt ha] at h1 h2
    have h0 : 0 < d := by omega
    dsimp only
    rw [pk_rem ha h0 hd]
    have := Nat.mod_lt a h0
    have := Nat.mod_le a d
    rw [nI_toInt (by omega)]
    omega
  · exact rk_full_ok _
/-- two ints, an int -/
def tk_op2 (f : Int32 → Int32 → Int32) (G : tk_I → tk_I → tk_I) (env : List tk_I) (a b : tk_V) : Option tk_VE := if a.2.1 = 0 ∧ b.2.1 = 0 then some ((0, 0, 0, (f (Int32.ofInt a.2.2.2) (Int32.ofInt b.2.2.2)).toInt), env) else match tk_iv env a, tk_iv env b with
  | some I, some J => some (tk_new env 0 (G I J))
  | _, _ => none
theorem tk_op2_ok {f : Int32 → Int32 → Int32} {G : tk_I → tk_I → tk_I} (hs : rk_sound2 f G) {env : List tk_I} {vals : List Int} {a b : tk_V} {x y : Int32} {q : tk_VE} (hE : tk_E env vals) (ha : tk_num vals a = some x.toInt) (hb : tk_num vals b = some y.toInt) (h : tk_op2 f G env a b = some q) : tk_is 0 vals q (f x y).toInt := by
  unfold tk_op2 at h
  split at h
  · next e =>
    cases h
    rw [← tk_lit ha e.1, ← tk_lit hb e.2, Int32.ofInt_toInt, Int32.ofInt_toInt]
    exact tk_is_old 0 hE rfl rfl
  · split at h
    · next I J hI hJ =>
      cases h
      have p1 := tk_iv_ok hE ha hI
      have p2 := tk_iv_ok hE hb hJ
      have := hs x y I J p1.1 p1.2 p2.1 p2.2
      exact tk_is_new 0 hE this.1 this.2
    · cases h
/-- one int, an int -/
def tk_op1 (f : Int32 → Int32) (G : tk_I → tk_I) (env : List tk_I) (a : tk_V) : Option tk_VE := if a.2.1 = 0 then some ((0, 0, 0, (f (Int32.ofInt a.2.2.2)).toInt), env) else match tk_iv env a with
  | some I => some (tk_new env 0 (G I))
  | none => none
theorem tk_op1_ok {f : Int32 → Int32} {G : tk_I → tk_I} (hs : ∀ (x : Int32) (I : tk_I), I.1 ≤ x.toInt → x.toInt ≤ I.2 → (G I).1 ≤ (f x).toInt ∧ (f x).toInt ≤ (G I).2) {env : List tk_I} {vals : List Int} {a : tk_V} {x : Int32} {q : tk_VE} (hE : tk_E env vals) (ha : tk_num vals a = some x.toInt) (h : tk_op1 f G env a = some q) : tk_is 0 vals q (f x).toInt := by
  unfold tk_op1 at h
  split at h
  · next e =>
    cases h
    rw [← tk_lit ha e, Int32.ofInt_toInt]
    exact tk_is_old 0 hE rfl rfl
  · split at h
    · next I hI =>
      cases h
      have p1 := tk_iv_ok hE ha hI
      have := hs x I p1.1 p1.2
      exact tk_is_new 0 hE this.1 this.2
    · cases h
def tk_Gneg (I : tk_I) : tk_I := if -2147483648 < I.1 then (-I.2, -I.1) else rk_full
theorem tk_s_neg (x : Int32) (I : tk_I) (h1 : I.1 ≤ x.toInt) (h2 : x.toInt ≤ I.2) : (tk_Gneg I).1 ≤ (-x).toInt ∧ (-x).toInt ≤ (tk_Gneg I).2 := by
  unfold tk_Gneg
  split
  · next h =>
    obtain ⟨f1, f2⟩ := rk_full_ok x
    dsimp only [rk_full] at f1 f2
    have e : (-x).toInt = -x.toInt := by
      rw [Int32.toInt_neg]
      apply Int.bmod_eq_of_le <;> omega
    dsimp only
    omega
  · exact rk_full_ok _
/-- two longs, a long of which nothing is known -/
def tk_lop (f : Int64 → Int64 → Int64) (env : List tk_I) (a b : tk_V) : tk_VE := if a.2.1 = 0 ∧ b.2.1 = 0 then ((1, 0, 0, (f (Int64.ofInt a.2.2.2) (Int64.ofInt b.2.2.2)).toInt), env) else tk_new env 1 (tk_rng 1)
theorem tk_lrng (x : Int64) : (tk_rng 1).1 ≤ x.toInt ∧ x.toInt ≤ (tk_rng 1).2 := by
  have h1 := Int64.le_toInt x
  have h2 := Int64.toInt_le x
  exact ⟨h1, h2⟩
theorem tk_lop_ok {f : Int64 → Int64 → Int64} {env : List tk_I} {vals : List Int} {a b : tk_V} {x y : Int64} (hE : tk_E env vals) (ha : tk_num vals a = some x.toInt) (hb : tk_num vals b = some y.toInt) : tk_is 1 vals (tk_lop f env a b) (f x y).toInt := by
  unfold tk_lop
  split
  · next e =>
    rw [← tk_lit ha e.1, ← tk_lit hb e.2, Int64.ofInt_toInt, Int64.ofInt_toInt]
    exact tk_is_old 1 hE rfl rfl
  · exact tk_is_new 1 hE (tk_lrng _).1 (tk_lrng _).2
