/-! ===== halves of a set of WALKERS ===== -/
theorem bi_nat {S k : Nat} (hk : k < 32) : (nI S).toBitVec.getLsbD k = S.testBit k := by
  show (BitVec.ofNat 32 S).getLsbD k = _
  rw [BitVec.getLsbD_ofNat, decide_eq_true hk, Bool.true_and]
theorem bi_set {S k : Nat} (hk : k < 32) : (nI S >>> (nI k &&& 31)) &&& 1 = if S.testBit k = true then 1 else 0 := by
  rw [bi_v _ hk, bi_nat hk]
theorem hf_and (p q : Nat) : nI p &&& nI q = nI (p &&& q) := by
  apply Int32.toBitVec_inj.mp
  rw [Int32.toBitVec_and]
  apply BitVec.eq_of_getLsbD_eq
  intro i hi
  rw [BitVec.getLsbD_and, bi_nat hi, bi_nat hi, bi_nat hi, Nat.testBit_and]
theorem hf_or (p q : Nat) : nI p ||| nI q = nI (p ||| q) := by
  apply Int32.toBitVec_inj.mp
  rw [Int32.toBitVec_or]
  apply BitVec.eq_of_getLsbD_eq
  intro i hi
  rw [BitVec.getLsbD_or, bi_nat hi, bi_nat hi, bi_nat hi, Nat.testBit_or]
theorem hf_xor (p q : Nat) : nI p ^^^ nI q = nI (p ^^^ q) := by
  apply Int32.toBitVec_inj.mp
  rw [Int32.toBitVec_xor]
  apply BitVec.eq_of_getLsbD_eq
  intro i hi
  rw [BitVec.getLsbD_xor, bi_nat hi, bi_nat hi, bi_nat hi, Nat.testBit_xor]
theorem hf_neg : ∀ S, S < 256 → -nI S = nI (4294967296 - S) := by decide +kernel
theorem hf_m1 : (-1 : Int32) = nI 4294967295 := by decide
theorem hf_sub {s r : Nat} (hr : r < 256) : nI s - nI r = nI (s + (4294967296 - r)) := by
  rw [Int32.sub_eq_add_neg, hf_neg r hr, nI_add]
theorem hf_inj {x y : Nat} (hx : x < 2147483648) (hy : y < 2147483648) (h : nI x = nI y) : x = y := by
  have e := congrArg Int32.toInt h
  rw [nI_i32 hx, nI_i32 hy] at e
  omega
/-- the lowest WALKER of a set -/
def lbn (S : Nat) : Nat := S &&& (4294967296 - S)
/-- the parts that may be told, as they stand -/
def cnd (S : Nat) : List Nat := (List.range' 1 S).filter (fun p => Nat.beq (p &&& S) p && !Nat.beq (p &&& lbn S) 0)
/-- what of the others may be with the lowest -/
def sbl (S : Nat) : List Nat := (List.range 256).filter (fun t => Nat.beq (t &&& (S ^^^ lbn S)) t)
def chn (S r : Nat) : List Nat → Bool
  | [] => true
  | s :: t => Nat.beq ((s + (4294967296 - r)) &&& r) (t.headD 0) && (Nat.beq (t.headD 0) 0 == t.isEmpty) && Nat.beq (lbn S ||| s) (lbn S + s) && Nat.blt s 256 && chn S r t
theorem hf_chk : ∀ S, S < 256 → (0 < S → chn S (S ^^^ lbn S) (sbl S) = true ∧ (sbl S).map (fun t => lbn S + t) = cnd S ∧ (sbl S).headD 1 = 0 ∧ (sbl S).length ≤ 256 ∧ lbn S < 256 ∧ S ^^^ lbn S < 256) := by decide +kernel
theorem hf_not : ∀ S, S < 256 → ∀ p, p < 256 → Nat.beq (p &&& (S ^^^ 4294967295)) 0 = Nat.beq (p &&& S) p ∧ (p &&& S = p → S &&& (p ^^^ 4294967295) = S ^^^ p) := by decide +kernel
def absI (x : Int32) : Int32 := if 0 ≤ x then x else 0 - x
/-- what a set weighs -/
def wI (wt : Nat → Int32) : Nat → Nat → Int32
  | 0, _ => 0
  | n + 1, s => wI wt n s + (if s.testBit n = true then wt n else 0)
def fC (wt : Nat → Int32) (n S p : Nat) : Int32 := absI (wI wt n S - 2 * wI wt n p)
def hsC (f : Nat → Int32) (z : Nat × Int32) (p : Nat) : Nat × Int32 := match fx_cb .ge (f p) z.2 with
  | true => z
  | false => (p, f p)
def bC (wt : Nat → Int32) (n S : Nat) : Nat := ((cnd S).foldl (hsC (fC wt n S)) (S, wI wt n S)).1
def fM (wt : Nat → Int32) (n S p : Nat) : Int32 := absI (wI wt n p - wI wt n (S ^^^ p))
def hsM (f : Nat → Int32) (bo : Option Nat) (p : Nat) : Option Nat := match bo with
  | none => some p
  | some b => (match fx_cb .ge (f p) (f b) with
    | true => some b
    | false => some p)
def ob : Option Nat → Int32
  | none => -1
  | some b => nI b
def bM (wt : Nat → Int32) (n S : Nat) : Option Nat := (cnd S).foldl (hsM (fM wt n S)) none
section HLC
variable {g : Nat → Nat → Int32} {l : Nat → Nat → Int64} {a : Nat → Nat → Int32} {b : Nat → Nat → Int64} {R : fx_M}
theorem hl_wI {n S : Nat} (hn : g 26 7 = nI n) (h8 : n ≤ 8) : hr_T 1 7 [.ref 26, .int (nI S)] (cm g l a b R) (some (.int (wI (a 28) n S))) (cm g l a b R) := by
  have loop : ∀ (r k : Nat), k + r = n → hr_R 0 gk_m7 4 [(3, .int (nI k)), (2, .int (wI (a 28) k S)), (0, .ref 26), (1, .int (nI S))] [] (cm g l a b R) (some (.int (wI (a 28) n S)), cm g l a b R) := by
    intro r
    induction r with
    | zero =>
      intro k hk
      obtain rfl : k = n := by omega
      refine hr_s 3 (pc' := 9) (lc' := [(3, .int (nI k)), (2, .int (wI (a 28) k S)), (0, .ref 26), (1, .int (nI S))]) (stk' := [.int (g 26 7), .int (nI k)]) (mem' := cm g l a b R) (fun _ _ _ => rfl) ?_
      rw [hn]
      refine hr_s 1 (pc' := cond (fx_cb .ge (nI k) (nI k)) 33 12) (lc' := [(3, .int (nI k)), (2, .int (wI (a 28) k S)), (0, .ref 26), (1, .int (nI S))]) (stk' := []) (mem' := cm g l a b R) (fun _ _ _ => rfl) ?_
      rw [show fx_cb .ge (nI k) (nI k) = true from cb_geT (a := k) (b := k) (by omega) (by omega) (by omega)]
      dsimp only [cond]
      refine hr_s 1 (pc' := 34) (lc' := [(3, .int (nI k)), (2, .int (wI (a 28) k S)), (0, .ref 26), (1, .int (nI S))]) (stk' := [.int (wI (a 28) k S)]) (mem' := cm g l a b R) (fun _ _ _ => rfl) ?_
      exact hr_ret (by rfl) (by rfl) (by rfl)
    | succ r ih =>
      intro k hk
      refine hr_s 3 (pc' := 9) (lc' := [(3, .int (nI k)), (2, .int (wI (a 28) k S)), (0, .ref 26), (1, .int (nI S))]) (stk' := [.int (g 26 7), .int (nI k)]) (mem' := cm g l a b R) (fun _ _ _ => rfl) ?_
      rw [hn]
      refine hr_s 1 (pc' := cond (fx_cb .ge (nI k) (nI n)) 33 12) (lc' := [(3, .int (nI k)), (2, .int (wI (a 28) k S)), (0, .ref 26), (1, .int (nI S))]) (stk' := []) (mem' := cm g l a b R) (fun _ _ _ => rfl) ?_
      rw [show fx_cb .ge (nI k) (nI n) = false from cb_geF (a := k) (b := n) (by omega) (by omega) (by omega)]
      dsimp only [cond]
      refine hr_s 9 (pc' := 23) (lc' := [(3, .int (nI k)), (2, .int (wI (a 28) k S)), (0, .ref 26), (1, .int (nI S))]) (stk' := [.int (nI k), .ref 28, .int ((nI S >>> (nI k &&& 31)) &&& 1), .int (wI (a 28) k S)]) (mem' := cm g l a b R) (fun _ _ _ => rfl) ?_
      refine hr_ldI (by rfl) (by rfl) (fx_inN (i := k) (by omega) (by omega)) ?_
      rw [show Int32.toNatClampNeg (nI k) = k from nI_clamp (by omega), bi_set (by omega)]
      refine hr_s 2 (pc' := 26) (lc' := [(3, .int (nI k)), (2, .int (wI (a 28) k S)), (0, .ref 26), (1, .int (nI S))]) (stk' := [.int (wI (a 28) k S + (if S.testBit k = true then 1 else 0) * a 28 k)]) (mem' := cm g l a b R) (fun _ _ _ => rfl) ?_
      rw [show (wI (a 28) k S + (if S.testBit k = true then 1 else 0) * a 28 k : Int32) = wI (a 28) (k + 1) S from by
        show _ = wI (a 28) k S + (if S.testBit k = true then a 28 k else 0)
        by_cases e : S.testBit k = true
        · rw [if_pos e, if_pos e, Int32.one_mul]
        · rw [if_neg e, if_neg e, Int32.zero_mul]]
      refine hr_s 3 (pc' := 4) (lc' := [(3, .int (nI k + 1)), (2, .int (wI (a 28) (k + 1) S)), (0, .ref 26), (1, .int (nI S))]) (stk' := []) (mem' := cm g l a b R) (fun _ _ _ => rfl) ?_
      rw [show nI k + 1 = nI (k + 1) from nI_add k 1]
      exact ih (k + 1) (by omega)
  refine hr_meth (by rfl) (by rfl) ?_
  refine hr_s 4 (pc' := 4) (lc' := [(3, .int 0), (2, .int 0), (0, .ref 26), (1, .int (nI S))]) (stk' := []) (mem' := cm g l a b R) (fun _ _ _ => rfl) ?_
  exact loop n 0 (by omega)
theorem hl_hset {n : Nat} {s : Int32} (hn : g 26 7 = nI n) (h8 : n ≤ 8) : hr_T 1 4 [.ref 26, .int s] (cm g l a b R) (some (.int (if 0 < s.toInt ∧ s.toInt < 2 ^ n then 1 else 0))) (cm g l a b R) := by
  have e2 : ∀ n, n ≤ 8 → ((1 : Int32) <<< (nI n &&& 31)).toInt = 2 ^ n := by decide
  refine hr_meth (by rfl) (by rfl) ?_
  refine hr_s 1 (pc' := 1) (lc' := [(0, .ref 26), (1, .int s)]) (stk' := [.int s]) (mem' := cm g l a b R) (fun _ _ _ => rfl) ?_
  refine hr_s 1 (pc' := cond (fx_cb .le s 0) 18 4) (lc' := [(0, .ref 26), (1, .int s)]) (stk' := []) (mem' := cm g l a b R) (fun _ _ _ => rfl) ?_
  cases h1 : fx_cb .le s 0
  · have p1 : (0 : Int) < s.toInt := tc_leF h1
    refine hr_s 4 (pc' := 10) (lc' := [(0, .ref 26), (1, .int s)]) (stk' := [.int (g 26 7), .int 1, .int s]) (mem' := cm g l a b R) (fun _ _ _ => rfl) ?_
    rw [hn]
    refine hr_s 2 (pc' := cond (fx_cb .ge s ((1 : Int32) <<< (nI n &&& 31))) 18 14) (lc' := [(0, .ref 26), (1, .int s)]) (stk' := []) (mem' := cm g l a b R) (fun _ _ _ => rfl) ?_
    cases h2 : fx_cb .ge s ((1 : Int32) <<< (nI n &&& 31))
    · have p2 := tc_geF h2
      rw [e2 n h8] at p2
      rw [if_pos ⟨p1, p2⟩]
      refine hr_s 2 (pc' := 19) (lc' := [(0, .ref 26), (1, .int s)]) (stk' := [.int 1]) (mem' := cm g l a b R) (fun _ _ _ => rfl) ?_
      exact hr_ret (by rfl) (by rfl) (by rfl)
    · have p2 := tc_ge h2
      rw [e2 n h8] at p2
      rw [if_neg (fun z => by have := z.2; omega)]
      refine hr_s 1 (pc' := 19) (lc' := [(0, .ref 26), (1, .int s)]) (stk' := [.int 0]) (mem' := cm g l a b R) (fun _ _ _ => rfl) ?_
      exact hr_ret (by rfl) (by rfl) (by rfl)
  · have p1 : s.toInt ≤ (0 : Int) := tc_le h1
    rw [if_neg (fun z => by have := z.1; omega)]
    refine hr_s 1 (pc' := 19) (lc' := [(0, .ref 26), (1, .int s)]) (stk' := [.int 0]) (mem' := cm g l a b R) (fun _ _ _ => rfl) ?_
    exact hr_ret (by rfl) (by rfl) (by rfl)
theorem hl_even {n S : Nat} (hn : g 26 7 = nI n) (h8 : n ≤ 8) (h0 : 0 < S) (hS : S < 256) : hr_T 2 13 [.ref 26, .int (nI S)] (cm g l a b R) (some (.int (nI (bC (a 28) n S)))) (cm g l a b R) := by
  obtain ⟨hc, hmap, hhd, hlen, hlb, hrr⟩ := hf_chk S hS h0
  have loop : ∀ (t : List Nat) (s k bb : Nat) (m : Int32), chn S (S ^^^ lbn S) (s :: t) = true → k + (s :: t).length ≤ 256 → hr_R 1 gk_m13 28 [(8, .int (nI k)), (7, .int (nI s)), (6, .int m), (5, .int (nI bb)), (4, .int (nI (S ^^^ lbn S))), (3, .int (nI (lbn S))), (2, .int (wI (a 28) n S)), (0, .ref 26), (1, .int (nI S))] [] (cm g l a b R) (some (.int (nI (((s :: t).map (fun t => lbn S + t)).foldl (hsC (fC (a 28) n S)) (bb, m)).1)), cm g l a b R) := by
    intro t
    induction t with
    | nil =>
      intro s k bb m hch hk
      unfold chn at hch
      obtain ⟨hch1, c5⟩ := Bool.and_eq_true_iff.mp hch
      obtain ⟨hch2, c4⟩ := Bool.and_eq_true_iff.mp hch1
      obtain ⟨hch3, c3⟩ := Bool.and_eq_true_iff.mp hch2
      obtain ⟨c1, cz⟩ := Bool.and_eq_true_iff.mp hch3
      have c1 := Nat.eq_of_beq_eq_true c1
      have c3 := Nat.eq_of_beq_eq_true c3
      have c4 : s + 1 ≤ 256 := Nat.le_of_ble_eq_true c4
      simp only [List.length_cons] at hk
      refine hr_s 2 (pc' := 33) (lc' := [(8, .int (nI k)), (7, .int (nI s)), (6, .int m), (5, .int (nI bb)), (4, .int (nI (S ^^^ lbn S))), (3, .int (nI (lbn S))), (2, .int (wI (a 28) n S)), (0, .ref 26), (1, .int (nI S))]) (stk' := [.int 256, .int (nI k)]) (mem' := cm g l a b R) (fun _ _ _ => rfl) ?_
      refine hr_s 1 (pc' := cond (fx_cb .ge (nI k) 256) 94 36) (lc' := [(8, .int (nI k)), (7, .int (nI s)), (6, .int m), (5, .int (nI bb)), (4, .int (nI (S ^^^ lbn S))), (3, .int (nI (lbn S))), (2, .int (wI (a 28) n S)), (0, .ref 26), (1, .int (nI S))]) (stk' := []) (mem' := cm g l a b R) (fun _ _ _ => rfl) ?_
      rw [show fx_cb .ge (nI k) 256 = false from cb_geF (a := k) (b := 256) (by omega) (by omega) (by omega)]
      dsimp only [cond]
      refine hr_s 6 (pc' := 43) (lc' := [(8, .int (nI k)), (7, .int (nI s)), (6, .int m), (5, .int (nI bb)), (4, .int (nI (S ^^^ lbn S))), (3, .int (nI (lbn S))), (2, .int (wI (a 28) n S)), (0, .ref 26), (1, .int (nI S))]) (stk' := [.int (nI (lbn S) ||| nI s), .ref 26, .int 2, .int (wI (a 28) n S)]) (mem' := cm g l a b R) (fun _ _ _ => rfl) ?_
      rw [hf_or, c3]
      refine hr_ivV (hl_wI (S := lbn S + s) hn h8) (by omega) (by rfl) (by rfl) (by rfl) (by rfl) (by rfl) (by rfl) ?_
      refine hr_s 4 (pc' := 53) (lc' := [(9, .int (fC (a 28) n S (lbn S + s))), (8, .int (nI k)), (7, .int (nI s)), (6, .int m), (5, .int (nI bb)), (4, .int (nI (S ^^^ lbn S))), (3, .int (nI (lbn S))), (2, .int (wI (a 28) n S)), (0, .ref 26), (1, .int (nI S))]) (stk' := []) (mem' := cm g l a b R) (fun _ _ _ => rfl) ?_
      refine hr_s 2 (pc' := 57) (lc' := [(9, .int (fC (a 28) n S (lbn S + s))), (8, .int (nI k)), (7, .int (nI s)), (6, .int m), (5, .int (nI bb)), (4, .int (nI (S ^^^ lbn S))), (3, .int (nI (lbn S))), (2, .int (wI (a 28) n S)), (0, .ref 26), (1, .int (nI S))]) (stk' := [.int m, .int (fC (a 28) n S (lbn S + s))]) (mem' := cm g l a b R) (fun _ _ _ => rfl) ?_
      refine hr_s 1 (pc' := cond (fx_cb .ge (fC (a 28) n S (lbn S + s)) m) 70 60) (lc' := [(9, .int (fC (a 28) n S (lbn S + s))), (8, .int (nI k)), (7, .int (nI s)), (6, .int m), (5, .int (nI bb)), (4, .int (nI (S ^^^ lbn S))), (3, .int (nI (lbn S))), (2, .int (wI (a 28) n S)), (0, .ref 26), (1, .int (nI S))]) (stk' := []) (mem' := cm g l a b R) (fun _ _ _ => rfl) ?_
      have rest : ∀ (b2 : Nat) (m2 : Int32), hr_R 1 gk_m13 70 [(8, .int (nI k)), (7, .int (nI s)), (6, .int m2), (5, .int (nI b2)), (4, .int (nI (S ^^^ lbn S))), (3, .int (nI (lbn S))), (2, .int (wI (a 28) n S)), (0, .ref 26), (1, .int (nI S))] [] (cm g l a b R) (some (.int (nI (((([] : List Nat).map (fun t => lbn S + t))).foldl (hsC (fC (a 28) n S)) (b2, m2)).1)), cm g l a b R) := fun b2 m2 => by
        refine hr_s 7 (pc' := 82) (lc' := [(7, .int ((nI s - nI (S ^^^ lbn S)) &&& nI (S ^^^ lbn S))), (8, .int (nI k)), (6, .int m2), (5, .int (nI b2)), (4, .int (nI (S ^^^ lbn S))), (3, .int (nI (lbn S))), (2, .int (wI (a 28) n S)), (0, .ref 26), (1, .int (nI S))]) (stk' := [.int ((nI s - nI (S ^^^ lbn S)) &&& nI (S ^^^ lbn S))]) (mem' := cm g l a b R) (fun _ _ _ => rfl) ?_
        rw [show ((nI s - nI (S ^^^ lbn S)) &&& nI (S ^^^ lbn S)) = nI 0 from by rw [hf_sub hrr, hf_and]; exact congrArg nI c1]
        refine hr_s 1 (pc' := cond (fx_cb .ne (nI 0) 0) 88 85) (lc' := [(7, .int (nI 0)), (8, .int (nI k)), (6, .int m2), (5, .int (nI b2)), (4, .int (nI (S ^^^ lbn S))), (3, .int (nI (lbn S))), (2, .int (wI (a 28) n S)), (0, .ref 26), (1, .int (nI S))]) (stk' := []) (mem' := cm g l a b R) (fun _ _ _ => rfl) ?_
        rw [show fx_cb .ne (nI 0) 0 = false from by decide]
        dsimp only [cond]
        refine hr_s 2 (pc' := 96) (lc' := [(7, .int (nI 0)), (8, .int (nI k)), (6, .int m2), (5, .int (nI b2)), (4, .int (nI (S ^^^ lbn S))), (3, .int (nI (lbn S))), (2, .int (wI (a 28) n S)), (0, .ref 26), (1, .int (nI S))]) (stk' := [.int (nI b2)]) (mem' := cm g l a b R) (fun _ _ _ => rfl) ?_
        exact hr_ret (by rfl) (by rfl) (by rfl)
      show hr_R 1 gk_m13 (cond (fx_cb .ge (fC (a 28) n S (lbn S + s)) m) 70 60) [(9, .int (fC (a 28) n S (lbn S + s))), (8, .int (nI k)), (7, .int (nI s)), (6, .int m), (5, .int (nI bb)), (4, .int (nI (S ^^^ lbn S))), (3, .int (nI (lbn S))), (2, .int (wI (a 28) n S)), (0, .ref 26), (1, .int (nI S))] [] (cm g l a b R) (some (.int (nI (((([] : List Nat).map (fun t => lbn S + t))).foldl (hsC (fC (a 28) n S)) (hsC (fC (a 28) n S) (bb, m) (lbn S + s))).1)), cm g l a b R)
      unfold hsC
      cases hge : fx_cb .ge (fC (a 28) n S (lbn S + s)) m
      · dsimp only [cond]
        refine hr_s 6 (pc' := 70) (lc' := [(5, .int (nI (lbn S) ||| nI s)), (6, .int (fC (a 28) n S (lbn S + s))), (9, .int (fC (a 28) n S (lbn S + s))), (8, .int (nI k)), (7, .int (nI s)), (4, .int (nI (S ^^^ lbn S))), (3, .int (nI (lbn S))), (2, .int (wI (a 28) n S)), (0, .ref 26), (1, .int (nI S))]) (stk' := []) (mem' := cm g l a b R) (fun _ _ _ => rfl) ?_
        rw [hf_or, c3]
        refine hr_w (lc' := [(8, .int (nI k)), (7, .int (nI s)), (6, .int (fC (a 28) n S (lbn S + s))), (5, .int (nI (lbn S + s))), (4, .int (nI (S ^^^ lbn S))), (3, .int (nI (lbn S))), (2, .int (wI (a 28) n S)), (0, .ref 26), (1, .int (nI S))]) ⟨rfl, rfl, rfl, rfl, rfl, rfl, rfl, rfl, rfl, trivial⟩ (by show List.Nodup [8, 7, 6, 5, 4, 3, 2, 0, 1]; decide) (by show List.Nodup [5, 6, 9, 8, 7, 4, 3, 2, 0, 1]; decide) ?_
        exact rest (lbn S + s) (fC (a 28) n S (lbn S + s))
      · dsimp only [cond]
        refine hr_w (lc' := [(8, .int (nI k)), (7, .int (nI s)), (6, .int m), (5, .int (nI bb)), (4, .int (nI (S ^^^ lbn S))), (3, .int (nI (lbn S))), (2, .int (wI (a 28) n S)), (0, .ref 26), (1, .int (nI S))]) ⟨rfl, rfl, rfl, rfl, rfl, rfl, rfl, rfl, rfl, trivial⟩ (by show List.Nodup [8, 7, 6, 5, 4, 3, 2, 0, 1]; decide) (by show List.Nodup [9, 8, 7, 6, 5, 4, 3, 2, 0, 1]; decide) ?_
        exact rest bb m
    | cons s2 t ih =>
      intro s k bb m hch hk
      unfold chn at hch
      obtain ⟨hch1, c5⟩ := Bool.and_eq_true_iff.mp hch
      obtain ⟨hch2, c4⟩ := Bool.and_eq_true_iff.mp hch1
      obtain ⟨hch3, c3⟩ := Bool.and_eq_true_iff.mp hch2
      obtain ⟨c1, cz⟩ := Bool.and_eq_true_iff.mp hch3
      have c1 := Nat.eq_of_beq_eq_true c1
      have c3 := Nat.eq_of_beq_eq_true c3
      have c4 : s + 1 ≤ 256 := Nat.le_of_ble_eq_true c4
      have hne : s2 ≠ 0 := fun e => by
        subst e
        exact absurd (show (Nat.beq 0 0 == false) = true from cz) (by decide)
      have c5b : s2 + 1 ≤ 256 := by
        have h := c5
        unfold chn at h
        exact Nat.le_of_ble_eq_true (Bool.and_eq_true_iff.mp (Bool.and_eq_true_iff.mp h).1).2
      simp only [List.length_cons] at hk
      refine hr_s 2 (pc' := 33) (lc' := [(8, .int (nI k)), (7, .int (nI s)), (6, .int m), (5, .int (nI bb)), (4, .int (nI (S ^^^ lbn S))), (3, .int (nI (lbn S))), (2, .int (wI (a 28) n S)), (0, .ref 26), (1, .int (nI S))]) (stk' := [.int 256, .int (nI k)]) (mem' := cm g l a b R) (fun _ _ _ => rfl) ?_
      refine hr_s 1 (pc' := cond (fx_cb .ge (nI k) 256) 94 36) (lc' := [(8, .int (nI k)), (7, .int (nI s)), (6, .int m), (5, .int (nI bb)), (4, .int (nI (S ^^^ lbn S))), (3, .int (nI (lbn S))), (2, .int (wI (a 28) n S)), (0, .ref 26), (1, .int (nI S))]) (stk' := []) (mem' := cm g l a b R) (fun _ _ _ => rfl) ?_
      rw [show fx_cb .ge (nI k) 256 = false from cb_geF (a := k) (b := 256) (by omega) (by omega) (by omega)]
      dsimp only [cond]
      refine hr_s 6 (pc' := 43) (lc' := [(8, .int (nI k)), (7, .int (nI s)), (6, .int m), (5, .int (nI bb)), (4, .int (nI (S ^^^ lbn S))), (3, .int (nI (lbn S))), (2, .int (wI (a 28) n S)), (0, .ref 26), (1, .int (nI S))]) (stk' := [.int (nI (lbn S) ||| nI s), .ref 26, .int 2, .int (wI (a 28) n S)]) (mem' := cm g l a b R) (fun _ _ _ => rfl) ?_
      rw [hf_or, c3]
      refine hr_ivV (hl_wI (S := lbn S + s) hn h8) (by omega) (by rfl) (by rfl) (by rfl) (by rfl) (by rfl) (by rfl) ?_
      refine hr_s 4 (pc' := 53) (lc' := [(9, .int (fC (a 28) n S (lbn S + s))), (8, .int (nI k)), (7, .int (nI s)), (6, .int m), (5, .int (nI bb)), (4, .int (nI (S ^^^ lbn S))), (3, .int (nI (lbn S))), (2, .int (wI (a 28) n S)), (0, .ref 26), (1, .int (nI S))]) (stk' := []) (mem' := cm g l a b R) (fun _ _ _ => rfl) ?_
      refine hr_s 2 (pc' := 57) (lc' := [(9, .int (fC (a 28) n S (lbn S + s))), (8, .int (nI k)), (7, .int (nI s)), (6, .int m), (5, .int (nI bb)), (4, .int (nI (S ^^^ lbn S))), (3, .int (nI (lbn S))), (2, .int (wI (a 28) n S)), (0, .ref 26), (1, .int (nI S))]) (stk' := [.int m, .int (fC (a 28) n S (lbn S + s))]) (mem' := cm g l a b R) (fun _ _ _ => rfl) ?_
      refine hr_s 1 (pc' := cond (fx_cb .ge (fC (a 28) n S (lbn S + s)) m) 70 60) (lc' := [(9, .int (fC (a 28) n S (lbn S + s))), (8, .int (nI k)), (7, .int (nI s)), (6, .int m), (5, .int (nI bb)), (4, .int (nI (S ^^^ lbn S))), (3, .int (nI (lbn S))), (2, .int (wI (a 28) n S)), (0, .ref 26), (1, .int (nI S))]) (stk' := []) (mem' := cm g l a b R) (fun _ _ _ => rfl) ?_
      have rest : ∀ (b2 : Nat) (m2 : Int32), hr_R 1 gk_m13 70 [(8, .int (nI k)), (7, .int (nI s)), (6, .int m2), (5, .int (nI b2)), (4, .int (nI (S ^^^ lbn S))), (3, .int (nI (lbn S))), (2, .int (wI (a 28) n S)), (0, .ref 26), (1, .int (nI S))] [] (cm g l a b R) (some (.int (nI ((((s2 :: t).map (fun t => lbn S + t))).foldl (hsC (fC (a 28) n S)) (b2, m2)).1)), cm g l a b R) := fun b2 m2 => by
        refine hr_s 7 (pc' := 82) (lc' := [(7, .int ((nI s - nI (S ^^^ lbn S)) &&& nI (S ^^^ lbn S))), (8, .int (nI k)), (6, .int m2), (5, .int (nI b2)), (4, .int (nI (S ^^^ lbn S))), (3, .int (nI (lbn S))), (2, .int (wI (a 28) n S)), (0, .ref 26), (1, .int (nI S))]) (stk' := [.int ((nI s - nI (S ^^^ lbn S)) &&& nI (S ^^^ lbn S))]) (mem' := cm g l a b R) (fun _ _ _ => rfl) ?_
        rw [show ((nI s - nI (S ^^^ lbn S)) &&& nI (S ^^^ lbn S)) = nI s2 from by rw [hf_sub hrr, hf_and]; exact congrArg nI c1]
        refine hr_s 1 (pc' := cond (fx_cb .ne (nI s2) 0) 88 85) (lc' := [(7, .int (nI s2)), (8, .int (nI k)), (6, .int m2), (5, .int (nI b2)), (4, .int (nI (S ^^^ lbn S))), (3, .int (nI (lbn S))), (2, .int (wI (a 28) n S)), (0, .ref 26), (1, .int (nI S))]) (stk' := []) (mem' := cm g l a b R) (fun _ _ _ => rfl) ?_
        rw [show fx_cb .ne (nI s2) 0 = true from by show (!decide (nI s2 = (0 : Int32))) = true; rw [decide_eq_false (show ¬ nI s2 = (0 : Int32) from fun e => hne (hf_inj (y := 0) (by omega) (by omega) e))]; rfl]
        dsimp only [cond]
        refine hr_s 1 (pc' := 91) (lc' := [(8, .int (nI k + 1)), (7, .int (nI s2)), (6, .int m2), (5, .int (nI b2)), (4, .int (nI (S ^^^ lbn S))), (3, .int (nI (lbn S))), (2, .int (wI (a 28) n S)), (0, .ref 26), (1, .int (nI S))]) (stk' := []) (mem' := cm g l a b R) (fun _ _ _ => rfl) ?_
        refine hr_s 1 (pc' := fx_to 91 (-63)) (lc' := [(8, .int (nI k + 1)), (7, .int (nI s2)), (6, .int m2), (5, .int (nI b2)), (4, .int (nI (S ^^^ lbn S))), (3, .int (nI (lbn S))), (2, .int (wI (a 28) n S)), (0, .ref 26), (1, .int (nI S))]) (stk' := []) (mem' := cm g l a b R) (fun _ _ _ => rfl) ?_
        rw [show fx_to 91 (-63) = 28 from by decide, show nI k + 1 = nI (k + 1) from nI_add k 1]
        exact ih s2 (k + 1) b2 m2 c5 (by simp only [List.length_cons]; omega)
      show hr_R 1 gk_m13 (cond (fx_cb .ge (fC (a 28) n S (lbn S + s)) m) 70 60) [(9, .int (fC (a 28) n S (lbn S + s))), (8, .int (nI k)), (7, .int (nI s)), (6, .int m), (5, .int (nI bb)), (4, .int (nI (S ^^^ lbn S))), (3, .int (nI (lbn S))), (2, .int (wI (a 28) n S)), (0, .ref 26), (1, .int (nI S))] [] (cm g l a b R) (some (.int (nI ((((s2 :: t).map (fun t => lbn S + t))).foldl (hsC (fC (a 28) n S)) (hsC (fC (a 28) n S) (bb, m) (lbn S + s))).1)), cm g l a b R)
      unfold hsC
      cases hge : fx_cb .ge (fC (a 28) n S (lbn S + s)) m
      · dsimp only [cond]
        refine hr_s 6 (pc' := 70) (lc' := [(5, .int (nI (lbn S) ||| nI s)), (6, .int (fC (a 28) n S (lbn S + s))), (9, .int (fC (a 28) n S (lbn S + s))), (8, .int (nI k)), (7, .int (nI s)), (4, .int (nI (S ^^^ lbn S))), (3, .int (nI (lbn S))), (2, .int (wI (a 28) n S)), (0, .ref 26), (1, .int (nI S))]) (stk' := []) (mem' := cm g l a b R) (fun _ _ _ => rfl) ?_
        rw [hf_or, c3]
        refine hr_w (lc' := [(8, .int (nI k)), (7, .int (nI s)), (6, .int (fC (a 28) n S (lbn S + s))), (5, .int (nI (lbn S + s))), (4, .int (nI (S ^^^ lbn S))), (3, .int (nI (lbn S))), (2, .int (wI (a 28) n S)), (0, .ref 26), (1, .int (nI S))]) ⟨rfl, rfl, rfl, rfl, rfl, rfl, rfl, rfl, rfl, trivial⟩ (by show List.Nodup [8, 7, 6, 5, 4, 3, 2, 0, 1]; decide) (by show List.Nodup [5, 6, 9, 8, 7, 4, 3, 2, 0, 1]; decide) ?_
        exact rest (lbn S + s) (fC (a 28) n S (lbn S + s))
      · dsimp only [cond]
        refine hr_w (lc' := [(8, .int (nI k)), (7, .int (nI s)), (6, .int m), (5, .int (nI bb)), (4, .int (nI (S ^^^ lbn S))), (3, .int (nI (lbn S))), (2, .int (wI (a 28) n S)), (0, .ref 26), (1, .int (nI S))]) ⟨rfl, rfl, rfl, rfl, rfl, rfl, rfl, rfl, rfl, trivial⟩ (by show List.Nodup [8, 7, 6, 5, 4, 3, 2, 0, 1]; decide) (by show List.Nodup [9, 8, 7, 6, 5, 4, 3, 2, 0, 1]; decide) ?_
        exact rest bb m
  obtain ⟨s0, t0, es⟩ : ∃ s0 t0, sbl S = s0 :: t0 := by
    cases hs : sbl S with
    | nil => rw [hs] at hhd; exact absurd hhd (by decide)
    | cons s0 t0 => exact ⟨s0, t0, rfl⟩
  rw [es] at hc hhd hlen hmap
  have z0 : s0 = 0 := hhd
  subst z0
  refine hr_meth (by rfl) (by rfl) ?_
  refine hr_s 2 (pc' := 2) (lc' := [(0, .ref 26), (1, .int (nI S))]) (stk' := [.int (nI S), .ref 26]) (mem' := cm g l a b R) (fun _ _ _ => rfl) ?_
  refine hr_ivV (hl_wI (S := S) hn h8) (by omega) (by rfl) (by rfl) (by rfl) (by rfl) (by rfl) (by rfl) ?_
  refine hr_s 6 (pc' := 11) (lc' := [(3, .int (nI S &&& -nI S)), (2, .int (wI (a 28) n S)), (0, .ref 26), (1, .int (nI S))]) (stk' := []) (mem' := cm g l a b R) (fun _ _ _ => rfl) ?_
  rw [show (nI S &&& -nI S) = nI (lbn S) from by rw [hf_neg S hS, hf_and]; rfl]
  refine hr_s 8 (pc' := 22) (lc' := [(6, .int (wI (a 28) n S)), (5, .int (nI S)), (4, .int (nI S ^^^ nI (lbn S))), (3, .int (nI (lbn S))), (2, .int (wI (a 28) n S)), (0, .ref 26), (1, .int (nI S))]) (stk' := []) (mem' := cm g l a b R) (fun _ _ _ => rfl) ?_
  rw [hf_xor]
  refine hr_s 4 (pc' := 28) (lc' := [(8, .int 0), (7, .int 0), (6, .int (wI (a 28) n S)), (5, .int (nI S)), (4, .int (nI (S ^^^ lbn S))), (3, .int (nI (lbn S))), (2, .int (wI (a 28) n S)), (0, .ref 26), (1, .int (nI S))]) (stk' := []) (mem' := cm g l a b R) (fun _ _ _ => rfl) ?_
  have h := loop t0 0 0 S (wI (a 28) n S) hc (by omega)
  rw [hmap] at h
  exact h
theorem hl_halvesF {n : Nat} {s : Int32} (hn : g 26 7 = nI n) (h8 : n ≤ 8) (h : ¬ (0 < s.toInt ∧ s.toInt < 2 ^ n)) : hr_T 3 172 [.ref 0, .int s] (cm g l a b R) (some (.int (-1))) (cm (fm_u g 0 0 1) l a b R) := by
  refine hr_meth (by rfl) (by rfl) ?_
  refine hr_s 4 (pc' := 8) (lc' := [(0, .ref 0), (1, .int s)]) (stk' := [.int s, .ref 26]) (mem' := cm g l a b R) (fun _ _ _ => rfl) ?_
  refine hr_ivV (hl_hset (s := s) hn h8) (by omega) (by rfl) (by rfl) (by rfl) (by rfl) (by rfl) (by rfl) ?_
  rw [if_neg h]
  refine hr_s 1 (pc' := cond (fx_cb .ne 0 0) 20 14) (lc' := [(0, .ref 0), (1, .int s)]) (stk' := []) (mem' := cm g l a b R) (fun _ _ _ => rfl) ?_
  rw [show fx_cb .ne 0 0 = false from by decide]
  dsimp only [cond]
  refine hr_s 2 (pc' := 16) (lc' := [(0, .ref 0), (1, .int s)]) (stk' := [.int 1, .ref 0]) (mem' := cm g l a b R) (fun _ _ _ => rfl) ?_
  refine hr_ivV ha_refuse (by omega) (by rfl) (by rfl) (by rfl) (by rfl) (by rfl) (by rfl) ?_
  exact hr_ret (by rfl) (by rfl) (by rfl)
theorem hl_halvesT {n S : Nat} (hn : g 26 7 = nI n) (h8 : n ≤ 8) (h0 : 0 < S) (hS : S < 2 ^ n) : hr_T 3 172 [.ref 0, .int (nI S)] (cm g l a b R) (some (.int (fC (a 28) n S (bC (a 28) n S)))) (cm (fm_u g 0 0 0) l a b R) := by
  have hp : ∀ n, n ≤ 8 → 2 ^ n ≤ 256 := by decide
  have h9 := hp n h8
  refine hr_meth (by rfl) (by rfl) ?_
  refine hr_s 4 (pc' := 8) (lc' := [(0, .ref 0), (1, .int (nI S))]) (stk' := [.int (nI S), .ref 26]) (mem' := cm g l a b R) (fun _ _ _ => rfl) ?_
  refine hr_ivV (hl_hset (s := nI S) hn h8) (by omega) (by rfl) (by rfl) (by rfl) (by rfl) (by rfl) (by rfl) ?_
  have he : (nI S).toInt = (S : Int) := nI_i32 (by omega)
  have hq : ((2 ^ n : Nat) : Int) = 2 ^ n := by rw [Int.natCast_pow]; rfl
  rw [if_pos (by rw [he, ← hq]; omega)]
  refine hr_s 1 (pc' := cond (fx_cb .ne 1 0) 20 14) (lc' := [(0, .ref 0), (1, .int (nI S))]) (stk' := []) (mem' := cm g l a b R) (fun _ _ _ => rfl) ?_
  rw [show fx_cb .ne 1 0 = true from by decide]
  dsimp only [cond]
  refine hr_s 4 (pc' := 28) (lc' := [(0, .ref 0), (1, .int (nI S))]) (stk' := [.int (nI S), .ref 26]) (mem' := cm g l a b R) (fun _ _ _ => rfl) ?_
  refine hr_ivV (hl_even hn h8 h0 (by omega)) (by omega) (by rfl) (by rfl) (by rfl) (by rfl) (by rfl) (by rfl) ?_
  refine hr_s 6 (pc' := 41) (lc' := [(2, .int (nI (bC (a 28) n S))), (0, .ref 0), (1, .int (nI S))]) (stk' := [.int (nI S), .ref 26, .ref 0]) (mem' := cm g l a b R) (fun _ _ _ => rfl) ?_
  refine hr_ivV (hl_wI (S := S) hn h8) (by omega) (by rfl) (by rfl) (by rfl) (by rfl) (by rfl) (by rfl) ?_
  refine hr_s 5 (pc' := 53) (lc' := [(2, .int (nI (bC (a 28) n S))), (0, .ref 0), (1, .int (nI S))]) (stk' := [.int (nI (bC (a 28) n S)), .ref 26, .int 2, .int (wI (a 28) n S), .ref 0]) (mem' := cm g l a b R) (fun _ _ _ => rfl) ?_
  refine hr_ivV (hl_wI (S := bC (a 28) n S) hn h8) (by omega) (by rfl) (by rfl) (by rfl) (by rfl) (by rfl) (by rfl) ?_
  refine hr_s 3 (pc' := 61) (lc' := [(2, .int (nI (bC (a 28) n S))), (0, .ref 0), (1, .int (nI S))]) (stk' := [.int (fC (a 28) n S (bC (a 28) n S)), .ref 0]) (mem' := cm g l a b R) (fun _ _ _ => rfl) ?_
  refine hr_ivV ha_answer (by omega) (by rfl) (by rfl) (by rfl) (by rfl) (by rfl) (by rfl) ?_
  exact hr_ret (by rfl) (by rfl) (by rfl)
theorem hl_halfF {n : Nat} {s : Int32} (hn : g 26 7 = nI n) (h8 : n ≤ 8) (h : ¬ (0 < s.toInt ∧ s.toInt < 2 ^ n)) : hr_T 3 173 [.ref 0, .int s] (cm g l a b R) (some (.int (-1))) (cm (fm_u g 0 0 1) l a b R) := by
  refine hr_meth (by rfl) (by rfl) ?_
  refine hr_s 4 (pc' := 8) (lc' := [(0, .ref 0), (1, .int s)]) (stk' := [.int s, .ref 26]) (mem' := cm g l a b R) (fun _ _ _ => rfl) ?_
  refine hr_ivV (hl_hset (s := s) hn h8) (by omega) (by rfl) (by rfl) (by rfl) (by rfl) (by rfl) (by rfl) ?_
  rw [if_neg h]
  refine hr_s 1 (pc' := cond (fx_cb .ne 0 0) 20 14) (lc' := [(0, .ref 0), (1, .int s)]) (stk' := []) (mem' := cm g l a b R) (fun _ _ _ => rfl) ?_
  rw [show fx_cb .ne 0 0 = false from by decide]
  dsimp only [cond]
  refine hr_s 2 (pc' := 16) (lc' := [(0, .ref 0), (1, .int s)]) (stk' := [.int 1, .ref 0]) (mem' := cm g l a b R) (fun _ _ _ => rfl) ?_
  refine hr_ivV ha_refuse (by omega) (by rfl) (by rfl) (by rfl) (by rfl) (by rfl) (by rfl) ?_
  exact hr_ret (by rfl) (by rfl) (by rfl)
theorem hl_halfT {n S : Nat} (hn : g 26 7 = nI n) (h8 : n ≤ 8) (h0 : 0 < S) (hS : S < 2 ^ n) : hr_T 3 173 [.ref 0, .int (nI S)] (cm g l a b R) (some (.int (nI (bC (a 28) n S)))) (cm (fm_u g 0 0 0) l a b R) := by
  have hp : ∀ n, n ≤ 8 → 2 ^ n ≤ 256 := by decide
  have h9 := hp n h8
  refine hr_meth (by rfl) (by rfl) ?_
  refine hr_s 4 (pc' := 8) (lc' := [(0, .ref 0), (1, .int (nI S))]) (stk' := [.int (nI S), .ref 26]) (mem' := cm g l a b R) (fun _ _ _ => rfl) ?_
  refine hr_ivV (hl_hset (s := nI S) hn h8) (by omega) (by rfl) (by rfl) (by rfl) (by rfl) (by rfl) (by rfl) ?_
  have he : (nI S).toInt = (S : Int) := nI_i32 (by omega)
  have hq : ((2 ^ n : Nat) : Int) = 2 ^ n := by rw [Int.natCast_pow]; rfl
  rw [if_pos (by rw [he, ← hq]; omega)]
  refine hr_s 1 (pc' := cond (fx_cb .ne 1 0) 20 14) (lc' := [(0, .ref 0), (1, .int (nI S))]) (stk' := []) (mem' := cm g l a b R) (fun _ _ _ => rfl) ?_
  rw [show fx_cb .ne 1 0 = true from by decide]
  dsimp only [cond]
  refine hr_s 5 (pc' := 29) (lc' := [(0, .ref 0), (1, .int (nI S))]) (stk' := [.int (nI S), .ref 26, .ref 0]) (mem' := cm g l a b R) (fun _ _ _ => rfl) ?_
  refine hr_ivV (hl_even hn h8 h0 (by omega)) (by omega) (by rfl) (by rfl) (by rfl) (by rfl) (by rfl) (by rfl) ?_
  refine hr_ivV ha_answer (by omega) (by rfl) (by rfl) (by rfl) (by rfl) (by rfl) (by rfl) ?_
  exact hr_ret (by rfl) (by rfl) (by rfl)
end HLC
section HLM
variable {g : Nat → Int32} {tp bt : Int64} {a : Nat → Nat → Int32} {b : Nat → Nat → Int64}
/-- the weights, as the model holds them -/
def wtm (a : Nat → Nat → Int32) : Nat → Int32 := fun i => a 1 (278 + 5 * i)
theorem mh_wt {V : Nat} (h : V < 8) : fr_T 2 264 [.ref 0, .int (nI V)] (fm g tp bt a b) (some (.int (wtm a V))) (fm g tp bt a b) := by
  refine fr_meth (by rfl) (by rfl) ?_
  refine fr_s 3 (pc' := 5) (lc' := [(0, .ref 0), (1, .int (nI V))]) (stk' := [.int (nI V), .ref 1]) (mem' := fm g tp bt a b) (fun _ _ _ => rfl) ?_
  refine fr_ivS fr_walkerRow (by omega) (by rfl) (by rfl) (by rfl) (by rfl) (by rfl) ?_
  show fr_R _ _ _ _ (.int (278 + 5 * nI V) :: [.ref 1]) _ _
  rw [show 278 + 5 * nI V = nI (278 + 5 * V) from by rw [show (278 : Int32) = nI 278 from rfl, show (5 : Int32) = nI 5 from rfl, fm_mul, nI_add]]
  refine fr_ldI (by rfl) (by rfl) (fx_inN (i := 278 + 5 * V) (by omega) (by omega)) ?_
  rw [show Int32.toNatClampNeg (nI (278 + 5 * V)) = 278 + 5 * V from nI_clamp (by omega)]
  exact fr_ret (by rfl) (by rfl) (by rfl)
theorem mh_wI {n S : Nat} (hn : a 1 1 = nI n) (h8 : n ≤ 8) : fr_T 3 337 [.ref 0, .int (nI S)] (fm g tp bt a b) (some (.int (wI (wtm a) n S))) (fm g tp bt a b) := by
  have loop : ∀ (r k : Nat), k + r = n → fr_R 2 gk_m337 4 [(3, .int (nI k)), (2, .int (wI (wtm a) k S)), (0, .ref 0), (1, .int (nI S))] [] (fm g tp bt a b) (some (.int (wI (wtm a) n S)), fm g tp bt a b) := by
    intro r
    induction r with
    | zero =>
      intro k hk
      obtain rfl : k = n := by omega
      refine fr_s 4 (pc' := 10) (lc' := [(3, .int (nI k)), (2, .int (wI (wtm a) k S)), (0, .ref 0), (1, .int (nI S))]) (stk' := [.int 1, .ref 1, .int (nI k)]) (mem' := fm g tp bt a b) (fun _ _ _ => rfl) ?_
      refine fr_ldI (by rfl) (by rfl) (fx_inN (i := 1) (by omega) (by omega)) ?_
      rw [show Int32.toNatClampNeg (1) = 1 from rfl, hn]
      refine fr_s 1 (pc' := cond (fx_cb .ge (nI k) (nI k)) 41 14) (lc' := [(3, .int (nI k)), (2, .int (wI (wtm a) k S)), (0, .ref 0), (1, .int (nI S))]) (stk' := []) (mem' := fm g tp bt a b) (fun _ _ _ => rfl) ?_
      rw [show fx_cb .ge (nI k) (nI k) = true from cb_geT (a := k) (b := k) (by omega) (by omega) (by omega)]
      dsimp only [cond]
      refine fr_s 1 (pc' := 42) (lc' := [(3, .int (nI k)), (2, .int (wI (wtm a) k S)), (0, .ref 0), (1, .int (nI S))]) (stk' := [.int (wI (wtm a) k S)]) (mem' := fm g tp bt a b) (fun _ _ _ => rfl) ?_
      exact fr_ret (by rfl) (by rfl) (by rfl)
    | succ r ih =>
      intro k hk
      refine fr_s 4 (pc' := 10) (lc' := [(3, .int (nI k)), (2, .int (wI (wtm a) k S)), (0, .ref 0), (1, .int (nI S))]) (stk' := [.int 1, .ref 1, .int (nI k)]) (mem' := fm g tp bt a b) (fun _ _ _ => rfl) ?_
      refine fr_ldI (by rfl) (by rfl) (fx_inN (i := 1) (by omega) (by omega)) ?_
      rw [show Int32.toNatClampNeg (1) = 1 from rfl, hn]
      refine fr_s 1 (pc' := cond (fx_cb .ge (nI k) (nI n)) 41 14) (lc' := [(3, .int (nI k)), (2, .int (wI (wtm a) k S)), (0, .ref 0), (1, .int (nI S))]) (stk' := []) (mem' := fm g tp bt a b) (fun _ _ _ => rfl) ?_
      rw [show fx_cb .ge (nI k) (nI n) = false from cb_geF (a := k) (b := n) (by omega) (by omega) (by omega)]
      dsimp only [cond]
      refine fr_s 4 (pc' := 18) (lc' := [(3, .int (nI k)), (2, .int (wI (wtm a) k S)), (0, .ref 0), (1, .int (nI S))]) (stk' := [.int (nI k), .int (nI S), .ref 0, .int (wI (wtm a) k S)]) (mem' := fm g tp bt a b) (fun _ _ _ => rfl) ?_
      refine fr_ivV fr_isIn (by omega) (by rfl) (by rfl) (by rfl) (by rfl) (by rfl) (by rfl) ?_
      rw [fb_eq (by omega), bi_set (by omega)]
      have es : wI (wtm a) (k + 1) S = (wI (wtm a) k S) + (if S.testBit k = true then wtm a k else 0) := rfl
      by_cases e : S.testBit k = true
      · rw [if_pos e] at es
        rw [if_pos e]
        refine fr_s 1 (pc' := cond (fx_cb .eq 1 0) 32 24) (lc' := [(3, .int (nI k)), (2, .int (wI (wtm a) k S)), (0, .ref 0), (1, .int (nI S))]) (stk' := [.int (wI (wtm a) k S)]) (mem' := fm g tp bt a b) (fun _ _ _ => rfl) ?_
        rw [show fx_cb .eq 1 0 = false from by decide]
        dsimp only [cond]
        refine fr_s 2 (pc' := 26) (lc' := [(3, .int (nI k)), (2, .int (wI (wtm a) k S)), (0, .ref 0), (1, .int (nI S))]) (stk' := [.int (nI k), .ref 0, .int (wI (wtm a) k S)]) (mem' := fm g tp bt a b) (fun _ _ _ => rfl) ?_
        refine fr_ivV (mh_wt (V := k) (by omega)) (by omega) (by rfl) (by rfl) (by rfl) (by rfl) (by rfl) (by rfl) ?_
        refine fr_s 5 (pc' := 4) (lc' := [(3, .int (nI k + 1)), (2, .int ((wI (wtm a) k S) + wtm a k)), (0, .ref 0), (1, .int (nI S))]) (stk' := []) (mem' := fm g tp bt a b) (fun _ _ _ => rfl) ?_
        rw [← es, show nI k + 1 = nI (k + 1) from nI_add k 1]
        exact ih (k + 1) (by omega)
      · rw [if_neg e] at es
        rw [if_neg e]
        refine fr_s 1 (pc' := cond (fx_cb .eq 0 0) 32 24) (lc' := [(3, .int (nI k)), (2, .int (wI (wtm a) k S)), (0, .ref 0), (1, .int (nI S))]) (stk' := [.int (wI (wtm a) k S)]) (mem' := fm g tp bt a b) (fun _ _ _ => rfl) ?_
        rw [show fx_cb .eq 0 0 = true from by decide]
        dsimp only [cond]
        refine fr_s 5 (pc' := 4) (lc' := [(3, .int (nI k + 1)), (2, .int ((wI (wtm a) k S) + 0)), (0, .ref 0), (1, .int (nI S))]) (stk' := []) (mem' := fm g tp bt a b) (fun _ _ _ => rfl) ?_
        rw [← es, show nI k + 1 = nI (k + 1) from nI_add k 1]
        exact ih (k + 1) (by omega)
  refine fr_meth (by rfl) (by rfl) ?_
  refine fr_s 4 (pc' := 4) (lc' := [(3, .int 0), (2, .int 0), (0, .ref 0), (1, .int (nI S))]) (stk' := []) (mem' := fm g tp bt a b) (fun _ _ _ => rfl) ?_
  exact loop n 0 (by omega)
theorem mh_apart {n S p : Nat} (hn : a 1 1 = nI n) (h8 : n ≤ 8) (hS : S < 256) (hp : p < 256) (hs : p &&& S = p) : fr_T 4 339 [.ref 0, .int (nI p), .int (nI S)] (fm g tp bt a b) (some (.int (fM (wtm a) n S p))) (fm g tp bt a b) := by
  refine fr_meth (by rfl) (by rfl) ?_
  refine fr_s 2 (pc' := 2) (lc' := [(0, .ref 0), (1, .int (nI p)), (2, .int (nI S))]) (stk' := [.int (nI p), .ref 0]) (mem' := fm g tp bt a b) (fun _ _ _ => rfl) ?_
  refine fr_ivV (mh_wI (S := p) hn h8) (by omega) (by rfl) (by rfl) (by rfl) (by rfl) (by rfl) (by rfl) ?_
  refine fr_s 6 (pc' := 11) (lc' := [(0, .ref 0), (1, .int (nI p)), (2, .int (nI S))]) (stk' := [.int (nI S &&& (nI p ^^^ -1)), .ref 0, .int (wI (wtm a) n p)]) (mem' := fm g tp bt a b) (fun _ _ _ => rfl) ?_
  rw [hf_m1, hf_xor, hf_and, (hf_not S hS p hp).2 hs]
  refine fr_ivV (mh_wI (S := S ^^^ p) hn h8) (by omega) (by rfl) (by rfl) (by rfl) (by rfl) (by rfl) (by rfl) ?_
  refine fr_s 2 (pc' := 18) (lc' := [(0, .ref 0), (1, .int (nI p)), (2, .int (nI S))]) (stk' := [.int (fM (wtm a) n S p)]) (mem' := fm g tp bt a b) (fun _ _ _ => rfl) ?_
  exact fr_ret (by rfl) (by rfl) (by rfl)
theorem mh_half {n S : Nat} (hn : a 1 1 = nI n) (h8 : n ≤ 8) (hS : S < 256) : fr_T 5 340 [.ref 0, .int (nI S)] (fm g tp bt a b) (some (.int (ob (bM (wtm a) n S)))) (fm g tp bt a b) := by
  have loop : ∀ (r p : Nat) (bo : Option Nat), p + r = S + 1 → (∀ q, bo = some q → q < 256 ∧ q &&& S = q) → fr_R 4 gk_m340 4 [(3, .int (nI p)), (2, .int (ob bo)), (0, .ref 0), (1, .int (nI S))] [] (fm g tp bt a b) (some (.int (ob (((List.range' p r).filter (fun p => Nat.beq (p &&& S) p && !Nat.beq (p &&& lbn S) 0)).foldl (hsM (fM (wtm a) n S)) bo))), fm g tp bt a b) := by
    intro r
    induction r with
    | zero =>
      intro p bo hp hb
      obtain rfl : p = S + 1 := by omega
      refine fr_s 2 (pc' := 6) (lc' := [(3, .int (nI (S + 1))), (2, .int (ob bo)), (0, .ref 0), (1, .int (nI S))]) (stk' := [.int (nI S), .int (nI (S + 1))]) (mem' := fm g tp bt a b) (fun _ _ _ => rfl) ?_
      refine fr_s 1 (pc' := cond (fx_cb .gt (nI (S + 1)) (nI S)) 54 9) (lc' := [(3, .int (nI (S + 1))), (2, .int (ob bo)), (0, .ref 0), (1, .int (nI S))]) (stk' := []) (mem' := fm g tp bt a b) (fun _ _ _ => rfl) ?_
      rw [show fx_cb .gt (nI (S + 1)) (nI S) = true from cb_gtT (a := S + 1) (b := S) (by omega) (by omega) (by omega)]
      dsimp only [cond]
      refine fr_s 1 (pc' := 55) (lc' := [(3, .int (nI (S + 1))), (2, .int (ob bo)), (0, .ref 0), (1, .int (nI S))]) (stk' := [.int (ob bo)]) (mem' := fm g tp bt a b) (fun _ _ _ => rfl) ?_
      exact fr_ret (by rfl) (by rfl) (by rfl)
    | succ r ih =>
      intro p bo hp hb
      rw [show List.range' p (r + 1) = p :: List.range' (p + 1) r from rfl]
      refine fr_s 2 (pc' := 6) (lc' := [(3, .int (nI p)), (2, .int (ob bo)), (0, .ref 0), (1, .int (nI S))]) (stk' := [.int (nI S), .int (nI p)]) (mem' := fm g tp bt a b) (fun _ _ _ => rfl) ?_
      refine fr_s 1 (pc' := cond (fx_cb .gt (nI p) (nI S)) 54 9) (lc' := [(3, .int (nI p)), (2, .int (ob bo)), (0, .ref 0), (1, .int (nI S))]) (stk' := []) (mem' := fm g tp bt a b) (fun _ _ _ => rfl) ?_
      rw [show fx_cb .gt (nI p) (nI S) = false from cb_gtF (a := p) (b := S) (by omega) (by omega) (by omega)]
      dsimp only [cond]
      have rest : ∀ (bo2 : Option Nat), (∀ q, bo2 = some q → q < 256 ∧ q &&& S = q) → fr_R 4 gk_m340 48 [(3, .int (nI p)), (2, .int (ob bo2)), (0, .ref 0), (1, .int (nI S))] [] (fm g tp bt a b) (some (.int (ob (((List.range' (p + 1) r).filter (fun p => Nat.beq (p &&& S) p && !Nat.beq (p &&& lbn S) 0)).foldl (hsM (fM (wtm a) n S)) bo2))), fm g tp bt a b) := fun bo2 hb2 => by
        refine fr_s 2 (pc' := 4) (lc' := [(3, .int (nI p + 1)), (2, .int (ob bo2)), (0, .ref 0), (1, .int (nI S))]) (stk' := []) (mem' := fm g tp bt a b) (fun _ _ _ => rfl) ?_
        rw [show nI p + 1 = nI (p + 1) from nI_add p 1]
        exact ih (p + 1) bo2 (by omega) hb2
      refine fr_s 5 (pc' := 14) (lc' := [(3, .int (nI p)), (2, .int (ob bo)), (0, .ref 0), (1, .int (nI S))]) (stk' := [.int (nI p &&& (nI S ^^^ -1))]) (mem' := fm g tp bt a b) (fun _ _ _ => rfl) ?_
      rw [hf_m1, hf_xor, hf_and]
      have hn1 := (hf_not S hS p (by omega)).1
      by_cases h1 : p &&& S = p
      · have hz : p &&& (S ^^^ 4294967295) = 0 := Nat.eq_of_beq_eq_true (by rw [hn1, h1]; exact Nat.beq_refl p)
        rw [hz]
        refine fr_s 1 (pc' := cond (fx_cb .ne (nI 0) 0) 48 17) (lc' := [(3, .int (nI p)), (2, .int (ob bo)), (0, .ref 0), (1, .int (nI S))]) (stk' := []) (mem' := fm g tp bt a b) (fun _ _ _ => rfl) ?_
        rw [show fx_cb .ne (nI 0) 0 = false from by decide]
        dsimp only [cond]
        refine fr_s 6 (pc' := 23) (lc' := [(3, .int (nI p)), (2, .int (ob bo)), (0, .ref 0), (1, .int (nI S))]) (stk' := [.int (nI p &&& (nI S &&& -nI S))]) (mem' := fm g tp bt a b) (fun _ _ _ => rfl) ?_
        rw [show nI p &&& (nI S &&& -nI S) = nI (p &&& lbn S) from by rw [hf_neg S hS, hf_and, hf_and]; rfl]
        by_cases h2 : p &&& lbn S = 0
        · rw [h2]
          refine fr_s 1 (pc' := cond (fx_cb .eq (nI 0) 0) 48 26) (lc' := [(3, .int (nI p)), (2, .int (ob bo)), (0, .ref 0), (1, .int (nI S))]) (stk' := []) (mem' := fm g tp bt a b) (fun _ _ _ => rfl) ?_
          rw [show fx_cb .eq (nI 0) 0 = true from by decide]
          dsimp only [cond]
          rw [List.filter_cons_of_neg (p := fun p => Nat.beq (p &&& S) p && !Nat.beq (p &&& lbn S) 0) (by
            show ¬ (Nat.beq (p &&& S) p && !Nat.beq (p &&& lbn S) 0) = true
            rw [h2, show Nat.beq 0 0 = true from rfl, Bool.not_true, Bool.and_false]
            exact Bool.false_ne_true)]
          exact rest bo hb
        · have hlt : p &&& lbn S < 256 := Nat.lt_of_le_of_lt Nat.and_le_left (by omega)
          refine fr_s 1 (pc' := cond (fx_cb .eq (nI (p &&& lbn S)) 0) 48 26) (lc' := [(3, .int (nI p)), (2, .int (ob bo)), (0, .ref 0), (1, .int (nI S))]) (stk' := []) (mem' := fm g tp bt a b) (fun _ _ _ => rfl) ?_
          rw [show fx_cb .eq (nI (p &&& lbn S)) 0 = false from decide_eq_false (fun e => h2 (hf_inj (y := 0) (by omega) (by omega) e))]
          dsimp only [cond]
          have hin : (Nat.beq (p &&& S) p && !Nat.beq (p &&& lbn S) 0) = true := by
            rw [h1, Nat.beq_refl, Bool.true_and, Bool.not_eq_true']
            cases hb0 : Nat.beq (p &&& lbn S) 0
            · rfl
            · exact absurd (Nat.eq_of_beq_eq_true hb0) h2
          rw [List.filter_cons_of_pos (p := fun p => Nat.beq (p &&& S) p && !Nat.beq (p &&& lbn S) 0) hin]
          show fr_R _ _ _ _ _ _ (some (.int (ob (List.foldl (hsM (fM (wtm a) n S)) (hsM (fM (wtm a) n S) bo p) ((List.range' (p + 1) r).filter (fun p => Nat.beq (p &&& S) p && !Nat.beq (p &&& lbn S) 0))))), _)
          have hp2 : ∀ q, some p = some q → q < 256 ∧ q &&& S = q := fun q e => by
            cases e
            exact ⟨by omega, h1⟩
          refine fr_s 2 (pc' := 28) (lc' := [(3, .int (nI p)), (2, .int (ob bo)), (0, .ref 0), (1, .int (nI S))]) (stk' := [.int (-1), .int (ob bo)]) (mem' := fm g tp bt a b) (fun _ _ _ => rfl) ?_
          have take : fr_R 4 gk_m340 46 [(3, .int (nI p)), (2, .int (ob bo)), (0, .ref 0), (1, .int (nI S))] [] (fm g tp bt a b) (some (.int (ob (((List.range' (p + 1) r).filter (fun p => Nat.beq (p &&& S) p && !Nat.beq (p &&& lbn S) 0)).foldl (hsM (fM (wtm a) n S)) (some p)))), fm g tp bt a b) := by
            refine fr_s 2 (pc' := 48) (lc' := [(2, .int (nI p)), (3, .int (nI p)), (0, .ref 0), (1, .int (nI S))]) (stk' := []) (mem' := fm g tp bt a b) (fun _ _ _ => rfl) ?_
            refine fr_w (lc' := [(3, .int (nI p)), (2, .int (nI p)), (0, .ref 0), (1, .int (nI S))]) ⟨rfl, rfl, rfl, rfl, trivial⟩ (by show List.Nodup [3, 2, 0, 1]; decide) (by show List.Nodup [2, 3, 0, 1]; decide) ?_
            exact rest (some p) hp2
          cases bo with
          | none =>
            refine fr_s 1 (pc' := cond (fx_cb .eq (-1) (-1)) 46 31) (lc' := [(3, .int (nI p)), (2, .int (-1)), (0, .ref 0), (1, .int (nI S))]) (stk' := []) (mem' := fm g tp bt a b) (fun _ _ _ => rfl) ?_
            rw [show fx_cb .eq (-1) (-1) = true from by decide]
            dsimp only [cond]
            exact take
          | some q =>
            obtain ⟨hq1, hq2⟩ := hb q rfl
            refine fr_s 1 (pc' := cond (fx_cb .eq (nI q) (-1)) 46 31) (lc' := [(3, .int (nI p)), (2, .int (nI q)), (0, .ref 0), (1, .int (nI S))]) (stk' := []) (mem' := fm g tp bt a b) (fun _ _ _ => rfl) ?_
            rw [show fx_cb .eq (nI q) (-1) = false from decide_eq_false (fun e => by have e2 := congrArg Int32.toInt e; rw [nI_i32 (by omega), show (-1 : Int32).toInt = -1 from rfl] at e2; omega)]
            dsimp only [cond]
            refine fr_s 3 (pc' := 34) (lc' := [(3, .int (nI p)), (2, .int (nI q)), (0, .ref 0), (1, .int (nI S))]) (stk' := [.int (nI S), .int (nI p), .ref 0]) (mem' := fm g tp bt a b) (fun _ _ _ => rfl) ?_
            refine fr_ivV (mh_apart hn h8 hS (by omega) h1) (by omega) (by rfl) (by rfl) (by rfl) (by rfl) (by rfl) (by rfl) ?_
            refine fr_s 3 (pc' := 40) (lc' := [(3, .int (nI p)), (2, .int (nI q)), (0, .ref 0), (1, .int (nI S))]) (stk' := [.int (nI S), .int (nI q), .ref 0, .int (fM (wtm a) n S p)]) (mem' := fm g tp bt a b) (fun _ _ _ => rfl) ?_
            refine fr_ivV (mh_apart hn h8 hS hq1 hq2) (by omega) (by rfl) (by rfl) (by rfl) (by rfl) (by rfl) (by rfl) ?_
            refine fr_s 1 (pc' := cond (fx_cb .ge (fM (wtm a) n S p) (fM (wtm a) n S q)) 48 46) (lc' := [(3, .int (nI p)), (2, .int (nI q)), (0, .ref 0), (1, .int (nI S))]) (stk' := []) (mem' := fm g tp bt a b) (fun _ _ _ => rfl) ?_
            cases hge : fx_cb .ge (fM (wtm a) n S p) (fM (wtm a) n S q)
            · rw [show hsM (fM (wtm a) n S) (some q) p = some p from by simp only [hsM, hge]]
              dsimp only [cond]
              exact take
            · rw [show hsM (fM (wtm a) n S) (some q) p = some q from by simp only [hsM, hge]]
              dsimp only [cond]
              exact rest (some q) hb
      · have hz : ¬ p &&& (S ^^^ 4294967295) = 0 := fun e => by
          rw [e] at hn1
          exact h1 (Nat.eq_of_beq_eq_true hn1.symm)
        have hlt : p &&& (S ^^^ 4294967295) < 256 := Nat.lt_of_le_of_lt Nat.and_le_left (by omega)
        refine fr_s 1 (pc' := cond (fx_cb .ne (nI (p &&& (S ^^^ 4294967295))) 0) 48 17) (lc' := [(3, .int (nI p)), (2, .int (ob bo)), (0, .ref 0), (1, .int (nI S))]) (stk' := []) (mem' := fm g tp bt a b) (fun _ _ _ => rfl) ?_
        rw [show fx_cb .ne (nI (p &&& (S ^^^ 4294967295))) 0 = true from by show (!decide (_ = (0 : Int32))) = true; rw [decide_eq_false (show ¬ nI (p &&& (S ^^^ 4294967295)) = (0 : Int32) from fun e => hz (hf_inj (y := 0) (by omega) (by omega) e))]; rfl]
        dsimp only [cond]
        rw [List.filter_cons_of_neg (p := fun p => Nat.beq (p &&& S) p && !Nat.beq (p &&& lbn S) 0) (by
          show ¬ (Nat.beq (p &&& S) p && !Nat.beq (p &&& lbn S) 0) = true
          cases hb0 : Nat.beq (p &&& S) p
          · exact Bool.false_ne_true
          · exact absurd (Nat.eq_of_beq_eq_true hb0) h1)]
        exact rest bo hb
  refine fr_meth (by rfl) (by rfl) ?_
  refine fr_s 4 (pc' := 4) (lc' := [(3, .int 1), (2, .int (-1)), (0, .ref 0), (1, .int (nI S))]) (stk' := []) (mem' := fm g tp bt a b) (fun _ _ _ => rfl) ?_
  exact loop S 1 none (by omega) (fun q e => nomatch e)
theorem mh_grp {n : Nat} {s : Int32} (hn : a 1 1 = nI n) (h8 : n ≤ 8) : fr_T 2 338 [.ref 0, .int s] (fm g tp bt a b) (some (.int (if 0 < s.toInt ∧ s.toInt < 2 ^ n then 1 else 0))) (fm g tp bt a b) := by
  have e2 : ∀ n, n ≤ 8 → (((1 : Int64) <<< ((nI n).toInt64 &&& 63)) - 1).toInt = 2 ^ n - 1 := by decide
  refine fr_meth (by rfl) (by rfl) ?_
  refine fr_s 7 (pc' := 9) (lc' := [(0, .ref 0), (1, .int s)]) (stk' := [.int 1, .ref 1, .long (1 : Int64), .long (1 : Int64), .long s.toInt64]) (mem' := fm g tp bt a b) (fun _ _ _ => rfl) ?_
  refine fr_ldI (by rfl) (by rfl) (fx_inN (i := 1) (by omega) (by omega)) ?_
  rw [show Int32.toNatClampNeg (1) = 1 from rfl, hn]
  refine fr_s 3 (pc' := 13) (lc' := [(0, .ref 0), (1, .int s)]) (stk' := [.long (((1 : Int64) <<< ((nI n).toInt64 &&& 63)) - 1), .long (1 : Int64), .long s.toInt64]) (mem' := fm g tp bt a b) (fun _ _ _ => rfl) ?_
  obtain ⟨v, mem, ⟨x, hx, hR⟩, hf⟩ := fr_isFrom (v := s.toInt64) (l := (1 : Int64)) (m := ((1 : Int64) <<< ((nI n).toInt64 &&& 63)) - 1) (mem := fm g tp bt a b)
  cases hR
  refine fr_ivS hf (by omega) (by rfl) (by rfl) (by rfl) (by rfl) (by rfl) ?_
  rw [Int32.toInt_toInt64, e2 n h8, show ((1 : Int64)).toInt = 1 from rfl] at hx
  rcases hx with ⟨rfl, hx⟩ | ⟨rfl, h1, h2⟩
  · rw [if_neg (fun z => hx ⟨by omega, by omega⟩)]
    exact fr_ret (by rfl) (by rfl) (by rfl)
  · rw [if_pos ⟨by omega, by omega⟩]
    exact fr_ret (by rfl) (by rfl) (by rfl)
theorem mh_halvesF {n : Nat} {s : Int32} (hn : a 1 1 = nI n) (h8 : n ≤ 8) (h : ¬ (0 < s.toInt ∧ s.toInt < 2 ^ n)) : fr_T 7 341 [.ref 0, .int s] (fm g tp bt a b) (some (.int (-1))) (fm (upd g 2 1) tp bt a b) := by
  refine fr_meth (by rfl) (by rfl) ?_
  refine fr_s 2 (pc' := 2) (lc' := [(0, .ref 0), (1, .int s)]) (stk' := [.int s, .ref 0]) (mem' := fm g tp bt a b) (fun _ _ _ => rfl) ?_
  refine fr_ivV (mh_grp (s := s) hn h8) (by omega) (by rfl) (by rfl) (by rfl) (by rfl) (by rfl) (by rfl) ?_
  rw [if_neg h]
  refine fr_s 1 (pc' := cond (fx_cb .eq 0 0) 25 8) (lc' := [(0, .ref 0), (1, .int s)]) (stk' := []) (mem' := fm g tp bt a b) (fun _ _ _ => rfl) ?_
  rw [show fx_cb .eq 0 0 = true from by decide]
  dsimp only [cond]
  refine fr_s 2 (pc' := 27) (lc' := [(0, .ref 0), (1, .int s)]) (stk' := [.int 1, .ref 0]) (mem' := fm g tp bt a b) (fun _ _ _ => rfl) ?_
  refine fr_ivV (fr_refuse (x := 1)) (by omega) (by rfl) (by rfl) (by rfl) (by rfl) (by rfl) (by rfl) ?_
  exact fr_ret (by rfl) (by rfl) (by rfl)
theorem mh_halvesT {n S : Nat} (hn : a 1 1 = nI n) (h8 : n ≤ 8) (h0 : 0 < S) (hS : S < 2 ^ n) {q : Nat} (hq : bM (wtm a) n S = some q) (hq1 : q < 256) (hq2 : q &&& S = q) : fr_T 7 341 [.ref 0, .int (nI S)] (fm g tp bt a b) (some (.int (fM (wtm a) n S q))) (fm (upd g 2 0) tp bt a b) := by
  have hp : ∀ n, n ≤ 8 → 2 ^ n ≤ 256 := by decide
  have h9 := hp n h8
  refine fr_meth (by rfl) (by rfl) ?_
  refine fr_s 2 (pc' := 2) (lc' := [(0, .ref 0), (1, .int (nI S))]) (stk' := [.int (nI S), .ref 0]) (mem' := fm g tp bt a b) (fun _ _ _ => rfl) ?_
  refine fr_ivV (mh_grp (s := nI S) hn h8) (by omega) (by rfl) (by rfl) (by rfl) (by rfl) (by rfl) (by rfl) ?_
  have he : (nI S).toInt = (S : Int) := nI_i32 (by omega)
  have hz : ((2 ^ n : Nat) : Int) = 2 ^ n := by rw [Int.natCast_pow]; rfl
  rw [if_pos (by rw [he, ← hz]; omega)]
  refine fr_s 1 (pc' := cond (fx_cb .eq 1 0) 25 8) (lc' := [(0, .ref 0), (1, .int (nI S))]) (stk' := []) (mem' := fm g tp bt a b) (fun _ _ _ => rfl) ?_
  rw [show fx_cb .eq 1 0 = false from by decide]
  dsimp only [cond]
  refine fr_s 4 (pc' := 12) (lc' := [(0, .ref 0), (1, .int (nI S))]) (stk' := [.int (nI S), .ref 0, .ref 0, .ref 0]) (mem' := fm g tp bt a b) (fun _ _ _ => rfl) ?_
  refine fr_ivV (mh_half (S := S) hn h8 (by omega)) (by omega) (by rfl) (by rfl) (by rfl) (by rfl) (by rfl) (by rfl) ?_
  rw [hq]
  show fr_R _ _ _ _ (.int (nI q) :: _) _ _
  refine fr_s 1 (pc' := 16) (lc' := [(0, .ref 0), (1, .int (nI S))]) (stk' := [.int (nI S), .int (nI q), .ref 0, .ref 0]) (mem' := fm g tp bt a b) (fun _ _ _ => rfl) ?_
  refine fr_ivV (mh_apart hn h8 (by omega) hq1 hq2) (by omega) (by rfl) (by rfl) (by rfl) (by rfl) (by rfl) (by rfl) ?_
  refine fr_ivV (fr_gives (x := fM (wtm a) n S q)) (by omega) (by rfl) (by rfl) (by rfl) (by rfl) (by rfl) (by rfl) ?_
  refine fr_s 1 (pc' := 30) (lc' := [(0, .ref 0), (1, .int (nI S))]) (stk' := [.int (fM (wtm a) n S q)]) (mem' := fm (upd g 2 0) tp bt a b) (fun _ _ _ => rfl) ?_
  exact fr_ret (by rfl) (by rfl) (by rfl)
theorem mh_halfF {n : Nat} {s : Int32} (hn : a 1 1 = nI n) (h8 : n ≤ 8) (h : ¬ (0 < s.toInt ∧ s.toInt < 2 ^ n)) : fr_T 7 342 [.ref 0, .int s] (fm g tp bt a b) (some (.int (-1))) (fm (upd g 2 1) tp bt a b) := by
  refine fr_meth (by rfl) (by rfl) ?_
  refine fr_s 2 (pc' := 2) (lc' := [(0, .ref 0), (1, .int s)]) (stk' := [.int s, .ref 0]) (mem' := fm g tp bt a b) (fun _ _ _ => rfl) ?_
  refine fr_ivV (mh_grp (s := s) hn h8) (by omega) (by rfl) (by rfl) (by rfl) (by rfl) (by rfl) (by rfl) ?_
  rw [if_neg h]
  refine fr_s 1 (pc' := cond (fx_cb .eq 0 0) 20 8) (lc' := [(0, .ref 0), (1, .int s)]) (stk' := []) (mem' := fm g tp bt a b) (fun _ _ _ => rfl) ?_
  rw [show fx_cb .eq 0 0 = true from by decide]
  dsimp only [cond]
  refine fr_s 2 (pc' := 22) (lc' := [(0, .ref 0), (1, .int s)]) (stk' := [.int 1, .ref 0]) (mem' := fm g tp bt a b) (fun _ _ _ => rfl) ?_
  refine fr_ivV (fr_refuse (x := 1)) (by omega) (by rfl) (by rfl) (by rfl) (by rfl) (by rfl) (by rfl) ?_
  exact fr_ret (by rfl) (by rfl) (by rfl)
theorem mh_halfT {n S : Nat} (hn : a 1 1 = nI n) (h8 : n ≤ 8) (h0 : 0 < S) (hS : S < 2 ^ n) : fr_T 7 342 [.ref 0, .int (nI S)] (fm g tp bt a b) (some (.int (ob (bM (wtm a) n S)))) (fm (upd g 2 0) tp bt a b) := by
  have hp : ∀ n, n ≤ 8 → 2 ^ n ≤ 256 := by decide
  have h9 := hp n h8
  refine fr_meth (by rfl) (by rfl) ?_
  refine fr_s 2 (pc' := 2) (lc' := [(0, .ref 0), (1, .int (nI S))]) (stk' := [.int (nI S), .ref 0]) (mem' := fm g tp bt a b) (fun _ _ _ => rfl) ?_
  refine fr_ivV (mh_grp (s := nI S) hn h8) (by omega) (by rfl) (by rfl) (by rfl) (by rfl) (by rfl) (by rfl) ?_
  have he : (nI S).toInt = (S : Int) := nI_i32 (by omega)
  have hz : ((2 ^ n : Nat) : Int) = 2 ^ n := by rw [Int.natCast_pow]; rfl
  rw [if_pos (by rw [he, ← hz]; omega)]
  refine fr_s 1 (pc' := cond (fx_cb .eq 1 0) 20 8) (lc' := [(0, .ref 0), (1, .int (nI S))]) (stk' := []) (mem' := fm g tp bt a b) (fun _ _ _ => rfl) ?_
  rw [show fx_cb .eq 1 0 = false from by decide]
  dsimp only [cond]
  refine fr_s 3 (pc' := 11) (lc' := [(0, .ref 0), (1, .int (nI S))]) (stk' := [.int (nI S), .ref 0, .ref 0]) (mem' := fm g tp bt a b) (fun _ _ _ => rfl) ?_
  refine fr_ivV (mh_half (S := S) hn h8 (by omega)) (by omega) (by rfl) (by rfl) (by rfl) (by rfl) (by rfl) (by rfl) ?_
  refine fr_ivV (fr_gives (x := ob (bM (wtm a) n S))) (by omega) (by rfl) (by rfl) (by rfl) (by rfl) (by rfl) (by rfl) ?_
  refine fr_s 1 (pc' := 25) (lc' := [(0, .ref 0), (1, .int (nI S))]) (stk' := [.int (ob (bM (wtm a) n S))]) (mem' := fm (upd g 2 0) tp bt a b) (fun _ _ _ => rfl) ?_
  exact fr_ret (by rfl) (by rfl) (by rfl)
end HLM
