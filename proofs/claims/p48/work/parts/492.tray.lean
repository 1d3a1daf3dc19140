/-! ===== fx: routes in trays ===== -/
section FTRY
variable {g : Nat → Int32} {tp bt : Int64} {a0 a : Nat → Nat → Int32} {b : Nat → Nat → Int64}
theorem lgc_ltF {x y : Int64} (h : fx_cb .lt (lg_cmp x y) 0 = false) : y.toInt ≤ x.toInt := by
  rcases rk_lgc x y with ⟨z, w⟩ | ⟨z, w⟩ | ⟨z, w⟩
  · omega
  · omega
  · rw [z] at h; exact absurd h (by decide)
theorem lgc_ltT {x y : Int64} (h : fx_cb .lt (lg_cmp x y) 0 = true) : x.toInt < y.toInt := by
  rcases rk_lgc x y with ⟨z, w⟩ | ⟨z, w⟩ | ⟨z, w⟩
  · rw [z] at h; exact absurd h (by decide)
  · rw [z] at h; exact absurd h (by decide)
  · omega
theorem lgc_gtF {x y : Int64} (h : fx_cb .gt (lg_cmp x y) 0 = false) : x.toInt ≤ y.toInt := by
  rcases rk_lgc x y with ⟨z, w⟩ | ⟨z, w⟩ | ⟨z, w⟩
  · rw [z] at h; exact absurd h (by decide)
  · omega
  · omega
theorem lgc_gtT {x y : Int64} (h : fx_cb .gt (lg_cmp x y) 0 = true) : y.toInt < x.toInt := by
  rcases rk_lgc x y with ⟨z, w⟩ | ⟨z, w⟩ | ⟨z, w⟩
  · omega
  · rw [z] at h; exact absurd h (by decide)
  · rw [z] at h; exact absurd h (by decide)
theorem lgc_geF {x y : Int64} (h : fx_cb .ge (lg_cmp x y) 0 = false) : x.toInt < y.toInt := by
  rcases rk_lgc x y with ⟨z, w⟩ | ⟨z, w⟩ | ⟨z, w⟩
  · rw [z] at h; exact absurd h (by decide)
  · rw [z] at h; exact absurd h (by decide)
  · omega
theorem fm_l2i {C : Nat} (h : C < 10) : (Int64.ofNat C).toInt32 = nI C := by
  have e : ∀ C, C < 10 → (Int64.ofNat C).toInt32 = nI C := by decide
  exact e C h
theorem fm_lN {x : Int64} {n : Nat} (h0 : 0 ≤ x.toInt) (h1 : x.toInt < (n : Int)) : ∃ C, C < n ∧ x = Int64.ofNat C := by
  refine ⟨x.toInt.toNat, by omega, ?_⟩
  have h2 := x.toInt_lt
  apply Int64.toInt_inj.mp
  rw [Int64.toInt_ofNat_of_lt (by omega)]
  omega
theorem fr_isFrom {v l m : Int64} {mem : fx_M} : ∃ (r : Option Value) (mem' : fx_M), (fun R => ∃ z : Int32, (z = 0 ∧ ¬ (l.toInt ≤ v.toInt ∧ v.toInt ≤ m.toInt) ∨ z = 1 ∧ l.toInt ≤ v.toInt ∧ v.toInt ≤ m.toInt) ∧ R = (some (.int z), mem)) (r, mem') ∧ fr_T 1 218 [.long v, .long l, .long m] mem r mem' := by
  refine fe_meth (F := fun R => ∃ z : Int32, (z = 0 ∧ ¬ (l.toInt ≤ v.toInt ∧ v.toInt ≤ m.toInt) ∨ z = 1 ∧ l.toInt ≤ v.toInt ∧ v.toInt ≤ m.toInt) ∧ R = (some (.int z), mem)) (M := gk_m218) (by rfl) (by rfl) ?_
  refine fe_s 3 (pc' := 3) (lc' := [(0, .long v), (2, .long l), (4, .long m)]) (stk' := [.int (lg_cmp v l)]) (mem' := mem) (fun _ _ _ => rfl) ?_
  refine fe_s 1 (pc' := cond (fx_cb .lt (lg_cmp v l) 0) 17 6) (lc' := [(0, .long v), (2, .long l), (4, .long m)]) (stk' := []) (mem' := mem) (fun _ _ _ => rfl) ?_
  cases h1 : fx_cb .lt (lg_cmp v l) 0
  · refine fe_s 3 (pc' := 10) (lc' := [(0, .long v), (2, .long l), (4, .long m)]) (stk' := [.int (lg_cmp v m)]) (mem' := mem) (fun _ _ _ => rfl) ?_
    refine fe_s 1 (pc' := cond (fx_cb .gt (lg_cmp v m) 0) 17 13) (lc' := [(0, .long v), (2, .long l), (4, .long m)]) (stk' := []) (mem' := mem) (fun _ _ _ => rfl) ?_
    cases h2 : fx_cb .gt (lg_cmp v m) 0
    · refine fe_s 2 (pc' := 18) (lc' := [(0, .long v), (2, .long l), (4, .long m)]) (stk' := [.int 1]) (mem' := mem) (fun _ _ _ => rfl) ?_
      exact fe_ret ⟨1, Or.inr ⟨rfl, lgc_ltF h1, lgc_gtF h2⟩, rfl⟩ (by rfl) (by rfl) (by rfl)
    · refine fe_s 1 (pc' := 18) (lc' := [(0, .long v), (2, .long l), (4, .long m)]) (stk' := [.int 0]) (mem' := mem) (fun _ _ _ => rfl) ?_
      exact fe_ret ⟨0, Or.inl ⟨rfl, fun z => by have := lgc_gtT h2; omega⟩, rfl⟩ (by rfl) (by rfl) (by rfl)
  · refine fe_s 1 (pc' := 18) (lc' := [(0, .long v), (2, .long l), (4, .long m)]) (stk' := [.int 0]) (mem' := mem) (fun _ _ _ => rfl) ?_
    exact fe_ret ⟨0, Or.inl ⟨rfl, fun z => by have := lgc_ltT h1; omega⟩, rfl⟩ (by rfl) (by rfl) (by rfl)
theorem fr_isCellX {c : Int64} {NC : Nat} (eN : a 1 0 = nI NC) (hN : NC ≤ 10) : ∃ (r : Option Value) (mem' : fx_M), (fun R => ∃ z : Int32, (z = 0 ∨ z = 1 ∧ ∃ C, C < NC ∧ c = Int64.ofNat C) ∧ R = (some (.int z), fm g tp bt a b)) (r, mem') ∧ fr_T 1 255 [.ref 0, .long c] (fm g tp bt a b) r mem' := by
  refine fe_meth (F := fun R => ∃ z : Int32, (z = 0 ∨ z = 1 ∧ ∃ C, C < NC ∧ c = Int64.ofNat C) ∧ R = (some (.int z), fm g tp bt a b)) (M := gk_m255) (by rfl) (by rfl) ?_
  refine fe_s 3 (pc' := 3) (lc' := [(0, .ref 0), (1, .long c)]) (stk' := [.int (lg_cmp c (0 : Int64))]) (mem' := fm g tp bt a b) (fun _ _ _ => rfl) ?_
  refine fe_s 1 (pc' := cond (fx_cb .lt (lg_cmp c (0 : Int64)) 0) 22 6) (lc' := [(0, .ref 0), (1, .long c)]) (stk' := []) (mem' := fm g tp bt a b) (fun _ _ _ => rfl) ?_
  cases h1 : fx_cb .lt (lg_cmp c (0 : Int64)) 0
  · refine fe_s 4 (pc' := 12) (lc' := [(0, .ref 0), (1, .long c)]) (stk' := [.int 0, .ref 1, .long c]) (mem' := fm g tp bt a b) (fun _ _ _ => rfl) ?_
    refine fe_ldI (by rfl) (by rfl) (fx_inN (i := 0) (by omega) (by omega)) ?_
    rw [show Int32.toNatClampNeg (0) = 0 from rfl]
    rw [eN]
    refine fe_s 2 (pc' := 15) (lc' := [(0, .ref 0), (1, .long c)]) (stk' := [.int (lg_cmp c ((nI NC).toInt64))]) (mem' := fm g tp bt a b) (fun _ _ _ => rfl) ?_
    refine fe_s 1 (pc' := cond (fx_cb .ge (lg_cmp c ((nI NC).toInt64)) 0) 22 18) (lc' := [(0, .ref 0), (1, .long c)]) (stk' := []) (mem' := fm g tp bt a b) (fun _ _ _ => rfl) ?_
    cases h2 : fx_cb .ge (lg_cmp c ((nI NC).toInt64)) 0
    · refine fe_s 2 (pc' := 23) (lc' := [(0, .ref 0), (1, .long c)]) (stk' := [.int 1]) (mem' := fm g tp bt a b) (fun _ _ _ => rfl) ?_
      exact fe_ret ⟨1, Or.inr ⟨rfl, fm_lN (by have := lgc_ltF h1; simpa using this) (by have := lgc_geF h2; rw [Int32.toInt_toInt64, nI_i32 (by omega)] at this; exact this)⟩, rfl⟩ (by rfl) (by rfl) (by rfl)
    · refine fe_s 1 (pc' := 23) (lc' := [(0, .ref 0), (1, .long c)]) (stk' := [.int 0]) (mem' := fm g tp bt a b) (fun _ _ _ => rfl) ?_
      exact fe_ret ⟨0, Or.inl rfl, rfl⟩ (by rfl) (by rfl) (by rfl)
  · refine fe_s 1 (pc' := 23) (lc' := [(0, .ref 0), (1, .long c)]) (stk' := [.int 0]) (mem' := fm g tp bt a b) (fun _ _ _ => rfl) ?_
    exact fe_ret ⟨0, Or.inl rfl, rfl⟩ (by rfl) (by rfl) (by rfl)
theorem fr_isWayM {B : Int32} : fr_T 3 262 [.ref 0, .int (-1), .int B] (fm g tp bt a b) (some (.int (fm_b (a 1 4) B))) (fm g tp bt a b) := by
  refine fr_meth (by rfl) (by rfl) ?_
  refine fr_s 4 (pc' := 6) (lc' := [(0, .ref 0), (1, .int (-1)), (2, .int B)]) (stk' := [.int (-1), .ref 1, .ref 0]) (mem' := fm g tp bt a b) (fun _ _ _ => rfl) ?_
  refine fr_ivS fr_cellRow (by omega) (by rfl) (by rfl) (by rfl) (by rfl) (by rfl) ?_
  refine fr_s 2 (pc' := 11) (lc' := [(0, .ref 0), (1, .int (-1)), (2, .int B)]) (stk' := [.int 4, .ref 1, .ref 0]) (mem' := fm g tp bt a b) (fun _ _ _ => rfl) ?_
  refine fr_ldI (by rfl) (by rfl) (fx_inN (i := 4) (by omega) (by omega)) ?_
  rw [show Int32.toNatClampNeg 4 = 4 from rfl]
  refine fr_s 1 (pc' := 13) (lc' := [(0, .ref 0), (1, .int (-1)), (2, .int B)]) (stk' := [.int B, .int (a 1 4), .ref 0]) (mem' := fm g tp bt a b) (fun _ _ _ => rfl) ?_
  refine fr_ivV fr_isIn (by omega) (by rfl) (by rfl) (by rfl) (by rfl) (by rfl) (by rfl) ?_
  exact fr_retz (fm_b_01 _ _) (by rfl) (by rfl)
theorem fr_isRoute {T : Nat} {X t n : Nat} (hB : fm_B a0) (hD : fm_D a0 a T) (hX : X < 10) (ht : t < 4) (hn : n ≤ 20) (hc : ∀ k, k < n → ∃ C, C < 10 ∧ b 5 (60 * t + k) = Int64.ofNat C) : ∃ (v : Option Value) (mem' : fx_M), (fun R => ∃ v : Int32, (v = 0 ∨ v = 1) ∧ ∃ a' : Nat → Nat → Int32, fm_D a0 a' T ∧ R = (some (.int v), fm g tp bt a' b)) (v, mem') ∧ fr_T 5 286 [.ref 0, .int (nI X), .int (nI t), .int (nI n)] (fm g tp bt a b) v mem' := by
  obtain ⟨NC, hNC, eNC⟩ := fm_B_0 hB (i := 0) (n := 10) (by decide) rfl
  obtain ⟨NW, hNW, eNW⟩ := fm_B_0 hB (i := 1) (n := 8) (by decide) rfl
  have hT9 := hD.2.2.2.2.1
  refine fe_meth (F := fun R => ∃ v : Int32, (v = 0 ∨ v = 1) ∧ ∃ a' : Nat → Nat → Int32, fm_D a0 a' T ∧ R = (some (.int v), fm g tp bt a' b)) (M := gk_m286) (by rfl) (by rfl) ?_
  refine fe_s 4 (pc' := 6) (lc' := [(5, .int 0), (4, .int (nI X)), (0, .ref 0), (1, .int (nI X)), (2, .int (nI t)), (3, .int (nI n))]) (stk' := []) (mem' := fm g tp bt a b) (fun _ _ _ => rfl) ?_
  have loop1 : ∀ (r i1 : Nat), i1 + r = n → ∀ y4_1 : Nat, y4_1 < 10 → ∀ a_1 : Nat → Nat → Int32, fm_D a0 a_1 T → fe_R 4 gk_m286 6 [(5, .int (nI i1)), (4, .int (nI y4_1)), (0, .ref 0), (1, .int (nI X)), (2, .int (nI t)), (3, .int (nI n))] [] (fm g tp bt a_1 b) (fun R => ∃ v : Int32, (v = 0 ∨ v = 1) ∧ ∃ a' : Nat → Nat → Int32, fm_D a0 a' T ∧ R = (some (.int v), fm g tp bt a' b)) := by
    intro r
    induction r with
    | zero =>
      intro i1 hi1 y4_1 hy4_1 a_1 hD_1
      obtain rfl : n = i1 := by omega
      refine fe_s 2 (pc' := 9) (lc' := [(5, .int (nI n)), (4, .int (nI y4_1)), (0, .ref 0), (1, .int (nI X)), (2, .int (nI t)), (3, .int (nI n))]) (stk' := [.int (nI n), .int (nI n)]) (mem' := fm g tp bt a_1 b) (fun _ _ _ => rfl) ?_
      refine fe_s 1 (pc' := cond (fx_cb .ge (nI n) (nI n)) 50 12) (lc' := [(5, .int (nI n)), (4, .int (nI y4_1)), (0, .ref 0), (1, .int (nI X)), (2, .int (nI t)), (3, .int (nI n))]) (stk' := []) (mem' := fm g tp bt a_1 b) (fun _ _ _ => rfl) ?_
      rw [show (fx_cb .ge (nI n) (nI n)) = true from cb_geT (a := n) (b := n) (by omega) (by omega) (by omega)]
      dsimp only [cond]
      refine fe_s 1 (pc' := 51) (lc' := [(5, .int (nI n)), (4, .int (nI y4_1)), (0, .ref 0), (1, .int (nI X)), (2, .int (nI t)), (3, .int (nI n))]) (stk' := [.int 1]) (mem' := fm g tp bt a_1 b) (fun _ _ _ => rfl) ?_
      exact fe_ret ⟨_, Or.inr rfl, _, hD_1, rfl⟩ (by rfl) (by rfl) (by rfl)
    | succ r ih1 =>
      intro i1 hi1 y4_1 hy4_1 a_1 hD_1
      have hl1 : i1 < n := by omega
      refine fe_s 2 (pc' := 9) (lc' := [(5, .int (nI i1)), (4, .int (nI y4_1)), (0, .ref 0), (1, .int (nI X)), (2, .int (nI t)), (3, .int (nI n))]) (stk' := [.int (nI n), .int (nI i1)]) (mem' := fm g tp bt a_1 b) (fun _ _ _ => rfl) ?_
      refine fe_s 1 (pc' := cond (fx_cb .ge (nI i1) (nI n)) 50 12) (lc' := [(5, .int (nI i1)), (4, .int (nI y4_1)), (0, .ref 0), (1, .int (nI X)), (2, .int (nI t)), (3, .int (nI n))]) (stk' := []) (mem' := fm g tp bt a_1 b) (fun _ _ _ => rfl) ?_
      rw [show (fx_cb .ge (nI i1) (nI n)) = false from cb_geF (a := i1) (b := n) (by omega) (by omega) (by omega)]
      dsimp only [cond]
      refine fe_s 7 (pc' := 23) (lc' := [(5, .int (nI i1)), (4, .int (nI y4_1)), (0, .ref 0), (1, .int (nI X)), (2, .int (nI t)), (3, .int (nI n))]) (stk' := [.int ((60 * (nI t)) + (nI i1)), .ref 5]) (mem' := fm g tp bt a_1 b) (fun _ _ _ => rfl) ?_
      rw [show ((60 * (nI t)) + (nI i1) : Int32) = nI ((60 * t) + i1) from by simp only [show (60 : Int32) = nI 60 from rfl, nI_add, fm_mul]]
      refine fe_ldL (by rfl) (by rfl) (fx_inN (i := (60 * t) + i1) (by omega) (by omega)) ?_
      rw [show Int32.toNatClampNeg (nI ((60 * t) + i1)) = (60 * t) + i1 from nI_clamp (by omega)]
      obtain ⟨c2, hc2, ec2⟩ := hc (i1) (by omega)
      rw [ec2]
      refine fe_s 1 (pc' := 25) (lc' := [(5, .int (nI i1)), (4, .int (nI y4_1)), (0, .ref 0), (1, .int (nI X)), (2, .int (nI t)), (3, .int (nI n))]) (stk' := [.int ((Int64.ofNat c2).toInt32)]) (mem' := fm g tp bt a_1 b) (fun _ _ _ => rfl) ?_
      rw [fm_l2i hc2]
      refine fe_s 4 (pc' := 32) (lc' := [(6, .int (nI c2)), (5, .int (nI i1)), (4, .int (nI y4_1)), (0, .ref 0), (1, .int (nI X)), (2, .int (nI t)), (3, .int (nI n))]) (stk' := [.int (nI c2), .int (nI y4_1), .ref 0]) (mem' := fm g tp bt a_1 b) (fun _ _ _ => rfl) ?_
      refine fe_ivV (fr_isWay (A := y4_1) (B := nI c2) (g := g) (tp := tp) (bt := bt) (a := a_1) (b := b) (by omega)) (by omega) (by rfl) (by rfl) (by rfl) (by rfl) (by rfl) (by rfl) ?_
      rcases fm_b_01 (a_1 1 (10 + 6 * y4_1)) (nI c2) with q3 | q3
      · rw [q3]
        refine fe_s 1 (pc' := cond (fx_cb .ne 0 0) 40 38) (lc' := [(6, .int (nI c2)), (5, .int (nI i1)), (4, .int (nI y4_1)), (0, .ref 0), (1, .int (nI X)), (2, .int (nI t)), (3, .int (nI n))]) (stk' := []) (mem' := fm g tp bt a_1 b) (fun _ _ _ => rfl) ?_
        rw [show (fx_cb .ne 0 0) = false from by decide]
        dsimp only [cond]
        refine fe_s 1 (pc' := 39) (lc' := [(6, .int (nI c2)), (5, .int (nI i1)), (4, .int (nI y4_1)), (0, .ref 0), (1, .int (nI X)), (2, .int (nI t)), (3, .int (nI n))]) (stk' := [.int 0]) (mem' := fm g tp bt a_1 b) (fun _ _ _ => rfl) ?_
        exact fe_ret ⟨_, Or.inl rfl, _, hD_1, rfl⟩ (by rfl) (by rfl) (by rfl)
      · rw [q3]
        refine fe_s 1 (pc' := cond (fx_cb .ne 1 0) 40 38) (lc' := [(6, .int (nI c2)), (5, .int (nI i1)), (4, .int (nI y4_1)), (0, .ref 0), (1, .int (nI X)), (2, .int (nI t)), (3, .int (nI n))]) (stk' := []) (mem' := fm g tp bt a_1 b) (fun _ _ _ => rfl) ?_
        rw [show (fx_cb .ne 1 0) = true from by decide]
        dsimp only [cond]
        refine fe_s 4 (pc' := 6) (lc' := [(5, .int ((nI i1) + 1)), (4, .int (nI c2)), (6, .int (nI c2)), (0, .ref 0), (1, .int (nI X)), (2, .int (nI t)), (3, .int (nI n))]) (stk' := []) (mem' := fm g tp bt a_1 b) (fun _ _ _ => rfl) ?_
        rw [show ((nI i1) + 1 : Int32) = nI (i1 + 1) from by simp only [show (1 : Int32) = nI 1 from rfl, nI_add, fm_mul]]
        refine fe_w (lc' := [(5, .int (nI (i1 + 1))), (4, .int (nI c2)), (0, .ref 0), (1, .int (nI X)), (2, .int (nI t)), (3, .int (nI n))]) ⟨rfl, rfl, rfl, rfl, rfl, rfl, trivial⟩ (by show List.Nodup [5, 4, 0, 1, 2, 3]; decide) (by show List.Nodup [5, 4, 6, 0, 1, 2, 3]; decide) ?_
        exact ih1 (i1 + 1) (by omega) (c2) (by omega) a_1 hD_1
  exact loop1 (n) 0 (by omega) (X) (by omega) a hD
theorem fr_sets {T : Nat} {W t n : Nat} (hB : fm_B a0) (hD : fm_D a0 a T) (hW : W < 8) (ht : t < 4) (hn : n ≤ 20) (hc : ∀ k, k < n → ∃ C, C < 10 ∧ b 5 (60 * t + k) = Int64.ofNat C) : ∃ (v : Option Value) (mem' : fx_M), (fun R => ∃ a' : Nat → Nat → Int32, fm_D a0 a' T ∧ R = (none, fm g tp bt a' b)) (v, mem') ∧ fr_T 3 288 [.ref 0, .int (nI W), .int (nI t), .int (nI n)] (fm g tp bt a b) v mem' := by
  obtain ⟨NC, hNC, eNC⟩ := fm_B_0 hB (i := 0) (n := 10) (by decide) rfl
  obtain ⟨NW, hNW, eNW⟩ := fm_B_0 hB (i := 1) (n := 8) (by decide) rfl
  have hT9 := hD.2.2.2.2.1
  refine fe_meth (F := fun R => ∃ a' : Nat → Nat → Int32, fm_D a0 a' T ∧ R = (none, fm g tp bt a' b)) (M := gk_m288) (by rfl) (by rfl) ?_
  refine fe_s 2 (pc' := 3) (lc' := [(4, .int 0), (0, .ref 0), (1, .int (nI W)), (2, .int (nI t)), (3, .int (nI n))]) (stk' := []) (mem' := fm g tp bt a b) (fun _ _ _ => rfl) ?_
  have loop1 : ∀ (r i1 : Nat), i1 + r = n → ∀ a_1 : Nat → Nat → Int32, fm_D a0 a_1 T → fe_R 2 gk_m288 3 [(4, .int (nI i1)), (0, .ref 0), (1, .int (nI W)), (2, .int (nI t)), (3, .int (nI n))] [] (fm g tp bt a_1 b) (fun R => ∃ a' : Nat → Nat → Int32, fm_D a0 a' T ∧ R = (none, fm g tp bt a' b)) := by
    intro r
    induction r with
    | zero =>
      intro i1 hi1 a_1 hD_1
      obtain rfl : n = i1 := by omega
      refine fe_s 2 (pc' := 6) (lc' := [(4, .int (nI n)), (0, .ref 0), (1, .int (nI W)), (2, .int (nI t)), (3, .int (nI n))]) (stk' := [.int (nI n), .int (nI n)]) (mem' := fm g tp bt a_1 b) (fun _ _ _ => rfl) ?_
      refine fe_s 1 (pc' := cond (fx_cb .ge (nI n) (nI n)) 44 9) (lc' := [(4, .int (nI n)), (0, .ref 0), (1, .int (nI W)), (2, .int (nI t)), (3, .int (nI n))]) (stk' := []) (mem' := fm g tp bt a_1 b) (fun _ _ _ => rfl) ?_
      rw [show (fx_cb .ge (nI n) (nI n)) = true from cb_geT (a := n) (b := n) (by omega) (by omega) (by omega)]
      dsimp only [cond]
      refine fe_s 3 (pc' := 49) (lc' := [(4, .int (nI n)), (0, .ref 0), (1, .int (nI W)), (2, .int (nI t)), (3, .int (nI n))]) (stk' := [.int (nI W), .ref 1]) (mem' := fm g tp bt a_1 b) (fun _ _ _ => rfl) ?_
      refine fe_ivS fr_walkerRow (by omega) (by rfl) (by rfl) (by rfl) (by rfl) (by rfl) ?_
      rw [show (278 + 5 * (nI W) : Int32) = nI (278 + (5 * W)) from by simp only [show (278 : Int32) = nI 278 from rfl, show (5 : Int32) = nI 5 from rfl, nI_add, fm_mul]]
      refine fe_s 3 (pc' := 55) (lc' := [(4, .int (nI n)), (0, .ref 0), (1, .int (nI W)), (2, .int (nI t)), (3, .int (nI n))]) (stk' := [.int (nI n), .int ((nI (278 + (5 * W))) + 3), .ref 1]) (mem' := fm g tp bt a_1 b) (fun _ _ _ => rfl) ?_
      rw [show ((nI (278 + (5 * W))) + 3 : Int32) = nI ((278 + (5 * W)) + 3) from by simp only [show (3 : Int32) = nI 3 from rfl, nI_add, fm_mul]]
      refine fe_stI (mem' := fm g tp bt (fm_u a_1 1 (nI ((278 + (5 * W)) + 3) : Int32).toNatClampNeg (nI n)) b) (by rfl) (by rfl) (fx_inN (i := (278 + (5 * W)) + 3) (by omega) (by omega)) (by rfl) ?_
      rw [show Int32.toNatClampNeg (nI ((278 + (5 * W)) + 3)) = (278 + (5 * W)) + 3 from nI_clamp (by omega)]
      obtain ⟨at2, hat2⟩ : ∃ z, z = fm_u a_1 1 ((278 + (5 * W)) + 3) (nI n) := ⟨_, rfl⟩
      rw [← hat2]
      have hDt2 : fm_D a0 at2 T := by rw [hat2, show (278 + (5 * W)) + 3 = 281 + 5 * W by omega]; exact fm_Dw3 (X := n) hD_1 (by omega) (by omega)
      exact fe_ret ⟨_, hDt2, rfl⟩ (by rfl) (by rfl) (by rfl)
    | succ r ih1 =>
      intro i1 hi1 a_1 hD_1
      have hl1 : i1 < n := by omega
      refine fe_s 2 (pc' := 6) (lc' := [(4, .int (nI i1)), (0, .ref 0), (1, .int (nI W)), (2, .int (nI t)), (3, .int (nI n))]) (stk' := [.int (nI n), .int (nI i1)]) (mem' := fm g tp bt a_1 b) (fun _ _ _ => rfl) ?_
      refine fe_s 1 (pc' := cond (fx_cb .ge (nI i1) (nI n)) 44 9) (lc' := [(4, .int (nI i1)), (0, .ref 0), (1, .int (nI W)), (2, .int (nI t)), (3, .int (nI n))]) (stk' := []) (mem' := fm g tp bt a_1 b) (fun _ _ _ => rfl) ?_
      rw [show (fx_cb .ge (nI i1) (nI n)) = false from cb_geF (a := i1) (b := n) (by omega) (by omega) (by omega)]
      dsimp only [cond]
      refine fe_s 16 (pc' := 35) (lc' := [(4, .int (nI i1)), (0, .ref 0), (1, .int (nI W)), (2, .int (nI t)), (3, .int (nI n))]) (stk' := [.int ((60 * (nI t)) + (nI i1)), .ref 5, .int ((318 + (20 * (nI W))) + (nI i1)), .ref 1]) (mem' := fm g tp bt a_1 b) (fun _ _ _ => rfl) ?_
      rw [show ((60 * (nI t)) + (nI i1) : Int32) = nI ((60 * t) + i1) from by simp only [show (60 : Int32) = nI 60 from rfl, nI_add, fm_mul]]
      rw [show ((318 + (20 * (nI W))) + (nI i1) : Int32) = nI ((318 + (20 * W)) + i1) from by simp only [show (318 : Int32) = nI 318 from rfl, show (20 : Int32) = nI 20 from rfl, nI_add, fm_mul]]
      refine fe_ldL (by rfl) (by rfl) (fx_inN (i := (60 * t) + i1) (by omega) (by omega)) ?_
      rw [show Int32.toNatClampNeg (nI ((60 * t) + i1)) = (60 * t) + i1 from nI_clamp (by omega)]
      obtain ⟨c3, hc3, ec3⟩ := hc (i1) (by omega)
      rw [ec3]
      refine fe_s 1 (pc' := 37) (lc' := [(4, .int (nI i1)), (0, .ref 0), (1, .int (nI W)), (2, .int (nI t)), (3, .int (nI n))]) (stk' := [.int ((Int64.ofNat c3).toInt32), .int (nI ((318 + (20 * W)) + i1)), .ref 1]) (mem' := fm g tp bt a_1 b) (fun _ _ _ => rfl) ?_
      rw [fm_l2i hc3]
      refine fe_stI (mem' := fm g tp bt (fm_u a_1 1 (nI ((318 + (20 * W)) + i1) : Int32).toNatClampNeg (nI c3)) b) (by rfl) (by rfl) (fx_inN (i := (318 + (20 * W)) + i1) (by omega) (by omega)) (by rfl) ?_
      rw [show Int32.toNatClampNeg (nI ((318 + (20 * W)) + i1)) = (318 + (20 * W)) + i1 from nI_clamp (by omega)]
      obtain ⟨at4, hat4⟩ : ∃ z, z = fm_u a_1 1 ((318 + (20 * W)) + i1) (nI c3) := ⟨_, rfl⟩
      rw [← hat4]
      have hDt4 : fm_D a0 at4 T := by rw [hat4]; exact fm_Drt (X := c3) hD_1 (by omega) (by omega) (by omega)
      refine fe_s 2 (pc' := 3) (lc' := [(4, .int ((nI i1) + 1)), (0, .ref 0), (1, .int (nI W)), (2, .int (nI t)), (3, .int (nI n))]) (stk' := []) (mem' := fm g tp bt at4 b) (fun _ _ _ => rfl) ?_
      rw [show ((nI i1) + 1 : Int32) = nI (i1 + 1) from by simp only [show (1 : Int32) = nI 1 from rfl, nI_add, fm_mul]]
      exact ih1 (i1 + 1) (by omega) at4 hDt4
  exact loop1 (n) 0 (by omega) a hD
theorem fr_isTray {t : Int32} {mem : fx_M} : ∃ (r : Option Value) (mem' : fx_M), (fun R => ∃ z : Int32, (z = 0 ∨ z = 1 ∧ ∃ n, n < 4 ∧ t = nI n) ∧ R = (some (.int z), mem)) (r, mem') ∧ fr_T 1 211 [.int t] mem r mem' := by
  refine fe_meth (F := fun R => ∃ z : Int32, (z = 0 ∨ z = 1 ∧ ∃ n, n < 4 ∧ t = nI n) ∧ R = (some (.int z), mem)) (M := gk_m211) (by rfl) (by rfl) ?_
  refine fe_s 1 (pc' := 1) (lc' := [(0, .int t)]) (stk' := [.int t]) (mem' := mem) (fun _ _ _ => rfl) ?_
  refine fe_s 1 (pc' := cond (fx_cb .lt t 0) 13 4) (lc' := [(0, .int t)]) (stk' := []) (mem' := mem) (fun _ _ _ => rfl) ?_
  cases h1 : fx_cb .lt t 0
  · refine fe_s 2 (pc' := 6) (lc' := [(0, .int t)]) (stk' := [.int 4, .int t]) (mem' := mem) (fun _ _ _ => rfl) ?_
    refine fe_s 1 (pc' := cond (fx_cb .ge t 4) 13 9) (lc' := [(0, .int t)]) (stk' := []) (mem' := mem) (fun _ _ _ => rfl) ?_
    cases h2 : fx_cb .ge t 4
    · refine fe_s 2 (pc' := 14) (lc' := [(0, .int t)]) (stk' := [.int 1]) (mem' := mem) (fun _ _ _ => rfl) ?_
      exact fe_ret ⟨_, Or.inr ⟨rfl, fm_rng (n := 4) (by omega) h1 h2⟩, rfl⟩ (by rfl) (by rfl) (by rfl)
    · refine fe_s 1 (pc' := 14) (lc' := [(0, .int t)]) (stk' := [.int 0]) (mem' := mem) (fun _ _ _ => rfl) ?_
      exact fe_ret ⟨_, Or.inl rfl, rfl⟩ (by rfl) (by rfl) (by rfl)
  · refine fe_s 1 (pc' := 14) (lc' := [(0, .int t)]) (stk' := [.int 0]) (mem' := mem) (fun _ _ _ => rfl) ?_
    exact fe_ret ⟨_, Or.inl rfl, rfl⟩ (by rfl) (by rfl) (by rfl)
theorem fr_wrongTray {tray nn : Int32} {M NC : Nat} (hM : M ≤ 20) (eNC : a 1 0 = nI NC) (hNC : NC ≤ 10) : ∃ (r : Option Value) (mem' : fx_M), (fun R => ∃ v : Nat, v ≤ 5 ∧ (v = 0 → ∃ t n : Nat, tray = nI t ∧ nn = nI n ∧ t < 4 ∧ 1 ≤ n ∧ n ≤ M ∧ ∀ k, k < n → ∃ C, C < 10 ∧ b 5 (60 * t + k) = Int64.ofNat C) ∧ R = (some (.int (nI v)), fm g tp bt a b)) (r, mem') ∧ fr_T 2 287 [.ref 0, .int tray, .int nn, .int (nI M)] (fm g tp bt a b) r mem' := by
  refine fe_meth (F := fun R => ∃ v : Nat, v ≤ 5 ∧ (v = 0 → ∃ t n : Nat, tray = nI t ∧ nn = nI n ∧ t < 4 ∧ 1 ≤ n ∧ n ≤ M ∧ ∀ k, k < n → ∃ C, C < 10 ∧ b 5 (60 * t + k) = Int64.ofNat C) ∧ R = (some (.int (nI v)), fm g tp bt a b)) (M := gk_m287) (by rfl) (by rfl) ?_
  refine fe_s 1 (pc' := 1) (lc' := [(0, .ref 0), (1, .int tray), (2, .int nn), (3, .int (nI M))]) (stk' := [.int tray]) (mem' := fm g tp bt a b) (fun _ _ _ => rfl) ?_
  obtain ⟨v1, mem1, ⟨x1, hx1, hR1⟩, hfr1⟩ := fr_isTray (t := tray) (mem := fm g tp bt a b)
  cases hR1
  refine fe_ivS hfr1 (by omega) (by rfl) (by rfl) (by rfl) (by rfl) (by rfl) ?_
  rcases hx1 with rfl | ⟨rfl, t, ht, rfl⟩
  · refine fe_s 1 (pc' := cond (fx_cb .eq 0 0) 18 7) (lc' := [(0, .ref 0), (1, .int tray), (2, .int nn), (3, .int (nI M))]) (stk' := []) (mem' := fm g tp bt a b) (fun _ _ _ => rfl) ?_
    rw [show (fx_cb .eq 0 0) = true from by decide]
    dsimp only [cond]
    refine fe_s 1 (pc' := 19) (lc' := [(0, .ref 0), (1, .int tray), (2, .int nn), (3, .int (nI M))]) (stk' := [.int 1]) (mem' := fm g tp bt a b) (fun _ _ _ => rfl) ?_
    exact fe_ret ⟨1, by omega, fun z => absurd z (by decide), rfl⟩ (by rfl) (by rfl) (by rfl)
  · refine fe_s 1 (pc' := cond (fx_cb .eq 1 0) 18 7) (lc' := [(0, .ref 0), (1, .int (nI t)), (2, .int nn), (3, .int (nI M))]) (stk' := []) (mem' := fm g tp bt a b) (fun _ _ _ => rfl) ?_
    rw [show (fx_cb .eq 1 0) = false from by decide]
    dsimp only [cond]
    refine fe_s 5 (pc' := 12) (lc' := [(0, .ref 0), (1, .int (nI t)), (2, .int nn), (3, .int (nI M))]) (stk' := [.long ((nI M).toInt64), .long (1 : Int64), .long (nn.toInt64)]) (mem' := fm g tp bt a b) (fun _ _ _ => rfl) ?_
    obtain ⟨v2, mem2, ⟨x2, hx2, hR2⟩, hfr2⟩ := fr_isFrom (v := nn.toInt64) (l := (1 : Int64)) (m := (nI M).toInt64) (mem := fm g tp bt a b)
    cases hR2
    refine fe_ivS hfr2 (by omega) (by rfl) (by rfl) (by rfl) (by rfl) (by rfl) ?_
    rcases hx2 with ⟨rfl, -⟩ | ⟨rfl, hl2, hm2⟩
    · refine fe_s 1 (pc' := cond (fx_cb .ne 0 0) 20 18) (lc' := [(0, .ref 0), (1, .int (nI t)), (2, .int nn), (3, .int (nI M))]) (stk' := []) (mem' := fm g tp bt a b) (fun _ _ _ => rfl) ?_
      rw [show (fx_cb .ne 0 0) = false from by decide]
      dsimp only [cond]
      refine fe_s 1 (pc' := 19) (lc' := [(0, .ref 0), (1, .int (nI t)), (2, .int nn), (3, .int (nI M))]) (stk' := [.int 1]) (mem' := fm g tp bt a b) (fun _ _ _ => rfl) ?_
      exact fe_ret ⟨1, by omega, fun z => absurd z (by decide), rfl⟩ (by rfl) (by rfl) (by rfl)
    · obtain ⟨n, hn, rfl⟩ : ∃ n, n ≤ M ∧ nn = nI n := by
        rw [Int32.toInt_toInt64, Int32.toInt_toInt64, nI_i32 (by omega)] at hm2
        rw [Int32.toInt_toInt64, show ((1 : Int64).toInt) = 1 from rfl] at hl2
        exact nI_bd (by omega) hm2
      have hn1 : 1 ≤ n := by
        rw [Int32.toInt_toInt64, nI_i32 (by omega), show ((1 : Int64).toInt) = 1 from rfl] at hl2; omega
      refine fe_s 1 (pc' := cond (fx_cb .ne 1 0) 20 18) (lc' := [(0, .ref 0), (1, .int (nI t)), (2, .int (nI n)), (3, .int (nI M))]) (stk' := []) (mem' := fm g tp bt a b) (fun _ _ _ => rfl) ?_
      rw [show (fx_cb .ne 1 0) = true from by decide]
      dsimp only [cond]
      refine fe_s 3 (pc' := 25) (lc' := [(0, .ref 0), (1, .int (nI t)), (2, .int (nI n)), (3, .int (nI M))]) (stk' := [.int (nI t), .ref 4]) (mem' := fm g tp bt a b) (fun _ _ _ => rfl) ?_
      refine fe_ldI (by rfl) (by rfl) (fx_inN (i := t) (by omega) (by omega)) ?_
      rw [show Int32.toNatClampNeg (nI t) = t from nI_clamp (by omega)]
      refine fe_s 1 (pc' := 27) (lc' := [(0, .ref 0), (1, .int (nI t)), (2, .int (nI n)), (3, .int (nI M))]) (stk' := [.int (-1), .int (a 4 t)]) (mem' := fm g tp bt a b) (fun _ _ _ => rfl) ?_
      refine fe_s 1 (pc' := cond (fx_cb .ne (a 4 t) (-1)) 32 30) (lc' := [(0, .ref 0), (1, .int (nI t)), (2, .int (nI n)), (3, .int (nI M))]) (stk' := []) (mem' := fm g tp bt a b) (fun _ _ _ => rfl) ?_
      cases h1 : fx_cb .ne (a 4 t) (-1)
      · refine fe_s 1 (pc' := 31) (lc' := [(0, .ref 0), (1, .int (nI t)), (2, .int (nI n)), (3, .int (nI M))]) (stk' := [.int 2]) (mem' := fm g tp bt a b) (fun _ _ _ => rfl) ?_
        exact fe_ret ⟨2, by omega, fun z => absurd z (by decide), rfl⟩ (by rfl) (by rfl) (by rfl)
      · refine fe_s 3 (pc' := 37) (lc' := [(0, .ref 0), (1, .int (nI t)), (2, .int (nI n)), (3, .int (nI M))]) (stk' := [.int (nI t), .ref 4]) (mem' := fm g tp bt a b) (fun _ _ _ => rfl) ?_
        refine fe_ldI (by rfl) (by rfl) (fx_inN (i := t) (by omega) (by omega)) ?_
        rw [show Int32.toNatClampNeg (nI t) = t from nI_clamp (by omega)]
        refine fe_s 1 (pc' := 39) (lc' := [(0, .ref 0), (1, .int (nI t)), (2, .int (nI n)), (3, .int (nI M))]) (stk' := [.int (nI n), .int (a 4 t)]) (mem' := fm g tp bt a b) (fun _ _ _ => rfl) ?_
        refine fe_s 1 (pc' := cond (fx_cb .ge (a 4 t) (nI n)) 44 42) (lc' := [(0, .ref 0), (1, .int (nI t)), (2, .int (nI n)), (3, .int (nI M))]) (stk' := []) (mem' := fm g tp bt a b) (fun _ _ _ => rfl) ?_
        cases h2 : fx_cb .ge (a 4 t) (nI n)
        · refine fe_s 1 (pc' := 43) (lc' := [(0, .ref 0), (1, .int (nI t)), (2, .int (nI n)), (3, .int (nI M))]) (stk' := [.int 3]) (mem' := fm g tp bt a b) (fun _ _ _ => rfl) ?_
          exact fe_ret ⟨3, by omega, fun z => absurd z (by decide), rfl⟩ (by rfl) (by rfl) (by rfl)
        · refine fe_s 2 (pc' := 47) (lc' := [(4, .int 0), (0, .ref 0), (1, .int (nI t)), (2, .int (nI n)), (3, .int (nI M))]) (stk' := []) (mem' := fm g tp bt a b) (fun _ _ _ => rfl) ?_
          have loop : ∀ (r k : Nat), k + r = n → (∀ j, j < k → ∃ C, C < 10 ∧ b 5 (60 * t + j) = Int64.ofNat C) → fe_R 1 gk_m287 47 [(4, .int (nI k)), (0, .ref 0), (1, .int (nI t)), (2, .int (nI n)), (3, .int (nI M))] [] (fm g tp bt a b) (fun R => ∃ v : Nat, v ≤ 5 ∧ (v = 0 → ∃ t2 n2 : Nat, nI t = nI t2 ∧ nI n = nI n2 ∧ t2 < 4 ∧ 1 ≤ n2 ∧ n2 ≤ M ∧ ∀ k, k < n2 → ∃ C, C < 10 ∧ b 5 (60 * t2 + k) = Int64.ofNat C) ∧ R = (some (.int (nI v)), fm g tp bt a b)) := by
            intro r
            induction r with
            | zero =>
              intro k hk hc9
              obtain rfl : n = k := by omega
              refine fe_s 2 (pc' := 50) (lc' := [(4, .int (nI n)), (0, .ref 0), (1, .int (nI t)), (2, .int (nI n)), (3, .int (nI M))]) (stk' := [.int (nI n), .int (nI n)]) (mem' := fm g tp bt a b) (fun _ _ _ => rfl) ?_
              refine fe_s 1 (pc' := cond (fx_cb .ge (nI n) (nI n)) 80 53) (lc' := [(4, .int (nI n)), (0, .ref 0), (1, .int (nI t)), (2, .int (nI n)), (3, .int (nI M))]) (stk' := []) (mem' := fm g tp bt a b) (fun _ _ _ => rfl) ?_
              rw [show (fx_cb .ge (nI n) (nI n)) = true from cb_geT (a := n) (b := n) (by omega) (by omega) (by omega)]
              dsimp only [cond]
              refine fe_s 1 (pc' := 81) (lc' := [(4, .int (nI n)), (0, .ref 0), (1, .int (nI t)), (2, .int (nI n)), (3, .int (nI M))]) (stk' := [.int 0]) (mem' := fm g tp bt a b) (fun _ _ _ => rfl) ?_
              exact fe_ret ⟨0, by omega, fun _ => ⟨t, n, rfl, rfl, ht, hn1, hn, hc9⟩, rfl⟩ (by rfl) (by rfl) (by rfl)
            | succ r ih =>
              intro k hk hc9
              refine fe_s 2 (pc' := 50) (lc' := [(4, .int (nI k)), (0, .ref 0), (1, .int (nI t)), (2, .int (nI n)), (3, .int (nI M))]) (stk' := [.int (nI n), .int (nI k)]) (mem' := fm g tp bt a b) (fun _ _ _ => rfl) ?_
              refine fe_s 1 (pc' := cond (fx_cb .ge (nI k) (nI n)) 80 53) (lc' := [(4, .int (nI k)), (0, .ref 0), (1, .int (nI t)), (2, .int (nI n)), (3, .int (nI M))]) (stk' := []) (mem' := fm g tp bt a b) (fun _ _ _ => rfl) ?_
              rw [show (fx_cb .ge (nI k) (nI n)) = false from cb_geF (a := k) (b := n) (by omega) (by omega) (by omega)]
              dsimp only [cond]
              refine fe_s 8 (pc' := 65) (lc' := [(4, .int (nI k)), (0, .ref 0), (1, .int (nI t)), (2, .int (nI n)), (3, .int (nI M))]) (stk' := [.int ((60 * (nI t)) + (nI k)), .ref 5, .ref 0]) (mem' := fm g tp bt a b) (fun _ _ _ => rfl) ?_
              rw [show ((60 * (nI t)) + (nI k) : Int32) = nI ((60 * t) + k) from by simp only [show (60 : Int32) = nI 60 from rfl, nI_add, fm_mul]]
              refine fe_ldL (by rfl) (by rfl) (fx_inN (i := (60 * t) + k) (by omega) (by omega)) ?_
              rw [show Int32.toNatClampNeg (nI ((60 * t) + k)) = (60 * t) + k from nI_clamp (by omega)]
              obtain ⟨v3, mem3, ⟨x3, hx3, hR3⟩, hfr3⟩ := fr_isCellX (c := b 5 ((60 * t) + k)) (g := g) (tp := tp) (bt := bt) (b := b) eNC hNC
              cases hR3
              refine fe_ivV hfr3 (by omega) (by rfl) (by rfl) (by rfl) (by rfl) (by rfl) (by rfl) ?_
              rcases hx3 with rfl | ⟨rfl, C3, hC3, e3⟩
              · refine fe_s 1 (pc' := cond (fx_cb .ne 0 0) 74 72) (lc' := [(4, .int (nI k)), (0, .ref 0), (1, .int (nI t)), (2, .int (nI n)), (3, .int (nI M))]) (stk' := []) (mem' := fm g tp bt a b) (fun _ _ _ => rfl) ?_
                rw [show (fx_cb .ne 0 0) = false from by decide]
                dsimp only [cond]
                refine fe_s 1 (pc' := 73) (lc' := [(4, .int (nI k)), (0, .ref 0), (1, .int (nI t)), (2, .int (nI n)), (3, .int (nI M))]) (stk' := [.int 5]) (mem' := fm g tp bt a b) (fun _ _ _ => rfl) ?_
                exact fe_ret ⟨5, by omega, fun z => absurd z (by decide), rfl⟩ (by rfl) (by rfl) (by rfl)
              · refine fe_s 1 (pc' := cond (fx_cb .ne 1 0) 74 72) (lc' := [(4, .int (nI k)), (0, .ref 0), (1, .int (nI t)), (2, .int (nI n)), (3, .int (nI M))]) (stk' := []) (mem' := fm g tp bt a b) (fun _ _ _ => rfl) ?_
                rw [show (fx_cb .ne 1 0) = true from by decide]
                dsimp only [cond]
                refine fe_s 2 (pc' := 47) (lc' := [(4, .int ((nI k) + 1)), (0, .ref 0), (1, .int (nI t)), (2, .int (nI n)), (3, .int (nI M))]) (stk' := []) (mem' := fm g tp bt a b) (fun _ _ _ => rfl) ?_
                rw [show ((nI k) + 1 : Int32) = nI (k + 1) from by simp only [show (1 : Int32) = nI 1 from rfl, nI_add, fm_mul]]
                refine ih (k + 1) (by omega) (fun j hj => ?_)
                by_cases e : j = k
                · subst e; exact ⟨C3, by omega, e3⟩
                · exact hc9 j (by omega)
          refine fe_w (lc' := [(4, .int (nI 0)), (0, .ref 0), (1, .int (nI t)), (2, .int (nI n)), (3, .int (nI M))]) ⟨rfl, rfl, rfl, rfl, rfl, trivial⟩ (by show List.Nodup [4, 0, 1, 2, 3]; decide) (by show List.Nodup [4, 0, 1, 2, 3]; decide) ?_
          exact loop n 0 (by omega) (fun j hj => absurd hj (Nat.not_lt_zero j))
end FTRY
