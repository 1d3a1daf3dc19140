/-! ===== groups: both sides exact ===== -/
theorem xr_lt {s k : Nat} (hs : s < 256) (hk : k < 8) : s ^^^ 2 ^ k < 256 := Nat.xor_lt_two_pow (n := 8) hs (Nat.pow_lt_pow_right (by decide) hk)
theorem sh_pow : ∀ n, n ≤ 8 → (1 : Int32) <<< (nI n &&& 31) = nI (2 ^ n) := by decide
theorem pw_le : ∀ n, n ≤ 8 → 1 ≤ 2 ^ n ∧ 2 ^ n ≤ 256 := by decide
/-- one more in the last group, or in a new one -/
def wiC (most x wt : Int32) : Int32 := match fx_cb .gt (x - x / 1000 * 1000 + wt) most with
  | true => (x / 1000 + 1) * 1000 + wt
  | false => x + wt
def mnI (x y : Int32) : Int32 := if y < x then y else x
def blC (row wt : Nat → Int32) (most : Int32) (s : Nat) : Nat → Int32
  | 0 => 1000000
  | k + 1 => if s.testBit k = true then mnI (blC row wt most s k) (wiC most (row (s ^^^ 2 ^ k)) (wt k)) else blC row wt most s k
def rwG (wt : Nat → Int32) (most : Int32) (n set : Nat) (r0 : Nat → Int32) : Nat → Nat → Int32
  | 0 => r0
  | m + 1 => if (m + 1) &&& set = m + 1 then upd (rwG wt most n set r0 m) (m + 1) (blC (rwG wt most n set r0 m) wt most (m + 1) n) else rwG wt most n set r0 m
section GRC
variable {g : Nat → Nat → Int32} {l : Nat → Nat → Int64} {a : Nat → Nat → Int32} {b : Nat → Nat → Int64} {R : (Nat → fx_E) × fx_M} {r : Nat → Int32}
set_option maxRecDepth 8000 in
theorem cx_72g : (cx g l (fm_ur a 72 r) b R)[72]? = some (.inr (.int, 1024, .inl r)) := rfl
set_option maxRecDepth 8000 in
theorem cx_72s (r' : Nat → Int32) : (cx g l (fm_ur a 72 r) b R).set 72 (.inr (.int, 1024, .inl r')) = cx g l (fm_ur a 72 r') b R := rfl
theorem cx_wI {n S : Nat} (hn : g 26 7 = nI n) (h8 : n ≤ 8) : hr_T 1 7 [.ref 26, .int (nI S)] (cx g l a b R) (some (.int (wI (a 28) n S))) (cx g l a b R) := hl_wI hn h8
theorem cx_hset {n : Nat} {s : Int32} (hn : g 26 7 = nI n) (h8 : n ≤ 8) : hr_T 1 4 [.ref 26, .int s] (cx g l a b R) (some (.int (if 0 < s.toInt ∧ s.toInt < 2 ^ n then 1 else 0))) (cx g l a b R) := hl_hset hn h8
theorem cx_ref {x : Int32} : hr_T 1 187 [.ref 0, .int x] (cx g l a b R) (some (.int (-1))) (cx (fm_u g 0 0 x) l a b R) := ha_refuse
theorem cx_ans {x : Int32} : hr_T 1 186 [.ref 0, .int x] (cx g l a b R) (some (.int x)) (cx (fm_u g 0 0 0) l a b R) := ha_answer
set_option maxRecDepth 8000 in
theorem hg_bl {n s : Nat} {most : Int32} (hn : g 26 7 = nI n) (h8 : n ≤ 8) (hs : s < 256) : hr_T 1 15 [.ref 26, .int (nI s), .int most, .ref 72] (cx g l (fm_ur a 72 r) b R) (some (.int (blC r (a 28) most s n))) (cx g l (fm_ur a 72 r) b R) := by
  have loop : ∀ (q k : Nat), k + q = n → hr_R 0 gk_m15 7 [(5, .int (nI k)), (4, .int (blC r (a 28) most s k)), (0, .ref 26), (1, .int (nI s)), (2, .int most), (3, .ref 72)] [] (cx g l (fm_ur a 72 r) b R) (some (.int (blC r (a 28) most s n)), cx g l (fm_ur a 72 r) b R) := by
    intro q
    induction q with
    | zero =>
      intro k hk
      obtain rfl : k = n := by omega
      refine hr_s 3 (pc' := 13) (lc' := [(5, .int (nI k)), (4, .int (blC r (a 28) most s k)), (0, .ref 26), (1, .int (nI s)), (2, .int most), (3, .ref 72)]) (stk' := [.int (g 26 7), .int (nI k)]) (mem' := cx g l (fm_ur a 72 r) b R) (fun _ _ _ => rfl) ?_
      rw [hn]
      refine hr_s 1 (pc' := cond (fx_cb .ge (nI k) (nI k)) 115 16) (lc' := [(5, .int (nI k)), (4, .int (blC r (a 28) most s k)), (0, .ref 26), (1, .int (nI s)), (2, .int most), (3, .ref 72)]) (stk' := []) (mem' := cx g l (fm_ur a 72 r) b R) (fun _ _ _ => rfl) ?_
      rw [show fx_cb .ge (nI k) (nI k) = true from cb_geT (a := k) (b := k) (by omega) (by omega) (by omega)]
      dsimp only [cond]
      refine hr_s 1 (pc' := 117) (lc' := [(5, .int (nI k)), (4, .int (blC r (a 28) most s k)), (0, .ref 26), (1, .int (nI s)), (2, .int most), (3, .ref 72)]) (stk' := [.int (blC r (a 28) most s k)]) (mem' := cx g l (fm_ur a 72 r) b R) (fun _ _ _ => rfl) ?_
      exact hr_ret (by rfl) (by rfl) (by rfl)
    | succ q ih =>
      intro k hk
      refine hr_s 3 (pc' := 13) (lc' := [(5, .int (nI k)), (4, .int (blC r (a 28) most s k)), (0, .ref 26), (1, .int (nI s)), (2, .int most), (3, .ref 72)]) (stk' := [.int (g 26 7), .int (nI k)]) (mem' := cx g l (fm_ur a 72 r) b R) (fun _ _ _ => rfl) ?_
      rw [hn]
      refine hr_s 1 (pc' := cond (fx_cb .ge (nI k) (nI n)) 115 16) (lc' := [(5, .int (nI k)), (4, .int (blC r (a 28) most s k)), (0, .ref 26), (1, .int (nI s)), (2, .int most), (3, .ref 72)]) (stk' := []) (mem' := cx g l (fm_ur a 72 r) b R) (fun _ _ _ => rfl) ?_
      rw [show fx_cb .ge (nI k) (nI n) = false from cb_geF (a := k) (b := n) (by omega) (by omega) (by omega)]
      dsimp only [cond]
      refine hr_s 5 (pc' := 22) (lc' := [(5, .int (nI k)), (4, .int (blC r (a 28) most s k)), (0, .ref 26), (1, .int (nI s)), (2, .int most), (3, .ref 72)]) (stk' := [.int ((nI s >>> (nI k &&& 31)) &&& 1)]) (mem' := cx g l (fm_ur a 72 r) b R) (fun _ _ _ => rfl) ?_
      rw [bi_set (by omega)]
      by_cases e : s.testBit k = true
      · rw [if_pos e]
        refine hr_s 1 (pc' := cond (fx_cb .eq 1 0) 109 25) (lc' := [(5, .int (nI k)), (4, .int (blC r (a 28) most s k)), (0, .ref 26), (1, .int (nI s)), (2, .int most), (3, .ref 72)]) (stk' := []) (mem' := cx g l (fm_ur a 72 r) b R) (fun _ _ _ => rfl) ?_
        rw [show fx_cb .eq 1 0 = false from by decide]
        dsimp only [cond]
        refine hr_s 6 (pc' := 32) (lc' := [(5, .int (nI k)), (4, .int (blC r (a 28) most s k)), (0, .ref 26), (1, .int (nI s)), (2, .int most), (3, .ref 72)]) (stk' := [.int (nI s ^^^ ((1 : Int32) <<< (nI k &&& 31))), .ref 72]) (mem' := cx g l (fm_ur a 72 r) b R) (fun _ _ _ => rfl) ?_
        rw [fm_xor_nat s (by omega) k (by omega)]
        have hx := xr_lt hs (show k < 8 by omega)
        refine hr_ldI (by rfl) cx_72g (fx_inN (i := s ^^^ 2 ^ k) (by omega) (by omega)) ?_
        rw [show Int32.toNatClampNeg (nI (s ^^^ 2 ^ k)) = s ^^^ 2 ^ k from nI_clamp (by omega)]
        obtain ⟨x, ex⟩ : ∃ x, r (s ^^^ 2 ^ k) = x := ⟨_, rfl⟩
        rw [ex]
        refine hr_s 4 (pc' := 41) (lc' := [(6, .int x), (5, .int (nI k)), (4, .int (blC r (a 28) most s k)), (0, .ref 26), (1, .int (nI s)), (2, .int most), (3, .ref 72)]) (stk' := [.int (x - x / 1000 * 1000)]) (mem' := cx g l (fm_ur a 72 r) b R) (fun _ _ _ => rfl) ?_
        refine hr_s 3 (pc' := 47) (lc' := [(6, .int x), (5, .int (nI k)), (4, .int (blC r (a 28) most s k)), (0, .ref 26), (1, .int (nI s)), (2, .int most), (3, .ref 72)]) (stk' := [.int (nI k), .ref 28, .int (x - x / 1000 * 1000)]) (mem' := cx g l (fm_ur a 72 r) b R) (fun _ _ _ => rfl) ?_
        refine hr_ldI (by rfl) (by rfl) (fx_inN (i := k) (by omega) (by omega)) ?_
        rw [show Int32.toNatClampNeg (nI k) = k from nI_clamp (by omega), show (fm_ur a 72 r) 28 = a 28 from rfl]
        refine hr_s 2 (pc' := 50) (lc' := [(6, .int x), (5, .int (nI k)), (4, .int (blC r (a 28) most s k)), (0, .ref 26), (1, .int (nI s)), (2, .int most), (3, .ref 72)]) (stk' := [.int most, .int ((x - x / 1000 * 1000) + a 28 k)]) (mem' := cx g l (fm_ur a 72 r) b R) (fun _ _ _ => rfl) ?_
        refine hr_s 1 (pc' := cond (fx_cb .gt ((x - x / 1000 * 1000) + a 28 k) most) 57 53) (lc' := [(6, .int x), (5, .int (nI k)), (4, .int (blC r (a 28) most s k)), (0, .ref 26), (1, .int (nI s)), (2, .int most), (3, .ref 72)]) (stk' := []) (mem' := cx g l (fm_ur a 72 r) b R) (fun _ _ _ => rfl) ?_
        have fin : ∀ (y z : Int32), wiC most x (a 28 k) = y → hr_R 0 gk_m15 100 [(8, .int y), (7, .int z), (6, .int x), (5, .int (nI k)), (4, .int (blC r (a 28) most s k)), (0, .ref 26), (1, .int (nI s)), (2, .int most), (3, .ref 72)] [] (cx g l (fm_ur a 72 r) b R) (some (.int (blC r (a 28) most s n)), cx g l (fm_ur a 72 r) b R) := fun y z ey => by
          refine hr_s 4 (pc' := 109) (lc' := [(4, .int (mnI (blC r (a 28) most s k) y)), (8, .int y), (7, .int z), (6, .int x), (5, .int (nI k)), (0, .ref 26), (1, .int (nI s)), (2, .int most), (3, .ref 72)]) (stk' := []) (mem' := cx g l (fm_ur a 72 r) b R) (fun _ _ _ => rfl) ?_
          refine hr_s 1 (pc' := 112) (lc' := [(5, .int (nI k + 1)), (4, .int (mnI (blC r (a 28) most s k) y)), (8, .int y), (7, .int z), (6, .int x), (0, .ref 26), (1, .int (nI s)), (2, .int most), (3, .ref 72)]) (stk' := []) (mem' := cx g l (fm_ur a 72 r) b R) (fun _ _ _ => rfl) ?_
          refine hr_s 1 (pc' := fx_to 112 (-105)) (lc' := [(5, .int (nI k + 1)), (4, .int (mnI (blC r (a 28) most s k) y)), (8, .int y), (7, .int z), (6, .int x), (0, .ref 26), (1, .int (nI s)), (2, .int most), (3, .ref 72)]) (stk' := []) (mem' := cx g l (fm_ur a 72 r) b R) (fun _ _ _ => rfl) ?_
          rw [show fx_to 112 (-105) = 7 from by decide]
          rw [show nI k + 1 = nI (k + 1) from nI_add k 1, show (mnI (blC r (a 28) most s k) y) = (blC r (a 28) most s (k + 1)) from by
            show _ = (if s.testBit k = true then mnI (blC r (a 28) most s k) (wiC most (r (s ^^^ 2 ^ k)) (a 28 k)) else _)
            rw [if_pos e, ex, ey]]
          refine hr_w (lc' := [(5, .int (nI (k + 1))), (4, .int (blC r (a 28) most s (k + 1))), (0, .ref 26), (1, .int (nI s)), (2, .int most), (3, .ref 72)]) ⟨rfl, rfl, rfl, rfl, rfl, rfl, trivial⟩ (by show List.Nodup [5, 4, 0, 1, 2, 3]; decide) (by show List.Nodup [5, 4, 8, 7, 6, 0, 1, 2, 3]; decide) ?_
          exact ih (k + 1) (by omega)
        cases hgt : fx_cb .gt ((x - x / 1000 * 1000) + a 28 k) most
        · dsimp only [cond]
          refine hr_s 4 (pc' := 62) (lc' := [(7, .int 1), (6, .int x), (5, .int (nI k)), (4, .int (blC r (a 28) most s k)), (0, .ref 26), (1, .int (nI s)), (2, .int most), (3, .ref 72)]) (stk' := [.int 1]) (mem' := cx g l (fm_ur a 72 r) b R) (fun _ _ _ => rfl) ?_
          refine hr_s 1 (pc' := cond (fx_cb .eq 1 0) 78 65) (lc' := [(7, .int 1), (6, .int x), (5, .int (nI k)), (4, .int (blC r (a 28) most s k)), (0, .ref 26), (1, .int (nI s)), (2, .int most), (3, .ref 72)]) (stk' := []) (mem' := cx g l (fm_ur a 72 r) b R) (fun _ _ _ => rfl) ?_
          rw [show fx_cb .eq 1 0 = false from by decide]
          dsimp only [cond]
          refine hr_s 4 (pc' := 73) (lc' := [(7, .int 1), (6, .int x), (5, .int (nI k)), (4, .int (blC r (a 28) most s k)), (0, .ref 26), (1, .int (nI s)), (2, .int most), (3, .ref 72)]) (stk' := [.int (nI k), .ref 28, .int x]) (mem' := cx g l (fm_ur a 72 r) b R) (fun _ _ _ => rfl) ?_
          refine hr_ldI (by rfl) (by rfl) (fx_inN (i := k) (by omega) (by omega)) ?_
          rw [show Int32.toNatClampNeg (nI k) = k from nI_clamp (by omega), show (fm_ur a 72 r) 28 = a 28 from rfl]
          refine hr_s 3 (pc' := 100) (lc' := [(8, .int (x + a 28 k)), (7, .int 1), (6, .int x), (5, .int (nI k)), (4, .int (blC r (a 28) most s k)), (0, .ref 26), (1, .int (nI s)), (2, .int most), (3, .ref 72)]) (stk' := []) (mem' := cx g l (fm_ur a 72 r) b R) (fun _ _ _ => rfl) ?_
          exact fin (x + a 28 k) 1 (by unfold wiC; rw [hgt])
        · dsimp only [cond]
          refine hr_s 3 (pc' := 62) (lc' := [(7, .int 0), (6, .int x), (5, .int (nI k)), (4, .int (blC r (a 28) most s k)), (0, .ref 26), (1, .int (nI s)), (2, .int most), (3, .ref 72)]) (stk' := [.int 0]) (mem' := cx g l (fm_ur a 72 r) b R) (fun _ _ _ => rfl) ?_
          refine hr_s 1 (pc' := cond (fx_cb .eq 0 0) 78 65) (lc' := [(7, .int 0), (6, .int x), (5, .int (nI k)), (4, .int (blC r (a 28) most s k)), (0, .ref 26), (1, .int (nI s)), (2, .int most), (3, .ref 72)]) (stk' := []) (mem' := cx g l (fm_ur a 72 r) b R) (fun _ _ _ => rfl) ?_
          rw [show fx_cb .eq 0 0 = true from by decide]
          dsimp only [cond]
          refine hr_s 7 (pc' := 90) (lc' := [(7, .int 0), (6, .int x), (5, .int (nI k)), (4, .int (blC r (a 28) most s k)), (0, .ref 26), (1, .int (nI s)), (2, .int most), (3, .ref 72)]) (stk' := [.int ((x / 1000 + 1) * 1000)]) (mem' := cx g l (fm_ur a 72 r) b R) (fun _ _ _ => rfl) ?_
          refine hr_s 3 (pc' := 96) (lc' := [(7, .int 0), (6, .int x), (5, .int (nI k)), (4, .int (blC r (a 28) most s k)), (0, .ref 26), (1, .int (nI s)), (2, .int most), (3, .ref 72)]) (stk' := [.int (nI k), .ref 28, .int ((x / 1000 + 1) * 1000)]) (mem' := cx g l (fm_ur a 72 r) b R) (fun _ _ _ => rfl) ?_
          refine hr_ldI (by rfl) (by rfl) (fx_inN (i := k) (by omega) (by omega)) ?_
          rw [show Int32.toNatClampNeg (nI k) = k from nI_clamp (by omega), show (fm_ur a 72 r) 28 = a 28 from rfl]
          refine hr_s 2 (pc' := 100) (lc' := [(8, .int ((x / 1000 + 1) * 1000 + a 28 k)), (7, .int 0), (6, .int x), (5, .int (nI k)), (4, .int (blC r (a 28) most s k)), (0, .ref 26), (1, .int (nI s)), (2, .int most), (3, .ref 72)]) (stk' := []) (mem' := cx g l (fm_ur a 72 r) b R) (fun _ _ _ => rfl) ?_
          exact fin ((x / 1000 + 1) * 1000 + a 28 k) 0 (by unfold wiC; rw [hgt])
      · rw [if_neg e]
        refine hr_s 1 (pc' := cond (fx_cb .eq 0 0) 109 25) (lc' := [(5, .int (nI k)), (4, .int (blC r (a 28) most s k)), (0, .ref 26), (1, .int (nI s)), (2, .int most), (3, .ref 72)]) (stk' := []) (mem' := cx g l (fm_ur a 72 r) b R) (fun _ _ _ => rfl) ?_
        rw [show fx_cb .eq 0 0 = true from by decide]
        dsimp only [cond]
        refine hr_s 1 (pc' := 112) (lc' := [(5, .int (nI k + 1)), (4, .int (blC r (a 28) most s k)), (0, .ref 26), (1, .int (nI s)), (2, .int most), (3, .ref 72)]) (stk' := []) (mem' := cx g l (fm_ur a 72 r) b R) (fun _ _ _ => rfl) ?_
        refine hr_s 1 (pc' := fx_to 112 (-105)) (lc' := [(5, .int (nI k + 1)), (4, .int (blC r (a 28) most s k)), (0, .ref 26), (1, .int (nI s)), (2, .int most), (3, .ref 72)]) (stk' := []) (mem' := cx g l (fm_ur a 72 r) b R) (fun _ _ _ => rfl) ?_
        rw [show fx_to 112 (-105) = 7 from by decide]
        rw [show nI k + 1 = nI (k + 1) from nI_add k 1, show (blC r (a 28) most s k) = (blC r (a 28) most s (k + 1)) from (if_neg e).symm]
        exact ih (k + 1) (by omega)
  refine hr_meth (by rfl) (by rfl) ?_
  refine hr_s 4 (pc' := 7) (lc' := [(5, .int 0), (4, .int 1000000), (0, .ref 26), (1, .int (nI s)), (2, .int most), (3, .ref 72)]) (stk' := []) (mem' := cx g l (fm_ur a 72 r) b R) (fun _ _ _ => rfl) ?_
  exact loop n 0 (by omega)
/-- too heavy alone -/
def tooC (wt : Nat → Int32) (most : Int32) (S n : Nat) : Prop := ∃ j, j < n ∧ S.testBit j = true ∧ fx_cb .le (wt j) most = false
theorem hg_first {n S : Nat} {most : Int32} {Z : Option Value × fx_M} (hn : g 26 7 = nI n) (h8 : n ≤ 8) (hyes : ∀ k, (∃ j, j < n ∧ S.testBit j = true ∧ fx_cb .le (a 28 j) most = false) → hr_R 1 gk_m14 42 [(4, .int (nI k)), (0, .ref 26), (1, .int (nI S)), (2, .int most), (3, .ref 72)] [] (cx g l a b R) Z) (hno : ¬ tooC (a 28) most S n → hr_R 1 gk_m14 50 [(4, .int (nI n)), (0, .ref 26), (1, .int (nI S)), (2, .int most), (3, .ref 72)] [] (cx g l a b R) Z) : hr_R 1 gk_m14 0 [(0, .ref 26), (1, .int (nI S)), (2, .int most), (3, .ref 72)] [] (cx g l a b R) Z := by
  have loop : ∀ (q k : Nat), k + q = n → (∀ j, j < k → S.testBit j = true → fx_cb .le (a 28 j) most = true) → hr_R 1 gk_m14 13 [(4, .int (nI k)), (0, .ref 26), (1, .int (nI S)), (2, .int most), (3, .ref 72)] [] (cx g l a b R) Z := by
    intro q
    induction q with
    | zero =>
      intro k hk hall
      obtain rfl : k = n := by omega
      refine hr_s 3 (pc' := 19) (lc' := [(4, .int (nI k)), (0, .ref 26), (1, .int (nI S)), (2, .int most), (3, .ref 72)]) (stk' := [.int (g 26 7), .int (nI k)]) (mem' := cx g l a b R) (fun _ _ _ => rfl) ?_
      rw [hn]
      refine hr_s 1 (pc' := cond (fx_cb .ge (nI k) (nI k)) 50 22) (lc' := [(4, .int (nI k)), (0, .ref 26), (1, .int (nI S)), (2, .int most), (3, .ref 72)]) (stk' := []) (mem' := cx g l a b R) (fun _ _ _ => rfl) ?_
      rw [show fx_cb .ge (nI k) (nI k) = true from cb_geT (a := k) (b := k) (by omega) (by omega) (by omega)]
      dsimp only [cond]
      exact hno (fun y => by
        obtain ⟨j, h1, h2, h3⟩ := y
        rw [hall j h1 h2] at h3
        cases h3)
    | succ q ih =>
      intro k hk hall
      refine hr_s 3 (pc' := 19) (lc' := [(4, .int (nI k)), (0, .ref 26), (1, .int (nI S)), (2, .int most), (3, .ref 72)]) (stk' := [.int (g 26 7), .int (nI k)]) (mem' := cx g l a b R) (fun _ _ _ => rfl) ?_
      rw [hn]
      refine hr_s 1 (pc' := cond (fx_cb .ge (nI k) (nI n)) 50 22) (lc' := [(4, .int (nI k)), (0, .ref 26), (1, .int (nI S)), (2, .int most), (3, .ref 72)]) (stk' := []) (mem' := cx g l a b R) (fun _ _ _ => rfl) ?_
      rw [show fx_cb .ge (nI k) (nI n) = false from cb_geF (a := k) (b := n) (by omega) (by omega) (by omega)]
      dsimp only [cond]
      have next : (S.testBit k = true → fx_cb .le (a 28 k) most = true) → hr_R 1 gk_m14 44 [(4, .int (nI k)), (0, .ref 26), (1, .int (nI S)), (2, .int most), (3, .ref 72)] [] (cx g l a b R) Z := fun hk2 => by
        refine hr_s 2 (pc' := 13) (lc' := [(4, .int (nI k + 1)), (0, .ref 26), (1, .int (nI S)), (2, .int most), (3, .ref 72)]) (stk' := []) (mem' := cx g l a b R) (fun _ _ _ => rfl) ?_
        rw [show nI k + 1 = nI (k + 1) from nI_add k 1]
        refine ih (k + 1) (by omega) (fun j h1 h2 => ?_)
        by_cases ej : j = k
        · subst ej; exact hk2 h2
        · exact hall j (by omega) h2
      refine hr_s 5 (pc' := 28) (lc' := [(4, .int (nI k)), (0, .ref 26), (1, .int (nI S)), (2, .int most), (3, .ref 72)]) (stk' := [.int ((nI S >>> (nI k &&& 31)) &&& 1)]) (mem' := cx g l a b R) (fun _ _ _ => rfl) ?_
      rw [bi_set (by omega)]
      by_cases e : S.testBit k = true
      · rw [if_pos e]
        refine hr_s 1 (pc' := cond (fx_cb .eq 1 0) 44 31) (lc' := [(4, .int (nI k)), (0, .ref 26), (1, .int (nI S)), (2, .int most), (3, .ref 72)]) (stk' := []) (mem' := cx g l a b R) (fun _ _ _ => rfl) ?_
        rw [show fx_cb .eq 1 0 = false from by decide]
        dsimp only [cond]
        refine hr_s 3 (pc' := 37) (lc' := [(4, .int (nI k)), (0, .ref 26), (1, .int (nI S)), (2, .int most), (3, .ref 72)]) (stk' := [.int (nI k), .ref 28]) (mem' := cx g l a b R) (fun _ _ _ => rfl) ?_
        refine hr_ldI (by rfl) (by rfl) (fx_inN (i := k) (by omega) (by omega)) ?_
        rw [show Int32.toNatClampNeg (nI k) = k from nI_clamp (by omega)]
        refine hr_s 1 (pc' := 39) (lc' := [(4, .int (nI k)), (0, .ref 26), (1, .int (nI S)), (2, .int most), (3, .ref 72)]) (stk' := [.int most, .int (a 28 k)]) (mem' := cx g l a b R) (fun _ _ _ => rfl) ?_
        refine hr_s 1 (pc' := cond (fx_cb .le (a 28 k) most) 44 42) (lc' := [(4, .int (nI k)), (0, .ref 26), (1, .int (nI S)), (2, .int most), (3, .ref 72)]) (stk' := []) (mem' := cx g l a b R) (fun _ _ _ => rfl) ?_
        cases hle : fx_cb .le (a 28 k) most
        · exact hyes k ⟨k, by omega, e, hle⟩
        · exact next (fun _ => hle)
      · rw [if_neg e]
        refine hr_s 1 (pc' := cond (fx_cb .eq 0 0) 44 31) (lc' := [(4, .int (nI k)), (0, .ref 26), (1, .int (nI S)), (2, .int most), (3, .ref 72)]) (stk' := []) (mem' := cx g l a b R) (fun _ _ _ => rfl) ?_
        rw [show fx_cb .eq 0 0 = true from by decide]
        dsimp only [cond]
        exact next (fun y => absurd y e)
  refine hr_s 1 (pc' := 1) (lc' := [(0, .ref 26), (1, .int (nI S)), (2, .int most), (3, .ref 72)]) (stk' := [.ref 72]) (mem' := cx g l a b R) (fun _ _ _ => rfl) ?_
  refine hr_len (by rfl) (by rfl) ?_
  refine hr_s 1 (pc' := 5) (lc' := [(0, .ref 26), (1, .int (nI S)), (2, .int most), (3, .ref 72)]) (stk' := [.int 256, .int (Int32.ofNat 1024)]) (mem' := cx g l a b R) (fun _ _ _ => rfl) ?_
  refine hr_s 1 (pc' := cond (fx_cb .ge (Int32.ofNat 1024) 256) 10 8) (lc' := [(0, .ref 26), (1, .int (nI S)), (2, .int most), (3, .ref 72)]) (stk' := []) (mem' := cx g l a b R) (fun _ _ _ => rfl) ?_
  rw [show fx_cb .ge (Int32.ofNat 1024) 256 = true from by decide]
  dsimp only [cond]
  refine hr_s 2 (pc' := 13) (lc' := [(4, .int 0), (0, .ref 26), (1, .int (nI S)), (2, .int most), (3, .ref 72)]) (stk' := []) (mem' := cx g l a b R) (fun _ _ _ => rfl) ?_
  exact loop n 0 (by omega) (fun j hj => absurd hj (by omega))
theorem hg_fewT {n S : Nat} {most : Int32} (hn : g 26 7 = nI n) (h8 : n ≤ 8) (h : tooC (a 28) most S n) : hr_T 2 14 [.ref 26, .int (nI S), .int most, .ref 72] (cx g l a b R) (some (.int (-1))) (cx g l a b R) := by
  refine hr_meth (by rfl) (by rfl) ?_
  refine hg_first hn h8 (fun k _ => ?_) (fun y => absurd h y)
  refine hr_s 1 (pc' := 43) (lc' := [(4, .int (nI k)), (0, .ref 26), (1, .int (nI S)), (2, .int most), (3, .ref 72)]) (stk' := [.int (-1)]) (mem' := cx g l a b R) (fun _ _ _ => rfl) ?_
  exact hr_ret (by rfl) (by rfl) (by rfl)
theorem hg_fewF {n S : Nat} {most : Int32} (hn : g 26 7 = nI n) (h8 : n ≤ 8) (hS : S < 2 ^ n) (h : ¬ tooC (a 28) most S n) : hr_T 2 14 [.ref 26, .int (nI S), .int most, .ref 72] (cx g l a b R) (some (.int ((rwG (a 28) most n S (upd (a 72) 0 1000) (2 ^ n - 1)) S / 1000))) (cx g l (fm_ur a 72 (rwG (a 28) most n S (upd (a 72) 0 1000) (2 ^ n - 1))) b R) := by
  obtain ⟨hp1, hp2⟩ := pw_le n h8
  have loop : ∀ (q m : Nat), m + 1 + q = 2 ^ n → hr_R 1 gk_m14 59 [(4, .int (nI (m + 1))), (0, .ref 26), (1, .int (nI S)), (2, .int most), (3, .ref 72)] [] (cx g l (fm_ur a 72 (rwG (a 28) most n S (upd (a 72) 0 1000) m)) b R) (some (.int ((rwG (a 28) most n S (upd (a 72) 0 1000) (2 ^ n - 1)) S / 1000)), cx g l (fm_ur a 72 (rwG (a 28) most n S (upd (a 72) 0 1000) (2 ^ n - 1))) b R) := by
    intro q
    induction q with
    | zero =>
      intro m hm
      obtain rfl : m = 2 ^ n - 1 := by omega
      obtain ⟨r, er⟩ : ∃ r, (rwG (a 28) most n S (upd (a 72) 0 1000) (2 ^ n - 1)) = r := ⟨_, rfl⟩
      rw [er]
      refine hr_s 5 (pc' := 67) (lc' := [(4, .int (nI (2 ^ n - 1 + 1))), (0, .ref 26), (1, .int (nI S)), (2, .int most), (3, .ref 72)]) (stk' := [.int ((1 : Int32) <<< (g 26 7 &&& 31)), .int (nI (2 ^ n - 1 + 1))]) (mem' := cx g l (fm_ur a 72 r) b R) (fun _ _ _ => rfl) ?_
      rw [hn, sh_pow n h8]
      refine hr_s 1 (pc' := cond (fx_cb .ge (nI (2 ^ n - 1 + 1)) (nI (2 ^ n))) 97 70) (lc' := [(4, .int (nI (2 ^ n - 1 + 1))), (0, .ref 26), (1, .int (nI S)), (2, .int most), (3, .ref 72)]) (stk' := []) (mem' := cx g l (fm_ur a 72 r) b R) (fun _ _ _ => rfl) ?_
      rw [show fx_cb .ge (nI (2 ^ n - 1 + 1)) (nI (2 ^ n)) = true from cb_geT (a := (2 ^ n - 1 + 1)) (b := 2 ^ n) (by omega) (by omega) (by omega)]
      dsimp only [cond]
      refine hr_s 2 (pc' := 99) (lc' := [(4, .int (nI (2 ^ n - 1 + 1))), (0, .ref 26), (1, .int (nI S)), (2, .int most), (3, .ref 72)]) (stk' := [.int (nI S), .ref 72]) (mem' := cx g l (fm_ur a 72 r) b R) (fun _ _ _ => rfl) ?_
      refine hr_ldI (by rfl) cx_72g (fx_inN (i := S) (by omega) (by omega)) ?_
      rw [show Int32.toNatClampNeg (nI S) = S from nI_clamp (by omega)]
      refine hr_s 2 (pc' := 104) (lc' := [(4, .int (nI (2 ^ n - 1 + 1))), (0, .ref 26), (1, .int (nI S)), (2, .int most), (3, .ref 72)]) (stk' := [.int (r S / 1000)]) (mem' := cx g l (fm_ur a 72 r) b R) (fun _ _ _ => rfl) ?_
      exact hr_ret (by rfl) (by rfl) (by rfl)
    | succ q ih =>
      intro m hm
      obtain ⟨r, er⟩ : ∃ r, (rwG (a 28) most n S (upd (a 72) 0 1000) m) = r := ⟨_, rfl⟩
      rw [er]
      refine hr_s 5 (pc' := 67) (lc' := [(4, .int (nI (m + 1))), (0, .ref 26), (1, .int (nI S)), (2, .int most), (3, .ref 72)]) (stk' := [.int ((1 : Int32) <<< (g 26 7 &&& 31)), .int (nI (m + 1))]) (mem' := cx g l (fm_ur a 72 r) b R) (fun _ _ _ => rfl) ?_
      rw [hn, sh_pow n h8]
      refine hr_s 1 (pc' := cond (fx_cb .ge (nI (m + 1)) (nI (2 ^ n))) 97 70) (lc' := [(4, .int (nI (m + 1))), (0, .ref 26), (1, .int (nI S)), (2, .int most), (3, .ref 72)]) (stk' := []) (mem' := cx g l (fm_ur a 72 r) b R) (fun _ _ _ => rfl) ?_
      rw [show fx_cb .ge (nI (m + 1)) (nI (2 ^ n)) = false from cb_geF (a := m + 1) (b := 2 ^ n) (by omega) (by omega) (by omega)]
      dsimp only [cond]
      have next : ∀ r2, (rwG (a 28) most n S (upd (a 72) 0 1000) (m + 1)) = r2 → hr_R 1 gk_m14 91 [(4, .int (nI (m + 1))), (0, .ref 26), (1, .int (nI S)), (2, .int most), (3, .ref 72)] [] (cx g l (fm_ur a 72 r2) b R) (some (.int ((rwG (a 28) most n S (upd (a 72) 0 1000) (2 ^ n - 1)) S / 1000)), cx g l (fm_ur a 72 (rwG (a 28) most n S (upd (a 72) 0 1000) (2 ^ n - 1))) b R) := fun r2 e2 => by
        refine hr_s 2 (pc' := 59) (lc' := [(4, .int (nI (m + 1) + 1)), (0, .ref 26), (1, .int (nI S)), (2, .int most), (3, .ref 72)]) (stk' := []) (mem' := cx g l (fm_ur a 72 r2) b R) (fun _ _ _ => rfl) ?_
        rw [show nI (m + 1) + 1 = nI (m + 1 + 1) from nI_add (m + 1) 1, ← e2]
        exact ih (m + 1) (by omega)
      refine hr_s 5 (pc' := 76) (lc' := [(4, .int (nI (m + 1))), (0, .ref 26), (1, .int (nI S)), (2, .int most), (3, .ref 72)]) (stk' := [.int (nI (m + 1) &&& (nI S ^^^ -1))]) (mem' := cx g l (fm_ur a 72 r) b R) (fun _ _ _ => rfl) ?_
      rw [hf_m1, hf_xor, hf_and]
      have hn1 := (hf_not S (by omega) (m + 1) (by omega)).1
      by_cases h1 : (m + 1) &&& S = m + 1
      · have hz : (m + 1) &&& (S ^^^ 4294967295) = 0 := Nat.eq_of_beq_eq_true (by rw [hn1, h1]; exact Nat.beq_refl _)
        rw [hz]
        refine hr_s 1 (pc' := cond (fx_cb .ne (nI 0) 0) 91 79) (lc' := [(4, .int (nI (m + 1))), (0, .ref 26), (1, .int (nI S)), (2, .int most), (3, .ref 72)]) (stk' := []) (mem' := cx g l (fm_ur a 72 r) b R) (fun _ _ _ => rfl) ?_
        rw [show fx_cb .ne (nI 0) 0 = false from by decide]
        dsimp only [cond]
        refine hr_s 6 (pc' := 87) (lc' := [(4, .int (nI (m + 1))), (0, .ref 26), (1, .int (nI S)), (2, .int most), (3, .ref 72)]) (stk' := [.ref 72, .int most, .int (nI (m + 1)), .ref 26, .int (nI (m + 1)), .ref 72]) (mem' := cx g l (fm_ur a 72 r) b R) (fun _ _ _ => rfl) ?_
        refine hr_ivV (hg_bl (s := m + 1) (most := most) (r := r) hn h8 (by omega)) (by omega) (by rfl) (by rfl) (by rfl) (by rfl) (by rfl) (by rfl) ?_
        refine hr_stI (by rfl) cx_72g (fx_inN (i := m + 1) (by omega) (by omega)) (cx_72s _) ?_
        rw [show Int32.toNatClampNeg (nI (m + 1)) = m + 1 from nI_clamp (by omega)]
        exact next _ (by
          show (if (m + 1) &&& S = m + 1 then upd (rwG (a 28) most n S (upd (a 72) 0 1000) m) (m + 1) (blC (rwG (a 28) most n S (upd (a 72) 0 1000) m) (a 28) most (m + 1) n) else _) = _
          rw [if_pos h1, er])
      · have hz : ¬ (m + 1) &&& (S ^^^ 4294967295) = 0 := fun e => by
          rw [e] at hn1
          exact h1 (Nat.eq_of_beq_eq_true hn1.symm)
        have hlt : (m + 1) &&& (S ^^^ 4294967295) < 256 := Nat.lt_of_le_of_lt Nat.and_le_left (by omega)
        refine hr_s 1 (pc' := cond (fx_cb .ne (nI ((m + 1) &&& (S ^^^ 4294967295))) 0) 91 79) (lc' := [(4, .int (nI (m + 1))), (0, .ref 26), (1, .int (nI S)), (2, .int most), (3, .ref 72)]) (stk' := []) (mem' := cx g l (fm_ur a 72 r) b R) (fun _ _ _ => rfl) ?_
        rw [show fx_cb .ne (nI ((m + 1) &&& (S ^^^ 4294967295))) 0 = true from by show (!decide (_ = (0 : Int32))) = true; rw [decide_eq_false (show ¬ nI ((m + 1) &&& (S ^^^ 4294967295)) = (0 : Int32) from fun e => hz (hf_inj (y := 0) (by omega) (by omega) e))]; rfl]
        dsimp only [cond]
        exact next r (by
          show (if (m + 1) &&& S = m + 1 then _ else (rwG (a 28) most n S (upd (a 72) 0 1000) m)) = _
          rw [if_neg h1, er])
  refine hr_meth (by rfl) (by rfl) ?_
  refine hg_first hn h8 (fun k y => absurd y h) (fun _ => ?_)
  refine hr_s 3 (pc' := 55) (lc' := [(4, .int (nI n)), (0, .ref 26), (1, .int (nI S)), (2, .int most), (3, .ref 72)]) (stk' := [.int 1000, .int 0, .ref 72]) (mem' := cx g l a b R) (fun _ _ _ => rfl) ?_
  refine hr_stI (mem' := cx g l (fm_ur a 72 (upd (a 72) 0 1000)) b R) (by rfl) (by rfl) (fx_inN (i := 0) (by omega) (by omega)) (by rfl) ?_
  refine hr_s 2 (pc' := 59) (lc' := [(4, .int 1), (0, .ref 26), (1, .int (nI S)), (2, .int most), (3, .ref 72)]) (stk' := []) (mem' := cx g l (fm_ur a 72 (upd (a 72) 0 1000)) b R) (fun _ _ _ => rfl) ?_
  exact loop (2 ^ n - 1) 0 (by omega)
def grN (n : Nat) (s m : Int32) : Prop := (0 < s.toInt ∧ s.toInt < 2 ^ n) ∧ 1 ≤ m.toInt ∧ m.toInt ≤ 999
theorem hg_grpF {n : Nat} {s most : Int32} (hn : g 26 7 = nI n) (h8 : n ≤ 8) (h : ¬ grN n s most) : hr_T 3 174 [.ref 0, .int s, .int most] (cx g l a b R) (some (.int (-1))) (cx (fm_u g 0 0 1) l a b R) := by
  refine hr_meth (by rfl) (by rfl) ?_
  have bad : hr_R 2 gk_m174 26 [(0, .ref 0), (1, .int s), (2, .int most)] [] (cx g l a b R) (some (.int (-1)), cx (fm_u g 0 0 1) l a b R) := by
    refine hr_s 2 (pc' := 28) (lc' := [(0, .ref 0), (1, .int s), (2, .int most)]) (stk' := [.int 1, .ref 0]) (mem' := cx g l a b R) (fun _ _ _ => rfl) ?_
    refine hr_ivV cx_ref (by omega) (by rfl) (by rfl) (by rfl) (by rfl) (by rfl) (by rfl) ?_
    exact hr_ret (by rfl) (by rfl) (by rfl)
  refine hr_s 4 (pc' := 8) (lc' := [(0, .ref 0), (1, .int s), (2, .int most)]) (stk' := [.int s, .ref 26]) (mem' := cx g l a b R) (fun _ _ _ => rfl) ?_
  refine hr_ivV (cx_hset (s := s) hn h8) (by omega) (by rfl) (by rfl) (by rfl) (by rfl) (by rfl) (by rfl) ?_
  by_cases h1 : 0 < s.toInt ∧ s.toInt < 2 ^ n
  · rw [if_pos h1]
    refine hr_s 1 (pc' := cond (fx_cb .eq 1 0) 26 14) (lc' := [(0, .ref 0), (1, .int s), (2, .int most)]) (stk' := []) (mem' := cx g l a b R) (fun _ _ _ => rfl) ?_
    rw [show fx_cb .eq 1 0 = false from by decide]
    dsimp only [cond]
    refine hr_s 2 (pc' := 16) (lc' := [(0, .ref 0), (1, .int s), (2, .int most)]) (stk' := [.int 1, .int most]) (mem' := cx g l a b R) (fun _ _ _ => rfl) ?_
    refine hr_s 1 (pc' := cond (fx_cb .lt most 1) 26 19) (lc' := [(0, .ref 0), (1, .int s), (2, .int most)]) (stk' := []) (mem' := cx g l a b R) (fun _ _ _ => rfl) ?_
    cases h2 : fx_cb .lt most 1
    · have p2 : (1 : Int) ≤ most.toInt := tc_ltF h2
      refine hr_s 2 (pc' := 23) (lc' := [(0, .ref 0), (1, .int s), (2, .int most)]) (stk' := [.int 999, .int most]) (mem' := cx g l a b R) (fun _ _ _ => rfl) ?_
      refine hr_s 1 (pc' := cond (fx_cb .le most 999) 32 26) (lc' := [(0, .ref 0), (1, .int s), (2, .int most)]) (stk' := []) (mem' := cx g l a b R) (fun _ _ _ => rfl) ?_
      cases h3 : fx_cb .le most 999
      · exact bad
      · have p3 : most.toInt ≤ (999 : Int) := tc_le h3
        exact absurd ⟨h1, p2, p3⟩ h
    · exact bad
  · rw [if_neg h1]
    refine hr_s 1 (pc' := cond (fx_cb .eq 0 0) 26 14) (lc' := [(0, .ref 0), (1, .int s), (2, .int most)]) (stk' := []) (mem' := cx g l a b R) (fun _ _ _ => rfl) ?_
    rw [show fx_cb .eq 0 0 = true from by decide]
    dsimp only [cond]
    exact bad
theorem hg_grp6 {n S : Nat} {most : Int32} (hn : g 26 7 = nI n) (h8 : n ≤ 8) (h : grN n (nI S) most) (ht : tooC (a 28) most S n) : hr_T 3 174 [.ref 0, .int (nI S), .int most] (cx g l a b R) (some (.int (-1))) (cx (fm_u g 0 0 6) l a b R) := by
  refine hr_meth (by rfl) (by rfl) ?_
  refine hr_s 4 (pc' := 8) (lc' := [(0, .ref 0), (1, .int (nI S)), (2, .int most)]) (stk' := [.int (nI S), .ref 26]) (mem' := cx g l a b R) (fun _ _ _ => rfl) ?_
  refine hr_ivV (cx_hset (s := nI S) hn h8) (by omega) (by rfl) (by rfl) (by rfl) (by rfl) (by rfl) (by rfl) ?_
  rw [if_pos h.1]
  refine hr_s 1 (pc' := cond (fx_cb .eq 1 0) 26 14) (lc' := [(0, .ref 0), (1, .int (nI S)), (2, .int most)]) (stk' := []) (mem' := cx g l a b R) (fun _ _ _ => rfl) ?_
  rw [show fx_cb .eq 1 0 = false from by decide]
  dsimp only [cond]
  refine hr_s 2 (pc' := 16) (lc' := [(0, .ref 0), (1, .int (nI S)), (2, .int most)]) (stk' := [.int 1, .int most]) (mem' := cx g l a b R) (fun _ _ _ => rfl) ?_
  refine hr_s 1 (pc' := cond (fx_cb .lt most 1) 26 19) (lc' := [(0, .ref 0), (1, .int (nI S)), (2, .int most)]) (stk' := []) (mem' := cx g l a b R) (fun _ _ _ => rfl) ?_
  rw [show fx_cb .lt most 1 = false from decide_eq_false (fun z => by have q := Int32.lt_iff_toInt_lt.mp z; have h1 := h.2.1; have h2 : (1 : Int32).toInt = 1 := rfl; omega)]
  dsimp only [cond]
  refine hr_s 2 (pc' := 23) (lc' := [(0, .ref 0), (1, .int (nI S)), (2, .int most)]) (stk' := [.int 999, .int most]) (mem' := cx g l a b R) (fun _ _ _ => rfl) ?_
  refine hr_s 1 (pc' := cond (fx_cb .le most 999) 32 26) (lc' := [(0, .ref 0), (1, .int (nI S)), (2, .int most)]) (stk' := []) (mem' := cx g l a b R) (fun _ _ _ => rfl) ?_
  rw [show fx_cb .le most 999 = true from decide_eq_true (Int32.le_iff_toInt_le.mpr h.2.2)]
  dsimp only [cond]
  refine hr_s 8 (pc' := 48) (lc' := [(0, .ref 0), (1, .int (nI S)), (2, .int most)]) (stk' := [.ref 72, .int most, .int (nI S), .ref 26]) (mem' := cx g l a b R) (fun _ _ _ => rfl) ?_
  refine hr_ivV (hg_fewT hn h8 ht) (by omega) (by rfl) (by rfl) (by rfl) (by rfl) (by rfl) (by rfl) ?_
  refine hr_s 2 (pc' := 53) (lc' := [(3, .int (-1)), (0, .ref 0), (1, .int (nI S)), (2, .int most)]) (stk' := [.int (-1)]) (mem' := cx g l a b R) (fun _ _ _ => rfl) ?_
  refine hr_s 1 (pc' := cond (fx_cb .ge (-1) 0) 65 56) (lc' := [(3, .int (-1)), (0, .ref 0), (1, .int (nI S)), (2, .int most)]) (stk' := []) (mem' := cx g l a b R) (fun _ _ _ => rfl) ?_
  rw [show fx_cb .ge (-1) 0 = false from by decide]
  dsimp only [cond]
  refine hr_s 2 (pc' := 59) (lc' := [(3, .int (-1)), (0, .ref 0), (1, .int (nI S)), (2, .int most)]) (stk' := [.int 6, .ref 0]) (mem' := cx g l a b R) (fun _ _ _ => rfl) ?_
  refine hr_ivV cx_ref (by omega) (by rfl) (by rfl) (by rfl) (by rfl) (by rfl) (by rfl) ?_
  refine hr_s 1 (pc' := 70) (lc' := [(3, .int (-1)), (0, .ref 0), (1, .int (nI S)), (2, .int most)]) (stk' := [.int (-1)]) (mem' := cx (fm_u g 0 0 6) l a b R) (fun _ _ _ => rfl) ?_
  exact hr_ret (by rfl) (by rfl) (by rfl)
theorem hg_grpT {n S : Nat} {most : Int32} (hn : g 26 7 = nI n) (h8 : n ≤ 8) (hS : S < 2 ^ n) (h : grN n (nI S) most) (ht : ¬ tooC (a 28) most S n) : ∃ (g' a' : Nat → Nat → Int32), hr_T 3 174 [.ref 0, .int (nI S), .int most] (cx g l a b R) (some (.int (if 0 ≤ (rwG (a 28) most n S (upd (a 72) 0 1000) (2 ^ n - 1)) S / 1000 then (rwG (a 28) most n S (upd (a 72) 0 1000) (2 ^ n - 1)) S / 1000 else -1))) (cx g' l a' b R) := by
  have key : ∀ x : Int32, ∃ g' : Nat → Nat → Int32, hr_R 2 gk_m174 53 [(3, .int x), (0, .ref 0), (1, .int (nI S)), (2, .int most)] [.int x] (cx g l (fm_ur a 72 (rwG (a 28) most n S (upd (a 72) 0 1000) (2 ^ n - 1))) b R) (some (.int (if 0 ≤ x then x else -1)), cx g' l (fm_ur a 72 (rwG (a 28) most n S (upd (a 72) 0 1000) (2 ^ n - 1))) b R) := fun x => by
    by_cases hx : 0 ≤ x
    · refine ⟨fm_u g 0 0 0, ?_⟩
      rw [if_pos hx]
      refine hr_s 1 (pc' := cond (fx_cb .ge x 0) 65 56) (lc' := [(3, .int x), (0, .ref 0), (1, .int (nI S)), (2, .int most)]) (stk' := []) (mem' := cx g l (fm_ur a 72 (rwG (a 28) most n S (upd (a 72) 0 1000) (2 ^ n - 1))) b R) (fun _ _ _ => rfl) ?_
      rw [show fx_cb .ge x 0 = true from decide_eq_true hx]
      dsimp only [cond]
      refine hr_s 2 (pc' := 67) (lc' := [(3, .int x), (0, .ref 0), (1, .int (nI S)), (2, .int most)]) (stk' := [.int x, .ref 0]) (mem' := cx g l (fm_ur a 72 (rwG (a 28) most n S (upd (a 72) 0 1000) (2 ^ n - 1))) b R) (fun _ _ _ => rfl) ?_
      refine hr_ivV cx_ans (by omega) (by rfl) (by rfl) (by rfl) (by rfl) (by rfl) (by rfl) ?_
      exact hr_ret (by rfl) (by rfl) (by rfl)
    · refine ⟨fm_u g 0 0 6, ?_⟩
      rw [if_neg hx]
      refine hr_s 1 (pc' := cond (fx_cb .ge x 0) 65 56) (lc' := [(3, .int x), (0, .ref 0), (1, .int (nI S)), (2, .int most)]) (stk' := []) (mem' := cx g l (fm_ur a 72 (rwG (a 28) most n S (upd (a 72) 0 1000) (2 ^ n - 1))) b R) (fun _ _ _ => rfl) ?_
      rw [show fx_cb .ge x 0 = false from decide_eq_false hx]
      dsimp only [cond]
      refine hr_s 2 (pc' := 59) (lc' := [(3, .int x), (0, .ref 0), (1, .int (nI S)), (2, .int most)]) (stk' := [.int 6, .ref 0]) (mem' := cx g l (fm_ur a 72 (rwG (a 28) most n S (upd (a 72) 0 1000) (2 ^ n - 1))) b R) (fun _ _ _ => rfl) ?_
      refine hr_ivV cx_ref (by omega) (by rfl) (by rfl) (by rfl) (by rfl) (by rfl) (by rfl) ?_
      refine hr_s 1 (pc' := 70) (lc' := [(3, .int x), (0, .ref 0), (1, .int (nI S)), (2, .int most)]) (stk' := [.int (-1)]) (mem' := cx (fm_u g 0 0 6) l (fm_ur a 72 (rwG (a 28) most n S (upd (a 72) 0 1000) (2 ^ n - 1))) b R) (fun _ _ _ => rfl) ?_
      exact hr_ret (by rfl) (by rfl) (by rfl)
  obtain ⟨g', hk⟩ := key ((rwG (a 28) most n S (upd (a 72) 0 1000) (2 ^ n - 1)) S / 1000)
  refine ⟨g', fm_ur a 72 (rwG (a 28) most n S (upd (a 72) 0 1000) (2 ^ n - 1)), hr_meth (by rfl) (by rfl) ?_⟩
  refine hr_s 4 (pc' := 8) (lc' := [(0, .ref 0), (1, .int (nI S)), (2, .int most)]) (stk' := [.int (nI S), .ref 26]) (mem' := cx g l a b R) (fun _ _ _ => rfl) ?_
  refine hr_ivV (cx_hset (s := nI S) hn h8) (by omega) (by rfl) (by rfl) (by rfl) (by rfl) (by rfl) (by rfl) ?_
  rw [if_pos h.1]
  refine hr_s 1 (pc' := cond (fx_cb .eq 1 0) 26 14) (lc' := [(0, .ref 0), (1, .int (nI S)), (2, .int most)]) (stk' := []) (mem' := cx g l a b R) (fun _ _ _ => rfl) ?_
  rw [show fx_cb .eq 1 0 = false from by decide]
  dsimp only [cond]
  refine hr_s 2 (pc' := 16) (lc' := [(0, .ref 0), (1, .int (nI S)), (2, .int most)]) (stk' := [.int 1, .int most]) (mem' := cx g l a b R) (fun _ _ _ => rfl) ?_
  refine hr_s 1 (pc' := cond (fx_cb .lt most 1) 26 19) (lc' := [(0, .ref 0), (1, .int (nI S)), (2, .int most)]) (stk' := []) (mem' := cx g l a b R) (fun _ _ _ => rfl) ?_
  rw [show fx_cb .lt most 1 = false from decide_eq_false (fun z => by have q := Int32.lt_iff_toInt_lt.mp z; have h1 := h.2.1; have h2 : (1 : Int32).toInt = 1 := rfl; omega)]
  dsimp only [cond]
  refine hr_s 2 (pc' := 23) (lc' := [(0, .ref 0), (1, .int (nI S)), (2, .int most)]) (stk' := [.int 999, .int most]) (mem' := cx g l a b R) (fun _ _ _ => rfl) ?_
  refine hr_s 1 (pc' := cond (fx_cb .le most 999) 32 26) (lc' := [(0, .ref 0), (1, .int (nI S)), (2, .int most)]) (stk' := []) (mem' := cx g l a b R) (fun _ _ _ => rfl) ?_
  rw [show fx_cb .le most 999 = true from decide_eq_true (Int32.le_iff_toInt_le.mpr h.2.2)]
  dsimp only [cond]
  refine hr_s 8 (pc' := 48) (lc' := [(0, .ref 0), (1, .int (nI S)), (2, .int most)]) (stk' := [.ref 72, .int most, .int (nI S), .ref 26]) (mem' := cx g l a b R) (fun _ _ _ => rfl) ?_
  refine hr_ivV (hg_fewF hn h8 hS ht) (by omega) (by rfl) (by rfl) (by rfl) (by rfl) (by rfl) (by rfl) ?_
  refine hr_s 2 (pc' := 53) (lc' := [(3, .int ((rwG (a 28) most n S (upd (a 72) 0 1000) (2 ^ n - 1)) S / 1000)), (0, .ref 0), (1, .int (nI S)), (2, .int most)]) (stk' := [.int ((rwG (a 28) most n S (upd (a 72) 0 1000) (2 ^ n - 1)) S / 1000)]) (mem' := cx g l (fm_ur a 72 (rwG (a 28) most n S (upd (a 72) 0 1000) (2 ^ n - 1))) b R) (fun _ _ _ => rfl) ?_
  exact hk
end GRC
/-- the parts of a set, the greatest first -/
def pts (m : Nat) : List Nat := ((List.range (m + 1)).reverse).filter (fun p => Nat.beq (p &&& m) p && !Nat.beq p 0)
def chp (m : Nat) : List Nat → Bool
  | [] => true
  | p :: t => Nat.beq ((p - 1) &&& m) (t.headD 0) && Nat.blt 0 p && Nat.beq (p &&& m) p && chp m t
theorem pts_ok : ∀ m, m < 256 → chp m (pts m) = true ∧ (pts m).headD 0 = m := by decide +kernel
def stM (wt : Nat → Int32) (n : Nat) (most : Int32) (m : Nat) (r : Nat → Int32) (p : Nat) : Nat → Int32 := match fx_cb .gt (wI wt n p) most with
  | true => r
  | false => upd r m (mnI (r m) (r (m ^^^ p) + 1))
def rwM (wt : Nat → Int32) (n : Nat) (most : Int32) (S : Nat) (r0 : Nat → Int32) : Nat → Nat → Int32
  | 0 => r0
  | m + 1 => if m &&& S = m then (pts m).foldl (stM wt n most m) (upd (rwM wt n most S r0 m) m (if m = 0 then 0 else 1000000)) else upd (rwM wt n most S r0 m) m (if m = 0 then 0 else 1000000)
section GRM
variable {g : Nat → Int32} {tp bt : Int64} {a : Nat → Nat → Int32} {b : Nat → Nat → Int64} {r : Nat → Int32}
theorem fm_14g : (fm g tp bt (fm_ur a 14 r) b)[14]? = some (.inr (.int, 256, .inl r)) := rfl
theorem fm_14s (r' : Nat → Int32) : (fm g tp bt (fm_ur a 14 r) b).set 14 (.inr (.int, 256, .inl r')) = fm g tp bt (fm_ur a 14 r') b := rfl
theorem fm_14w : wtm (fm_ur a 14 r) = wtm a := rfl
theorem mg_inner {n S m : Nat} {most : Int32} {Z : Option Value × fx_M} (hn : a 1 1 = nI n) (h8 : n ≤ 8) (hm : m < 256) : ∀ (t : List Nat) (p : Nat) (r : Nat → Int32), chp m (p :: t) = true → p < 256 → (∀ q, fr_R 6 gk_m343 118 [(4, .int q), (3, .int (nI m)), (0, .ref 0), (1, .int (nI S)), (2, .int most)] [] (fm g tp bt (fm_ur a 14 ((p :: t).foldl (stM (wtm a) n most m) r)) b) Z) → fr_R 6 gk_m343 64 [(4, .int (nI p)), (3, .int (nI m)), (0, .ref 0), (1, .int (nI S)), (2, .int most)] [] (fm g tp bt (fm_ur a 14 r) b) Z := by
  intro t
  induction t with
  | nil =>
    intro p r hch hp kk
    unfold chp at hch
    obtain ⟨hc1, c4⟩ := Bool.and_eq_true_iff.mp hch
    obtain ⟨hc2, c3⟩ := Bool.and_eq_true_iff.mp hc1
    obtain ⟨c1, c2⟩ := Bool.and_eq_true_iff.mp hc2
    have c1 := Nat.eq_of_beq_eq_true c1
    have c2 : 1 ≤ p := Nat.le_of_ble_eq_true c2
    have c3 := Nat.eq_of_beq_eq_true c3
    have rest : ∀ r2, stM (wtm a) n most m r p = r2 → fr_R 6 gk_m343 107 [(4, .int (nI p)), (3, .int (nI m)), (0, .ref 0), (1, .int (nI S)), (2, .int most)] [] (fm g tp bt (fm_ur a 14 r2) b) Z := fun r2 e2 => by
      refine fr_s 7 (pc' := 64) (lc' := [(4, .int ((nI p - 1) &&& nI m)), (3, .int (nI m)), (0, .ref 0), (1, .int (nI S)), (2, .int most)]) (stk' := []) (mem' := fm g tp bt (fm_ur a 14 r2) b) (fun _ _ _ => rfl) ?_
      rw [show ((nI p - 1) &&& nI m) = nI 0 from by
        rw [show (1 : Int32) = nI 1 from rfl, tg_sub2 (x := p) (y := 1) c2, hf_and]
        exact congrArg nI c1]
      refine fr_s 1 (pc' := 66) (lc' := [(4, .int (nI 0)), (3, .int (nI m)), (0, .ref 0), (1, .int (nI S)), (2, .int most)]) (stk' := [.int (nI 0)]) (mem' := fm g tp bt (fm_ur a 14 r2) b) (fun _ _ _ => rfl) ?_
      refine fr_s 1 (pc' := cond (fx_cb .le (nI 0) 0) 118 69) (lc' := [(4, .int (nI 0)), (3, .int (nI m)), (0, .ref 0), (1, .int (nI S)), (2, .int most)]) (stk' := []) (mem' := fm g tp bt (fm_ur a 14 r2) b) (fun _ _ _ => rfl) ?_
      rw [show fx_cb .le (nI 0) 0 = true from by decide]
      dsimp only [cond]
      rw [← e2]
      exact kk (nI 0)
    refine fr_s 1 (pc' := 66) (lc' := [(4, .int (nI p)), (3, .int (nI m)), (0, .ref 0), (1, .int (nI S)), (2, .int most)]) (stk' := [.int (nI p)]) (mem' := fm g tp bt (fm_ur a 14 r) b) (fun _ _ _ => rfl) ?_
    refine fr_s 1 (pc' := cond (fx_cb .le (nI p) 0) 118 69) (lc' := [(4, .int (nI p)), (3, .int (nI m)), (0, .ref 0), (1, .int (nI S)), (2, .int most)]) (stk' := []) (mem' := fm g tp bt (fm_ur a 14 r) b) (fun _ _ _ => rfl) ?_
    rw [show fx_cb .le (nI p) 0 = false from cb_leF (a := p) (b := 0) (by omega) (by omega) (by omega)]
    dsimp only [cond]
    refine fr_s 2 (pc' := 72) (lc' := [(4, .int (nI p)), (3, .int (nI m)), (0, .ref 0), (1, .int (nI S)), (2, .int most)]) (stk' := [.int (nI p), .ref 0]) (mem' := fm g tp bt (fm_ur a 14 r) b) (fun _ _ _ => rfl) ?_
    refine fr_ivV (mh_wI (a := fm_ur a 14 r) (S := p) hn h8) (by omega) (by rfl) (by rfl) (by rfl) (by rfl) (by rfl) (by rfl) ?_
    rw [fm_14w]
    refine fr_s 1 (pc' := 76) (lc' := [(4, .int (nI p)), (3, .int (nI m)), (0, .ref 0), (1, .int (nI S)), (2, .int most)]) (stk' := [.int most, .int (wI (wtm a) n p)]) (mem' := fm g tp bt (fm_ur a 14 r) b) (fun _ _ _ => rfl) ?_
    refine fr_s 1 (pc' := cond (fx_cb .gt (wI (wtm a) n p) most) 107 79) (lc' := [(4, .int (nI p)), (3, .int (nI m)), (0, .ref 0), (1, .int (nI S)), (2, .int most)]) (stk' := []) (mem' := fm g tp bt (fm_ur a 14 r) b) (fun _ _ _ => rfl) ?_
    cases hgt : fx_cb .gt (wI (wtm a) n p) most
    · dsimp only [cond]
      refine fr_s 6 (pc' := 89) (lc' := [(4, .int (nI p)), (3, .int (nI m)), (0, .ref 0), (1, .int (nI S)), (2, .int most)]) (stk' := [.int (nI m), .ref 14, .int (nI m), .ref 14]) (mem' := fm g tp bt (fm_ur a 14 r) b) (fun _ _ _ => rfl) ?_
      refine fr_ldI (by rfl) fm_14g (fx_inN (i := m) (by omega) (by omega)) ?_
      rw [show Int32.toNatClampNeg (nI m) = m from nI_clamp (by omega)]
      refine fr_s 7 (pc' := 100) (lc' := [(4, .int (nI p)), (3, .int (nI m)), (0, .ref 0), (1, .int (nI S)), (2, .int most)]) (stk' := [.int (nI m &&& (nI p ^^^ -1)), .ref 14, .int (r m), .int (nI m), .ref 14]) (mem' := fm g tp bt (fm_ur a 14 r) b) (fun _ _ _ => rfl) ?_
      have hx : m ^^^ p < 256 := Nat.xor_lt_two_pow (n := 8) hm hp
      rw [hf_m1, hf_xor, hf_and, (hf_not m hm p hp).2 c3]
      refine fr_ldI (by rfl) fm_14g (fx_inN (i := m ^^^ p) (by omega) (by omega)) ?_
      rw [show Int32.toNatClampNeg (nI (m ^^^ p)) = m ^^^ p from nI_clamp (by omega)]
      refine fr_s 3 (pc' := 106) (lc' := [(4, .int (nI p)), (3, .int (nI m)), (0, .ref 0), (1, .int (nI S)), (2, .int most)]) (stk' := [.int (mnI (r m) (r (m ^^^ p) + 1)), .int (nI m), .ref 14]) (mem' := fm g tp bt (fm_ur a 14 r) b) (fun _ _ _ => rfl) ?_
      refine fr_stI (by rfl) fm_14g (fx_inN (i := m) (by omega) (by omega)) (fm_14s _) ?_
      rw [show Int32.toNatClampNeg (nI m) = m from nI_clamp (by omega)]
      exact rest _ (by unfold stM; rw [hgt])
    · dsimp only [cond]
      exact rest r (by unfold stM; rw [hgt])
  | cons p2 t ih =>
    intro p r hch hp kk
    unfold chp at hch
    obtain ⟨hc1, c4⟩ := Bool.and_eq_true_iff.mp hch
    obtain ⟨hc2, c3⟩ := Bool.and_eq_true_iff.mp hc1
    obtain ⟨c1, c2⟩ := Bool.and_eq_true_iff.mp hc2
    have c1 := Nat.eq_of_beq_eq_true c1
    have c2 : 1 ≤ p := Nat.le_of_ble_eq_true c2
    have c3 := Nat.eq_of_beq_eq_true c3
    have hp2 : 1 ≤ p2 ∧ p2 < 256 := by
      have h := c4
      unfold chp at h
      refine ⟨Nat.le_of_ble_eq_true (Bool.and_eq_true_iff.mp (Bool.and_eq_true_iff.mp (Bool.and_eq_true_iff.mp h).1).1).2, ?_⟩
      have e : (p - 1) &&& m = p2 := c1
      have := Nat.and_le_left (n := p - 1) (m := m)
      omega
    have rest : ∀ r2, stM (wtm a) n most m r p = r2 → fr_R 6 gk_m343 107 [(4, .int (nI p)), (3, .int (nI m)), (0, .ref 0), (1, .int (nI S)), (2, .int most)] [] (fm g tp bt (fm_ur a 14 r2) b) Z := fun r2 e2 => by
      refine fr_s 7 (pc' := 64) (lc' := [(4, .int ((nI p - 1) &&& nI m)), (3, .int (nI m)), (0, .ref 0), (1, .int (nI S)), (2, .int most)]) (stk' := []) (mem' := fm g tp bt (fm_ur a 14 r2) b) (fun _ _ _ => rfl) ?_
      rw [show ((nI p - 1) &&& nI m) = nI p2 from by
        rw [show (1 : Int32) = nI 1 from rfl, tg_sub2 (x := p) (y := 1) c2, hf_and]
        exact congrArg nI c1]
      exact ih p2 r2 c4 hp2.2 (fun q => by rw [← e2]; exact kk q)
    refine fr_s 1 (pc' := 66) (lc' := [(4, .int (nI p)), (3, .int (nI m)), (0, .ref 0), (1, .int (nI S)), (2, .int most)]) (stk' := [.int (nI p)]) (mem' := fm g tp bt (fm_ur a 14 r) b) (fun _ _ _ => rfl) ?_
    refine fr_s 1 (pc' := cond (fx_cb .le (nI p) 0) 118 69) (lc' := [(4, .int (nI p)), (3, .int (nI m)), (0, .ref 0), (1, .int (nI S)), (2, .int most)]) (stk' := []) (mem' := fm g tp bt (fm_ur a 14 r) b) (fun _ _ _ => rfl) ?_
    rw [show fx_cb .le (nI p) 0 = false from cb_leF (a := p) (b := 0) (by omega) (by omega) (by omega)]
    dsimp only [cond]
    refine fr_s 2 (pc' := 72) (lc' := [(4, .int (nI p)), (3, .int (nI m)), (0, .ref 0), (1, .int (nI S)), (2, .int most)]) (stk' := [.int (nI p), .ref 0]) (mem' := fm g tp bt (fm_ur a 14 r) b) (fun _ _ _ => rfl) ?_
    refine fr_ivV (mh_wI (a := fm_ur a 14 r) (S := p) hn h8) (by omega) (by rfl) (by rfl) (by rfl) (by rfl) (by rfl) (by rfl) ?_
    rw [fm_14w]
    refine fr_s 1 (pc' := 76) (lc' := [(4, .int (nI p)), (3, .int (nI m)), (0, .ref 0), (1, .int (nI S)), (2, .int most)]) (stk' := [.int most, .int (wI (wtm a) n p)]) (mem' := fm g tp bt (fm_ur a 14 r) b) (fun _ _ _ => rfl) ?_
    refine fr_s 1 (pc' := cond (fx_cb .gt (wI (wtm a) n p) most) 107 79) (lc' := [(4, .int (nI p)), (3, .int (nI m)), (0, .ref 0), (1, .int (nI S)), (2, .int most)]) (stk' := []) (mem' := fm g tp bt (fm_ur a 14 r) b) (fun _ _ _ => rfl) ?_
    cases hgt : fx_cb .gt (wI (wtm a) n p) most
    · dsimp only [cond]
      refine fr_s 6 (pc' := 89) (lc' := [(4, .int (nI p)), (3, .int (nI m)), (0, .ref 0), (1, .int (nI S)), (2, .int most)]) (stk' := [.int (nI m), .ref 14, .int (nI m), .ref 14]) (mem' := fm g tp bt (fm_ur a 14 r) b) (fun _ _ _ => rfl) ?_
      refine fr_ldI (by rfl) fm_14g (fx_inN (i := m) (by omega) (by omega)) ?_
      rw [show Int32.toNatClampNeg (nI m) = m from nI_clamp (by omega)]
      refine fr_s 7 (pc' := 100) (lc' := [(4, .int (nI p)), (3, .int (nI m)), (0, .ref 0), (1, .int (nI S)), (2, .int most)]) (stk' := [.int (nI m &&& (nI p ^^^ -1)), .ref 14, .int (r m), .int (nI m), .ref 14]) (mem' := fm g tp bt (fm_ur a 14 r) b) (fun _ _ _ => rfl) ?_
      have hx : m ^^^ p < 256 := Nat.xor_lt_two_pow (n := 8) hm hp
      rw [hf_m1, hf_xor, hf_and, (hf_not m hm p hp).2 c3]
      refine fr_ldI (by rfl) fm_14g (fx_inN (i := m ^^^ p) (by omega) (by omega)) ?_
      rw [show Int32.toNatClampNeg (nI (m ^^^ p)) = m ^^^ p from nI_clamp (by omega)]
      refine fr_s 3 (pc' := 106) (lc' := [(4, .int (nI p)), (3, .int (nI m)), (0, .ref 0), (1, .int (nI S)), (2, .int most)]) (stk' := [.int (mnI (r m) (r (m ^^^ p) + 1)), .int (nI m), .ref 14]) (mem' := fm g tp bt (fm_ur a 14 r) b) (fun _ _ _ => rfl) ?_
      refine fr_stI (by rfl) fm_14g (fx_inN (i := m) (by omega) (by omega)) (fm_14s _) ?_
      rw [show Int32.toNatClampNeg (nI m) = m from nI_clamp (by omega)]
      exact rest _ (by unfold stM; rw [hgt])
    · dsimp only [cond]
      exact rest r (by unfold stM; rw [hgt])
theorem mg_outer {n S : Nat} {most : Int32} {Z : Option Value × fx_M} (hn : a 1 1 = nI n) (h8 : n ≤ 8) (hS : S < 256) (kk : ∀ lc, fx_sub [(0, .ref 0), (1, .int (nI S)), (2, .int most)] lc → fx_nd lc → fr_R 6 gk_m343 124 lc [] (fm g tp bt (fm_ur a 14 (rwM (wtm a) n most S (a 14) (S + 1))) b) Z) : ∀ (q m : Nat), m + q = S + 1 → ∀ lc, fx_sub [(3, .int (nI m)), (0, .ref 0), (1, .int (nI S)), (2, .int most)] lc → fx_nd lc → fr_R 6 gk_m343 28 lc [] (fm g tp bt (fm_ur a 14 (rwM (wtm a) n most S (a 14) m)) b) Z := by
  intro q
  induction q with
  | zero =>
    intro m hm lc hs1 hs2
    obtain rfl : m = S + 1 := by omega
    refine fr_w (lc' := [(3, .int (nI (S + 1))), (0, .ref 0), (1, .int (nI S)), (2, .int most)]) hs1 (by show List.Nodup [3, 0, 1, 2]; decide) hs2 ?_
    obtain ⟨r, er⟩ : ∃ r, (rwM (wtm a) n most S (a 14) (S + 1)) = r := ⟨_, rfl⟩
    have kk2 := kk [(3, .int (nI (S + 1))), (0, .ref 0), (1, .int (nI S)), (2, .int most)] ⟨rfl, rfl, rfl, trivial⟩ (by show List.Nodup [3, 0, 1, 2]; decide)
    rw [er] at kk2 ⊢
    refine fr_s 2 (pc' := 30) (lc' := [(3, .int (nI (S + 1))), (0, .ref 0), (1, .int (nI S)), (2, .int most)]) (stk' := [.int (nI S), .int (nI (S + 1))]) (mem' := fm g tp bt (fm_ur a 14 r) b) (fun _ _ _ => rfl) ?_
    refine fr_s 1 (pc' := cond (fx_cb .gt (nI (S + 1)) (nI S)) 124 33) (lc' := [(3, .int (nI (S + 1))), (0, .ref 0), (1, .int (nI S)), (2, .int most)]) (stk' := []) (mem' := fm g tp bt (fm_ur a 14 r) b) (fun _ _ _ => rfl) ?_
    rw [show fx_cb .gt (nI (S + 1)) (nI S) = true from cb_gtT (a := S + 1) (b := S) (by omega) (by omega) (by omega)]
    dsimp only [cond]
    exact kk2
  | succ q ih =>
    intro m hm lc hs1 hs2
    refine fr_w (lc' := [(3, .int (nI m)), (0, .ref 0), (1, .int (nI S)), (2, .int most)]) hs1 (by show List.Nodup [3, 0, 1, 2]; decide) hs2 ?_
    obtain ⟨r, er⟩ : ∃ r, (rwM (wtm a) n most S (a 14) m) = r := ⟨_, rfl⟩
    rw [er]
    refine fr_s 2 (pc' := 30) (lc' := [(3, .int (nI m)), (0, .ref 0), (1, .int (nI S)), (2, .int most)]) (stk' := [.int (nI S), .int (nI m)]) (mem' := fm g tp bt (fm_ur a 14 r) b) (fun _ _ _ => rfl) ?_
    refine fr_s 1 (pc' := cond (fx_cb .gt (nI m) (nI S)) 124 33) (lc' := [(3, .int (nI m)), (0, .ref 0), (1, .int (nI S)), (2, .int most)]) (stk' := []) (mem' := fm g tp bt (fm_ur a 14 r) b) (fun _ _ _ => rfl) ?_
    rw [show fx_cb .gt (nI m) (nI S) = false from cb_gtF (a := m) (b := S) (by omega) (by omega) (by omega)]
    dsimp only [cond]
    have next : ∀ (r2 : Nat → Int32) (lc : fx_L), (rwM (wtm a) n most S (a 14) (m + 1)) = r2 → fx_sub [(3, .int (nI m)), (0, .ref 0), (1, .int (nI S)), (2, .int most)] lc → fx_nd lc → fr_R 6 gk_m343 118 lc [] (fm g tp bt (fm_ur a 14 r2) b) Z := fun r2 lc e2 k1 k2 => by
      refine fr_w (lc' := [(3, .int (nI m)), (0, .ref 0), (1, .int (nI S)), (2, .int most)]) k1 (by show List.Nodup [3, 0, 1, 2]; decide) k2 ?_
      refine fr_s 1 (pc' := 121) (lc' := [(3, .int (nI m + 1)), (0, .ref 0), (1, .int (nI S)), (2, .int most)]) (stk' := []) (mem' := fm g tp bt (fm_ur a 14 r2) b) (fun _ _ _ => rfl) ?_
      refine fr_s 1 (pc' := fx_to 121 (-93)) (lc' := [(3, .int (nI m + 1)), (0, .ref 0), (1, .int (nI S)), (2, .int most)]) (stk' := []) (mem' := fm g tp bt (fm_ur a 14 r2) b) (fun _ _ _ => rfl) ?_
      rw [show fx_to 121 (-93) = 28 from by decide]
      rw [show nI m + 1 = nI (m + 1) from nI_add m 1, ← e2]
      exact ih (m + 1) (by omega) _ ⟨rfl, rfl, rfl, rfl, trivial⟩ (by show List.Nodup [3, 0, 1, 2]; decide)
    have body : ∀ r1, upd r m (if m = 0 then 0 else 1000000) = r1 → fr_R 6 gk_m343 50 [(3, .int (nI m)), (0, .ref 0), (1, .int (nI S)), (2, .int most)] [] (fm g tp bt (fm_ur a 14 r1) b) Z := fun r1 e1 => by
      refine fr_s 5 (pc' := 55) (lc' := [(3, .int (nI m)), (0, .ref 0), (1, .int (nI S)), (2, .int most)]) (stk' := [.int (nI m &&& (nI S ^^^ -1))]) (mem' := fm g tp bt (fm_ur a 14 r1) b) (fun _ _ _ => rfl) ?_
      rw [hf_m1, hf_xor, hf_and]
      have hn1 := (hf_not S hS m (by omega)).1
      by_cases h1 : m &&& S = m
      · have hz : m &&& (S ^^^ 4294967295) = 0 := Nat.eq_of_beq_eq_true (by rw [hn1, h1]; exact Nat.beq_refl _)
        rw [hz]
        refine fr_s 1 (pc' := cond (fx_cb .eq (nI 0) 0) 61 58) (lc' := [(3, .int (nI m)), (0, .ref 0), (1, .int (nI S)), (2, .int most)]) (stk' := []) (mem' := fm g tp bt (fm_ur a 14 r1) b) (fun _ _ _ => rfl) ?_
        rw [show fx_cb .eq (nI 0) 0 = true from by decide]
        dsimp only [cond]
        refine fr_s 2 (pc' := 64) (lc' := [(4, .int (nI m)), (3, .int (nI m)), (0, .ref 0), (1, .int (nI S)), (2, .int most)]) (stk' := []) (mem' := fm g tp bt (fm_ur a 14 r1) b) (fun _ _ _ => rfl) ?_
        obtain ⟨hpt, hhd⟩ := pts_ok m (by omega)
        cases hl : pts m with
        | nil =>
          rw [hl] at hhd
          have hm0 : m = 0 := hhd.symm
          subst hm0
          refine fr_s 1 (pc' := 66) (lc' := [(4, .int (nI 0)), (3, .int (nI 0)), (0, .ref 0), (1, .int (nI S)), (2, .int most)]) (stk' := [.int (nI 0)]) (mem' := fm g tp bt (fm_ur a 14 r1) b) (fun _ _ _ => rfl) ?_
          refine fr_s 1 (pc' := cond (fx_cb .le (nI 0) 0) 118 69) (lc' := [(4, .int (nI 0)), (3, .int (nI 0)), (0, .ref 0), (1, .int (nI S)), (2, .int most)]) (stk' := []) (mem' := fm g tp bt (fm_ur a 14 r1) b) (fun _ _ _ => rfl) ?_
          rw [show fx_cb .le (nI 0) 0 = true from by decide]
          dsimp only [cond]
          exact next r1 _ (by
            show (if 0 &&& S = 0 then _ else _) = _
            rw [if_pos h1, hl, er, e1]
            rfl) ⟨rfl, rfl, rfl, rfl, trivial⟩ (by show List.Nodup [4, 3, 0, 1, 2]; decide)
        | cons p0 t0 =>
          rw [hl] at hpt hhd
          have e0 : p0 = m := hhd
          subst e0
          exact mg_inner hn h8 (by omega) t0 p0 r1 hpt (by omega) (fun q => next _ _ (by
            show (if p0 &&& S = p0 then _ else _) = _
            rw [if_pos h1, hl, er, e1]) ⟨rfl, rfl, rfl, rfl, trivial⟩ (by show List.Nodup [4, 3, 0, 1, 2]; decide))
      · have hz : ¬ m &&& (S ^^^ 4294967295) = 0 := fun e => by
          rw [e] at hn1
          exact h1 (Nat.eq_of_beq_eq_true hn1.symm)
        have hlt : m &&& (S ^^^ 4294967295) < 256 := Nat.lt_of_le_of_lt Nat.and_le_left (by omega)
        refine fr_s 1 (pc' := cond (fx_cb .eq (nI (m &&& (S ^^^ 4294967295))) 0) 61 58) (lc' := [(3, .int (nI m)), (0, .ref 0), (1, .int (nI S)), (2, .int most)]) (stk' := []) (mem' := fm g tp bt (fm_ur a 14 r1) b) (fun _ _ _ => rfl) ?_
        rw [show fx_cb .eq (nI (m &&& (S ^^^ 4294967295))) 0 = false from decide_eq_false (fun e => hz (hf_inj (y := 0) (by omega) (by omega) e))]
        dsimp only [cond]
        refine fr_s 1 (pc' := 118) (lc' := [(3, .int (nI m)), (0, .ref 0), (1, .int (nI S)), (2, .int most)]) (stk' := []) (mem' := fm g tp bt (fm_ur a 14 r1) b) (fun _ _ _ => rfl) ?_
        exact next r1 _ (by
          show (if m &&& S = m then _ else _) = _
          rw [if_neg h1, er, e1]) ⟨rfl, rfl, rfl, rfl, trivial⟩ (by show List.Nodup [3, 0, 1, 2]; decide)
    refine fr_s 4 (pc' := 39) (lc' := [(3, .int (nI m)), (0, .ref 0), (1, .int (nI S)), (2, .int most)]) (stk' := [.int (nI m), .int (nI m), .ref 14]) (mem' := fm g tp bt (fm_ur a 14 r) b) (fun _ _ _ => rfl) ?_
    by_cases h0 : m = 0
    · rw [if_pos h0] at body
      subst h0
      refine fr_s 1 (pc' := cond (fx_cb .ne (nI 0) 0) 46 42) (lc' := [(3, .int (nI 0)), (0, .ref 0), (1, .int (nI S)), (2, .int most)]) (stk' := [.int (nI 0), .ref 14]) (mem' := fm g tp bt (fm_ur a 14 r) b) (fun _ _ _ => rfl) ?_
      rw [show fx_cb .ne (nI 0) 0 = false from by decide]
      dsimp only [cond]
      refine fr_s 2 (pc' := 49) (lc' := [(3, .int (nI 0)), (0, .ref 0), (1, .int (nI S)), (2, .int most)]) (stk' := [.int 0, .int (nI 0), .ref 14]) (mem' := fm g tp bt (fm_ur a 14 r) b) (fun _ _ _ => rfl) ?_
      refine fr_stI (by rfl) fm_14g (fx_inN (i := 0) (by omega) (by omega)) (fm_14s _) ?_
      rw [show Int32.toNatClampNeg (nI 0) = 0 from rfl]
      exact body _ rfl
    · rw [if_neg h0] at body
      refine fr_s 1 (pc' := cond (fx_cb .ne (nI m) 0) 46 42) (lc' := [(3, .int (nI m)), (0, .ref 0), (1, .int (nI S)), (2, .int most)]) (stk' := [.int (nI m), .ref 14]) (mem' := fm g tp bt (fm_ur a 14 r) b) (fun _ _ _ => rfl) ?_
      rw [show fx_cb .ne (nI m) 0 = true from cb_neT (a := m) (b := 0) (by omega) (by omega) h0]
      dsimp only [cond]
      refine fr_s 1 (pc' := 49) (lc' := [(3, .int (nI m)), (0, .ref 0), (1, .int (nI S)), (2, .int most)]) (stk' := [.int 1000000, .int (nI m), .ref 14]) (mem' := fm g tp bt (fm_ur a 14 r) b) (fun _ _ _ => rfl) ?_
      refine fr_stI (by rfl) fm_14g (fx_inN (i := m) (by omega) (by omega)) (fm_14s _) ?_
      rw [show Int32.toNatClampNeg (nI m) = m from nI_clamp (by omega)]
      exact body _ rfl
theorem mg_grpF {n : Nat} {s most : Int32} (hn : a 1 1 = nI n) (h8 : n ≤ 8) (h : ¬ grN n s most) : fr_T 7 343 [.ref 0, .int s, .int most] (fm g tp bt a b) (some (.int (-1))) (fm (upd g 2 1) tp bt a b) := by
  refine fr_meth (by rfl) (by rfl) ?_
  have bad : fr_R 6 gk_m343 20 [(0, .ref 0), (1, .int s), (2, .int most)] [] (fm g tp bt a b) (some (.int (-1)), fm (upd g 2 1) tp bt a b) := by
    refine fr_s 2 (pc' := 22) (lc' := [(0, .ref 0), (1, .int s), (2, .int most)]) (stk' := [.int 1, .ref 0]) (mem' := fm g tp bt a b) (fun _ _ _ => rfl) ?_
    refine fr_ivV (fr_refuse (x := 1)) (by omega) (by rfl) (by rfl) (by rfl) (by rfl) (by rfl) (by rfl) ?_
    exact fr_ret (by rfl) (by rfl) (by rfl)
  refine fr_s 2 (pc' := 2) (lc' := [(0, .ref 0), (1, .int s), (2, .int most)]) (stk' := [.int s, .ref 0]) (mem' := fm g tp bt a b) (fun _ _ _ => rfl) ?_
  refine fr_ivV (mh_grp (s := s) hn h8) (by omega) (by rfl) (by rfl) (by rfl) (by rfl) (by rfl) (by rfl) ?_
  by_cases h1 : 0 < s.toInt ∧ s.toInt < 2 ^ n
  · rw [if_pos h1]
    refine fr_s 1 (pc' := cond (fx_cb .eq 1 0) 20 8) (lc' := [(0, .ref 0), (1, .int s), (2, .int most)]) (stk' := []) (mem' := fm g tp bt a b) (fun _ _ _ => rfl) ?_
    rw [show fx_cb .eq 1 0 = false from by decide]
    dsimp only [cond]
    refine fr_s 4 (pc' := 14) (lc' := [(0, .ref 0), (1, .int s), (2, .int most)]) (stk' := [.long 999, .long 1, .long most.toInt64]) (mem' := fm g tp bt a b) (fun _ _ _ => rfl) ?_
    obtain ⟨v, mem, ⟨x, hx, hR⟩, hf⟩ := fr_isFrom (v := most.toInt64) (l := 1) (m := 999) (mem := fm g tp bt a b)
    cases hR
    refine fr_ivS hf (by omega) (by rfl) (by rfl) (by rfl) (by rfl) (by rfl) ?_
    rcases hx with ⟨rfl, hx⟩ | ⟨rfl, q1, q2⟩
    · skip
      refine fr_s 1 (pc' := cond (fx_cb .ne 0 0) 26 20) (lc' := [(0, .ref 0), (1, .int s), (2, .int most)]) (stk' := []) (mem' := fm g tp bt a b) (fun _ _ _ => rfl) ?_
      rw [show fx_cb .ne 0 0 = false from by decide]
      dsimp only [cond]
      exact bad
    · rw [Int32.toInt_toInt64] at q1 q2
      exact absurd ⟨h1, q1, q2⟩ h
  · rw [if_neg h1]
    refine fr_s 1 (pc' := cond (fx_cb .eq 0 0) 20 8) (lc' := [(0, .ref 0), (1, .int s), (2, .int most)]) (stk' := []) (mem' := fm g tp bt a b) (fun _ _ _ => rfl) ?_
    rw [show fx_cb .eq 0 0 = true from by decide]
    dsimp only [cond]
    exact bad
theorem mg_grpT {n S : Nat} {most : Int32} (hn : a 1 1 = nI n) (h8 : n ≤ 8) (hS : S < 2 ^ n) (h : grN n (nI S) most) : fr_T 7 343 [.ref 0, .int (nI S), .int most] (fm g tp bt a b) (some (.int (if (rwM (wtm a) n most S (a 14) (S + 1)) S < 1000000 then (rwM (wtm a) n most S (a 14) (S + 1)) S else -1))) (fm (upd g 2 (if (rwM (wtm a) n most S (a 14) (S + 1)) S < 1000000 then 0 else 6)) tp bt (fm_ur a 14 (rwM (wtm a) n most S (a 14) (S + 1))) b) := by
  obtain ⟨hp1, hp2⟩ := pw_le n h8
  have key : ∀ (r : Nat → Int32) (lc : fx_L), fx_sub [(0, .ref 0), (1, .int (nI S)), (2, .int most)] lc → fx_nd lc → ∀ Z, Z = (some (Value.int (if r S < 1000000 then r S else -1)), fm (upd g 2 (if r S < 1000000 then 0 else 6)) tp bt (fm_ur a 14 r) b) → fr_R 6 gk_m343 124 lc [] (fm g tp bt (fm_ur a 14 r) b) Z := fun r lc k1 k2 Z eZ => by
    subst eZ
    refine fr_w (lc' := [(0, .ref 0), (1, .int (nI S)), (2, .int most)]) k1 (by show List.Nodup [0, 1, 2]; decide) k2 ?_
    refine fr_s 3 (pc' := 129) (lc' := [(0, .ref 0), (1, .int (nI S)), (2, .int most)]) (stk' := [.int (nI S), .ref 14]) (mem' := fm g tp bt (fm_ur a 14 r) b) (fun _ _ _ => rfl) ?_
    refine fr_ldI (by rfl) fm_14g (fx_inN (i := S) (by omega) (by omega)) ?_
    rw [show Int32.toNatClampNeg (nI S) = S from nI_clamp (by omega)]
    refine fr_s 1 (pc' := 133) (lc' := [(0, .ref 0), (1, .int (nI S)), (2, .int most)]) (stk' := [.int 1000000, .int (r S)]) (mem' := fm g tp bt (fm_ur a 14 r) b) (fun _ _ _ => rfl) ?_
    by_cases hx : r S < 1000000
    · rw [if_pos hx, if_pos hx]
      refine fr_s 1 (pc' := cond (fx_cb .lt (r S) 1000000) 145 136) (lc' := [(0, .ref 0), (1, .int (nI S)), (2, .int most)]) (stk' := []) (mem' := fm g tp bt (fm_ur a 14 r) b) (fun _ _ _ => rfl) ?_
      rw [show fx_cb .lt (r S) 1000000 = true from decide_eq_true hx]
      dsimp only [cond]
      refine fr_s 4 (pc' := 151) (lc' := [(0, .ref 0), (1, .int (nI S)), (2, .int most)]) (stk' := [.int (nI S), .ref 14, .ref 0]) (mem' := fm g tp bt (fm_ur a 14 r) b) (fun _ _ _ => rfl) ?_
      refine fr_ldI (by rfl) fm_14g (fx_inN (i := S) (by omega) (by omega)) ?_
      rw [show Int32.toNatClampNeg (nI S) = S from nI_clamp (by omega)]
      refine fr_ivV (fr_gives (x := r S)) (by omega) (by rfl) (by rfl) (by rfl) (by rfl) (by rfl) (by rfl) ?_
      exact fr_ret (by rfl) (by rfl) (by rfl)
    · rw [if_neg hx, if_neg hx]
      refine fr_s 1 (pc' := cond (fx_cb .lt (r S) 1000000) 145 136) (lc' := [(0, .ref 0), (1, .int (nI S)), (2, .int most)]) (stk' := []) (mem' := fm g tp bt (fm_ur a 14 r) b) (fun _ _ _ => rfl) ?_
      rw [show fx_cb .lt (r S) 1000000 = false from decide_eq_false hx]
      dsimp only [cond]
      refine fr_s 2 (pc' := 139) (lc' := [(0, .ref 0), (1, .int (nI S)), (2, .int most)]) (stk' := [.int 6, .ref 0]) (mem' := fm g tp bt (fm_ur a 14 r) b) (fun _ _ _ => rfl) ?_
      refine fr_ivV (fr_refuse (x := 6)) (by omega) (by rfl) (by rfl) (by rfl) (by rfl) (by rfl) (by rfl) ?_
      refine fr_s 1 (pc' := 155) (lc' := [(0, .ref 0), (1, .int (nI S)), (2, .int most)]) (stk' := [.int (-1)]) (mem' := fm (upd g 2 6) tp bt (fm_ur a 14 r) b) (fun _ _ _ => rfl) ?_
      exact fr_ret (by rfl) (by rfl) (by rfl)
  have hmain := mg_outer (g := g) (tp := tp) (bt := bt) (a := a) (b := b) (most := most) hn h8 (show S < 256 by omega) (fun lc k1 k2 => key (rwM (wtm a) n most S (a 14) (S + 1)) lc k1 k2 _ rfl) (S + 1) 0 (by omega) [(3, .int (nI 0)), (0, .ref 0), (1, .int (nI S)), (2, .int most)] ⟨rfl, rfl, rfl, rfl, trivial⟩ (by show List.Nodup [3, 0, 1, 2]; decide)
  have ea : fm_ur a 14 (a 14) = a := funext (fun j => by
    unfold fm_ur
    by_cases e : j = 14
    · rw [if_pos e, e]
    · rw [if_neg e])
  rw [show rwM (wtm a) n most S (a 14) 0 = a 14 from rfl, ea] at hmain
  refine fr_meth (by rfl) (by rfl) ?_
  refine fr_s 2 (pc' := 2) (lc' := [(0, .ref 0), (1, .int (nI S)), (2, .int most)]) (stk' := [.int (nI S), .ref 0]) (mem' := fm g tp bt a b) (fun _ _ _ => rfl) ?_
  refine fr_ivV (mh_grp (s := nI S) hn h8) (by omega) (by rfl) (by rfl) (by rfl) (by rfl) (by rfl) (by rfl) ?_
  rw [if_pos h.1]
  refine fr_s 1 (pc' := cond (fx_cb .eq 1 0) 20 8) (lc' := [(0, .ref 0), (1, .int (nI S)), (2, .int most)]) (stk' := []) (mem' := fm g tp bt a b) (fun _ _ _ => rfl) ?_
  rw [show fx_cb .eq 1 0 = false from by decide]
  dsimp only [cond]
  refine fr_s 4 (pc' := 14) (lc' := [(0, .ref 0), (1, .int (nI S)), (2, .int most)]) (stk' := [.long 999, .long 1, .long most.toInt64]) (mem' := fm g tp bt a b) (fun _ _ _ => rfl) ?_
  obtain ⟨v, mem, ⟨x, hx, hR⟩, hf⟩ := fr_isFrom (v := most.toInt64) (l := 1) (m := 999) (mem := fm g tp bt a b)
  cases hR
  refine fr_ivS hf (by omega) (by rfl) (by rfl) (by rfl) (by rfl) (by rfl) ?_
  rcases hx with ⟨rfl, hx⟩ | ⟨rfl, q1, q2⟩
  · rw [Int32.toInt_toInt64] at hx
    exact absurd ⟨h.2.1, h.2.2⟩ hx
  · skip
    refine fr_s 1 (pc' := cond (fx_cb .ne 1 0) 26 20) (lc' := [(0, .ref 0), (1, .int (nI S)), (2, .int most)]) (stk' := []) (mem' := fm g tp bt a b) (fun _ _ _ => rfl) ?_
    rw [show fx_cb .ne 1 0 = true from by decide]
    dsimp only [cond]
    refine fr_s 2 (pc' := 28) (lc' := [(3, .int 0), (0, .ref 0), (1, .int (nI S)), (2, .int most)]) (stk' := []) (mem' := fm g tp bt a b) (fun _ _ _ => rfl) ?_
    exact hmain
/-- the table stays within its bounds -/
def rBD (r : Nat → Int32) : Prop := ∀ i, i < 256 → 0 ≤ (r i).toInt ∧ (r i).toInt ≤ 1000000
theorem rBD_upd {r : Nat → Int32} {m : Nat} {x : Int32} (h : rBD r) (hx : 0 ≤ x.toInt ∧ x.toInt ≤ 1000000) : rBD (upd r m x) := fun i hi => by
  by_cases e : i = m
  · subst e; rw [pk_us]; exact hx
  · rw [pk_un e]; exact h i hi
theorem stM_bd {wt : Nat → Int32} {n m p : Nat} {most : Int32} {r : Nat → Int32} (hm : m < 256) (hp : p < 256) (h : rBD r) : rBD (stM wt n most m r p) := by
  unfold stM
  cases fx_cb .gt (wI wt n p) most
  · dsimp only
    refine rBD_upd h ?_
    have h1 := h m hm
    have hx : m ^^^ p < 256 := Nat.xor_lt_two_pow (n := 8) hm hp
    have h2 := h (m ^^^ p) hx
    obtain ⟨k, hk, ek⟩ := nI_bd (x := r (m ^^^ p)) (n := 1000000) h2.1 h2.2
    unfold mnI
    by_cases hc : r (m ^^^ p) + 1 < r m
    · rw [if_pos hc]
      have hc2 := Int32.lt_iff_toInt_lt.mp hc
      rw [ek, show nI k + 1 = nI (k + 1) from nI_add k 1, nI_i32 (by omega)] at hc2 ⊢
      omega
    · rw [if_neg hc]; exact h1
  · exact h
theorem stM_bds {wt : Nat → Int32} {n m : Nat} {most : Int32} (hm : m < 256) : ∀ (L : List Nat) (r : Nat → Int32), (∀ p ∈ L, p < 256) → rBD r → rBD (L.foldl (stM wt n most m) r)
  | [], _, _, h => h
  | p :: L, r, hL, h => by
    rw [List.foldl_cons]
    exact stM_bds hm L _ (fun q hq => hL q (List.mem_cons_of_mem _ hq)) (stM_bd hm (hL p List.mem_cons_self) h)
theorem pts_lt {m p : Nat} (hm : m < 256) (h : p ∈ pts m) : p < 256 := by
  unfold pts at h
  have h := (List.mem_filter.mp h).1
  rw [List.mem_reverse, List.mem_range] at h
  omega
theorem rwM_bd {wt : Nat → Int32} {n S : Nat} {most : Int32} {r0 : Nat → Int32} (h : rBD r0) : ∀ k, k ≤ 256 → rBD (rwM wt n most S r0 k)
  | 0, _ => h
  | m + 1, hk => by
    have ih := rwM_bd (wt := wt) (n := n) (S := S) (most := most) h m (by omega)
    have h1 : rBD (upd (rwM wt n most S r0 m) m (if m = 0 then 0 else 1000000)) := rBD_upd ih (by
      by_cases e : m = 0
      · rw [if_pos e]; decide
      · rw [if_neg e]; decide)
    show rBD (if m &&& S = m then _ else _)
    by_cases e : m &&& S = m
    · rw [if_pos e]; exact stM_bds (by omega) _ _ (fun p hp => pts_lt (by omega) hp) h1
    · rw [if_neg e]; exact h1
theorem fm_I_14 {r : Nat → Int32} (hI : fm_I g a) (h : rBD r) : fm_I g (fm_ur a 14 r) := by
  refine ⟨hI.1, fm_B_eq hI.2.1 (fun i => rfl) (fun i hi => hI.2.1.2.2 i hi), fun q hq i hi => ?_⟩
  by_cases hq5 : q.1 = 14
  · have : q = (14, 256, 0, 1000000) := by
      have : ∀ q ∈ gm_ar, q.1 = 14 → q = (14, 256, 0, 1000000) := by decide
      exact this q hq hq5
    subst this
    exact h i hi
  · have e : fm_ur a 14 r q.1 = a q.1 := by
      unfold fm_ur
      rw [if_neg hq5]
    rw [e]; exact hI.2.2 q hq i hi
end GRM
